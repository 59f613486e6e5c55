section
section CLS6
variable {G : zG} {l : Launch} {h h' : zHp} {ad : Nat → Nat} {S : zSt}
theorem zRow.cut {h1 : zHp} {r a : Nat} {L : List Int} {n : Int} (hr : zRow G h r a L) (hn : 0 ≤ n ∧ n ≤ L.length) (p1 : h1 r = some (.inr (zkRow, [.ref a, zi n]))) (f1 : ∀ q, q ≠ r → h1 q = h q) : zRow G h1 r a (L.take n.toNat) := by
  have hne := hr.ne
  obtain ⟨f, e1, e2, e3, e4, e5⟩ := hr
  have hl : (L.take n.toNat).length = n.toNat := by rw [List.length_take]; omega
  have hg : ∀ j, j < n.toNat → (L.take n.toNat).getD j 0 = L.getD j 0 := fun j hj => by
    simp only [List.getD_eq_getElem?_getD, List.getElem?_take, if_pos hj]
  refine ⟨f, ?_, (f1 a hne.symm).trans e2, by omega, fun j hj => ?_, fun j hj => ?_⟩
  · rw [hl, show ((n.toNat : Nat) : Int) = n by omega]; exact p1
  · rw [hg j (by omega)]; exact e4 j (by omega)
  · rw [hg j (by omega)]; exact e5 j (by omega)
theorem k_Cls_drop {p x b : Int} (hb : b = 0 ∨ b = 1) (hC : zCls G h ad S) (z_p : zI32 p) (z_x : zI32 x) (z_b : zI32 b) : zM G l hCls_drop yCls_drop 9 [.ref (ad 0), zi p, zi x, zi b] h (zQc G ad h (sp_drop S p x b)) (zXc G ad h (sp_drop S p x b)) 6 36 := by
  obtain ⟨c1, c2, ⟨g3, c3, d3⟩, ⟨g4, c4, d4⟩, c5, ⟨T6, c6, d6⟩, c7, c8, ⟨R9, c9⟩, c10⟩ := id hC
  obtain ⟨f16, e16, -⟩ := id c9
  refine zM.of [some (.ref (ad 0)), some (zi p), some (zi x), some (zi b), none, none] (by decide +kernel) rfl (by decide) rfl (Nat.le_of_ble_eq_true rfl) rfl ?_
  refine z_aload_n dCls_drop_0 rfl ?_
  refine z_iload_n dCls_drop_1 rfl ?_
  refine z_callV (bc' := 5) (bs' := 30) MV_Cls_listAt lk_Cls_34 dCls_drop_2 (k_Cls_listAt (by assumption) (by omega)) rfl rfl (Nat.le_of_ble_eq_true rfl) rfl (by assumption) (Nat.le_of_ble_eq_true rfl) (Nat.le_of_ble_eq_true rfl) (by decide) (by decide) (fun E h9 q9 => z_out rfl (by obtain ⟨rfl, q1, rfl⟩ := q9; exact zXc.mk (by assumption) (by first | exact zFrm.rf | assumption) (by unfold sp_drop; (try unfold spPut); (try simp only [Int.toNat_natCast]); (repeat (first | rw [if_pos (by omega)] | rw [if_neg (by omega)] | rw [if_pos (by assumption)] | rw [if_neg (by assumption)])); all_goals (first | rfl | (congr 2; omega) | (congr 1; congr 1; omega))))) ?_
  rintro _ _ ⟨rfl, aA1, aA2, rfl⟩
  obtain ⟨kA, rfl⟩ := Int.eq_ofNat_of_zero_le aA1
  simp only [Int.toNat_natCast]
  have hkA : kA < 4 := by omega
  have hrA := hC.ls hkA
  obtain ⟨fA, eA, -⟩ := id hrA
  have hlA := hrA.len
  refine z_astore dCls_drop_5 (Nat.le_of_ble_eq_true rfl) ?_
  refine z_aload dCls_drop_7 rfl ?_
  refine z_iload_n dCls_drop_9 rfl ?_
  refine z_iload_n dCls_drop_10 rfl ?_
  refine z_callVN MV_Row_placeOf lk_Cls_84 dCls_drop_11 (k_Row_placeOf hrA (by omega) (by omega)) rfl rfl (Nat.le_of_ble_eq_true rfl) rfl (by assumption) (Nat.le_of_ble_eq_true rfl) (Nat.le_of_ble_eq_true rfl) (Nat.le_of_eq (Nat.zero_add _)) (Nat.le_of_eq (Nat.zero_add _)) (fun _ _ q => q.elim) ?_
  rintro _ _ ⟨rfl, rfl⟩
  have hz := zFind_in (S.1 kA) x b
  refine z_istore dCls_drop_14 (Nat.le_of_ble_eq_true rfl) ?_
  refine z_aload dCls_drop_16 rfl ?_
  refine z_iload dCls_drop_18 rfl ?_
  refine z_callVN MV_Row_takeOut lk_Cls_88 dCls_drop_20 (k_Row_takeOut hrA (by omega)) rfl rfl (Nat.le_of_ble_eq_true rfl) rfl (by assumption) (Nat.le_of_ble_eq_true rfl) (Nat.le_of_ble_eq_true rfl) (Nat.le_of_eq (Nat.zero_add _)) (Nat.le_of_eq (Nat.zero_add _)) (fun _ _ q => q.elim) ?_
  rintro _ h1 (⟨rfl, m1, m2, hr1, f1⟩ | ⟨rfl, m1, rfl⟩)
  · have hC1 := hC.row hkA hr1 f1
    obtain ⟨-, d1, -⟩ := id hC1
    have fz1 : zFrm ad h h1 := zFrm.of2 (i := 8 + 2 * kA) (j := 9 + 2 * kA) (by omega) (by omega) f1
    obtain ⟨fr1, er1, -⟩ := id hr1
    have hl1 := hr1.len
    refine z_pop rfl dCls_drop_23 ?_
    refine z_aload_n dCls_drop_24 rfl ?_
    refine z_iload_n dCls_drop_25 rfl ?_
    refine z_iconst dCls_drop_26 ?_
    refine z_callV MV_Cls_makeStale lk_Cls_58 dCls_drop_27 (k_Cls_makeStale (by assumption) (by omega) (by omega)) rfl rfl (Nat.le_of_ble_eq_true rfl) rfl (by assumption) (Nat.le_of_ble_eq_true rfl) (Nat.le_of_ble_eq_true rfl) (Nat.le_of_eq (Nat.zero_add _)) (Nat.le_of_eq (Nat.zero_add _)) (fun _ _ q => q.elim) ?_
    rintro _ h2 ⟨rfl, hC2, gz2⟩
    obtain ⟨-, d2, -⟩ := id hC2
    have fz2 : zFrm ad h h2 := by first | exact fz1.tr gz2 | exact gz2
    have hm2 := hC2.ls hkA
    simp only [zsS_l, zsS_0, zsL_l] at hm2
    obtain ⟨fm2, em2, -⟩ := id hm2
    refine z_iload dCls_drop_30 rfl ?_
    refine z_iconst dCls_drop_32 ?_
    refine z_icmp_eq (tgt := 40) dCls_drop_33 (by decide) (by omega) (by omega) (fun c33 => ?_) (fun c33 => ?_)
    · refine z_iconst dCls_drop_40 ?_
      refine z_iret rfl rfl dCls_drop_41 ?_
      first
        | (exfalso; omega)
        | exact zQc.mk (by assumption) (by first | exact zFrm.rf | assumption) (by unfold sp_drop; (try unfold spPut); (try simp only [Int.toNat_natCast]); (repeat (first | rw [if_pos (by omega)] | rw [if_neg (by omega)] | rw [if_pos (by assumption)] | rw [if_neg (by assumption)])); all_goals (first | rfl | (congr 2; omega) | (congr 1; congr 1; omega)))
    · refine z_iconst dCls_drop_36 ?_
      refine z_goto (tgt := 41) dCls_drop_37 (by decide) ?_
      refine z_iret rfl rfl dCls_drop_41 ?_
      first
        | (exfalso; omega)
        | exact zQc.mk (by assumption) (by first | exact zFrm.rf | assumption) (by unfold sp_drop; (try unfold spPut); (try simp only [Int.toNat_natCast]); (repeat (first | rw [if_pos (by omega)] | rw [if_neg (by omega)] | rw [if_pos (by assumption)] | rw [if_neg (by assumption)])); all_goals (first | rfl | (congr 2; omega) | (congr 1; congr 1; omega)))
  · refine z_pop rfl dCls_drop_23 ?_
    refine z_aload_n dCls_drop_24 rfl ?_
    refine z_iload_n dCls_drop_25 rfl ?_
    refine z_iconst dCls_drop_26 ?_
    refine z_callV MV_Cls_makeStale lk_Cls_58 dCls_drop_27 (k_Cls_makeStale (by assumption) (by omega) (by omega)) rfl rfl (Nat.le_of_ble_eq_true rfl) rfl (by assumption) (Nat.le_of_ble_eq_true rfl) (Nat.le_of_ble_eq_true rfl) (Nat.le_of_eq (Nat.zero_add _)) (Nat.le_of_eq (Nat.zero_add _)) (fun _ _ q => q.elim) ?_
    rintro _ h2 ⟨rfl, hC2, gz2⟩
    obtain ⟨-, d2, -⟩ := id hC2
    have fz2 : zFrm ad h h2 := by first | exact fz1.tr gz2 | exact gz2
    have hm2 := hC2.ls hkA
    simp only [zsS_l, zsS_0, zsL_l] at hm2
    obtain ⟨fm2, em2, -⟩ := id hm2
    refine z_iload dCls_drop_30 rfl ?_
    refine z_iconst dCls_drop_32 ?_
    refine z_icmp_eq (tgt := 40) dCls_drop_33 (by decide) (by omega) (by omega) (fun c33 => ?_) (fun c33 => ?_)
    · refine z_iconst dCls_drop_40 ?_
      refine z_iret rfl rfl dCls_drop_41 ?_
      first
        | (exfalso; omega)
        | exact zQc.mk (by assumption) (by first | exact zFrm.rf | assumption) (by unfold sp_drop; (try unfold spPut); (try simp only [Int.toNat_natCast]); (repeat (first | rw [if_pos (by omega)] | rw [if_neg (by omega)] | rw [if_pos (by assumption)] | rw [if_neg (by assumption)])); all_goals (first | rfl | (congr 2; omega) | (congr 1; congr 1; omega)))
    · refine z_iconst dCls_drop_36 ?_
      refine z_goto (tgt := 41) dCls_drop_37 (by decide) ?_
      refine z_iret rfl rfl dCls_drop_41 ?_
      first
        | (exfalso; omega)
        | exact zQc.mk (by assumption) (by first | exact zFrm.rf | assumption) (by unfold sp_drop; (try unfold spPut); (try simp only [Int.toNat_natCast]); (repeat (first | rw [if_pos (by omega)] | rw [if_neg (by omega)] | rw [if_pos (by assumption)] | rw [if_neg (by assumption)])); all_goals (first | rfl | (congr 2; omega) | (congr 1; congr 1; omega)))
theorem k_Cls_thin {p x : Int}  (hC : zCls G h ad S) (z_p : zI32 p) (z_x : zI32 x) : zM G l hCls_thin yCls_thin 9 [.ref (ad 0), zi p, zi x] h (zQc G ad h (sp_thin S p x)) (zXc G ad h (sp_thin S p x)) 6 36 := by
  obtain ⟨c1, c2, ⟨g3, c3, d3⟩, ⟨g4, c4, d4⟩, c5, ⟨T6, c6, d6⟩, c7, c8, ⟨R9, c9⟩, c10⟩ := id hC
  obtain ⟨f16, e16, -⟩ := id c9
  refine zM.of [some (.ref (ad 0)), some (zi p), some (zi x), none] (by decide +kernel) rfl (by decide) rfl (Nat.le_of_ble_eq_true rfl) rfl ?_
  refine z_aload_n dCls_thin_0 rfl ?_
  refine z_iload_n dCls_thin_1 rfl ?_
  refine z_callV (bc' := 5) (bs' := 30) MV_Cls_listAt lk_Cls_34 dCls_thin_2 (k_Cls_listAt (by assumption) (by omega)) rfl rfl (Nat.le_of_ble_eq_true rfl) rfl (by assumption) (Nat.le_of_ble_eq_true rfl) (Nat.le_of_ble_eq_true rfl) (by decide) (by decide) (fun E h9 q9 => z_out rfl (by obtain ⟨rfl, q1, rfl⟩ := q9; exact zXc.mk (by assumption) (by first | exact zFrm.rf | assumption) (by unfold sp_thin; (try unfold spPut); (try simp only [Int.toNat_natCast]); (repeat (first | rw [if_pos (by omega)] | rw [if_neg (by omega)] | rw [if_pos (by assumption)] | rw [if_neg (by assumption)])); all_goals (first | rfl | (congr 2; omega) | (congr 1; congr 1; omega))))) ?_
  rintro _ _ ⟨rfl, aA1, aA2, rfl⟩
  obtain ⟨kA, rfl⟩ := Int.eq_ofNat_of_zero_le aA1
  simp only [Int.toNat_natCast]
  have hkA : kA < 4 := by omega
  have hrA := hC.ls hkA
  obtain ⟨fA, eA, -⟩ := id hrA
  have hlA := hrA.len
  refine z_iload_n dCls_thin_5 rfl ?_
  refine z_callVN MV_Row_takeOutAll lk_Cls_91 dCls_thin_6 (k_Row_takeOutAll hrA (by omega)) rfl rfl (Nat.le_of_ble_eq_true rfl) rfl (by assumption) (Nat.le_of_ble_eq_true rfl) (Nat.le_of_ble_eq_true rfl) (Nat.le_of_eq (Nat.zero_add _)) (Nat.le_of_eq (Nat.zero_add _)) (fun _ _ q => q.elim) ?_
  rintro _ h1 ⟨rfl, hr1, f1⟩
  have hC1 := hC.row hkA hr1 f1
  obtain ⟨-, d1, -⟩ := id hC1
  have fz1 : zFrm ad h h1 := zFrm.of2 (i := 8 + 2 * kA) (j := 9 + 2 * kA) (by omega) (by omega) f1
  obtain ⟨fr1, er1, -⟩ := id hr1
  have hl1 := hr1.len
  refine z_istore_n dCls_thin_9 (Nat.le_of_ble_eq_true rfl) ?_
  refine z_aload_n dCls_thin_10 rfl ?_
  refine z_iload_n dCls_thin_11 rfl ?_
  refine z_iconst dCls_thin_12 ?_
  refine z_callV MV_Cls_makeStale lk_Cls_58 dCls_thin_13 (k_Cls_makeStale (by assumption) (by omega) (by omega)) rfl rfl (Nat.le_of_ble_eq_true rfl) rfl (by assumption) (Nat.le_of_ble_eq_true rfl) (Nat.le_of_ble_eq_true rfl) (Nat.le_of_eq (Nat.zero_add _)) (Nat.le_of_eq (Nat.zero_add _)) (fun _ _ q => q.elim) ?_
  rintro _ h2 ⟨rfl, hC2, gz2⟩
  obtain ⟨-, d2, -⟩ := id hC2
  have fz2 : zFrm ad h h2 := by first | exact fz1.tr gz2 | exact gz2
  have hm2 := hC2.ls hkA
  simp only [zsS_l, zsS_0, zsL_l] at hm2
  obtain ⟨fm2, em2, -⟩ := id hm2
  refine z_iload_n dCls_thin_16 rfl ?_
  refine z_iret rfl rfl dCls_thin_17 ?_
  first
    | (exfalso; omega)
    | exact zQc.mk (by assumption) (by first | exact zFrm.rf | assumption) (by unfold sp_thin; (try unfold spPut); (try simp only [Int.toNat_natCast]); (repeat (first | rw [if_pos (by omega)] | rw [if_neg (by omega)] | rw [if_pos (by assumption)] | rw [if_neg (by assumption)])); all_goals (first | rfl | (congr 2; omega) | (congr 1; congr 1; omega)))
theorem k_Cls_indexOf {p x b : Int} (hb : b = 0 ∨ b = 1) (hC : zCls G h ad S) (z_p : zI32 p) (z_x : zI32 x) (z_b : zI32 b) : zM G l hCls_indexOf yCls_indexOf 9 [.ref (ad 0), zi p, zi x, zi b] h (zQc G ad h (sp_indexOf S p x b)) (zXc G ad h (sp_indexOf S p x b)) 6 36 := by
  obtain ⟨c1, c2, ⟨g3, c3, d3⟩, ⟨g4, c4, d4⟩, c5, ⟨T6, c6, d6⟩, c7, c8, ⟨R9, c9⟩, c10⟩ := id hC
  obtain ⟨f16, e16, -⟩ := id c9
  refine zM.of [some (.ref (ad 0)), some (zi p), some (zi x), some (zi b)] (by decide +kernel) rfl (by decide) rfl (Nat.le_of_ble_eq_true rfl) rfl ?_
  refine z_aload_n dCls_indexOf_0 rfl ?_
  refine z_iload_n dCls_indexOf_1 rfl ?_
  refine z_callV (bc' := 5) (bs' := 30) MV_Cls_listAt lk_Cls_34 dCls_indexOf_2 (k_Cls_listAt (by assumption) (by omega)) rfl rfl (Nat.le_of_ble_eq_true rfl) rfl (by assumption) (Nat.le_of_ble_eq_true rfl) (Nat.le_of_ble_eq_true rfl) (by decide) (by decide) (fun E h9 q9 => z_out rfl (by obtain ⟨rfl, q1, rfl⟩ := q9; exact zXc.mk (by assumption) (by first | exact zFrm.rf | assumption) (by unfold sp_indexOf; (try unfold spPut); (try simp only [Int.toNat_natCast]); (repeat (first | rw [if_pos (by omega)] | rw [if_neg (by omega)] | rw [if_pos (by assumption)] | rw [if_neg (by assumption)])); all_goals (first | rfl | (congr 2; omega) | (congr 1; congr 1; omega))))) ?_
  rintro _ _ ⟨rfl, aA1, aA2, rfl⟩
  obtain ⟨kA, rfl⟩ := Int.eq_ofNat_of_zero_le aA1
  simp only [Int.toNat_natCast]
  have hkA : kA < 4 := by omega
  have hrA := hC.ls hkA
  obtain ⟨fA, eA, -⟩ := id hrA
  have hlA := hrA.len
  refine z_iload_n dCls_indexOf_5 rfl ?_
  refine z_iload_n dCls_indexOf_6 rfl ?_
  refine z_callVN MV_Row_placeOf lk_Cls_84 dCls_indexOf_7 (k_Row_placeOf hrA (by omega) (by omega)) rfl rfl (Nat.le_of_ble_eq_true rfl) rfl (by assumption) (Nat.le_of_ble_eq_true rfl) (Nat.le_of_ble_eq_true rfl) (Nat.le_of_eq (Nat.zero_add _)) (Nat.le_of_eq (Nat.zero_add _)) (fun _ _ q => q.elim) ?_
  rintro _ _ ⟨rfl, rfl⟩
  have hz := zFind_in (S.1 kA) x b
  refine z_iret rfl rfl dCls_indexOf_10 ?_
  first
    | (exfalso; omega)
    | exact zQc.mk (by assumption) (by first | exact zFrm.rf | assumption) (by unfold sp_indexOf; (try unfold spPut); (try simp only [Int.toNat_natCast]); (repeat (first | rw [if_pos (by omega)] | rw [if_neg (by omega)] | rw [if_pos (by assumption)] | rw [if_neg (by assumption)])); all_goals (first | rfl | (congr 2; omega) | (congr 1; congr 1; omega)))
theorem k_Cls_has {p x : Int}  (hC : zCls G h ad S) (z_p : zI32 p) (z_x : zI32 x) : zM G l hCls_has yCls_has 9 [.ref (ad 0), zi p, zi x] h (zQc G ad h (sp_has S p x)) (zXc G ad h (sp_has S p x)) 6 36 := by
  obtain ⟨c1, c2, ⟨g3, c3, d3⟩, ⟨g4, c4, d4⟩, c5, ⟨T6, c6, d6⟩, c7, c8, ⟨R9, c9⟩, c10⟩ := id hC
  obtain ⟨f16, e16, -⟩ := id c9
  refine zM.of [some (.ref (ad 0)), some (zi p), some (zi x)] (by decide +kernel) rfl (by decide) rfl (Nat.le_of_ble_eq_true rfl) rfl ?_
  refine z_aload_n dCls_has_0 rfl ?_
  refine z_iload_n dCls_has_1 rfl ?_
  refine z_callV (bc' := 5) (bs' := 30) MV_Cls_listAt lk_Cls_34 dCls_has_2 (k_Cls_listAt (by assumption) (by omega)) rfl rfl (Nat.le_of_ble_eq_true rfl) rfl (by assumption) (Nat.le_of_ble_eq_true rfl) (Nat.le_of_ble_eq_true rfl) (by decide) (by decide) (fun E h9 q9 => z_out rfl (by obtain ⟨rfl, q1, rfl⟩ := q9; exact zXc.mk (by assumption) (by first | exact zFrm.rf | assumption) (by unfold sp_has; (try unfold spPut); (try simp only [Int.toNat_natCast]); (repeat (first | rw [if_pos (by omega)] | rw [if_neg (by omega)] | rw [if_pos (by assumption)] | rw [if_neg (by assumption)])); all_goals (first | rfl | (congr 2; omega) | (congr 1; congr 1; omega))))) ?_
  rintro _ _ ⟨rfl, aA1, aA2, rfl⟩
  obtain ⟨kA, rfl⟩ := Int.eq_ofNat_of_zero_le aA1
  simp only [Int.toNat_natCast]
  have hkA : kA < 4 := by omega
  have hrA := hC.ls hkA
  obtain ⟨fA, eA, -⟩ := id hrA
  have hlA := hrA.len
  refine z_iload_n dCls_has_5 rfl ?_
  refine z_iconst dCls_has_6 ?_
  refine z_callVN MV_Row_placeOf lk_Cls_84 dCls_has_7 (k_Row_placeOf hrA (by omega) (by omega)) rfl rfl (Nat.le_of_ble_eq_true rfl) rfl (by assumption) (Nat.le_of_ble_eq_true rfl) (Nat.le_of_ble_eq_true rfl) (Nat.le_of_eq (Nat.zero_add _)) (Nat.le_of_eq (Nat.zero_add _)) (fun _ _ q => q.elim) ?_
  rintro _ _ ⟨rfl, rfl⟩
  have hz := zFind_in (S.1 kA) x 0
  refine z_iconst dCls_has_10 ?_
  refine z_icmp_eq (tgt := 18) dCls_has_11 (by decide) (by omega) (by omega) (fun c11 => ?_) (fun c11 => ?_)
  · refine z_iconst dCls_has_18 ?_
    refine z_iret rfl rfl dCls_has_19 ?_
    first
      | (exfalso; omega)
      | exact zQc.mk (by assumption) (by first | exact zFrm.rf | assumption) (by unfold sp_has; (try unfold spPut); (try simp only [Int.toNat_natCast]); (repeat (first | rw [if_pos (by omega)] | rw [if_neg (by omega)] | rw [if_pos (by assumption)] | rw [if_neg (by assumption)])); all_goals (first | rfl | (congr 2; omega) | (congr 1; congr 1; omega)))
  · refine z_iconst dCls_has_14 ?_
    refine z_goto (tgt := 19) dCls_has_15 (by decide) ?_
    refine z_iret rfl rfl dCls_has_19 ?_
    first
      | (exfalso; omega)
      | exact zQc.mk (by assumption) (by first | exact zFrm.rf | assumption) (by unfold sp_has; (try unfold spPut); (try simp only [Int.toNat_natCast]); (repeat (first | rw [if_pos (by omega)] | rw [if_neg (by omega)] | rw [if_pos (by assumption)] | rw [if_neg (by assumption)])); all_goals (first | rfl | (congr 2; omega) | (congr 1; congr 1; omega)))
theorem k_Cls_size {p : Int}  (hC : zCls G h ad S) (z_p : zI32 p) : zM G l hCls_size yCls_size 9 [.ref (ad 0), zi p] h (zQc G ad h (sp_size S p)) (zXc G ad h (sp_size S p)) 6 36 := by
  obtain ⟨c1, c2, ⟨g3, c3, d3⟩, ⟨g4, c4, d4⟩, c5, ⟨T6, c6, d6⟩, c7, c8, ⟨R9, c9⟩, c10⟩ := id hC
  obtain ⟨f16, e16, -⟩ := id c9
  refine zM.of [some (.ref (ad 0)), some (zi p)] (by decide +kernel) rfl (by decide) rfl (Nat.le_of_ble_eq_true rfl) rfl ?_
  refine z_aload_n dCls_size_0 rfl ?_
  refine z_iload_n dCls_size_1 rfl ?_
  refine z_callV (bc' := 5) (bs' := 30) MV_Cls_listAt lk_Cls_34 dCls_size_2 (k_Cls_listAt (by assumption) (by omega)) rfl rfl (Nat.le_of_ble_eq_true rfl) rfl (by assumption) (Nat.le_of_ble_eq_true rfl) (Nat.le_of_ble_eq_true rfl) (by decide) (by decide) (fun E h9 q9 => z_out rfl (by obtain ⟨rfl, q1, rfl⟩ := q9; exact zXc.mk (by assumption) (by first | exact zFrm.rf | assumption) (by unfold sp_size; (try unfold spPut); (try simp only [Int.toNat_natCast]); (repeat (first | rw [if_pos (by omega)] | rw [if_neg (by omega)] | rw [if_pos (by assumption)] | rw [if_neg (by assumption)])); all_goals (first | rfl | (congr 2; omega) | (congr 1; congr 1; omega))))) ?_
  rintro _ _ ⟨rfl, aA1, aA2, rfl⟩
  obtain ⟨kA, rfl⟩ := Int.eq_ofNat_of_zero_le aA1
  simp only [Int.toNat_natCast]
  have hkA : kA < 4 := by omega
  have hrA := hC.ls hkA
  obtain ⟨fA, eA, -⟩ := id hrA
  have hlA := hrA.len
  refine z_getN (k := 1) fd_Row (by decide) fl_Cls_46 dCls_size_5 (by assumption) (by rfl) ?_
  refine z_iret rfl rfl dCls_size_8 ?_
  first
    | (exfalso; omega)
    | exact zQc.mk (by assumption) (by first | exact zFrm.rf | assumption) (by unfold sp_size; (try unfold spPut); (try simp only [Int.toNat_natCast]); (repeat (first | rw [if_pos (by omega)] | rw [if_neg (by omega)] | rw [if_pos (by assumption)] | rw [if_neg (by assumption)])); all_goals (first | rfl | (congr 2; omega) | (congr 1; congr 1; omega)))
theorem k_Cls_clear {p : Int}  (hC : zCls G h ad S) (z_p : zI32 p) : zM G l hCls_clear yCls_clear 9 [.ref (ad 0), zi p] h (zQc G ad h (sp_clear S p)) (zXc G ad h (sp_clear S p)) 6 36 := by
  obtain ⟨c1, c2, ⟨g3, c3, d3⟩, ⟨g4, c4, d4⟩, c5, ⟨T6, c6, d6⟩, c7, c8, ⟨R9, c9⟩, c10⟩ := id hC
  obtain ⟨f16, e16, -⟩ := id c9
  refine zM.of [some (.ref (ad 0)), some (zi p), none, none] (by decide +kernel) rfl (by decide) rfl (Nat.le_of_ble_eq_true rfl) rfl ?_
  refine z_aload_n dCls_clear_0 rfl ?_
  refine z_iload_n dCls_clear_1 rfl ?_
  refine z_callV (bc' := 5) (bs' := 30) MV_Cls_listAt lk_Cls_34 dCls_clear_2 (k_Cls_listAt (by assumption) (by omega)) rfl rfl (Nat.le_of_ble_eq_true rfl) rfl (by assumption) (Nat.le_of_ble_eq_true rfl) (Nat.le_of_ble_eq_true rfl) (by decide) (by decide) (fun E h9 q9 => z_out rfl (by obtain ⟨rfl, q1, rfl⟩ := q9; exact zXc.mk (by assumption) (by first | exact zFrm.rf | assumption) (by unfold sp_clear; (try unfold spPut); (try simp only [Int.toNat_natCast]); (repeat (first | rw [if_pos (by omega)] | rw [if_neg (by omega)] | rw [if_pos (by assumption)] | rw [if_neg (by assumption)])); all_goals (first | rfl | (congr 2; omega) | (congr 1; congr 1; omega))))) ?_
  rintro _ _ ⟨rfl, aA1, aA2, rfl⟩
  obtain ⟨kA, rfl⟩ := Int.eq_ofNat_of_zero_le aA1
  simp only [Int.toNat_natCast]
  have hkA : kA < 4 := by omega
  have hrA := hC.ls hkA
  obtain ⟨fA, eA, -⟩ := id hrA
  have hlA := hrA.len
  refine z_astore_n dCls_clear_5 (Nat.le_of_ble_eq_true rfl) ?_
  refine z_aload_n dCls_clear_6 rfl ?_
  refine z_getN (k := 1) fd_Row (by decide) fl_Cls_46 dCls_clear_7 (by assumption) (by rfl) ?_
  refine z_istore_n dCls_clear_10 (Nat.le_of_ble_eq_true rfl) ?_
  refine z_aload_n dCls_clear_11 rfl ?_
  refine z_iconst dCls_clear_12 ?_
  refine z_putN (k := 1) fd_Row (by decide) fl_Cls_46 rfl dCls_clear_13 (by assumption) (by simp) rfl rfl ?_
  refine z_hx (fun h1 p1 g1 => ?_)
  have hr1 := hrA.cut (n := 0) (by omega) p1 g1
  have f1 : ∀ q, q ≠ ad (8 + 2 * kA) → q ≠ ad (9 + 2 * kA) → h1 q = h q := fun q hq _ => g1 q hq
  have hC1 := hC.row hkA hr1 f1
  obtain ⟨-, d1, -⟩ := id hC1
  have fz1 : zFrm ad h h1 := zFrm.of2 (i := 8 + 2 * kA) (j := 9 + 2 * kA) (by omega) (by omega) f1
  obtain ⟨fr1, er1, -⟩ := id hr1
  have hl1 := hr1.len
  refine z_aload_n dCls_clear_16 rfl ?_
  refine z_iload_n dCls_clear_17 rfl ?_
  refine z_iconst dCls_clear_18 ?_
  refine z_callV MV_Cls_makeStale lk_Cls_58 dCls_clear_19 (k_Cls_makeStale (by assumption) (by omega) (by omega)) rfl rfl (Nat.le_of_ble_eq_true rfl) rfl (by assumption) (Nat.le_of_ble_eq_true rfl) (Nat.le_of_ble_eq_true rfl) (Nat.le_of_eq (Nat.zero_add _)) (Nat.le_of_eq (Nat.zero_add _)) (fun _ _ q => q.elim) ?_
  rintro _ h2 ⟨rfl, hC2, gz2⟩
  obtain ⟨-, d2, -⟩ := id hC2
  have fz2 : zFrm ad h h2 := by first | exact fz1.tr gz2 | exact gz2
  have hm2 := hC2.ls hkA
  simp only [zsS_l, zsS_0, zsL_l] at hm2
  obtain ⟨fm2, em2, -⟩ := id hm2
  refine z_iload_n dCls_clear_22 rfl ?_
  refine z_iret rfl rfl dCls_clear_23 ?_
  first
    | (exfalso; omega)
    | exact zQc.mk (by assumption) (by first | exact zFrm.rf | assumption) (by unfold sp_clear; (try unfold spPut); (try simp only [Int.toNat_natCast]); (repeat (first | rw [if_pos (by omega)] | rw [if_neg (by omega)] | rw [if_pos (by assumption)] | rw [if_neg (by assumption)])); all_goals (first | rfl | (congr 2; omega) | (congr 1; congr 1; omega)))
theorem k_Cls_append {p f : Int}  (hC : zCls G h ad S) (z_p : zI32 p) (z_f : zI32 f) : zM G l hCls_append yCls_append 9 [.ref (ad 0), zi p, zi f] h (zQc G ad h (sp_append S p f)) (zXc G ad h (sp_append S p f)) 6 36 := by
  obtain ⟨c1, c2, ⟨g3, c3, d3⟩, ⟨g4, c4, d4⟩, c5, ⟨T6, c6, d6⟩, c7, c8, ⟨R9, c9⟩, c10⟩ := id hC
  obtain ⟨f16, e16, -⟩ := id c9
  refine zM.of [some (.ref (ad 0)), some (zi p), some (zi f), none, none] (by decide +kernel) rfl (by decide) rfl (Nat.le_of_ble_eq_true rfl) rfl ?_
  refine z_aload_n dCls_append_0 rfl ?_
  refine z_iload_n dCls_append_1 rfl ?_
  refine z_callV (bc' := 5) (bs' := 30) MV_Cls_listAt lk_Cls_34 dCls_append_2 (k_Cls_listAt (by assumption) (by omega)) rfl rfl (Nat.le_of_ble_eq_true rfl) rfl (by assumption) (Nat.le_of_ble_eq_true rfl) (Nat.le_of_ble_eq_true rfl) (by decide) (by decide) (fun E h9 q9 => z_out rfl (by obtain ⟨rfl, q1, rfl⟩ := q9; exact zXc.mk (by assumption) (by first | exact zFrm.rf | assumption) (by unfold sp_append; (try unfold spPut); (try simp only [Int.toNat_natCast]); (repeat (first | rw [if_pos (by omega)] | rw [if_neg (by omega)] | rw [if_pos (by assumption)] | rw [if_neg (by assumption)])); all_goals (first | rfl | (congr 2; omega) | (congr 1; congr 1; omega))))) ?_
  rintro _ _ ⟨rfl, aA1, aA2, rfl⟩
  obtain ⟨kA, rfl⟩ := Int.eq_ofNat_of_zero_le aA1
  simp only [Int.toNat_natCast]
  have hkA : kA < 4 := by omega
  have hrA := hC.ls hkA
  obtain ⟨fA, eA, -⟩ := id hrA
  have hlA := hrA.len
  refine z_astore_n dCls_append_5 (Nat.le_of_ble_eq_true rfl) ?_
  refine z_aload_n dCls_append_6 rfl ?_
  refine z_iload_n dCls_append_7 rfl ?_
  refine z_callV (bc' := 4) (bs' := 24) MV_Cls_listAt lk_Cls_34 dCls_append_8 (k_Cls_listAt (by assumption) (by omega)) rfl rfl (Nat.le_of_ble_eq_true rfl) rfl (by assumption) (Nat.le_of_ble_eq_true rfl) (Nat.le_of_ble_eq_true rfl) (by decide) (by decide) (fun E h9 q9 => z_out rfl (by obtain ⟨rfl, q1, rfl⟩ := q9; exact zXc.mk (by assumption) (by first | exact zFrm.rf | assumption) (by unfold sp_append; (try unfold spPut); (try simp only [Int.toNat_natCast]); (repeat (first | rw [if_pos (by omega)] | rw [if_neg (by omega)] | rw [if_pos (by assumption)] | rw [if_neg (by assumption)])); all_goals (first | rfl | (congr 2; omega) | (congr 1; congr 1; omega))))) ?_
  rintro _ _ ⟨rfl, aB1, aB2, rfl⟩
  obtain ⟨kB, rfl⟩ := Int.eq_ofNat_of_zero_le aB1
  simp only [Int.toNat_natCast]
  have hkB : kB < 4 := by omega
  have hrB := hC.ls hkB
  obtain ⟨fB, eB, -⟩ := id hrB
  have hlB := hrB.len
  refine z_astore dCls_append_11 (Nat.le_of_ble_eq_true rfl) ?_
  refine z_aload_n dCls_append_13 rfl ?_
  refine z_iload_n dCls_append_14 rfl ?_
  refine z_aload_n dCls_append_15 rfl ?_
  refine z_get (k := 3) fd_Cls (by decide) fl_Cls_29 dCls_append_16 (by assumption) (by rfl) ?_
  refine z_aload_n dCls_append_19 rfl ?_
  refine z_aload_n dCls_append_20 rfl ?_
  refine z_getN (k := 1) fd_Row (by decide) fl_Cls_46 dCls_append_21 (by assumption) (by rfl) ?_
  refine z_aload dCls_append_24 rfl ?_
  refine z_callVN MV_Row_becomeJoined lk_Cls_98 dCls_append_26 (k_Row_becomeJoined c9 hrA hrB (hC.inj (by omega) (by omega) (by omega)) (hC.inj (by omega) (by omega) (by omega)) (hC.inj (by omega) (by omega) (by omega)) (hC.inj (by omega) (by omega) (by omega)) (by omega)) rfl rfl (Nat.le_of_ble_eq_true rfl) rfl (by assumption) (Nat.le_of_ble_eq_true rfl) (Nat.le_of_ble_eq_true rfl) (Nat.le_of_eq (Nat.zero_add _)) (Nat.le_of_eq (Nat.zero_add _)) (fun _ _ q => q.elim) ?_
  rintro _ h1 (⟨rfl, m1, hR1, f1⟩ | ⟨rfl, m1, rfl⟩)
  · have hC1 := hC.res hR1 f1
    obtain ⟨-, d1, -⟩ := id hC1
    have fz1 : zFrm ad h h1 := zFrm.of2 (i := 16) (j := 17) (by omega) (by omega) f1
    obtain ⟨fr1, er1, -⟩ := id hR1
    refine z_callV (bc' := 3) (bs' := 18) MV_Cls_becomeResult lk_Cls_102 dCls_append_29 (k_Cls_becomeResult (by assumption) (by omega) (by assumption) (by omega)) rfl rfl (Nat.le_of_ble_eq_true rfl) rfl (by assumption) (Nat.le_of_ble_eq_true rfl) (Nat.le_of_ble_eq_true rfl) (by decide) (by decide) (fun _ _ q => q.elim) ?_
    rintro _ h9 ⟨(⟨b0, rfl, hC9⟩ | ⟨b0, rfl, hC9⟩), gz9⟩
    all_goals have fz9 : zFrm ad h h9 := by first | exact fz1.tr gz9 | exact gz9
    · refine z_iret rfl rfl dCls_append_32 ?_
      first
        | (exfalso; omega)
        | exact zQc.mk (by assumption) (by first | exact zFrm.rf | assumption) (by unfold sp_append; (try unfold spPut); (try simp only [Int.toNat_natCast]); (repeat (first | rw [if_pos (by omega)] | rw [if_neg (by omega)] | rw [if_pos (by assumption)] | rw [if_neg (by assumption)])); all_goals (first | rfl | (congr 2; omega) | (congr 1; congr 1; omega)))
    · refine z_iret rfl rfl dCls_append_32 ?_
      first
        | (exfalso; omega)
        | exact zQc.mk (by assumption) (by first | exact zFrm.rf | assumption) (by unfold sp_append; (try unfold spPut); (try simp only [Int.toNat_natCast]); (repeat (first | rw [if_pos (by omega)] | rw [if_neg (by omega)] | rw [if_pos (by assumption)] | rw [if_neg (by assumption)])); all_goals (first | rfl | (congr 2; omega) | (congr 1; congr 1; omega)))
  · refine z_callV (bc' := 3) (bs' := 18) MV_Cls_becomeResult lk_Cls_102 dCls_append_29 (k_Cls_becomeResult (by assumption) (by omega) (by assumption) (by omega)) rfl rfl (Nat.le_of_ble_eq_true rfl) rfl (by assumption) (Nat.le_of_ble_eq_true rfl) (Nat.le_of_ble_eq_true rfl) (by decide) (by decide) (fun _ _ q => q.elim) ?_
    rintro _ h9 ⟨(⟨b0, rfl, hC9⟩ | ⟨b0, rfl, hC9⟩), gz9⟩
    all_goals have fz9 : zFrm ad h h9 := by first | exact fz1.tr gz9 | exact gz9
    · refine z_iret rfl rfl dCls_append_32 ?_
      first
        | (exfalso; omega)
        | exact zQc.mk (by assumption) (by first | exact zFrm.rf | assumption) (by unfold sp_append; (try unfold spPut); (try simp only [Int.toNat_natCast]); (repeat (first | rw [if_pos (by omega)] | rw [if_neg (by omega)] | rw [if_pos (by assumption)] | rw [if_neg (by assumption)])); all_goals (first | rfl | (congr 2; omega) | (congr 1; congr 1; omega)))
    · refine z_iret rfl rfl dCls_append_32 ?_
      first
        | (exfalso; omega)
        | exact zQc.mk (by assumption) (by first | exact zFrm.rf | assumption) (by unfold sp_append; (try unfold spPut); (try simp only [Int.toNat_natCast]); (repeat (first | rw [if_pos (by omega)] | rw [if_neg (by omega)] | rw [if_pos (by assumption)] | rw [if_neg (by assumption)])); all_goals (first | rfl | (congr 2; omega) | (congr 1; congr 1; omega)))
theorem k_Cls_appendAt {p q f : Int}  (hC : zCls G h ad S) (z_p : zI32 p) (z_q : zI32 q) (z_f : zI32 f) : zM G l hCls_appendAt yCls_appendAt 9 [.ref (ad 0), zi p, zi q, zi f] h (zQc G ad h (sp_appendAt S p q f)) (zXc G ad h (sp_appendAt S p q f)) 6 36 := by
  obtain ⟨c1, c2, ⟨g3, c3, d3⟩, ⟨g4, c4, d4⟩, c5, ⟨T6, c6, d6⟩, c7, c8, ⟨R9, c9⟩, c10⟩ := id hC
  obtain ⟨f16, e16, -⟩ := id c9
  refine zM.of [some (.ref (ad 0)), some (zi p), some (zi q), some (zi f), none, none] (by decide +kernel) rfl (by decide) rfl (Nat.le_of_ble_eq_true rfl) rfl ?_
  refine z_aload_n dCls_appendAt_0 rfl ?_
  refine z_iload_n dCls_appendAt_1 rfl ?_
  refine z_callV (bc' := 5) (bs' := 30) MV_Cls_listAt lk_Cls_34 dCls_appendAt_2 (k_Cls_listAt (by assumption) (by omega)) rfl rfl (Nat.le_of_ble_eq_true rfl) rfl (by assumption) (Nat.le_of_ble_eq_true rfl) (Nat.le_of_ble_eq_true rfl) (by decide) (by decide) (fun E h9 q9 => z_out rfl (by obtain ⟨rfl, q1, rfl⟩ := q9; exact zXc.mk (by assumption) (by first | exact zFrm.rf | assumption) (by unfold sp_appendAt; (try unfold spPut); (try simp only [Int.toNat_natCast]); (repeat (first | rw [if_pos (by omega)] | rw [if_neg (by omega)] | rw [if_pos (by assumption)] | rw [if_neg (by assumption)])); all_goals (first | rfl | (congr 2; omega) | (congr 1; congr 1; omega))))) ?_
  rintro _ _ ⟨rfl, aA1, aA2, rfl⟩
  obtain ⟨kA, rfl⟩ := Int.eq_ofNat_of_zero_le aA1
  simp only [Int.toNat_natCast]
  have hkA : kA < 4 := by omega
  have hrA := hC.ls hkA
  obtain ⟨fA, eA, -⟩ := id hrA
  have hlA := hrA.len
  refine z_astore dCls_appendAt_5 (Nat.le_of_ble_eq_true rfl) ?_
  refine z_aload_n dCls_appendAt_7 rfl ?_
  refine z_iload_n dCls_appendAt_8 rfl ?_
  refine z_callV (bc' := 4) (bs' := 24) MV_Cls_listAt lk_Cls_34 dCls_appendAt_9 (k_Cls_listAt (by assumption) (by omega)) rfl rfl (Nat.le_of_ble_eq_true rfl) rfl (by assumption) (Nat.le_of_ble_eq_true rfl) (Nat.le_of_ble_eq_true rfl) (by decide) (by decide) (fun E h9 q9 => z_out rfl (by obtain ⟨rfl, q1, rfl⟩ := q9; exact zXc.mk (by assumption) (by first | exact zFrm.rf | assumption) (by unfold sp_appendAt; (try unfold spPut); (try simp only [Int.toNat_natCast]); (repeat (first | rw [if_pos (by omega)] | rw [if_neg (by omega)] | rw [if_pos (by assumption)] | rw [if_neg (by assumption)])); all_goals (first | rfl | (congr 2; omega) | (congr 1; congr 1; omega))))) ?_
  rintro _ _ ⟨rfl, aB1, aB2, rfl⟩
  obtain ⟨kB, rfl⟩ := Int.eq_ofNat_of_zero_le aB1
  simp only [Int.toNat_natCast]
  have hkB : kB < 4 := by omega
  have hrB := hC.ls hkB
  obtain ⟨fB, eB, -⟩ := id hrB
  have hlB := hrB.len
  refine z_astore dCls_appendAt_12 (Nat.le_of_ble_eq_true rfl) ?_
  refine z_aload dCls_appendAt_14 rfl ?_
  refine z_iload_n dCls_appendAt_16 rfl ?_
  refine z_callS (bc' := 3) (bs' := 18) MS_Cls_demandGap lk_Cls_81 dCls_appendAt_17 (k_Cls_demandGap hrA (by omega)) rfl rfl (Nat.le_of_ble_eq_true rfl)  (Nat.le_of_ble_eq_true rfl) (Nat.le_of_ble_eq_true rfl) (by decide) (by decide) (fun E h9 q9 => z_out rfl (by obtain ⟨rfl, q1, rfl⟩ := q9; exact zXc.mk (by assumption) (by first | exact zFrm.rf | assumption) (by unfold sp_appendAt; (try unfold spPut); (try simp only [Int.toNat_natCast]); (repeat (first | rw [if_pos (by omega)] | rw [if_neg (by omega)] | rw [if_pos (by assumption)] | rw [if_neg (by assumption)])); all_goals (first | rfl | (congr 2; omega) | (congr 1; congr 1; omega))))) ?_
  rintro _ _ ⟨rfl, v1, v2, rfl⟩
  refine z_aload_n dCls_appendAt_20 rfl ?_
  refine z_iload_n dCls_appendAt_21 rfl ?_
  refine z_aload_n dCls_appendAt_22 rfl ?_
  refine z_get (k := 3) fd_Cls (by decide) fl_Cls_29 dCls_appendAt_23 (by assumption) (by rfl) ?_
  refine z_aload dCls_appendAt_26 rfl ?_
  refine z_iload_n dCls_appendAt_28 rfl ?_
  refine z_aload dCls_appendAt_29 rfl ?_
  refine z_callVN MV_Row_becomeJoined lk_Cls_98 dCls_appendAt_31 (k_Row_becomeJoined c9 hrA hrB (hC.inj (by omega) (by omega) (by omega)) (hC.inj (by omega) (by omega) (by omega)) (hC.inj (by omega) (by omega) (by omega)) (hC.inj (by omega) (by omega) (by omega)) (by omega)) rfl rfl (Nat.le_of_ble_eq_true rfl) rfl (by assumption) (Nat.le_of_ble_eq_true rfl) (Nat.le_of_ble_eq_true rfl) (Nat.le_of_eq (Nat.zero_add _)) (Nat.le_of_eq (Nat.zero_add _)) (fun _ _ q => q.elim) ?_
  rintro _ h1 (⟨rfl, m1, hR1, f1⟩ | ⟨rfl, m1, rfl⟩)
  · have hC1 := hC.res hR1 f1
    obtain ⟨-, d1, -⟩ := id hC1
    have fz1 : zFrm ad h h1 := zFrm.of2 (i := 16) (j := 17) (by omega) (by omega) f1
    obtain ⟨fr1, er1, -⟩ := id hR1
    refine z_callV (bc' := 2) (bs' := 12) MV_Cls_becomeResult lk_Cls_102 dCls_appendAt_34 (k_Cls_becomeResult (by assumption) (by omega) (by assumption) (by omega)) rfl rfl (Nat.le_of_ble_eq_true rfl) rfl (by assumption) (Nat.le_of_ble_eq_true rfl) (Nat.le_of_ble_eq_true rfl) (by decide) (by decide) (fun _ _ q => q.elim) ?_
    rintro _ h9 ⟨(⟨b0, rfl, hC9⟩ | ⟨b0, rfl, hC9⟩), gz9⟩
    all_goals have fz9 : zFrm ad h h9 := by first | exact fz1.tr gz9 | exact gz9
    · refine z_iret rfl rfl dCls_appendAt_37 ?_
      first
        | (exfalso; omega)
        | exact zQc.mk (by assumption) (by first | exact zFrm.rf | assumption) (by unfold sp_appendAt; (try unfold spPut); (try simp only [Int.toNat_natCast]); (repeat (first | rw [if_pos (by omega)] | rw [if_neg (by omega)] | rw [if_pos (by assumption)] | rw [if_neg (by assumption)])); all_goals (first | rfl | (congr 2; omega) | (congr 1; congr 1; omega)))
    · refine z_iret rfl rfl dCls_appendAt_37 ?_
      first
        | (exfalso; omega)
        | exact zQc.mk (by assumption) (by first | exact zFrm.rf | assumption) (by unfold sp_appendAt; (try unfold spPut); (try simp only [Int.toNat_natCast]); (repeat (first | rw [if_pos (by omega)] | rw [if_neg (by omega)] | rw [if_pos (by assumption)] | rw [if_neg (by assumption)])); all_goals (first | rfl | (congr 2; omega) | (congr 1; congr 1; omega)))
  · refine z_callV (bc' := 2) (bs' := 12) MV_Cls_becomeResult lk_Cls_102 dCls_appendAt_34 (k_Cls_becomeResult (by assumption) (by omega) (by assumption) (by omega)) rfl rfl (Nat.le_of_ble_eq_true rfl) rfl (by assumption) (Nat.le_of_ble_eq_true rfl) (Nat.le_of_ble_eq_true rfl) (by decide) (by decide) (fun _ _ q => q.elim) ?_
    rintro _ h9 ⟨(⟨b0, rfl, hC9⟩ | ⟨b0, rfl, hC9⟩), gz9⟩
    all_goals have fz9 : zFrm ad h h9 := by first | exact fz1.tr gz9 | exact gz9
    · refine z_iret rfl rfl dCls_appendAt_37 ?_
      first
        | (exfalso; omega)
        | exact zQc.mk (by assumption) (by first | exact zFrm.rf | assumption) (by unfold sp_appendAt; (try unfold spPut); (try simp only [Int.toNat_natCast]); (repeat (first | rw [if_pos (by omega)] | rw [if_neg (by omega)] | rw [if_pos (by assumption)] | rw [if_neg (by assumption)])); all_goals (first | rfl | (congr 2; omega) | (congr 1; congr 1; omega)))
    · refine z_iret rfl rfl dCls_appendAt_37 ?_
      first
        | (exfalso; omega)
        | exact zQc.mk (by assumption) (by first | exact zFrm.rf | assumption) (by unfold sp_appendAt; (try unfold spPut); (try simp only [Int.toNat_natCast]); (repeat (first | rw [if_pos (by omega)] | rw [if_neg (by omega)] | rw [if_pos (by assumption)] | rw [if_neg (by assumption)])); all_goals (first | rfl | (congr 2; omega) | (congr 1; congr 1; omega)))
theorem k_Cls_copy {p i : Int}  (hC : zCls G h ad S) (z_p : zI32 p) (z_i : zI32 i) : zM G l hCls_copy yCls_copy 9 [.ref (ad 0), zi p, zi i] h (zQc G ad h (sp_copy S p i)) (zXc G ad h (sp_copy S p i)) 6 36 := by
  obtain ⟨c1, c2, ⟨g3, c3, d3⟩, ⟨g4, c4, d4⟩, c5, ⟨T6, c6, d6⟩, c7, c8, ⟨R9, c9⟩, c10⟩ := id hC
  obtain ⟨f16, e16, -⟩ := id c9
  refine zM.of [some (.ref (ad 0)), some (zi p), some (zi i), none, none] (by decide +kernel) rfl (by decide) rfl (Nat.le_of_ble_eq_true rfl) rfl ?_
  refine z_aload_n dCls_copy_0 rfl ?_
  refine z_iload_n dCls_copy_1 rfl ?_
  refine z_callV (bc' := 5) (bs' := 30) MV_Cls_listAt lk_Cls_34 dCls_copy_2 (k_Cls_listAt (by assumption) (by omega)) rfl rfl (Nat.le_of_ble_eq_true rfl) rfl (by assumption) (Nat.le_of_ble_eq_true rfl) (Nat.le_of_ble_eq_true rfl) (by decide) (by decide) (fun E h9 q9 => z_out rfl (by obtain ⟨rfl, q1, rfl⟩ := q9; exact zXc.mk (by assumption) (by first | exact zFrm.rf | assumption) (by unfold sp_copy; (try unfold spPut); (try simp only [Int.toNat_natCast]); (repeat (first | rw [if_pos (by omega)] | rw [if_neg (by omega)] | rw [if_pos (by assumption)] | rw [if_neg (by assumption)])); all_goals (first | rfl | (congr 2; omega) | (congr 1; congr 1; omega))))) ?_
  rintro _ _ ⟨rfl, aA1, aA2, rfl⟩
  obtain ⟨kA, rfl⟩ := Int.eq_ofNat_of_zero_le aA1
  simp only [Int.toNat_natCast]
  have hkA : kA < 4 := by omega
  have hrA := hC.ls hkA
  obtain ⟨fA, eA, -⟩ := id hrA
  have hlA := hrA.len
  refine z_astore_n dCls_copy_5 (Nat.le_of_ble_eq_true rfl) ?_
  refine z_aload_n dCls_copy_6 rfl ?_
  refine z_iload_n dCls_copy_7 rfl ?_
  refine z_callV (bc' := 4) (bs' := 24) MV_Cls_listAt lk_Cls_34 dCls_copy_8 (k_Cls_listAt (by assumption) (by omega)) rfl rfl (Nat.le_of_ble_eq_true rfl) rfl (by assumption) (Nat.le_of_ble_eq_true rfl) (Nat.le_of_ble_eq_true rfl) (by decide) (by decide) (fun E h9 q9 => z_out rfl (by obtain ⟨rfl, q1, rfl⟩ := q9; exact zXc.mk (by assumption) (by first | exact zFrm.rf | assumption) (by unfold sp_copy; (try unfold spPut); (try simp only [Int.toNat_natCast]); (repeat (first | rw [if_pos (by omega)] | rw [if_neg (by omega)] | rw [if_pos (by assumption)] | rw [if_neg (by assumption)])); all_goals (first | rfl | (congr 2; omega) | (congr 1; congr 1; omega))))) ?_
  rintro _ _ ⟨rfl, aB1, aB2, rfl⟩
  obtain ⟨kB, rfl⟩ := Int.eq_ofNat_of_zero_le aB1
  simp only [Int.toNat_natCast]
  have hkB : kB < 4 := by omega
  have hrB := hC.ls hkB
  obtain ⟨fB, eB, -⟩ := id hrB
  have hlB := hrB.len
  refine z_astore dCls_copy_11 (Nat.le_of_ble_eq_true rfl) ?_
  refine z_aload dCls_copy_13 rfl ?_
  refine z_aload_n dCls_copy_15 rfl ?_
  by_cases e9 : kA = kB
  · subst e9
    refine z_callVN MV_Row_become lk_Cls_105 dCls_copy_16 (k_Row_becomeS hrB) rfl rfl (Nat.le_of_ble_eq_true rfl) rfl (by assumption) (Nat.le_of_ble_eq_true rfl) (Nat.le_of_ble_eq_true rfl) (Nat.le_of_eq (Nat.zero_add _)) (Nat.le_of_eq (Nat.zero_add _)) (fun _ _ q => q.elim) ?_
    rintro _ h1 ⟨rfl, hr1, f1⟩
    have hC1 := hC.row hkA hr1 f1
    obtain ⟨-, d1, -⟩ := id hC1
    have fz1 : zFrm ad h h1 := zFrm.of2 (i := 8 + 2 * kA) (j := 9 + 2 * kA) (by omega) (by omega) f1
    obtain ⟨fr1, er1, -⟩ := id hr1
    have hl1 := hr1.len
    refine z_aload_n dCls_copy_19 rfl ?_
    refine z_iload_n dCls_copy_20 rfl ?_
    refine z_iconst dCls_copy_21 ?_
    refine z_callV MV_Cls_makeStale lk_Cls_58 dCls_copy_22 (k_Cls_makeStale (by assumption) (by omega) (by omega)) rfl rfl (Nat.le_of_ble_eq_true rfl) rfl (by assumption) (Nat.le_of_ble_eq_true rfl) (Nat.le_of_ble_eq_true rfl) (Nat.le_of_eq (Nat.zero_add _)) (Nat.le_of_eq (Nat.zero_add _)) (fun _ _ q => q.elim) ?_
    rintro _ h2 ⟨rfl, hC2, gz2⟩
    obtain ⟨-, d2, -⟩ := id hC2
    have fz2 : zFrm ad h h2 := by first | exact fz1.tr gz2 | exact gz2
    have hm2 := hC2.ls hkB
    simp only [zsS_l, zsS_0, zsL_l] at hm2
    obtain ⟨fm2, em2, -⟩ := id hm2
    refine z_aload dCls_copy_25 rfl ?_
    refine z_getN (k := 1) fd_Row (by decide) fl_Cls_46 dCls_copy_27 (by assumption) (by rfl) ?_
    refine z_iret rfl rfl dCls_copy_30 ?_
    first
      | (exfalso; omega)
      | exact zQc.mk (by assumption) (by first | exact zFrm.rf | assumption) (by unfold sp_copy; (try unfold spPut); (try simp only [Int.toNat_natCast]); (repeat (first | rw [if_pos (by omega)] | rw [if_neg (by omega)] | rw [if_pos (by assumption)] | rw [if_neg (by assumption)])); all_goals (first | rfl | (congr 2; omega) | (congr 1; congr 1; omega)))
  · refine z_callVN MV_Row_become lk_Cls_105 dCls_copy_16 (k_Row_become hrB hrA (hC.inj (by omega) (by omega) (by omega)) (hC.inj (by omega) (by omega) (by omega))) rfl rfl (Nat.le_of_ble_eq_true rfl) rfl (by assumption) (Nat.le_of_ble_eq_true rfl) (Nat.le_of_ble_eq_true rfl) (Nat.le_of_eq (Nat.zero_add _)) (Nat.le_of_eq (Nat.zero_add _)) (fun _ _ q => q.elim) ?_
    rintro _ h1 ⟨rfl, hr1, f1⟩
    have hC1 := hC.row hkB hr1 f1
    obtain ⟨-, d1, -⟩ := id hC1
    have fz1 : zFrm ad h h1 := zFrm.of2 (i := 8 + 2 * kB) (j := 9 + 2 * kB) (by omega) (by omega) f1
    obtain ⟨fr1, er1, -⟩ := id hr1
    have hl1 := hr1.len
    refine z_aload_n dCls_copy_19 rfl ?_
    refine z_iload_n dCls_copy_20 rfl ?_
    refine z_iconst dCls_copy_21 ?_
    refine z_callV MV_Cls_makeStale lk_Cls_58 dCls_copy_22 (k_Cls_makeStale (by assumption) (by omega) (by omega)) rfl rfl (Nat.le_of_ble_eq_true rfl) rfl (by assumption) (Nat.le_of_ble_eq_true rfl) (Nat.le_of_ble_eq_true rfl) (Nat.le_of_eq (Nat.zero_add _)) (Nat.le_of_eq (Nat.zero_add _)) (fun _ _ q => q.elim) ?_
    rintro _ h2 ⟨rfl, hC2, gz2⟩
    obtain ⟨-, d2, -⟩ := id hC2
    have fz2 : zFrm ad h h2 := by first | exact fz1.tr gz2 | exact gz2
    have hm2 := hC2.ls hkB
    simp only [zsS_l, zsS_0, zsL_l] at hm2
    obtain ⟨fm2, em2, -⟩ := id hm2
    refine z_aload dCls_copy_25 rfl ?_
    refine z_getN (k := 1) fd_Row (by decide) fl_Cls_46 dCls_copy_27 (by assumption) (by rfl) ?_
    refine z_iret rfl rfl dCls_copy_30 ?_
    first
      | (exfalso; omega)
      | exact zQc.mk (by assumption) (by first | exact zFrm.rf | assumption) (by unfold sp_copy; (try unfold spPut); (try simp only [Int.toNat_natCast]); (repeat (first | rw [if_pos (by omega)] | rw [if_neg (by omega)] | rw [if_pos (by assumption)] | rw [if_neg (by assumption)])); all_goals (first | rfl | (congr 2; omega) | (congr 1; congr 1; omega)))
theorem k_Cls_places {p m : Int}  (hC : zCls G h ad S) (z_p : zI32 p) (z_m : zI32 m) : zM G l hCls_places yCls_places 9 [.ref (ad 0), zi p, zi m] h (zQc G ad h (sp_places S p m)) (zXc G ad h (sp_places S p m)) 6 36 := by
  obtain ⟨c1, c2, ⟨g3, c3, d3⟩, ⟨g4, c4, d4⟩, c5, ⟨T6, c6, d6⟩, c7, c8, ⟨R9, c9⟩, c10⟩ := id hC
  obtain ⟨f16, e16, -⟩ := id c9
  refine zM.of [some (.ref (ad 0)), some (zi p), some (zi m), none] (by decide +kernel) rfl (by decide) rfl (Nat.le_of_ble_eq_true rfl) rfl ?_
  refine z_aload_n dCls_places_0 rfl ?_
  refine z_iload_n dCls_places_1 rfl ?_
  refine z_callV (bc' := 5) (bs' := 30) MV_Cls_listAt lk_Cls_34 dCls_places_2 (k_Cls_listAt (by assumption) (by omega)) rfl rfl (Nat.le_of_ble_eq_true rfl) rfl (by assumption) (Nat.le_of_ble_eq_true rfl) (Nat.le_of_ble_eq_true rfl) (by decide) (by decide) (fun E h9 q9 => z_out rfl (by obtain ⟨rfl, q1, rfl⟩ := q9; exact zXc.mk (by assumption) (by first | exact zFrm.rf | assumption) (by unfold sp_places; (try unfold spPut); (try simp only [Int.toNat_natCast]); (repeat (first | rw [if_pos (by omega)] | rw [if_neg (by omega)] | rw [if_pos (by assumption)] | rw [if_neg (by assumption)])); all_goals (first | rfl | (congr 2; omega) | (congr 1; congr 1; omega))))) ?_
  rintro _ _ ⟨rfl, aA1, aA2, rfl⟩
  obtain ⟨kA, rfl⟩ := Int.eq_ofNat_of_zero_le aA1
  simp only [Int.toNat_natCast]
  have hkA : kA < 4 := by omega
  have hrA := hC.ls hkA
  obtain ⟨fA, eA, -⟩ := id hrA
  have hlA := hrA.len
  refine z_astore_n dCls_places_5 (Nat.le_of_ble_eq_true rfl) ?_
  refine z_iload_n dCls_places_6 rfl ?_
  refine z_iconst dCls_places_7 ?_
  refine z_bipush dCls_places_8 rfl ?_
  refine z_callS (bc' := 4) (bs' := 24) MS_Cls_demandWithin lk_Cls_38 dCls_places_10 (k_Cls_demandWithin (by omega) (by omega) (by omega)) rfl rfl (Nat.le_of_ble_eq_true rfl)  (Nat.le_of_ble_eq_true rfl) (Nat.le_of_ble_eq_true rfl) (by decide) (by decide) (fun E h9 q9 => z_out rfl (by obtain ⟨rfl, q1, rfl⟩ := q9; exact zXc.mk (by assumption) (by first | exact zFrm.rf | assumption) (by unfold sp_places; (try unfold spPut); (try simp only [Int.toNat_natCast]); (repeat (first | rw [if_pos (by omega)] | rw [if_neg (by omega)] | rw [if_pos (by assumption)] | rw [if_neg (by assumption)])); all_goals (first | rfl | (congr 2; omega) | (congr 1; congr 1; omega))))) ?_
  rintro _ _ ⟨rfl, w1, w2, rfl⟩
  obtain ⟨N9, rfl⟩ := Int.eq_ofNat_of_zero_le w1
  refine z_aload_n dCls_places_13 rfl ?_
  refine z_iload_n dCls_places_14 rfl ?_
  refine z_callVN MV_Row_becomePlaces lk_Cls_109 dCls_places_15 (k_Row_becomePlaces (N := N9) hrA (by omega)) rfl rfl (Nat.le_of_ble_eq_true rfl) rfl (by assumption) (Nat.le_of_ble_eq_true rfl) (Nat.le_of_ble_eq_true rfl) (Nat.le_of_eq (Nat.zero_add _)) (Nat.le_of_eq (Nat.zero_add _)) (fun _ _ q => q.elim) ?_
  rintro _ h1 ⟨rfl, hr1, f1⟩
  have hC1 := hC.row hkA hr1 f1
  obtain ⟨-, d1, -⟩ := id hC1
  have fz1 : zFrm ad h h1 := zFrm.of2 (i := 8 + 2 * kA) (j := 9 + 2 * kA) (by omega) (by omega) f1
  obtain ⟨fr1, er1, -⟩ := id hr1
  have hl1 := hr1.len
  refine z_aload_n dCls_places_18 rfl ?_
  refine z_iload_n dCls_places_19 rfl ?_
  refine z_iconst dCls_places_20 ?_
  refine z_callV MV_Cls_makeStale lk_Cls_58 dCls_places_21 (k_Cls_makeStale (by assumption) (by omega) (by omega)) rfl rfl (Nat.le_of_ble_eq_true rfl) rfl (by assumption) (Nat.le_of_ble_eq_true rfl) (Nat.le_of_ble_eq_true rfl) (Nat.le_of_eq (Nat.zero_add _)) (Nat.le_of_eq (Nat.zero_add _)) (fun _ _ q => q.elim) ?_
  rintro _ h2 ⟨rfl, hC2, gz2⟩
  obtain ⟨-, d2, -⟩ := id hC2
  have fz2 : zFrm ad h h2 := by first | exact fz1.tr gz2 | exact gz2
  have hm2 := hC2.ls hkA
  simp only [zsS_l, zsS_0, zsL_l] at hm2
  obtain ⟨fm2, em2, -⟩ := id hm2
  refine z_aload_n dCls_places_24 rfl ?_
  refine z_getN (k := 1) fd_Row (by decide) fl_Cls_46 dCls_places_25 (by assumption) (by rfl) ?_
  refine z_iret rfl rfl dCls_places_28 ?_
  first
    | (exfalso; omega)
    | exact zQc.mk (by assumption) (by first | exact zFrm.rf | assumption) (by unfold sp_places; (try unfold spPut); (try simp only [Int.toNat_natCast]); (repeat (first | rw [if_pos (by omega)] | rw [if_neg (by omega)] | rw [if_pos (by assumption)] | rw [if_neg (by assumption)])); all_goals (first | rfl | (congr 2; omega) | (congr 1; congr 1; omega)))
theorem k_Cls_rotate {p b : Int}  (hC : zCls G h ad S) (z_p : zI32 p) (z_b : zI32 b) : zM G l hCls_rotate yCls_rotate 9 [.ref (ad 0), zi p, zi b] h (zQc G ad h (sp_rotate S p b)) (zXc G ad h (sp_rotate S p b)) 6 36 := by
  obtain ⟨c1, c2, ⟨g3, c3, d3⟩, ⟨g4, c4, d4⟩, c5, ⟨T6, c6, d6⟩, c7, c8, ⟨R9, c9⟩, c10⟩ := id hC
  obtain ⟨f16, e16, -⟩ := id c9
  refine zM.of [some (.ref (ad 0)), some (zi p), some (zi b), none] (by decide +kernel) rfl (by decide) rfl (Nat.le_of_ble_eq_true rfl) rfl ?_
  refine z_aload_n dCls_rotate_0 rfl ?_
  refine z_iload_n dCls_rotate_1 rfl ?_
  refine z_callV (bc' := 5) (bs' := 30) MV_Cls_listAt lk_Cls_34 dCls_rotate_2 (k_Cls_listAt (by assumption) (by omega)) rfl rfl (Nat.le_of_ble_eq_true rfl) rfl (by assumption) (Nat.le_of_ble_eq_true rfl) (Nat.le_of_ble_eq_true rfl) (by decide) (by decide) (fun E h9 q9 => z_out rfl (by obtain ⟨rfl, q1, rfl⟩ := q9; exact zXc.mk (by assumption) (by first | exact zFrm.rf | assumption) (by unfold sp_rotate; (try unfold spPut); (try simp only [Int.toNat_natCast]); (repeat (first | rw [if_pos (by omega)] | rw [if_neg (by omega)] | rw [if_pos (by assumption)] | rw [if_neg (by assumption)])); all_goals (first | rfl | (congr 2; omega) | (congr 1; congr 1; omega))))) ?_
  rintro _ _ ⟨rfl, aA1, aA2, rfl⟩
  obtain ⟨kA, rfl⟩ := Int.eq_ofNat_of_zero_le aA1
  simp only [Int.toNat_natCast]
  have hkA : kA < 4 := by omega
  have hrA := hC.ls hkA
  obtain ⟨fA, eA, -⟩ := id hrA
  have hlA := hrA.len
  refine z_astore_n dCls_rotate_5 (Nat.le_of_ble_eq_true rfl) ?_
  refine z_iload_n dCls_rotate_6 rfl ?_
  refine z_bipush dCls_rotate_7 rfl ?_
  refine z_bipush dCls_rotate_9 rfl ?_
  refine z_callS (bc' := 4) (bs' := 24) MS_Cls_demandWithin lk_Cls_38 dCls_rotate_11 (k_Cls_demandWithin (by omega) (by omega) (by omega)) rfl rfl (Nat.le_of_ble_eq_true rfl)  (Nat.le_of_ble_eq_true rfl) (Nat.le_of_ble_eq_true rfl) (by decide) (by decide) (fun E h9 q9 => z_out rfl (by obtain ⟨rfl, q1, rfl⟩ := q9; exact zXc.mk (by assumption) (by first | exact zFrm.rf | assumption) (by unfold sp_rotate; (try unfold spPut); (try simp only [Int.toNat_natCast]); (repeat (first | rw [if_pos (by omega)] | rw [if_neg (by omega)] | rw [if_pos (by assumption)] | rw [if_neg (by assumption)])); all_goals (first | rfl | (congr 2; omega) | (congr 1; congr 1; omega))))) ?_
  rintro _ _ ⟨rfl, w1, w2, rfl⟩
  refine z_aload_n dCls_rotate_14 rfl ?_
  refine z_iload_n dCls_rotate_15 rfl ?_
  refine z_callVN MV_Row_turnBy lk_Cls_112 dCls_rotate_16 (k_Row_turnBy hrA (by omega)) rfl rfl (Nat.le_of_ble_eq_true rfl) rfl (by assumption) (Nat.le_of_ble_eq_true rfl) (Nat.le_of_ble_eq_true rfl) (Nat.le_of_eq (Nat.zero_add _)) (Nat.le_of_eq (Nat.zero_add _)) (fun _ _ q => q.elim) ?_
  rintro _ h1 ⟨rfl, hr1, f1⟩
  have hC1 := hC.row hkA hr1 f1
  obtain ⟨-, d1, -⟩ := id hC1
  have fz1 : zFrm ad h h1 := zFrm.of2 (i := 8 + 2 * kA) (j := 9 + 2 * kA) (by omega) (by omega) f1
  obtain ⟨fr1, er1, -⟩ := id hr1
  have hl1 := hr1.len
  refine z_aload_n dCls_rotate_19 rfl ?_
  refine z_iload_n dCls_rotate_20 rfl ?_
  refine z_iconst dCls_rotate_21 ?_
  refine z_callV MV_Cls_makeStale lk_Cls_58 dCls_rotate_22 (k_Cls_makeStale (by assumption) (by omega) (by omega)) rfl rfl (Nat.le_of_ble_eq_true rfl) rfl (by assumption) (Nat.le_of_ble_eq_true rfl) (Nat.le_of_ble_eq_true rfl) (Nat.le_of_eq (Nat.zero_add _)) (Nat.le_of_eq (Nat.zero_add _)) (fun _ _ q => q.elim) ?_
  rintro _ h2 ⟨rfl, hC2, gz2⟩
  obtain ⟨-, d2, -⟩ := id hC2
  have fz2 : zFrm ad h h2 := by first | exact fz1.tr gz2 | exact gz2
  have hm2 := hC2.ls hkA
  simp only [zsS_l, zsS_0, zsL_l] at hm2
  obtain ⟨fm2, em2, -⟩ := id hm2
  refine z_aload_n dCls_rotate_25 rfl ?_
  refine z_callS MS_Cls_firstOf lk_Cls_115 dCls_rotate_26 (k_Cls_firstOf hm2) rfl rfl (Nat.le_of_ble_eq_true rfl)  (Nat.le_of_ble_eq_true rfl) (Nat.le_of_ble_eq_true rfl) (Nat.le_of_eq (Nat.zero_add _)) (Nat.le_of_eq (Nat.zero_add _)) (fun _ _ q => q.elim) ?_
  rintro _ _ ⟨rfl, rfl⟩
  refine z_iret rfl rfl dCls_rotate_29 ?_
  first
    | (exfalso; omega)
    | exact zQc.mk (by assumption) (by first | exact zFrm.rf | assumption) (by unfold sp_rotate; (try unfold spPut); (try simp only [Int.toNat_natCast]); (repeat (first | rw [if_pos (by omega)] | rw [if_neg (by omega)] | rw [if_pos (by assumption)] | rw [if_neg (by assumption)])); all_goals (first | rfl | (congr 2; omega) | (congr 1; congr 1; omega)))
theorem k_Cls_move {p f t : Int}  (hC : zCls G h ad S) (z_p : zI32 p) (z_f : zI32 f) (z_t : zI32 t) : zM G l hCls_move yCls_move 9 [.ref (ad 0), zi p, zi f, zi t] h (zQc G ad h (sp_move S p f t)) (zXc G ad h (sp_move S p f t)) 6 36 := by
  obtain ⟨c1, c2, ⟨g3, c3, d3⟩, ⟨g4, c4, d4⟩, c5, ⟨T6, c6, d6⟩, c7, c8, ⟨R9, c9⟩, c10⟩ := id hC
  obtain ⟨f16, e16, -⟩ := id c9
  refine zM.of [some (.ref (ad 0)), some (zi p), some (zi f), some (zi t), none, none] (by decide +kernel) rfl (by decide) rfl (Nat.le_of_ble_eq_true rfl) rfl ?_
  refine z_aload_n dCls_move_0 rfl ?_
  refine z_iload_n dCls_move_1 rfl ?_
  refine z_callV (bc' := 5) (bs' := 30) MV_Cls_listAt lk_Cls_34 dCls_move_2 (k_Cls_listAt (by assumption) (by omega)) rfl rfl (Nat.le_of_ble_eq_true rfl) rfl (by assumption) (Nat.le_of_ble_eq_true rfl) (Nat.le_of_ble_eq_true rfl) (by decide) (by decide) (fun E h9 q9 => z_out rfl (by obtain ⟨rfl, q1, rfl⟩ := q9; exact zXc.mk (by assumption) (by first | exact zFrm.rf | assumption) (by unfold sp_move; (try unfold spPut); (try simp only [Int.toNat_natCast]); (repeat (first | rw [if_pos (by omega)] | rw [if_neg (by omega)] | rw [if_pos (by assumption)] | rw [if_neg (by assumption)])); all_goals (first | rfl | (congr 2; omega) | (congr 1; congr 1; omega))))) ?_
  rintro _ _ ⟨rfl, aA1, aA2, rfl⟩
  obtain ⟨kA, rfl⟩ := Int.eq_ofNat_of_zero_le aA1
  simp only [Int.toNat_natCast]
  have hkA : kA < 4 := by omega
  have hrA := hC.ls hkA
  obtain ⟨fA, eA, -⟩ := id hrA
  have hlA := hrA.len
  refine z_astore dCls_move_5 (Nat.le_of_ble_eq_true rfl) ?_
  refine z_aload dCls_move_7 rfl ?_
  refine z_iload_n dCls_move_9 rfl ?_
  refine z_callS (bc' := 4) (bs' := 24) MS_Cls_demandPlace lk_Cls_74 dCls_move_10 (k_Cls_demandPlace hrA (by omega)) rfl rfl (Nat.le_of_ble_eq_true rfl)  (Nat.le_of_ble_eq_true rfl) (Nat.le_of_ble_eq_true rfl) (by decide) (by decide) (fun E h9 q9 => z_out rfl (by obtain ⟨rfl, q1, rfl⟩ := q9; exact zXc.mk (by assumption) (by first | exact zFrm.rf | assumption) (by unfold sp_move; (try unfold spPut); (try simp only [Int.toNat_natCast]); (repeat (first | rw [if_pos (by omega)] | rw [if_neg (by omega)] | rw [if_pos (by assumption)] | rw [if_neg (by assumption)])); all_goals (first | rfl | (congr 2; omega) | (congr 1; congr 1; omega))))) ?_
  rintro _ _ ⟨rfl, v1, v2, rfl⟩
  refine z_aload dCls_move_13 rfl ?_
  refine z_iload_n dCls_move_15 rfl ?_
  refine z_callS (bc' := 3) (bs' := 18) MS_Cls_demandPlace lk_Cls_74 dCls_move_16 (k_Cls_demandPlace hrA (by omega)) rfl rfl (Nat.le_of_ble_eq_true rfl)  (Nat.le_of_ble_eq_true rfl) (Nat.le_of_ble_eq_true rfl) (by decide) (by decide) (fun E h9 q9 => z_out rfl (by obtain ⟨rfl, q1, rfl⟩ := q9; exact zXc.mk (by assumption) (by first | exact zFrm.rf | assumption) (by unfold sp_move; (try unfold spPut); (try simp only [Int.toNat_natCast]); (repeat (first | rw [if_pos (by omega)] | rw [if_neg (by omega)] | rw [if_pos (by assumption)] | rw [if_neg (by assumption)])); all_goals (first | rfl | (congr 2; omega) | (congr 1; congr 1; omega))))) ?_
  rintro _ _ ⟨rfl, v1b, v2b, rfl⟩
  refine z_aload dCls_move_19 rfl ?_
  refine z_iload_n dCls_move_21 rfl ?_
  refine z_callVN MV_Row_takeOut lk_Cls_88 dCls_move_22 (k_Row_takeOut hrA (by omega)) rfl rfl (Nat.le_of_ble_eq_true rfl) rfl (by assumption) (Nat.le_of_ble_eq_true rfl) (Nat.le_of_ble_eq_true rfl) (Nat.le_of_eq (Nat.zero_add _)) (Nat.le_of_eq (Nat.zero_add _)) (fun _ _ q => q.elim) ?_
  rintro _ h1 (⟨rfl, m1, m2, hr1, f1⟩ | ⟨rfl, m1, rfl⟩)
  rotate_left
  · exact absurd ⟨v1, v2⟩ m1
  obtain ⟨fr1, er1, -⟩ := id hr1
  have hzd := zDel_len (S.1 kA) f
  have hit := hrA.item (j := f.toNat) (by omega)
  refine z_istore dCls_move_25 (Nat.le_of_ble_eq_true rfl) ?_
  refine z_aload dCls_move_27 rfl ?_
  refine z_iload_n dCls_move_29 rfl ?_
  refine z_iload dCls_move_30 rfl ?_
  refine z_callVN MV_Row_putIn lk_Cls_119 dCls_move_32 (k_Row_putIn hr1 (by omega) hit) rfl rfl (Nat.le_of_ble_eq_true rfl) rfl (by assumption) (Nat.le_of_ble_eq_true rfl) (Nat.le_of_ble_eq_true rfl) (Nat.le_of_eq (Nat.zero_add _)) (Nat.le_of_eq (Nat.zero_add _)) (fun _ _ q => q.elim) ?_
  rintro _ h2 (⟨rfl, m3, m4, m5, hr2, f2⟩ | ⟨rfl, m3, rfl⟩)
  rotate_left
  · exact absurd (by omega) m3
  have f3 : ∀ q, q ≠ ad (8 + 2 * kA) → q ≠ ad (9 + 2 * kA) → h2 q = h q := fun q x y => (f2 q x y).trans (f1 q x y)
  have hC2 := hC.row hkA hr2 f3
  obtain ⟨-, d2, -⟩ := id hC2
  have fz2 : zFrm ad h h2 := zFrm.of2 (i := 8 + 2 * kA) (j := 9 + 2 * kA) (by omega) (by omega) f3
  obtain ⟨fr2, er2, -⟩ := id hr2
  have hl2 := hr2.len
  refine z_pop rfl dCls_move_35 ?_
  refine z_aload_n dCls_move_36 rfl ?_
  refine z_iload_n dCls_move_37 rfl ?_
  refine z_iconst dCls_move_38 ?_
  refine z_callV MV_Cls_makeStale lk_Cls_58 dCls_move_39 (k_Cls_makeStale (by assumption) (by omega) (by omega)) rfl rfl (Nat.le_of_ble_eq_true rfl) rfl (by assumption) (Nat.le_of_ble_eq_true rfl) (Nat.le_of_ble_eq_true rfl) (Nat.le_of_eq (Nat.zero_add _)) (Nat.le_of_eq (Nat.zero_add _)) (fun _ _ q => q.elim) ?_
  rintro _ h3 ⟨rfl, hC3, gz3⟩
  obtain ⟨-, d3, -⟩ := id hC3
  have fz3 : zFrm ad h h3 := by first | exact fz2.tr gz3 | exact gz3
  have hm3 := hC3.ls hkA
  simp only [zsS_l, zsS_0, zsL_l] at hm3
  obtain ⟨fm3, em3, -⟩ := id hm3
  refine z_iload dCls_move_42 rfl ?_
  refine z_iret rfl rfl dCls_move_44 ?_
  first
    | (exfalso; omega)
    | exact zQc.mk (by assumption) (by first | exact zFrm.rf | assumption) (by unfold sp_move; (try unfold spPut); (try simp only [Int.toNat_natCast]); (repeat (first | rw [if_pos (by omega)] | rw [if_neg (by omega)] | rw [if_pos (by assumption)] | rw [if_neg (by assumption)])); all_goals (first | rfl | (congr 2; omega) | (congr 1; congr 1; omega)))
theorem k_Cls_swap {p i j : Int}  (hC : zCls G h ad S) (z_p : zI32 p) (z_i : zI32 i) (z_j : zI32 j) : zM G l hCls_swap yCls_swap 9 [.ref (ad 0), zi p, zi i, zi j] h (zQc G ad h (sp_swap S p i j)) (zXc G ad h (sp_swap S p i j)) 6 36 := by
  obtain ⟨c1, c2, ⟨g3, c3, d3⟩, ⟨g4, c4, d4⟩, c5, ⟨T6, c6, d6⟩, c7, c8, ⟨R9, c9⟩, c10⟩ := id hC
  obtain ⟨f16, e16, -⟩ := id c9
  refine zM.of [some (.ref (ad 0)), some (zi p), some (zi i), some (zi j), none] (by decide +kernel) rfl (by decide) rfl (Nat.le_of_ble_eq_true rfl) rfl ?_
  refine z_aload_n dCls_swap_0 rfl ?_
  refine z_iload_n dCls_swap_1 rfl ?_
  refine z_callV (bc' := 5) (bs' := 30) MV_Cls_listAt lk_Cls_34 dCls_swap_2 (k_Cls_listAt (by assumption) (by omega)) rfl rfl (Nat.le_of_ble_eq_true rfl) rfl (by assumption) (Nat.le_of_ble_eq_true rfl) (Nat.le_of_ble_eq_true rfl) (by decide) (by decide) (fun E h9 q9 => z_out rfl (by obtain ⟨rfl, q1, rfl⟩ := q9; exact zXc.mk (by assumption) (by first | exact zFrm.rf | assumption) (by unfold sp_swap; (try unfold spPut); (try simp only [Int.toNat_natCast]); (repeat (first | rw [if_pos (by omega)] | rw [if_neg (by omega)] | rw [if_pos (by assumption)] | rw [if_neg (by assumption)])); all_goals (first | rfl | (congr 2; omega) | (congr 1; congr 1; omega))))) ?_
  rintro _ _ ⟨rfl, aA1, aA2, rfl⟩
  obtain ⟨kA, rfl⟩ := Int.eq_ofNat_of_zero_le aA1
  simp only [Int.toNat_natCast]
  have hkA : kA < 4 := by omega
  have hrA := hC.ls hkA
  obtain ⟨fA, eA, -⟩ := id hrA
  have hlA := hrA.len
  refine z_astore dCls_swap_5 (Nat.le_of_ble_eq_true rfl) ?_
  refine z_aload dCls_swap_7 rfl ?_
  refine z_iload_n dCls_swap_9 rfl ?_
  refine z_callS (bc' := 4) (bs' := 24) MS_Cls_demandPlace lk_Cls_74 dCls_swap_10 (k_Cls_demandPlace hrA (by omega)) rfl rfl (Nat.le_of_ble_eq_true rfl)  (Nat.le_of_ble_eq_true rfl) (Nat.le_of_ble_eq_true rfl) (by decide) (by decide) (fun E h9 q9 => z_out rfl (by obtain ⟨rfl, q1, rfl⟩ := q9; exact zXc.mk (by assumption) (by first | exact zFrm.rf | assumption) (by unfold sp_swap; (try unfold spPut); (try simp only [Int.toNat_natCast]); (repeat (first | rw [if_pos (by omega)] | rw [if_neg (by omega)] | rw [if_pos (by assumption)] | rw [if_neg (by assumption)])); all_goals (first | rfl | (congr 2; omega) | (congr 1; congr 1; omega))))) ?_
  rintro _ _ ⟨rfl, v1, v2, rfl⟩
  refine z_aload dCls_swap_13 rfl ?_
  refine z_iload_n dCls_swap_15 rfl ?_
  refine z_callS (bc' := 3) (bs' := 18) MS_Cls_demandPlace lk_Cls_74 dCls_swap_16 (k_Cls_demandPlace hrA (by omega)) rfl rfl (Nat.le_of_ble_eq_true rfl)  (Nat.le_of_ble_eq_true rfl) (Nat.le_of_ble_eq_true rfl) (by decide) (by decide) (fun E h9 q9 => z_out rfl (by obtain ⟨rfl, q1, rfl⟩ := q9; exact zXc.mk (by assumption) (by first | exact zFrm.rf | assumption) (by unfold sp_swap; (try unfold spPut); (try simp only [Int.toNat_natCast]); (repeat (first | rw [if_pos (by omega)] | rw [if_neg (by omega)] | rw [if_pos (by assumption)] | rw [if_neg (by assumption)])); all_goals (first | rfl | (congr 2; omega) | (congr 1; congr 1; omega))))) ?_
  rintro _ _ ⟨rfl, v1b, v2b, rfl⟩
  refine z_aload dCls_swap_19 rfl ?_
  refine z_iload_n dCls_swap_21 rfl ?_
  refine z_iload_n dCls_swap_22 rfl ?_
  refine z_callVN MV_Row_exchange lk_Cls_123 dCls_swap_23 (k_Row_exchange hrA (by omega) (by omega)) rfl rfl (Nat.le_of_ble_eq_true rfl) rfl (by assumption) (Nat.le_of_ble_eq_true rfl) (Nat.le_of_ble_eq_true rfl) (Nat.le_of_eq (Nat.zero_add _)) (Nat.le_of_eq (Nat.zero_add _)) (fun _ _ q => q.elim) ?_
  rintro _ h1 ⟨rfl, hr1, f1⟩
  have hC1 := hC.row hkA hr1 f1
  obtain ⟨-, d1, -⟩ := id hC1
  have fz1 : zFrm ad h h1 := zFrm.of2 (i := 8 + 2 * kA) (j := 9 + 2 * kA) (by omega) (by omega) f1
  obtain ⟨fr1, er1, -⟩ := id hr1
  have hl1 := hr1.len
  refine z_aload dCls_swap_26 rfl ?_
  refine z_iload_n dCls_swap_28 rfl ?_
  refine z_callVN MV_Row_itemAt lk_Cls_70 dCls_swap_29 (k_Row_itemAt hr1 (by omega)) rfl rfl (Nat.le_of_ble_eq_true rfl) rfl (by assumption) (Nat.le_of_ble_eq_true rfl) (Nat.le_of_ble_eq_true rfl) (Nat.le_of_eq (Nat.zero_add _)) (Nat.le_of_eq (Nat.zero_add _)) (fun _ _ q => q.elim) ?_
  rintro _ _ ⟨rfl, rfl⟩
  refine z_iret rfl rfl dCls_swap_32 ?_
  first
    | (exfalso; omega)
    | exact zQc.mk (by assumption) (by first | exact zFrm.rf | assumption) (by unfold sp_swap; (try unfold spPut); (try simp only [Int.toNat_natCast]); (repeat (first | rw [if_pos (by omega)] | rw [if_neg (by omega)] | rw [if_pos (by assumption)] | rw [if_neg (by assumption)])); all_goals (first | rfl | (congr 2; omega) | (congr 1; congr 1; omega)))
theorem k_Cls_reverse {p : Int}  (hC : zCls G h ad S) (z_p : zI32 p) : zM G l hCls_reverse yCls_reverse 9 [.ref (ad 0), zi p] h (zQc G ad h (sp_reverse S p)) (zXc G ad h (sp_reverse S p)) 6 36 := by
  obtain ⟨c1, c2, ⟨g3, c3, d3⟩, ⟨g4, c4, d4⟩, c5, ⟨T6, c6, d6⟩, c7, c8, ⟨R9, c9⟩, c10⟩ := id hC
  obtain ⟨f16, e16, -⟩ := id c9
  refine zM.of [some (.ref (ad 0)), some (zi p), none] (by decide +kernel) rfl (by decide) rfl (Nat.le_of_ble_eq_true rfl) rfl ?_
  refine z_aload_n dCls_reverse_0 rfl ?_
  refine z_iload_n dCls_reverse_1 rfl ?_
  refine z_callV (bc' := 5) (bs' := 30) MV_Cls_listAt lk_Cls_34 dCls_reverse_2 (k_Cls_listAt (by assumption) (by omega)) rfl rfl (Nat.le_of_ble_eq_true rfl) rfl (by assumption) (Nat.le_of_ble_eq_true rfl) (Nat.le_of_ble_eq_true rfl) (by decide) (by decide) (fun E h9 q9 => z_out rfl (by obtain ⟨rfl, q1, rfl⟩ := q9; exact zXc.mk (by assumption) (by first | exact zFrm.rf | assumption) (by unfold sp_reverse; (try unfold spPut); (try simp only [Int.toNat_natCast]); (repeat (first | rw [if_pos (by omega)] | rw [if_neg (by omega)] | rw [if_pos (by assumption)] | rw [if_neg (by assumption)])); all_goals (first | rfl | (congr 2; omega) | (congr 1; congr 1; omega))))) ?_
  rintro _ _ ⟨rfl, aA1, aA2, rfl⟩
  obtain ⟨kA, rfl⟩ := Int.eq_ofNat_of_zero_le aA1
  simp only [Int.toNat_natCast]
  have hkA : kA < 4 := by omega
  have hrA := hC.ls hkA
  obtain ⟨fA, eA, -⟩ := id hrA
  have hlA := hrA.len
  refine z_astore_n dCls_reverse_5 (Nat.le_of_ble_eq_true rfl) ?_
  refine z_aload_n dCls_reverse_6 rfl ?_
  refine z_callVN MV_Row_turnRound lk_Cls_126 dCls_reverse_7 (k_Row_turnRound hrA) rfl rfl (Nat.le_of_ble_eq_true rfl) rfl (by assumption) (Nat.le_of_ble_eq_true rfl) (Nat.le_of_ble_eq_true rfl) (Nat.le_of_eq (Nat.zero_add _)) (Nat.le_of_eq (Nat.zero_add _)) (fun _ _ q => q.elim) ?_
  rintro _ h1 ⟨rfl, hr1, f1⟩
  have hC1 := hC.row hkA hr1 f1
  obtain ⟨-, d1, -⟩ := id hC1
  have fz1 : zFrm ad h h1 := zFrm.of2 (i := 8 + 2 * kA) (j := 9 + 2 * kA) (by omega) (by omega) f1
  obtain ⟨fr1, er1, -⟩ := id hr1
  have hl1 := hr1.len
  refine z_aload_n dCls_reverse_10 rfl ?_
  refine z_callS MS_Cls_firstOf lk_Cls_115 dCls_reverse_11 (k_Cls_firstOf hr1) rfl rfl (Nat.le_of_ble_eq_true rfl)  (Nat.le_of_ble_eq_true rfl) (Nat.le_of_ble_eq_true rfl) (Nat.le_of_eq (Nat.zero_add _)) (Nat.le_of_eq (Nat.zero_add _)) (fun _ _ q => q.elim) ?_
  rintro _ _ ⟨rfl, rfl⟩
  refine z_iret rfl rfl dCls_reverse_14 ?_
  first
    | (exfalso; omega)
    | exact zQc.mk (by assumption) (by first | exact zFrm.rf | assumption) (by unfold sp_reverse; (try unfold spPut); (try simp only [Int.toNat_natCast]); (repeat (first | rw [if_pos (by omega)] | rw [if_neg (by omega)] | rw [if_pos (by assumption)] | rw [if_neg (by assumption)])); all_goals (first | rfl | (congr 2; omega) | (congr 1; congr 1; omega)))
theorem k_Cls_through {p m i : Int}  (hC : zCls G h ad S) (z_p : zI32 p) (z_m : zI32 m) (z_i : zI32 i) : zM G l hCls_through yCls_through 9 [.ref (ad 0), zi p, zi m, zi i] h (zQc G ad h (sp_through S p m i)) (zXc G ad h (sp_through S p m i)) 6 36 := by
  obtain ⟨c1, c2, ⟨g3, c3, d3⟩, ⟨g4, c4, d4⟩, c5, ⟨T6, c6, d6⟩, c7, c8, ⟨R9, c9⟩, c10⟩ := id hC
  obtain ⟨f16, e16, -⟩ := id c9
  refine zM.of [some (.ref (ad 0)), some (zi p), some (zi m), some (zi i), none, none] (by decide +kernel) rfl (by decide) rfl (Nat.le_of_ble_eq_true rfl) rfl ?_
  refine z_aload_n dCls_through_0 rfl ?_
  refine z_iload_n dCls_through_1 rfl ?_
  refine z_callV (bc' := 5) (bs' := 30) MV_Cls_listAt lk_Cls_34 dCls_through_2 (k_Cls_listAt (by assumption) (by omega)) rfl rfl (Nat.le_of_ble_eq_true rfl) rfl (by assumption) (Nat.le_of_ble_eq_true rfl) (Nat.le_of_ble_eq_true rfl) (by decide) (by decide) (fun E h9 q9 => z_out rfl (by obtain ⟨rfl, q1, rfl⟩ := q9; exact zXc.mk (by assumption) (by first | exact zFrm.rf | assumption) (by unfold sp_through; (try unfold spPut); (try simp only [Int.toNat_natCast]); (repeat (first | rw [if_pos (by omega)] | rw [if_neg (by omega)] | rw [if_pos (by assumption)] | rw [if_neg (by assumption)])); all_goals (first | rfl | (congr 2; omega) | (congr 1; congr 1; omega))))) ?_
  rintro _ _ ⟨rfl, aA1, aA2, rfl⟩
  obtain ⟨kA, rfl⟩ := Int.eq_ofNat_of_zero_le aA1
  simp only [Int.toNat_natCast]
  have hkA : kA < 4 := by omega
  have hrA := hC.ls hkA
  obtain ⟨fA, eA, -⟩ := id hrA
  have hlA := hrA.len
  refine z_astore dCls_through_5 (Nat.le_of_ble_eq_true rfl) ?_
  refine z_aload_n dCls_through_7 rfl ?_
  refine z_iload_n dCls_through_8 rfl ?_
  refine z_callV (bc' := 4) (bs' := 24) MV_Cls_listAt lk_Cls_34 dCls_through_9 (k_Cls_listAt (by assumption) (by omega)) rfl rfl (Nat.le_of_ble_eq_true rfl) rfl (by assumption) (Nat.le_of_ble_eq_true rfl) (Nat.le_of_ble_eq_true rfl) (by decide) (by decide) (fun E h9 q9 => z_out rfl (by obtain ⟨rfl, q1, rfl⟩ := q9; exact zXc.mk (by assumption) (by first | exact zFrm.rf | assumption) (by unfold sp_through; (try unfold spPut); (try simp only [Int.toNat_natCast]); (repeat (first | rw [if_pos (by omega)] | rw [if_neg (by omega)] | rw [if_pos (by assumption)] | rw [if_neg (by assumption)])); all_goals (first | rfl | (congr 2; omega) | (congr 1; congr 1; omega))))) ?_
  rintro _ _ ⟨rfl, aB1, aB2, rfl⟩
  obtain ⟨kB, rfl⟩ := Int.eq_ofNat_of_zero_le aB1
  simp only [Int.toNat_natCast]
  have hkB : kB < 4 := by omega
  have hrB := hC.ls hkB
  obtain ⟨fB, eB, -⟩ := id hrB
  have hlB := hrB.len
  refine z_astore dCls_through_12 (Nat.le_of_ble_eq_true rfl) ?_
  refine z_aload_n dCls_through_14 rfl ?_
  refine z_iload_n dCls_through_15 rfl ?_
  refine z_callV (bc' := 3) (bs' := 18) MV_Cls_listAt lk_Cls_34 dCls_through_16 (k_Cls_listAt (by assumption) (by omega)) rfl rfl (Nat.le_of_ble_eq_true rfl) rfl (by assumption) (Nat.le_of_ble_eq_true rfl) (Nat.le_of_ble_eq_true rfl) (by decide) (by decide) (fun E h9 q9 => z_out rfl (by obtain ⟨rfl, q1, rfl⟩ := q9; exact zXc.mk (by assumption) (by first | exact zFrm.rf | assumption) (by unfold sp_through; (try unfold spPut); (try simp only [Int.toNat_natCast]); (repeat (first | rw [if_pos (by omega)] | rw [if_neg (by omega)] | rw [if_pos (by assumption)] | rw [if_neg (by assumption)])); all_goals (first | rfl | (congr 2; omega) | (congr 1; congr 1; omega))))) ?_
  rintro _ _ ⟨rfl, aC1, aC2, rfl⟩
  obtain ⟨kC, rfl⟩ := Int.eq_ofNat_of_zero_le aC1
  simp only [Int.toNat_natCast]
  have hkC : kC < 4 := by omega
  have hrC := hC.ls hkC
  obtain ⟨fC, eC, -⟩ := id hrC
  have hlC := hrC.len
  refine z_pop rfl dCls_through_19 ?_
  refine z_aload_n dCls_through_20 rfl ?_
  refine z_iload_n dCls_through_21 rfl ?_
  refine z_aload_n dCls_through_22 rfl ?_
  refine z_get (k := 3) fd_Cls (by decide) fl_Cls_29 dCls_through_23 (by assumption) (by rfl) ?_
  refine z_aload dCls_through_26 rfl ?_
  refine z_aload dCls_through_28 rfl ?_
  refine z_callVN MV_Row_becomeThrough lk_Cls_129 dCls_through_30 (k_Row_becomeThrough c9 hrA hrB (hC.inj (by omega) (by omega) (by omega)) (hC.inj (by omega) (by omega) (by omega)) (hC.inj (by omega) (by omega) (by omega)) (hC.inj (by omega) (by omega) (by omega))) rfl rfl (Nat.le_of_ble_eq_true rfl) rfl (by assumption) (Nat.le_of_ble_eq_true rfl) (Nat.le_of_ble_eq_true rfl) (Nat.le_of_eq (Nat.zero_add _)) (Nat.le_of_eq (Nat.zero_add _)) (fun _ _ q => q.elim) ?_
  rintro _ h1 (⟨rfl, m1, hR1, f1⟩ | ⟨rfl, m1, ⟨L9, hR1⟩, f1⟩)
  · have hC1 := hC.res hR1 f1
    obtain ⟨-, d1, -⟩ := id hC1
    have fz1 : zFrm ad h h1 := zFrm.of2 (i := 16) (j := 17) (by omega) (by omega) f1
    obtain ⟨fr1, er1, -⟩ := id hR1
    refine z_callV (bc' := 2) (bs' := 12) MV_Cls_becomeResult lk_Cls_102 dCls_through_33 (k_Cls_becomeResult (by assumption) (by omega) (by assumption) (by omega)) rfl rfl (Nat.le_of_ble_eq_true rfl) rfl (by assumption) (Nat.le_of_ble_eq_true rfl) (Nat.le_of_ble_eq_true rfl) (by decide) (by decide) (fun _ _ q => q.elim) ?_
    rintro _ h9 ⟨(⟨b0, rfl, hC9⟩ | ⟨b0, rfl, hC9⟩), gz9⟩
    all_goals have fz9 : zFrm ad h h9 := by first | exact fz1.tr gz9 | exact gz9
    · refine z_iret rfl rfl dCls_through_36 ?_
      first
        | (exfalso; omega)
        | exact zQc.mk (by assumption) (by first | exact zFrm.rf | assumption) (by unfold sp_through; (try unfold spPut); (try simp only [Int.toNat_natCast]); (repeat (first | rw [if_pos (by omega)] | rw [if_neg (by omega)] | rw [if_pos (by assumption)] | rw [if_neg (by assumption)])); all_goals (first | rfl | (congr 2; omega) | (congr 1; congr 1; omega)))
    · refine z_iret rfl rfl dCls_through_36 ?_
      first
        | (exfalso; omega)
        | exact zQc.mk (by assumption) (by first | exact zFrm.rf | assumption) (by unfold sp_through; (try unfold spPut); (try simp only [Int.toNat_natCast]); (repeat (first | rw [if_pos (by omega)] | rw [if_neg (by omega)] | rw [if_pos (by assumption)] | rw [if_neg (by assumption)])); all_goals (first | rfl | (congr 2; omega) | (congr 1; congr 1; omega)))
  · have hC1 := hC.res hR1 f1
    obtain ⟨-, d1, -⟩ := id hC1
    have fz1 : zFrm ad h h1 := zFrm.of2 (i := 16) (j := 17) (by omega) (by omega) f1
    obtain ⟨fr1, er1, -⟩ := id hR1
    refine z_callV (bc' := 2) (bs' := 12) MV_Cls_becomeResult lk_Cls_102 dCls_through_33 (k_Cls_becomeResult (by assumption) (by omega) (by assumption) (by omega)) rfl rfl (Nat.le_of_ble_eq_true rfl) rfl (by assumption) (Nat.le_of_ble_eq_true rfl) (Nat.le_of_ble_eq_true rfl) (by decide) (by decide) (fun _ _ q => q.elim) ?_
    rintro _ h9 ⟨(⟨b0, rfl, hC9⟩ | ⟨b0, rfl, hC9⟩), gz9⟩
    all_goals have fz9 : zFrm ad h h9 := by first | exact fz1.tr gz9 | exact gz9
    · refine z_iret rfl rfl dCls_through_36 ?_
      first
        | (exfalso; omega)
        | exact zQc.mk (by assumption) (by first | exact zFrm.rf | assumption) (by unfold sp_through; (try unfold spPut); (try simp only [Int.toNat_natCast]); (repeat (first | rw [if_pos (by omega)] | rw [if_neg (by omega)] | rw [if_pos (by assumption)] | rw [if_neg (by assumption)])); all_goals (first | rfl | (congr 2; omega) | (congr 1; congr 1; omega)))
    · refine z_iret rfl rfl dCls_through_36 ?_
      first
        | (exfalso; omega)
        | exact zQc.mk (by assumption) (by first | exact zFrm.rf | assumption) (by unfold sp_through; (try unfold spPut); (try simp only [Int.toNat_natCast]); (repeat (first | rw [if_pos (by omega)] | rw [if_neg (by omega)] | rw [if_pos (by assumption)] | rw [if_neg (by assumption)])); all_goals (first | rfl | (congr 2; omega) | (congr 1; congr 1; omega)))
theorem k_Cls_areSame {p o : Int}  (hC : zCls G h ad S) (z_p : zI32 p) (z_o : zI32 o) : zM G l hCls_areSame yCls_areSame 9 [.ref (ad 0), zi p, zi o] h (zQc G ad h (sp_areSame S p o)) (zXc G ad h (sp_areSame S p o)) 6 36 := by
  obtain ⟨c1, c2, ⟨g3, c3, d3⟩, ⟨g4, c4, d4⟩, c5, ⟨T6, c6, d6⟩, c7, c8, ⟨R9, c9⟩, c10⟩ := id hC
  obtain ⟨f16, e16, -⟩ := id c9
  refine zM.of [some (.ref (ad 0)), some (zi p), some (zi o)] (by decide +kernel) rfl (by decide) rfl (Nat.le_of_ble_eq_true rfl) rfl ?_
  refine z_aload_n dCls_areSame_0 rfl ?_
  refine z_iload_n dCls_areSame_1 rfl ?_
  refine z_callV (bc' := 5) (bs' := 30) MV_Cls_listAt lk_Cls_34 dCls_areSame_2 (k_Cls_listAt (by assumption) (by omega)) rfl rfl (Nat.le_of_ble_eq_true rfl) rfl (by assumption) (Nat.le_of_ble_eq_true rfl) (Nat.le_of_ble_eq_true rfl) (by decide) (by decide) (fun E h9 q9 => z_out rfl (by obtain ⟨rfl, q1, rfl⟩ := q9; exact zXc.mk (by assumption) (by first | exact zFrm.rf | assumption) (by unfold sp_areSame; (try unfold spPut); (try simp only [Int.toNat_natCast]); (repeat (first | rw [if_pos (by omega)] | rw [if_neg (by omega)] | rw [if_pos (by assumption)] | rw [if_neg (by assumption)])); all_goals (first | rfl | (congr 2; omega) | (congr 1; congr 1; omega))))) ?_
  rintro _ _ ⟨rfl, aA1, aA2, rfl⟩
  obtain ⟨kA, rfl⟩ := Int.eq_ofNat_of_zero_le aA1
  simp only [Int.toNat_natCast]
  have hkA : kA < 4 := by omega
  have hrA := hC.ls hkA
  obtain ⟨fA, eA, -⟩ := id hrA
  have hlA := hrA.len
  refine z_aload_n dCls_areSame_5 rfl ?_
  refine z_iload_n dCls_areSame_6 rfl ?_
  refine z_callV (bc' := 4) (bs' := 24) MV_Cls_listAt lk_Cls_34 dCls_areSame_7 (k_Cls_listAt (by assumption) (by omega)) rfl rfl (Nat.le_of_ble_eq_true rfl) rfl (by assumption) (Nat.le_of_ble_eq_true rfl) (Nat.le_of_ble_eq_true rfl) (by decide) (by decide) (fun E h9 q9 => z_out rfl (by obtain ⟨rfl, q1, rfl⟩ := q9; exact zXc.mk (by assumption) (by first | exact zFrm.rf | assumption) (by unfold sp_areSame; (try unfold spPut); (try simp only [Int.toNat_natCast]); (repeat (first | rw [if_pos (by omega)] | rw [if_neg (by omega)] | rw [if_pos (by assumption)] | rw [if_neg (by assumption)])); all_goals (first | rfl | (congr 2; omega) | (congr 1; congr 1; omega))))) ?_
  rintro _ _ ⟨rfl, aB1, aB2, rfl⟩
  obtain ⟨kB, rfl⟩ := Int.eq_ofNat_of_zero_le aB1
  simp only [Int.toNat_natCast]
  have hkB : kB < 4 := by omega
  have hrB := hC.ls hkB
  obtain ⟨fB, eB, -⟩ := id hrB
  have hlB := hrB.len
  refine z_callVN MV_Row_isAs lk_Cls_133 dCls_areSame_10 (k_Row_isAs hrA hrB) rfl rfl (Nat.le_of_ble_eq_true rfl) rfl (by assumption) (Nat.le_of_ble_eq_true rfl) (Nat.le_of_ble_eq_true rfl) (Nat.le_of_eq (Nat.zero_add _)) (Nat.le_of_eq (Nat.zero_add _)) (fun _ _ q => q.elim) ?_
  rintro _ _ ⟨b9, rfl, hb9, rfl⟩
  refine z_iret rfl (by rcases hb9 with ⟨rfl, -⟩ | ⟨rfl, -⟩ <;> rfl) dCls_areSame_13 ?_
  rcases hb9 with ⟨rfl, m1⟩ | ⟨rfl, m1⟩
  all_goals exact zQc.mk (by assumption) (by first | exact zFrm.rf | assumption) (by unfold sp_areSame; (try unfold spPut); (try simp only [Int.toNat_natCast]); (repeat (first | rw [if_pos (by omega)] | rw [if_neg (by omega)] | rw [if_pos (by assumption)] | rw [if_neg (by assumption)])); all_goals (first | rfl | (congr 2; omega) | (congr 1; congr 1; omega)))
theorem k_Cls_isMirror {p : Int}  (hC : zCls G h ad S) (z_p : zI32 p) : zM G l hCls_isMirror yCls_isMirror 9 [.ref (ad 0), zi p] h (zQc G ad h (sp_isMirror S p)) (zXc G ad h (sp_isMirror S p)) 6 36 := by
  obtain ⟨c1, c2, ⟨g3, c3, d3⟩, ⟨g4, c4, d4⟩, c5, ⟨T6, c6, d6⟩, c7, c8, ⟨R9, c9⟩, c10⟩ := id hC
  obtain ⟨f16, e16, -⟩ := id c9
  refine zM.of [some (.ref (ad 0)), some (zi p), none] (by decide +kernel) rfl (by decide) rfl (Nat.le_of_ble_eq_true rfl) rfl ?_
  refine z_aload_n dCls_isMirror_0 rfl ?_
  refine z_iload_n dCls_isMirror_1 rfl ?_
  refine z_callV (bc' := 5) (bs' := 30) MV_Cls_listAt lk_Cls_34 dCls_isMirror_2 (k_Cls_listAt (by assumption) (by omega)) rfl rfl (Nat.le_of_ble_eq_true rfl) rfl (by assumption) (Nat.le_of_ble_eq_true rfl) (Nat.le_of_ble_eq_true rfl) (by decide) (by decide) (fun E h9 q9 => z_out rfl (by obtain ⟨rfl, q1, rfl⟩ := q9; exact zXc.mk (by assumption) (by first | exact zFrm.rf | assumption) (by unfold sp_isMirror; (try unfold spPut); (try simp only [Int.toNat_natCast]); (repeat (first | rw [if_pos (by omega)] | rw [if_neg (by omega)] | rw [if_pos (by assumption)] | rw [if_neg (by assumption)])); all_goals (first | rfl | (congr 2; omega) | (congr 1; congr 1; omega))))) ?_
  rintro _ _ ⟨rfl, aA1, aA2, rfl⟩
  obtain ⟨kA, rfl⟩ := Int.eq_ofNat_of_zero_le aA1
  simp only [Int.toNat_natCast]
  have hkA : kA < 4 := by omega
  have hrA := hC.ls hkA
  obtain ⟨fA, eA, -⟩ := id hrA
  have hlA := hrA.len
  refine z_astore_n dCls_isMirror_5 (Nat.le_of_ble_eq_true rfl) ?_
  refine z_aload_n dCls_isMirror_6 rfl ?_
  refine z_get (k := 3) fd_Cls (by decide) fl_Cls_29 dCls_isMirror_7 (by assumption) (by rfl) ?_
  refine z_aload_n dCls_isMirror_10 rfl ?_
  refine z_callVN MV_Row_become lk_Cls_105 dCls_isMirror_11 (k_Row_become c9 hrA (hC.inj (by omega) (by omega) (by omega)) (hC.inj (by omega) (by omega) (by omega))) rfl rfl (Nat.le_of_ble_eq_true rfl) rfl (by assumption) (Nat.le_of_ble_eq_true rfl) (Nat.le_of_ble_eq_true rfl) (Nat.le_of_eq (Nat.zero_add _)) (Nat.le_of_eq (Nat.zero_add _)) (fun _ _ q => q.elim) ?_
  rintro _ h1 ⟨rfl, hR1, f1⟩
  have hC1 := hC.res hR1 f1
  obtain ⟨-, d1, -⟩ := id hC1
  have fz1 : zFrm ad h h1 := zFrm.of2 (i := 16) (j := 17) (by omega) (by omega) f1
  obtain ⟨fr1, er1, -⟩ := id hR1
  refine z_aload_n dCls_isMirror_14 rfl ?_
  refine z_get (k := 3) fd_Cls (by decide) fl_Cls_29 dCls_isMirror_15 (by assumption) (by rfl) ?_
  refine z_callVN MV_Row_turnRound lk_Cls_126 dCls_isMirror_18 (k_Row_turnRound hR1) rfl rfl (Nat.le_of_ble_eq_true rfl) rfl (by assumption) (Nat.le_of_ble_eq_true rfl) (Nat.le_of_ble_eq_true rfl) (Nat.le_of_eq (Nat.zero_add _)) (Nat.le_of_eq (Nat.zero_add _)) (fun _ _ q => q.elim) ?_
  rintro _ h2 ⟨rfl, hR2, f2⟩
  have f3 : ∀ q, q ≠ ad 16 → q ≠ ad 17 → h2 q = h q := fun q x y => (f2 q x y).trans (f1 q x y)
  have hrA2 := hrA.kept (f3 _ (hC.inj (by omega) (by omega) (by omega)) (hC.inj (by omega) (by omega) (by omega))) (f3 _ (hC.inj (by omega) (by omega) (by omega)) (hC.inj (by omega) (by omega) (by omega)))
  have hC2 := hC.res hR2 f3
  obtain ⟨-, d2, -⟩ := id hC2
  have fz2 : zFrm ad h h2 := zFrm.of2 (i := 16) (j := 17) (by omega) (by omega) f3
  obtain ⟨fr2, er2, -⟩ := id hR2
  refine z_aload_n dCls_isMirror_21 rfl ?_
  refine z_get (k := 3) fd_Cls (by decide) fl_Cls_29 dCls_isMirror_22 (by assumption) (by rfl) ?_
  refine z_aload_n dCls_isMirror_25 rfl ?_
  refine z_callVN MV_Row_isAs lk_Cls_133 dCls_isMirror_26 (k_Row_isAs hR2 hrA2) rfl rfl (Nat.le_of_ble_eq_true rfl) rfl (by assumption) (Nat.le_of_ble_eq_true rfl) (Nat.le_of_ble_eq_true rfl) (Nat.le_of_eq (Nat.zero_add _)) (Nat.le_of_eq (Nat.zero_add _)) (fun _ _ q => q.elim) ?_
  rintro _ _ ⟨b9, rfl, hb9, rfl⟩
  refine z_iret rfl (by rcases hb9 with ⟨rfl, -⟩ | ⟨rfl, -⟩ <;> rfl) dCls_isMirror_29 ?_
  rcases hb9 with ⟨rfl, m1⟩ | ⟨rfl, m1⟩
  all_goals exact zQc.mk (by assumption) (by first | exact zFrm.rf | assumption) (by unfold sp_isMirror; (try unfold spPut); (try simp only [Int.toNat_natCast]); (repeat (first | rw [if_pos (by omega)] | rw [if_neg (by omega)] | rw [if_pos (by assumption)] | rw [if_neg (by assumption)])); all_goals (first | rfl | (congr 2; omega) | (congr 1; congr 1; omega)))
theorem k_Cls_plus {p o : Int}  (hC : zCls G h ad S) (z_p : zI32 p) (z_o : zI32 o) : zM G l hCls_plus yCls_plus 9 [.ref (ad 0), zi p, zi o] h (zQc G ad h (sp_plus S p o)) (zXc G ad h (sp_plus S p o)) 6 36 := by
  obtain ⟨c1, c2, ⟨g3, c3, d3⟩, ⟨g4, c4, d4⟩, c5, ⟨T6, c6, d6⟩, c7, c8, ⟨R9, c9⟩, c10⟩ := id hC
  obtain ⟨f16, e16, -⟩ := id c9
  refine zM.of [some (.ref (ad 0)), some (zi p), some (zi o)] (by decide +kernel) rfl (by decide) rfl (Nat.le_of_ble_eq_true rfl) rfl ?_
  refine z_aload_n dCls_plus_0 rfl ?_
  refine z_iload_n dCls_plus_1 rfl ?_
  refine z_aload_n dCls_plus_2 rfl ?_
  refine z_get (k := 3) fd_Cls (by decide) fl_Cls_29 dCls_plus_3 (by assumption) (by rfl) ?_
  refine z_aload_n dCls_plus_6 rfl ?_
  refine z_iload_n dCls_plus_7 rfl ?_
  refine z_callV (bc' := 5) (bs' := 30) MV_Cls_listAt lk_Cls_34 dCls_plus_8 (k_Cls_listAt (by assumption) (by omega)) rfl rfl (Nat.le_of_ble_eq_true rfl) rfl (by assumption) (Nat.le_of_ble_eq_true rfl) (Nat.le_of_ble_eq_true rfl) (by decide) (by decide) (fun E h9 q9 => z_out rfl (by obtain ⟨rfl, q1, rfl⟩ := q9; exact zXc.mk (by assumption) (by first | exact zFrm.rf | assumption) (by unfold sp_plus; (try unfold spPut); (try simp only [Int.toNat_natCast]); (repeat (first | rw [if_pos (by omega)] | rw [if_neg (by omega)] | rw [if_pos (by assumption)] | rw [if_neg (by assumption)])); all_goals (first | rfl | (congr 2; omega) | (congr 1; congr 1; omega))))) ?_
  rintro _ _ ⟨rfl, aA1, aA2, rfl⟩
  obtain ⟨kA, rfl⟩ := Int.eq_ofNat_of_zero_le aA1
  simp only [Int.toNat_natCast]
  have hkA : kA < 4 := by omega
  have hrA := hC.ls hkA
  obtain ⟨fA, eA, -⟩ := id hrA
  have hlA := hrA.len
  refine z_aload_n dCls_plus_11 rfl ?_
  refine z_iload_n dCls_plus_12 rfl ?_
  refine z_callV (bc' := 4) (bs' := 24) MV_Cls_listAt lk_Cls_34 dCls_plus_13 (k_Cls_listAt (by assumption) (by omega)) rfl rfl (Nat.le_of_ble_eq_true rfl) rfl (by assumption) (Nat.le_of_ble_eq_true rfl) (Nat.le_of_ble_eq_true rfl) (by decide) (by decide) (fun E h9 q9 => z_out rfl (by obtain ⟨rfl, q1, rfl⟩ := q9; exact zXc.mk (by assumption) (by first | exact zFrm.rf | assumption) (by unfold sp_plus; (try unfold spPut); (try simp only [Int.toNat_natCast]); (repeat (first | rw [if_pos (by omega)] | rw [if_neg (by omega)] | rw [if_pos (by assumption)] | rw [if_neg (by assumption)])); all_goals (first | rfl | (congr 2; omega) | (congr 1; congr 1; omega))))) ?_
  rintro _ _ ⟨rfl, aB1, aB2, rfl⟩
  obtain ⟨kB, rfl⟩ := Int.eq_ofNat_of_zero_le aB1
  simp only [Int.toNat_natCast]
  have hkB : kB < 4 := by omega
  have hrB := hC.ls hkB
  obtain ⟨fB, eB, -⟩ := id hrB
  have hlB := hrB.len
  refine z_callVN MV_Row_becomeSum lk_Cls_200 dCls_plus_16 (k_Row_becomeSum c9 hrA hrB (hC.inj (by omega) (by omega) (by omega)) (hC.inj (by omega) (by omega) (by omega)) (hC.inj (by omega) (by omega) (by omega)) (hC.inj (by omega) (by omega) (by omega))) rfl rfl (Nat.le_of_ble_eq_true rfl) rfl (by assumption) (Nat.le_of_ble_eq_true rfl) (Nat.le_of_ble_eq_true rfl) (Nat.le_of_eq (Nat.zero_add _)) (Nat.le_of_eq (Nat.zero_add _)) (fun _ _ q => q.elim) ?_
  rintro _ h1 (⟨rfl, m1, hR1, f1⟩ | ⟨rfl, m1, ⟨L9, hR1⟩, f1⟩)
  · have hC1 := hC.res hR1 f1
    obtain ⟨-, d1, -⟩ := id hC1
    have fz1 : zFrm ad h h1 := zFrm.of2 (i := 16) (j := 17) (by omega) (by omega) f1
    obtain ⟨fr1, er1, -⟩ := id hR1
    refine z_callV (bc' := 3) (bs' := 18) MV_Cls_becomeResult lk_Cls_102 dCls_plus_19 (k_Cls_becomeResult (by assumption) (by omega) (by assumption) (by omega)) rfl rfl (Nat.le_of_ble_eq_true rfl) rfl (by assumption) (Nat.le_of_ble_eq_true rfl) (Nat.le_of_ble_eq_true rfl) (by decide) (by decide) (fun _ _ q => q.elim) ?_
    rintro _ h9 ⟨(⟨b0, rfl, hC9⟩ | ⟨b0, rfl, hC9⟩), gz9⟩
    all_goals have fz9 : zFrm ad h h9 := by first | exact fz1.tr gz9 | exact gz9
    · refine z_iret rfl rfl dCls_plus_22 ?_
      first
        | (exfalso; omega)
        | exact zQc.mk (by assumption) (by first | exact zFrm.rf | assumption) (by unfold sp_plus; (try unfold spPut); (try simp only [Int.toNat_natCast]); (repeat (first | rw [if_pos (by omega)] | rw [if_neg (by omega)] | rw [if_pos (by assumption)] | rw [if_neg (by assumption)])); all_goals (first | rfl | (congr 2; omega) | (congr 1; congr 1; omega)))
    · refine z_iret rfl rfl dCls_plus_22 ?_
      first
        | (exfalso; omega)
        | exact zQc.mk (by assumption) (by first | exact zFrm.rf | assumption) (by unfold sp_plus; (try unfold spPut); (try simp only [Int.toNat_natCast]); (repeat (first | rw [if_pos (by omega)] | rw [if_neg (by omega)] | rw [if_pos (by assumption)] | rw [if_neg (by assumption)])); all_goals (first | rfl | (congr 2; omega) | (congr 1; congr 1; omega)))
  · have hC1 := hC.res hR1 f1
    obtain ⟨-, d1, -⟩ := id hC1
    have fz1 : zFrm ad h h1 := zFrm.of2 (i := 16) (j := 17) (by omega) (by omega) f1
    obtain ⟨fr1, er1, -⟩ := id hR1
    refine z_callV (bc' := 3) (bs' := 18) MV_Cls_becomeResult lk_Cls_102 dCls_plus_19 (k_Cls_becomeResult (by assumption) (by omega) (by assumption) (by omega)) rfl rfl (Nat.le_of_ble_eq_true rfl) rfl (by assumption) (Nat.le_of_ble_eq_true rfl) (Nat.le_of_ble_eq_true rfl) (by decide) (by decide) (fun _ _ q => q.elim) ?_
    rintro _ h9 ⟨(⟨b0, rfl, hC9⟩ | ⟨b0, rfl, hC9⟩), gz9⟩
    all_goals have fz9 : zFrm ad h h9 := by first | exact fz1.tr gz9 | exact gz9
    · refine z_iret rfl rfl dCls_plus_22 ?_
      first
        | (exfalso; omega)
        | exact zQc.mk (by assumption) (by first | exact zFrm.rf | assumption) (by unfold sp_plus; (try unfold spPut); (try simp only [Int.toNat_natCast]); (repeat (first | rw [if_pos (by omega)] | rw [if_neg (by omega)] | rw [if_pos (by assumption)] | rw [if_neg (by assumption)])); all_goals (first | rfl | (congr 2; omega) | (congr 1; congr 1; omega)))
    · refine z_iret rfl rfl dCls_plus_22 ?_
      first
        | (exfalso; omega)
        | exact zQc.mk (by assumption) (by first | exact zFrm.rf | assumption) (by unfold sp_plus; (try unfold spPut); (try simp only [Int.toNat_natCast]); (repeat (first | rw [if_pos (by omega)] | rw [if_neg (by omega)] | rw [if_pos (by assumption)] | rw [if_neg (by assumption)])); all_goals (first | rfl | (congr 2; omega) | (congr 1; congr 1; omega)))
theorem k_Cls_times {p o : Int}  (hC : zCls G h ad S) (z_p : zI32 p) (z_o : zI32 o) : zM G l hCls_times yCls_times 9 [.ref (ad 0), zi p, zi o] h (zQc G ad h (sp_times S p o)) (zXc G ad h (sp_times S p o)) 6 36 := by
  obtain ⟨c1, c2, ⟨g3, c3, d3⟩, ⟨g4, c4, d4⟩, c5, ⟨T6, c6, d6⟩, c7, c8, ⟨R9, c9⟩, c10⟩ := id hC
  obtain ⟨f16, e16, -⟩ := id c9
  refine zM.of [some (.ref (ad 0)), some (zi p), some (zi o)] (by decide +kernel) rfl (by decide) rfl (Nat.le_of_ble_eq_true rfl) rfl ?_
  refine z_aload_n dCls_times_0 rfl ?_
  refine z_iload_n dCls_times_1 rfl ?_
  refine z_aload_n dCls_times_2 rfl ?_
  refine z_get (k := 3) fd_Cls (by decide) fl_Cls_29 dCls_times_3 (by assumption) (by rfl) ?_
  refine z_aload_n dCls_times_6 rfl ?_
  refine z_iload_n dCls_times_7 rfl ?_
  refine z_callV (bc' := 5) (bs' := 30) MV_Cls_listAt lk_Cls_34 dCls_times_8 (k_Cls_listAt (by assumption) (by omega)) rfl rfl (Nat.le_of_ble_eq_true rfl) rfl (by assumption) (Nat.le_of_ble_eq_true rfl) (Nat.le_of_ble_eq_true rfl) (by decide) (by decide) (fun E h9 q9 => z_out rfl (by obtain ⟨rfl, q1, rfl⟩ := q9; exact zXc.mk (by assumption) (by first | exact zFrm.rf | assumption) (by unfold sp_times; (try unfold spPut); (try simp only [Int.toNat_natCast]); (repeat (first | rw [if_pos (by omega)] | rw [if_neg (by omega)] | rw [if_pos (by assumption)] | rw [if_neg (by assumption)])); all_goals (first | rfl | (congr 2; omega) | (congr 1; congr 1; omega))))) ?_
  rintro _ _ ⟨rfl, aA1, aA2, rfl⟩
  obtain ⟨kA, rfl⟩ := Int.eq_ofNat_of_zero_le aA1
  simp only [Int.toNat_natCast]
  have hkA : kA < 4 := by omega
  have hrA := hC.ls hkA
  obtain ⟨fA, eA, -⟩ := id hrA
  have hlA := hrA.len
  refine z_aload_n dCls_times_11 rfl ?_
  refine z_iload_n dCls_times_12 rfl ?_
  refine z_callV (bc' := 4) (bs' := 24) MV_Cls_listAt lk_Cls_34 dCls_times_13 (k_Cls_listAt (by assumption) (by omega)) rfl rfl (Nat.le_of_ble_eq_true rfl) rfl (by assumption) (Nat.le_of_ble_eq_true rfl) (Nat.le_of_ble_eq_true rfl) (by decide) (by decide) (fun E h9 q9 => z_out rfl (by obtain ⟨rfl, q1, rfl⟩ := q9; exact zXc.mk (by assumption) (by first | exact zFrm.rf | assumption) (by unfold sp_times; (try unfold spPut); (try simp only [Int.toNat_natCast]); (repeat (first | rw [if_pos (by omega)] | rw [if_neg (by omega)] | rw [if_pos (by assumption)] | rw [if_neg (by assumption)])); all_goals (first | rfl | (congr 2; omega) | (congr 1; congr 1; omega))))) ?_
  rintro _ _ ⟨rfl, aB1, aB2, rfl⟩
  obtain ⟨kB, rfl⟩ := Int.eq_ofNat_of_zero_le aB1
  simp only [Int.toNat_natCast]
  have hkB : kB < 4 := by omega
  have hrB := hC.ls hkB
  obtain ⟨fB, eB, -⟩ := id hrB
  have hlB := hrB.len
  refine z_callVN MV_Row_becomeProduct lk_Cls_203 dCls_times_16 (k_Row_becomeProduct c9 hrA hrB (hC.inj (by omega) (by omega) (by omega)) (hC.inj (by omega) (by omega) (by omega)) (hC.inj (by omega) (by omega) (by omega)) (hC.inj (by omega) (by omega) (by omega))) rfl rfl (Nat.le_of_ble_eq_true rfl) rfl (by assumption) (Nat.le_of_ble_eq_true rfl) (Nat.le_of_ble_eq_true rfl) (Nat.le_of_eq (Nat.zero_add _)) (Nat.le_of_eq (Nat.zero_add _)) (fun _ _ q => q.elim) ?_
  rintro _ h1 (⟨rfl, m1, hR1, f1⟩ | ⟨rfl, m1, ⟨L9, hR1⟩, f1⟩)
  · have hC1 := hC.res hR1 f1
    obtain ⟨-, d1, -⟩ := id hC1
    have fz1 : zFrm ad h h1 := zFrm.of2 (i := 16) (j := 17) (by omega) (by omega) f1
    obtain ⟨fr1, er1, -⟩ := id hR1
    refine z_callV (bc' := 3) (bs' := 18) MV_Cls_becomeResult lk_Cls_102 dCls_times_19 (k_Cls_becomeResult (by assumption) (by omega) (by assumption) (by omega)) rfl rfl (Nat.le_of_ble_eq_true rfl) rfl (by assumption) (Nat.le_of_ble_eq_true rfl) (Nat.le_of_ble_eq_true rfl) (by decide) (by decide) (fun _ _ q => q.elim) ?_
    rintro _ h9 ⟨(⟨b0, rfl, hC9⟩ | ⟨b0, rfl, hC9⟩), gz9⟩
    all_goals have fz9 : zFrm ad h h9 := by first | exact fz1.tr gz9 | exact gz9
    · refine z_iret rfl rfl dCls_times_22 ?_
      first
        | (exfalso; omega)
        | exact zQc.mk (by assumption) (by first | exact zFrm.rf | assumption) (by unfold sp_times; (try unfold spPut); (try simp only [Int.toNat_natCast]); (repeat (first | rw [if_pos (by omega)] | rw [if_neg (by omega)] | rw [if_pos (by assumption)] | rw [if_neg (by assumption)])); all_goals (first | rfl | (congr 2; omega) | (congr 1; congr 1; omega)))
    · refine z_iret rfl rfl dCls_times_22 ?_
      first
        | (exfalso; omega)
        | exact zQc.mk (by assumption) (by first | exact zFrm.rf | assumption) (by unfold sp_times; (try unfold spPut); (try simp only [Int.toNat_natCast]); (repeat (first | rw [if_pos (by omega)] | rw [if_neg (by omega)] | rw [if_pos (by assumption)] | rw [if_neg (by assumption)])); all_goals (first | rfl | (congr 2; omega) | (congr 1; congr 1; omega)))
  · have hC1 := hC.res hR1 f1
    obtain ⟨-, d1, -⟩ := id hC1
    have fz1 : zFrm ad h h1 := zFrm.of2 (i := 16) (j := 17) (by omega) (by omega) f1
    obtain ⟨fr1, er1, -⟩ := id hR1
    refine z_callV (bc' := 3) (bs' := 18) MV_Cls_becomeResult lk_Cls_102 dCls_times_19 (k_Cls_becomeResult (by assumption) (by omega) (by assumption) (by omega)) rfl rfl (Nat.le_of_ble_eq_true rfl) rfl (by assumption) (Nat.le_of_ble_eq_true rfl) (Nat.le_of_ble_eq_true rfl) (by decide) (by decide) (fun _ _ q => q.elim) ?_
    rintro _ h9 ⟨(⟨b0, rfl, hC9⟩ | ⟨b0, rfl, hC9⟩), gz9⟩
    all_goals have fz9 : zFrm ad h h9 := by first | exact fz1.tr gz9 | exact gz9
    · refine z_iret rfl rfl dCls_times_22 ?_
      first
        | (exfalso; omega)
        | exact zQc.mk (by assumption) (by first | exact zFrm.rf | assumption) (by unfold sp_times; (try unfold spPut); (try simp only [Int.toNat_natCast]); (repeat (first | rw [if_pos (by omega)] | rw [if_neg (by omega)] | rw [if_pos (by assumption)] | rw [if_neg (by assumption)])); all_goals (first | rfl | (congr 2; omega) | (congr 1; congr 1; omega)))
    · refine z_iret rfl rfl dCls_times_22 ?_
      first
        | (exfalso; omega)
        | exact zQc.mk (by assumption) (by first | exact zFrm.rf | assumption) (by unfold sp_times; (try unfold spPut); (try simp only [Int.toNat_natCast]); (repeat (first | rw [if_pos (by omega)] | rw [if_neg (by omega)] | rw [if_pos (by assumption)] | rw [if_neg (by assumption)])); all_goals (first | rfl | (congr 2; omega) | (congr 1; congr 1; omega)))
theorem k_Cls_derive {p : Int}  (hC : zCls G h ad S) (z_p : zI32 p) : zM G l hCls_derive yCls_derive 9 [.ref (ad 0), zi p] h (zQc G ad h (sp_derive S p)) (zXc G ad h (sp_derive S p)) 6 36 := by
  obtain ⟨c1, c2, ⟨g3, c3, d3⟩, ⟨g4, c4, d4⟩, c5, ⟨T6, c6, d6⟩, c7, c8, ⟨R9, c9⟩, c10⟩ := id hC
  obtain ⟨f16, e16, -⟩ := id c9
  refine zM.of [some (.ref (ad 0)), some (zi p)] (by decide +kernel) rfl (by decide) rfl (Nat.le_of_ble_eq_true rfl) rfl ?_
  refine z_aload_n dCls_derive_0 rfl ?_
  refine z_iload_n dCls_derive_1 rfl ?_
  refine z_aload_n dCls_derive_2 rfl ?_
  refine z_get (k := 3) fd_Cls (by decide) fl_Cls_29 dCls_derive_3 (by assumption) (by rfl) ?_
  refine z_aload_n dCls_derive_6 rfl ?_
  refine z_iload_n dCls_derive_7 rfl ?_
  refine z_callV (bc' := 5) (bs' := 30) MV_Cls_listAt lk_Cls_34 dCls_derive_8 (k_Cls_listAt (by assumption) (by omega)) rfl rfl (Nat.le_of_ble_eq_true rfl) rfl (by assumption) (Nat.le_of_ble_eq_true rfl) (Nat.le_of_ble_eq_true rfl) (by decide) (by decide) (fun E h9 q9 => z_out rfl (by obtain ⟨rfl, q1, rfl⟩ := q9; exact zXc.mk (by assumption) (by first | exact zFrm.rf | assumption) (by unfold sp_derive; (try unfold spPut); (try simp only [Int.toNat_natCast]); (repeat (first | rw [if_pos (by omega)] | rw [if_neg (by omega)] | rw [if_pos (by assumption)] | rw [if_neg (by assumption)])); all_goals (first | rfl | (congr 2; omega) | (congr 1; congr 1; omega))))) ?_
  rintro _ _ ⟨rfl, aA1, aA2, rfl⟩
  obtain ⟨kA, rfl⟩ := Int.eq_ofNat_of_zero_le aA1
  simp only [Int.toNat_natCast]
  have hkA : kA < 4 := by omega
  have hrA := hC.ls hkA
  obtain ⟨fA, eA, -⟩ := id hrA
  have hlA := hrA.len
  refine z_callVN MV_Row_becomeDerived lk_Cls_209 dCls_derive_11 (k_Row_becomeDerived c9 hrA (hC.inj (by omega) (by omega) (by omega)) (hC.inj (by omega) (by omega) (by omega))) rfl rfl (Nat.le_of_ble_eq_true rfl) rfl (by assumption) (Nat.le_of_ble_eq_true rfl) (Nat.le_of_ble_eq_true rfl) (Nat.le_of_eq (Nat.zero_add _)) (Nat.le_of_eq (Nat.zero_add _)) (fun _ _ q => q.elim) ?_
  rintro _ h1 (⟨rfl, m1, hR1, f1⟩ | ⟨rfl, m1, ⟨L9, hR1⟩, f1⟩)
  · have hC1 := hC.res hR1 f1
    obtain ⟨-, d1, -⟩ := id hC1
    have fz1 : zFrm ad h h1 := zFrm.of2 (i := 16) (j := 17) (by omega) (by omega) f1
    obtain ⟨fr1, er1, -⟩ := id hR1
    refine z_callV (bc' := 4) (bs' := 24) MV_Cls_becomeResult lk_Cls_102 dCls_derive_14 (k_Cls_becomeResult (by assumption) (by omega) (by assumption) (by omega)) rfl rfl (Nat.le_of_ble_eq_true rfl) rfl (by assumption) (Nat.le_of_ble_eq_true rfl) (Nat.le_of_ble_eq_true rfl) (by decide) (by decide) (fun _ _ q => q.elim) ?_
    rintro _ h9 ⟨(⟨b0, rfl, hC9⟩ | ⟨b0, rfl, hC9⟩), gz9⟩
    all_goals have fz9 : zFrm ad h h9 := by first | exact fz1.tr gz9 | exact gz9
    · refine z_iret rfl rfl dCls_derive_17 ?_
      first
        | (exfalso; omega)
        | exact zQc.mk (by assumption) (by first | exact zFrm.rf | assumption) (by unfold sp_derive; (try unfold spPut); (try simp only [Int.toNat_natCast]); (repeat (first | rw [if_pos (by omega)] | rw [if_neg (by omega)] | rw [if_pos (by assumption)] | rw [if_neg (by assumption)])); all_goals (first | rfl | (congr 2; omega) | (congr 1; congr 1; omega)))
    · refine z_iret rfl rfl dCls_derive_17 ?_
      first
        | (exfalso; omega)
        | exact zQc.mk (by assumption) (by first | exact zFrm.rf | assumption) (by unfold sp_derive; (try unfold spPut); (try simp only [Int.toNat_natCast]); (repeat (first | rw [if_pos (by omega)] | rw [if_neg (by omega)] | rw [if_pos (by assumption)] | rw [if_neg (by assumption)])); all_goals (first | rfl | (congr 2; omega) | (congr 1; congr 1; omega)))
  · have hC1 := hC.res hR1 f1
    obtain ⟨-, d1, -⟩ := id hC1
    have fz1 : zFrm ad h h1 := zFrm.of2 (i := 16) (j := 17) (by omega) (by omega) f1
    obtain ⟨fr1, er1, -⟩ := id hR1
    refine z_callV (bc' := 4) (bs' := 24) MV_Cls_becomeResult lk_Cls_102 dCls_derive_14 (k_Cls_becomeResult (by assumption) (by omega) (by assumption) (by omega)) rfl rfl (Nat.le_of_ble_eq_true rfl) rfl (by assumption) (Nat.le_of_ble_eq_true rfl) (Nat.le_of_ble_eq_true rfl) (by decide) (by decide) (fun _ _ q => q.elim) ?_
    rintro _ h9 ⟨(⟨b0, rfl, hC9⟩ | ⟨b0, rfl, hC9⟩), gz9⟩
    all_goals have fz9 : zFrm ad h h9 := by first | exact fz1.tr gz9 | exact gz9
    · refine z_iret rfl rfl dCls_derive_17 ?_
      first
        | (exfalso; omega)
        | exact zQc.mk (by assumption) (by first | exact zFrm.rf | assumption) (by unfold sp_derive; (try unfold spPut); (try simp only [Int.toNat_natCast]); (repeat (first | rw [if_pos (by omega)] | rw [if_neg (by omega)] | rw [if_pos (by assumption)] | rw [if_neg (by assumption)])); all_goals (first | rfl | (congr 2; omega) | (congr 1; congr 1; omega)))
    · refine z_iret rfl rfl dCls_derive_17 ?_
      first
        | (exfalso; omega)
        | exact zQc.mk (by assumption) (by first | exact zFrm.rf | assumption) (by unfold sp_derive; (try unfold spPut); (try simp only [Int.toNat_natCast]); (repeat (first | rw [if_pos (by omega)] | rw [if_neg (by omega)] | rw [if_pos (by assumption)] | rw [if_neg (by assumption)])); all_goals (first | rfl | (congr 2; omega) | (congr 1; congr 1; omega)))
theorem k_Cls_shift {p : Int}  (hC : zCls G h ad S) (z_p : zI32 p) : zM G l hCls_shift yCls_shift 9 [.ref (ad 0), zi p] h (zQc G ad h (sp_shift S p)) (zXc G ad h (sp_shift S p)) 6 36 := by
  obtain ⟨c1, c2, ⟨g3, c3, d3⟩, ⟨g4, c4, d4⟩, c5, ⟨T6, c6, d6⟩, c7, c8, ⟨R9, c9⟩, c10⟩ := id hC
  obtain ⟨f16, e16, -⟩ := id c9
  refine zM.of [some (.ref (ad 0)), some (zi p), none] (by decide +kernel) rfl (by decide) rfl (Nat.le_of_ble_eq_true rfl) rfl ?_
  refine z_aload_n dCls_shift_0 rfl ?_
  refine z_iload_n dCls_shift_1 rfl ?_
  refine z_callV (bc' := 5) (bs' := 30) MV_Cls_listAt lk_Cls_34 dCls_shift_2 (k_Cls_listAt (by assumption) (by omega)) rfl rfl (Nat.le_of_ble_eq_true rfl) rfl (by assumption) (Nat.le_of_ble_eq_true rfl) (Nat.le_of_ble_eq_true rfl) (by decide) (by decide) (fun E h9 q9 => z_out rfl (by obtain ⟨rfl, q1, rfl⟩ := q9; exact zXc.mk (by assumption) (by first | exact zFrm.rf | assumption) (by unfold sp_shift; (try unfold spPut); (try simp only [Int.toNat_natCast]); (repeat (first | rw [if_pos (by omega)] | rw [if_neg (by omega)] | rw [if_pos (by assumption)] | rw [if_neg (by assumption)])); all_goals (first | rfl | (congr 2; omega) | (congr 1; congr 1; omega))))) ?_
  rintro _ _ ⟨rfl, aA1, aA2, rfl⟩
  obtain ⟨kA, rfl⟩ := Int.eq_ofNat_of_zero_le aA1
  simp only [Int.toNat_natCast]
  have hkA : kA < 4 := by omega
  have hrA := hC.ls hkA
  obtain ⟨fA, eA, -⟩ := id hrA
  have hlA := hrA.len
  refine z_astore_n dCls_shift_5 (Nat.le_of_ble_eq_true rfl) ?_
  refine z_aload_n dCls_shift_6 rfl ?_
  refine z_getN (k := 1) fd_Row (by decide) fl_Cls_46 dCls_shift_7 (by assumption) (by rfl) ?_
  refine z_if_le (tgt := 27) dCls_shift_10 (by decide) (by omega) (fun c10 => ?_) (fun c10 => ?_)
  · refine z_aload_n dCls_shift_27 rfl ?_
    refine z_iload_n dCls_shift_28 rfl ?_
    refine z_iconst dCls_shift_29 ?_
    refine z_callV MV_Cls_makeStale lk_Cls_58 dCls_shift_30 (k_Cls_makeStale (by assumption) (by omega) (by omega)) rfl rfl (Nat.le_of_ble_eq_true rfl) rfl (by assumption) (Nat.le_of_ble_eq_true rfl) (Nat.le_of_ble_eq_true rfl) (Nat.le_of_eq (Nat.zero_add _)) (Nat.le_of_eq (Nat.zero_add _)) (fun _ _ q => q.elim) ?_
    rintro _ h2 ⟨rfl, hC2, gz2⟩
    obtain ⟨-, d2, -⟩ := id hC2
    have fz2 : zFrm ad h h2 := by first | exact fz1.tr gz2 | exact gz2
    have hm2 := hC2.ls hkA
    simp only [zsS_l, zsS_0, zsL_l] at hm2
    obtain ⟨fm2, em2, -⟩ := id hm2
    refine z_aload_n dCls_shift_33 rfl ?_
    refine z_getN (k := 1) fd_Row (by decide) fl_Cls_46 dCls_shift_34 (by assumption) (by rfl) ?_
    refine z_iret rfl rfl dCls_shift_37 ?_
    first
      | (exfalso; omega)
      | exact zQc.mk (by assumption) (by first | exact zFrm.rf | assumption) (by unfold sp_shift; (try unfold spPut); (try simp only [Int.toNat_natCast]); (repeat (first | rw [if_pos (by omega)] | rw [if_neg (by omega)] | rw [if_pos (by assumption)] | rw [if_neg (by assumption)])); all_goals (first | rfl | (congr 2; omega) | (congr 1; congr 1; omega)))
  · refine z_aload_n dCls_shift_13 rfl ?_
    refine z_iconst dCls_shift_14 ?_
    refine z_iconst dCls_shift_15 ?_
    refine z_callVN MV_Row_putIn lk_Cls_119 dCls_shift_16 (k_Row_putIn hrA (by omega) (by omega)) rfl rfl (Nat.le_of_ble_eq_true rfl) rfl (by assumption) (Nat.le_of_ble_eq_true rfl) (Nat.le_of_ble_eq_true rfl) (Nat.le_of_eq (Nat.zero_add _)) (Nat.le_of_eq (Nat.zero_add _)) (fun _ _ q => q.elim) ?_
    rintro _ h1 (⟨rfl, m1, m2, m3, hr1, f1⟩ | ⟨rfl, m1, rfl⟩)
    · have hC1 := hC.row hkA hr1 f1
      obtain ⟨-, d1, -⟩ := id hC1
      have fz1 : zFrm ad h h1 := zFrm.of2 (i := 8 + 2 * kA) (j := 9 + 2 * kA) (by omega) (by omega) f1
      obtain ⟨fr1, er1, -⟩ := id hr1
      have hl1 := hr1.len
      refine z_if_ne (tgt := 27) dCls_shift_19 (by decide) (by omega) (fun c19 => ?_) (fun c19 => ?_)
      · refine z_aload_n dCls_shift_27 rfl ?_
        refine z_iload_n dCls_shift_28 rfl ?_
        refine z_iconst dCls_shift_29 ?_
        refine z_callV MV_Cls_makeStale lk_Cls_58 dCls_shift_30 (k_Cls_makeStale (by assumption) (by omega) (by omega)) rfl rfl (Nat.le_of_ble_eq_true rfl) rfl (by assumption) (Nat.le_of_ble_eq_true rfl) (Nat.le_of_ble_eq_true rfl) (Nat.le_of_eq (Nat.zero_add _)) (Nat.le_of_eq (Nat.zero_add _)) (fun _ _ q => q.elim) ?_
        rintro _ h2 ⟨rfl, hC2, gz2⟩
        obtain ⟨-, d2, -⟩ := id hC2
        have fz2 : zFrm ad h h2 := by first | exact fz1.tr gz2 | exact gz2
        have hm2 := hC2.ls hkA
        simp only [zsS_l, zsS_0, zsL_l] at hm2
        obtain ⟨fm2, em2, -⟩ := id hm2
        refine z_aload_n dCls_shift_33 rfl ?_
        refine z_getN (k := 1) fd_Row (by decide) fl_Cls_46 dCls_shift_34 (by assumption) (by rfl) ?_
        refine z_iret rfl rfl dCls_shift_37 ?_
        first
          | (exfalso; omega)
          | exact zQc.mk (by assumption) (by first | exact zFrm.rf | assumption) (by unfold sp_shift; (try unfold spPut); (try simp only [Int.toNat_natCast]); (repeat (first | rw [if_pos (by omega)] | rw [if_neg (by omega)] | rw [if_pos (by assumption)] | rw [if_neg (by assumption)])); all_goals (first | rfl | (congr 2; omega) | (congr 1; congr 1; omega)))
      · refine z_aload_n dCls_shift_22 rfl ?_
        refine z_callV MV_Cls_refuse lk_Cls_54 dCls_shift_23 (k_Cls_refuse (by assumption)) rfl rfl (Nat.le_of_ble_eq_true rfl) rfl (by assumption) (Nat.le_of_ble_eq_true rfl) (Nat.le_of_ble_eq_true rfl) (Nat.le_of_eq (Nat.zero_add _)) (Nat.le_of_eq (Nat.zero_add _)) (fun _ _ q => q.elim) ?_
        rintro _ h9 ⟨rfl, hC9, fz9⟩
        refine z_iret rfl rfl dCls_shift_26 ?_
        first
          | (exfalso; omega)
          | exact zQc.mk (by assumption) (by first | exact zFrm.rf | assumption) (by unfold sp_shift; (try unfold spPut); (try simp only [Int.toNat_natCast]); (repeat (first | rw [if_pos (by omega)] | rw [if_neg (by omega)] | rw [if_pos (by assumption)] | rw [if_neg (by assumption)])); all_goals (first | rfl | (congr 2; omega) | (congr 1; congr 1; omega)))
    · refine z_if_ne (tgt := 27) dCls_shift_19 (by decide) (by omega) (fun c19 => ?_) (fun c19 => ?_)
      · refine z_aload_n dCls_shift_27 rfl ?_
        refine z_iload_n dCls_shift_28 rfl ?_
        refine z_iconst dCls_shift_29 ?_
        refine z_callV MV_Cls_makeStale lk_Cls_58 dCls_shift_30 (k_Cls_makeStale (by assumption) (by omega) (by omega)) rfl rfl (Nat.le_of_ble_eq_true rfl) rfl (by assumption) (Nat.le_of_ble_eq_true rfl) (Nat.le_of_ble_eq_true rfl) (Nat.le_of_eq (Nat.zero_add _)) (Nat.le_of_eq (Nat.zero_add _)) (fun _ _ q => q.elim) ?_
        rintro _ h2 ⟨rfl, hC2, gz2⟩
        obtain ⟨-, d2, -⟩ := id hC2
        have fz2 : zFrm ad h h2 := by first | exact fz1.tr gz2 | exact gz2
        have hm2 := hC2.ls hkA
        simp only [zsS_l, zsS_0, zsL_l] at hm2
        obtain ⟨fm2, em2, -⟩ := id hm2
        refine z_aload_n dCls_shift_33 rfl ?_
        refine z_getN (k := 1) fd_Row (by decide) fl_Cls_46 dCls_shift_34 (by assumption) (by rfl) ?_
        refine z_iret rfl rfl dCls_shift_37 ?_
        first
          | (exfalso; omega)
          | exact zQc.mk (by assumption) (by first | exact zFrm.rf | assumption) (by unfold sp_shift; (try unfold spPut); (try simp only [Int.toNat_natCast]); (repeat (first | rw [if_pos (by omega)] | rw [if_neg (by omega)] | rw [if_pos (by assumption)] | rw [if_neg (by assumption)])); all_goals (first | rfl | (congr 2; omega) | (congr 1; congr 1; omega)))
      · refine z_aload_n dCls_shift_22 rfl ?_
        refine z_callV MV_Cls_refuse lk_Cls_54 dCls_shift_23 (k_Cls_refuse (by assumption)) rfl rfl (Nat.le_of_ble_eq_true rfl) rfl (by assumption) (Nat.le_of_ble_eq_true rfl) (Nat.le_of_ble_eq_true rfl) (Nat.le_of_eq (Nat.zero_add _)) (Nat.le_of_eq (Nat.zero_add _)) (fun _ _ q => q.elim) ?_
        rintro _ h9 ⟨rfl, hC9, fz9⟩
        refine z_iret rfl rfl dCls_shift_26 ?_
        first
          | (exfalso; omega)
          | exact zQc.mk (by assumption) (by first | exact zFrm.rf | assumption) (by unfold sp_shift; (try unfold spPut); (try simp only [Int.toNat_natCast]); (repeat (first | rw [if_pos (by omega)] | rw [if_neg (by omega)] | rw [if_pos (by assumption)] | rw [if_neg (by assumption)])); all_goals (first | rfl | (congr 2; omega) | (congr 1; congr 1; omega)))
theorem k_Cls_trim {p : Int}  (hC : zCls G h ad S) (z_p : zI32 p) : zM G l hCls_trim yCls_trim 9 [.ref (ad 0), zi p] h (zQc G ad h (sp_trim S p)) (zXc G ad h (sp_trim S p)) 6 36 := by
  obtain ⟨c1, c2, ⟨g3, c3, d3⟩, ⟨g4, c4, d4⟩, c5, ⟨T6, c6, d6⟩, c7, c8, ⟨R9, c9⟩, c10⟩ := id hC
  obtain ⟨f16, e16, -⟩ := id c9
  refine zM.of [some (.ref (ad 0)), some (zi p), none, none] (by decide +kernel) rfl (by decide) rfl (Nat.le_of_ble_eq_true rfl) rfl ?_
  refine z_aload_n dCls_trim_0 rfl ?_
  refine z_iload_n dCls_trim_1 rfl ?_
  refine z_callV (bc' := 5) (bs' := 30) MV_Cls_listAt lk_Cls_34 dCls_trim_2 (k_Cls_listAt (by assumption) (by omega)) rfl rfl (Nat.le_of_ble_eq_true rfl) rfl (by assumption) (Nat.le_of_ble_eq_true rfl) (Nat.le_of_ble_eq_true rfl) (by decide) (by decide) (fun E h9 q9 => z_out rfl (by obtain ⟨rfl, q1, rfl⟩ := q9; exact zXc.mk (by assumption) (by first | exact zFrm.rf | assumption) (by unfold sp_trim; (try unfold spPut); (try simp only [Int.toNat_natCast]); (repeat (first | rw [if_pos (by omega)] | rw [if_neg (by omega)] | rw [if_pos (by assumption)] | rw [if_neg (by assumption)])); all_goals (first | rfl | (congr 2; omega) | (congr 1; congr 1; omega))))) ?_
  rintro _ _ ⟨rfl, aA1, aA2, rfl⟩
  obtain ⟨kA, rfl⟩ := Int.eq_ofNat_of_zero_le aA1
  simp only [Int.toNat_natCast]
  have hkA : kA < 4 := by omega
  have hrA := hC.ls hkA
  obtain ⟨fA, eA, -⟩ := id hrA
  have hlA := hrA.len
  refine z_astore_n dCls_trim_5 (Nat.le_of_ble_eq_true rfl) ?_
  refine z_aload_n dCls_trim_6 rfl ?_
  refine z_getN (k := 1) fd_Row (by decide) fl_Cls_46 dCls_trim_7 (by assumption) (by rfl) ?_
  refine z_istore_n dCls_trim_10 (Nat.le_of_ble_eq_true rfl) ?_
  refine z_aload_n dCls_trim_11 rfl ?_
  refine z_aload_n dCls_trim_12 rfl ?_
  refine z_callVN MV_Row_lastNotZero lk_Cls_206 dCls_trim_13 (k_Row_lastNotZero hrA) rfl rfl (Nat.le_of_ble_eq_true rfl) rfl (by assumption) (Nat.le_of_ble_eq_true rfl) (Nat.le_of_ble_eq_true rfl) (Nat.le_of_eq (Nat.zero_add _)) (Nat.le_of_eq (Nat.zero_add _)) (fun _ _ q => q.elim) ?_
  rintro _ _ ⟨rfl, rfl⟩
  have hz := zLnz_in (S.1 kA)
  have ht : ((S.1 kA).take (zLnz (S.1 kA) + 1).toNat).length = (zLnz (S.1 kA) + 1).toNat := by rw [List.length_take]; omega
  refine z_iconst dCls_trim_16 ?_
  refine z_iadd dCls_trim_17 ?_
  refine z_putN (k := 1) fd_Row (by decide) fl_Cls_46 rfl dCls_trim_18 (by assumption) (by simp) rfl rfl ?_
  refine z_hx (fun h1 p1 g1 => ?_)
  have hr1 := hrA.cut (n := zLnz (S.1 kA) + 1) (by omega) p1 g1
  have f1 : ∀ q, q ≠ ad (8 + 2 * kA) → q ≠ ad (9 + 2 * kA) → h1 q = h q := fun q hq _ => g1 q hq
  have hC1 := hC.row hkA hr1 f1
  obtain ⟨-, d1, -⟩ := id hC1
  have fz1 : zFrm ad h h1 := zFrm.of2 (i := 8 + 2 * kA) (j := 9 + 2 * kA) (by omega) (by omega) f1
  obtain ⟨fr1, er1, -⟩ := id hr1
  have hl1 := hr1.len
  refine z_aload_n dCls_trim_21 rfl ?_
  refine z_iload_n dCls_trim_22 rfl ?_
  refine z_iconst dCls_trim_23 ?_
  refine z_callV MV_Cls_makeStale lk_Cls_58 dCls_trim_24 (k_Cls_makeStale (by assumption) (by omega) (by omega)) rfl rfl (Nat.le_of_ble_eq_true rfl) rfl (by assumption) (Nat.le_of_ble_eq_true rfl) (Nat.le_of_ble_eq_true rfl) (Nat.le_of_eq (Nat.zero_add _)) (Nat.le_of_eq (Nat.zero_add _)) (fun _ _ q => q.elim) ?_
  rintro _ h2 ⟨rfl, hC2, gz2⟩
  obtain ⟨-, d2, -⟩ := id hC2
  have fz2 : zFrm ad h h2 := by first | exact fz1.tr gz2 | exact gz2
  have hm2 := hC2.ls hkA
  simp only [zsS_l, zsS_0, zsL_l] at hm2
  obtain ⟨fm2, em2, -⟩ := id hm2
  refine z_iload_n dCls_trim_27 rfl ?_
  refine z_aload_n dCls_trim_28 rfl ?_
  refine z_getN (k := 1) fd_Row (by decide) fl_Cls_46 dCls_trim_29 (by assumption) (by rfl) ?_
  refine z_isub dCls_trim_32 ?_
  refine z_iret rfl rfl dCls_trim_33 ?_
  first
    | (exfalso; omega)
    | exact zQc.mk (by assumption) (by first | exact zFrm.rf | assumption) (by unfold sp_trim; (try unfold spPut); (try simp only [Int.toNat_natCast]); (repeat (first | rw [if_pos (by omega)] | rw [if_neg (by omega)] | rw [if_pos (by assumption)] | rw [if_neg (by assumption)])); all_goals (first | rfl | (congr 2; omega) | (congr 1; congr 1; omega)))
theorem k_Cls_value {p x : Int}  (hC : zCls G h ad S) (z_p : zI32 p) (z_x : zI32 x) : zM G l hCls_value yCls_value 9 [.ref (ad 0), zi p, zi x] h (zQc G ad h (sp_value S p x)) (zXc G ad h (sp_value S p x)) 6 36 := by
  obtain ⟨c1, c2, ⟨g3, c3, d3⟩, ⟨g4, c4, d4⟩, c5, ⟨T6, c6, d6⟩, c7, c8, ⟨R9, c9⟩, c10⟩ := id hC
  obtain ⟨f16, e16, -⟩ := id c9
  refine zM.of [some (.ref (ad 0)), some (zi p), some (zi x), none] (by decide +kernel) rfl (by decide) rfl (Nat.le_of_ble_eq_true rfl) rfl ?_
  refine z_aload_n dCls_value_0 rfl ?_
  refine z_iload_n dCls_value_1 rfl ?_
  refine z_callV (bc' := 5) (bs' := 30) MV_Cls_listAt lk_Cls_34 dCls_value_2 (k_Cls_listAt (by assumption) (by omega)) rfl rfl (Nat.le_of_ble_eq_true rfl) rfl (by assumption) (Nat.le_of_ble_eq_true rfl) (Nat.le_of_ble_eq_true rfl) (by decide) (by decide) (fun E h9 q9 => z_out rfl (by obtain ⟨rfl, q1, rfl⟩ := q9; exact zXc.mk (by assumption) (by first | exact zFrm.rf | assumption) (by unfold sp_value; (try unfold spPut); (try simp only [Int.toNat_natCast]); (repeat (first | rw [if_pos (by omega)] | rw [if_neg (by omega)] | rw [if_pos (by assumption)] | rw [if_neg (by assumption)])); all_goals (first | rfl | (congr 2; omega) | (congr 1; congr 1; omega))))) ?_
  rintro _ _ ⟨rfl, aA1, aA2, rfl⟩
  obtain ⟨kA, rfl⟩ := Int.eq_ofNat_of_zero_le aA1
  simp only [Int.toNat_natCast]
  have hkA : kA < 4 := by omega
  have hrA := hC.ls hkA
  obtain ⟨fA, eA, -⟩ := id hrA
  have hlA := hrA.len
  refine z_astore_n dCls_value_5 (Nat.le_of_ble_eq_true rfl) ?_
  refine z_iload_n dCls_value_6 rfl ?_
  refine z_bipush dCls_value_7 rfl ?_
  refine z_bipush dCls_value_9 rfl ?_
  refine z_callS (bc' := 4) (bs' := 24) MS_Cls_demandWithin lk_Cls_38 dCls_value_11 (k_Cls_demandWithin (by omega) (by omega) (by omega)) rfl rfl (Nat.le_of_ble_eq_true rfl)  (Nat.le_of_ble_eq_true rfl) (Nat.le_of_ble_eq_true rfl) (by decide) (by decide) (fun E h9 q9 => z_out rfl (by obtain ⟨rfl, q1, rfl⟩ := q9; exact zXc.mk (by assumption) (by first | exact zFrm.rf | assumption) (by unfold sp_value; (try unfold spPut); (try simp only [Int.toNat_natCast]); (repeat (first | rw [if_pos (by omega)] | rw [if_neg (by omega)] | rw [if_pos (by assumption)] | rw [if_neg (by assumption)])); all_goals (first | rfl | (congr 2; omega) | (congr 1; congr 1; omega))))) ?_
  rintro _ _ ⟨rfl, w1, w2, rfl⟩
  refine z_aload_n dCls_value_14 rfl ?_
  refine z_iload_n dCls_value_15 rfl ?_
  refine z_callVN MV_Row_restAt lk_Cls_212 dCls_value_16 (k_Row_restAt hrA (by omega)) rfl rfl (Nat.le_of_ble_eq_true rfl) rfl (by assumption) (Nat.le_of_ble_eq_true rfl) (Nat.le_of_ble_eq_true rfl) (Nat.le_of_eq (Nat.zero_add _)) (Nat.le_of_eq (Nat.zero_add _)) (fun _ _ q => q.elim) ?_
  rintro _ _ ⟨rfl, rfl⟩
  refine z_iret rfl rfl dCls_value_19 ?_
  first
    | (exfalso; omega)
    | exact zQc.mk (by assumption) (by first | exact zFrm.rf | assumption) (by unfold sp_value; (try unfold spPut); (try simp only [Int.toNat_natCast]); (repeat (first | rw [if_pos (by omega)] | rw [if_neg (by omega)] | rw [if_pos (by assumption)] | rw [if_neg (by assumption)])); all_goals (first | rfl | (congr 2; omega) | (congr 1; congr 1; omega)))
theorem k_Cls_degree {p : Int}  (hC : zCls G h ad S) (z_p : zI32 p) : zM G l hCls_degree yCls_degree 9 [.ref (ad 0), zi p] h (zQc G ad h (sp_degree S p)) (zXc G ad h (sp_degree S p)) 6 36 := by
  obtain ⟨c1, c2, ⟨g3, c3, d3⟩, ⟨g4, c4, d4⟩, c5, ⟨T6, c6, d6⟩, c7, c8, ⟨R9, c9⟩, c10⟩ := id hC
  obtain ⟨f16, e16, -⟩ := id c9
  refine zM.of [some (.ref (ad 0)), some (zi p)] (by decide +kernel) rfl (by decide) rfl (Nat.le_of_ble_eq_true rfl) rfl ?_
  refine z_aload_n dCls_degree_0 rfl ?_
  refine z_iload_n dCls_degree_1 rfl ?_
  refine z_callV (bc' := 5) (bs' := 30) MV_Cls_listAt lk_Cls_34 dCls_degree_2 (k_Cls_listAt (by assumption) (by omega)) rfl rfl (Nat.le_of_ble_eq_true rfl) rfl (by assumption) (Nat.le_of_ble_eq_true rfl) (Nat.le_of_ble_eq_true rfl) (by decide) (by decide) (fun E h9 q9 => z_out rfl (by obtain ⟨rfl, q1, rfl⟩ := q9; exact zXc.mk (by assumption) (by first | exact zFrm.rf | assumption) (by unfold sp_degree; (try unfold spPut); (try simp only [Int.toNat_natCast]); (repeat (first | rw [if_pos (by omega)] | rw [if_neg (by omega)] | rw [if_pos (by assumption)] | rw [if_neg (by assumption)])); all_goals (first | rfl | (congr 2; omega) | (congr 1; congr 1; omega))))) ?_
  rintro _ _ ⟨rfl, aA1, aA2, rfl⟩
  obtain ⟨kA, rfl⟩ := Int.eq_ofNat_of_zero_le aA1
  simp only [Int.toNat_natCast]
  have hkA : kA < 4 := by omega
  have hrA := hC.ls hkA
  obtain ⟨fA, eA, -⟩ := id hrA
  have hlA := hrA.len
  refine z_callVN MV_Row_lastNotZero lk_Cls_206 dCls_degree_5 (k_Row_lastNotZero hrA) rfl rfl (Nat.le_of_ble_eq_true rfl) rfl (by assumption) (Nat.le_of_ble_eq_true rfl) (Nat.le_of_ble_eq_true rfl) (Nat.le_of_eq (Nat.zero_add _)) (Nat.le_of_eq (Nat.zero_add _)) (fun _ _ q => q.elim) ?_
  rintro _ _ ⟨rfl, rfl⟩
  refine z_iret rfl rfl dCls_degree_8 ?_
  first
    | (exfalso; omega)
    | exact zQc.mk (by assumption) (by first | exact zFrm.rf | assumption) (by unfold sp_degree; (try unfold spPut); (try simp only [Int.toNat_natCast]); (repeat (first | rw [if_pos (by omega)] | rw [if_neg (by omega)] | rw [if_pos (by assumption)] | rw [if_neg (by assumption)])); all_goals (first | rfl | (congr 2; omega) | (congr 1; congr 1; omega)))
end CLS6
end
section
section SPEC7
def zCv (th st li ix la : Int) : Nat → Int
  | 0 => th
  | 1 => st
  | 2 => li
  | 3 => ix
  | _ => la
/-- what holds of every state that is reached -/
def zOk (S : zSt) : Prop := (∀ c, c < 3 → S.2.1 c 0 = 1 → (0 ≤ S.2.1 c 2 ∧ S.2.1 c 2 < 4) ∧ (0 ≤ S.2.1 c 3 ∧ S.2.1 c 3 ≤ 16) ∧ (-1 ≤ S.2.1 c 4 ∧ S.2.1 c 4 ≤ 15) ∧ (S.2.1 c 1 = 0 → S.2.1 c 3 ≤ (S.1 (S.2.1 c 2).toNat).length ∧ S.2.1 c 4 < (S.1 (S.2.1 c 2).toNat).length)) ∧
  (∀ key : Int, 0 ≤ key → key < 8 → 0 ≤ zFind S.2.2.1 key 0) ∧ S.2.2.1.length = 8 ∧ S.2.2.2.1.length ≤ 60 ∧ 0 ≤ S.2.2.2.2 0 ∧ S.2.2.2.2 0 ≤ 8 * (S.2.2.2.1.length : Int)
def sp_open (S : zSt) (c p q : Int) : zRes := if 0 ≤ c ∧ c < 3 then (if 0 ≤ p ∧ p < 4 then (if 0 ≤ q ∧ q ≤ ((S.1 p.toNat).length : Int) then (.inl ((S.1 p.toNat).length - q), zsC S (zup S.2.1 c.toNat (zCv 1 0 p q (-1)))) else (.inr zE1, S)) else (.inr zE1, S)) else (.inr zE1, S)
def sp_shut (S : zSt) (c : Int) : zRes := if 0 ≤ c ∧ c < 3 then (.inl (S.2.1 c.toNat 0), zsC S (zup S.2.1 c.toNat (zCv 0 0 0 0 0))) else (.inr zE1, S)
def sp_forth (S : zSt) (c : Int) : zRes := if 0 ≤ c ∧ c < 3 then (if S.2.1 c.toNat 0 = 1 then (if S.2.1 c.toNat 1 ≠ 0 then spRef S else if 0 ≤ S.2.1 c.toNat 3 ∧ S.2.1 c.toNat 3 < ((S.1 (S.2.1 c.toNat 2).toNat).length : Int) then (.inl (zAt (S.1 (S.2.1 c.toNat 2).toNat) (S.2.1 c.toNat 3)), zsC S (zup S.2.1 c.toNat (zCv (S.2.1 c.toNat 0) (S.2.1 c.toNat 1) (S.2.1 c.toNat 2) (S.2.1 c.toNat 3 + 1) (S.2.1 c.toNat 3)))) else (.inl 10000, S)) else (.inr zE3, S)) else (.inr zE1, S)
def sp_back (S : zSt) (c : Int) : zRes := if 0 ≤ c ∧ c < 3 then (if S.2.1 c.toNat 0 = 1 then (if S.2.1 c.toNat 1 ≠ 0 then spRef S else if 0 ≤ S.2.1 c.toNat 3 - 1 ∧ S.2.1 c.toNat 3 - 1 < ((S.1 (S.2.1 c.toNat 2).toNat).length : Int) then (.inl (zAt (S.1 (S.2.1 c.toNat 2).toNat) (S.2.1 c.toNat 3 - 1)), zsC S (zup S.2.1 c.toNat (zCv (S.2.1 c.toNat 0) (S.2.1 c.toNat 1) (S.2.1 c.toNat 2) (S.2.1 c.toNat 3 - 1) (S.2.1 c.toNat 3 - 1)))) else (.inl 10000, S)) else (.inr zE3, S)) else (.inr zE1, S)
def sp_puts (S : zSt) (c x : Int) : zRes := if 0 ≤ c ∧ c < 3 then (if zIn x then (if S.2.1 c.toNat 0 = 1 then (if S.2.1 c.toNat 1 ≠ 0 then spRef S else if (S.1 (S.2.1 c.toNat 2).toNat).length < 16 ∧ 0 ≤ S.2.1 c.toNat 3 ∧ S.2.1 c.toNat 3 ≤ ((S.1 (S.2.1 c.toNat 2).toNat).length : Int) then (.inl (S.2.1 c.toNat 3 + 1), zsStale (zsC (zsL S (S.2.1 c.toNat 2).toNat (zIns (S.1 (S.2.1 c.toNat 2).toNat) (S.2.1 c.toNat 3) x)) (zup S.2.1 c.toNat (zCv (S.2.1 c.toNat 0) (S.2.1 c.toNat 1) (S.2.1 c.toNat 2) (S.2.1 c.toNat 3 + 1) (-1)))) (S.2.1 c.toNat 2) c) else spRef S) else (.inr zE3, S)) else (.inr zE2, S)) else (.inr zE1, S)
def sp_cuts (S : zSt) (c : Int) : zRes := if 0 ≤ c ∧ c < 3 then (if S.2.1 c.toNat 0 = 1 then (if S.2.1 c.toNat 1 ≠ 0 then spRef S else if S.2.1 c.toNat 4 = -1 then spRef S else (.inl (if S.2.1 c.toNat 4 < S.2.1 c.toNat 3 then S.2.1 c.toNat 3 - 1 else S.2.1 c.toNat 3), zsStale (zsC (zsL S (S.2.1 c.toNat 2).toNat (zDel (S.1 (S.2.1 c.toNat 2).toNat) (S.2.1 c.toNat 4))) (zup S.2.1 c.toNat (zCv (S.2.1 c.toNat 0) (S.2.1 c.toNat 1) (S.2.1 c.toNat 2) (if S.2.1 c.toNat 4 < S.2.1 c.toNat 3 then S.2.1 c.toNat 3 - 1 else S.2.1 c.toNat 3) (-1)))) (S.2.1 c.toNat 2) c)) else (.inr zE3, S)) else (.inr zE1, S)
def sp_changes (S : zSt) (c x : Int) : zRes := if 0 ≤ c ∧ c < 3 then (if zIn x then (if S.2.1 c.toNat 0 = 1 then (if S.2.1 c.toNat 1 ≠ 0 then spRef S else if S.2.1 c.toNat 4 = -1 then spRef S else (.inl (S.2.1 c.toNat 3), zsL S (S.2.1 c.toNat 2).toNat (zSet (S.1 (S.2.1 c.toNat 2).toNat) (S.2.1 c.toNat 4) x))) else (.inr zE3, S)) else (.inr zE2, S)) else (.inr zE1, S)
end SPEC7
section CLS7
variable {G : zG} {l : Launch} {h h' : zHp} {ad : Nat → Nat} {S : zSt}
theorem zCls.cu {c : Nat} {th st li ix la : Int} (hC : zCls G h ad S) (hc : c < 3) (p1 : zCe h' (ad (5 + c)) th st li ix la) (h0 : th = 0 ∨ th = 1) (h1 : st = 0 ∨ st = 1) (h2 : zI32 li) (h3 : zI32 ix) (h4 : zI32 la) (hf : ∀ q, q ≠ ad (5 + c) → h' q = h q) : zCls G h' ad (zsC S (zup S.2.1 c (zCv th st li ix la))) := by
  refine hC.cur hc ⟨st, li, ix, la, ?_, ?_, h1, h2, h3, h4, fun _ => ?_⟩ (fun j hj => zup_ne hj) hf
  · rw [zup_same]; exact p1
  · rw [zup_same]; exact h0
  · rw [zup_same]; exact ⟨rfl, rfl, rfl, rfl⟩
theorem zCls.cu0 {c : Nat} {st li ix la : Int} (hC : zCls G h ad S) (hc : c < 3) (p1 : zCe h' (ad (5 + c)) 0 st li ix la) (h1 : st = 0 ∨ st = 1) (h2 : zI32 li) (h3 : zI32 ix) (h4 : zI32 la) (hf : ∀ q, q ≠ ad (5 + c) → h' q = h q) : zCls G h' ad (zsC S (zup S.2.1 c (zCv 0 0 0 0 0))) := by
  refine hC.cur hc ⟨st, li, ix, la, ?_, ?_, h1, h2, h3, h4, fun e => ?_⟩ (fun j hj => zup_ne hj) hf
  · rw [zup_same]; exact p1
  · rw [zup_same]; exact Or.inl rfl
  · rw [zup_same] at e; exact absurd e (by decide)
theorem zCls.rowcu {k c : Nat} {L : List Int} {th st li ix la : Int} (hC : zCls G h ad S) (hk : k < 4) (hc : c < 3) (hr : zRow G h' (ad (8 + 2 * k)) (ad (9 + 2 * k)) L) (p1 : zCe h' (ad (5 + c)) th st li ix la) (h0 : th = 0 ∨ th = 1) (h1 : st = 0 ∨ st = 1) (h2 : zI32 li) (h3 : zI32 ix) (h4 : zI32 la) (hf : ∀ q, q ≠ ad (5 + c) → q ≠ ad (8 + 2 * k) → q ≠ ad (9 + 2 * k) → h' q = h q) : zCls G h' ad (zsC (zsL S k L) (zup S.2.1 c (zCv th st li ix la))) := by
  have hm : zCls G (zup h' (ad (5 + c)) (h (ad (5 + c)))) ad (zsL S k L) := hC.row hk (hr.kept (zup_ne (hC.inj (by omega) (by omega) (by omega))) (zup_ne (hC.inj (by omega) (by omega) (by omega)))) (fun q a b => by
    by_cases e : q = ad (5 + c)
    · subst e; exact zup_same _ _ _
    · exact (zup_ne e).trans (hf q e a b))
  exact hm.cu hc p1 h0 h1 h2 h3 h4 (fun q hq => (zup_ne hq).symm)
theorem zsSt_but {i : Int} {k : Nat} : (zsStale S i k).2.1 k = S.2.1 k := by
  funext f
  show (if k < 3 ∧ _ then _ else _) = _
  rw [if_neg (fun q => q.2.2.2.2 rfl)]
theorem zsC_at {cu : Nat → Int} {k : Nat} {f : Nat → Nat → Int} : (zsC S (zup f k cu)).2.1 k = cu := zup_same _ _ _
theorem k_Cls_open {c p q : Int}  (hC : zCls G h ad S) (z_c : zI32 c) (z_p : zI32 p) (z_q : zI32 q) : zM G l hCls_open yCls_open 9 [.ref (ad 0), zi c, zi p, zi q] h (zQc G ad h (sp_open S c p q)) (zXc G ad h (sp_open S c p q)) 6 36 := by
  obtain ⟨c1, c2, ⟨g3, c3, d3⟩, ⟨g4, c4, d4⟩, c5, ⟨T6, c6, d6⟩, c7, c8, ⟨R9, c9⟩, c10⟩ := id hC
  obtain ⟨f16, e16, -⟩ := id c9
  refine zM.of [some (.ref (ad 0)), some (zi c), some (zi p), some (zi q), none, none] (by decide +kernel) rfl (by decide) rfl (Nat.le_of_ble_eq_true rfl) rfl ?_
  refine z_aload_n dCls_open_0 rfl ?_
  refine z_iload_n dCls_open_1 rfl ?_
  refine z_callV (bc' := 5) (bs' := 30) MV_Cls_cursorAt lk_Cls_137 dCls_open_2 (k_Cls_cursorAt (by assumption) (by omega)) rfl rfl (Nat.le_of_ble_eq_true rfl) rfl (by assumption) (Nat.le_of_ble_eq_true rfl) (Nat.le_of_ble_eq_true rfl) (by decide) (by decide) (fun E h9 q9 => z_out rfl (by obtain ⟨rfl, q1, rfl⟩ := q9; exact zXc.mk (by assumption) (by first | exact zFrm.rf | assumption) (by unfold sp_open; (try unfold spPut); (try simp only [Int.toNat_natCast]); (repeat (first | rw [if_pos (by omega)] | rw [if_neg (by omega)] | rw [if_pos (by assumption)] | rw [if_neg (by assumption)] | rw [if_pos (True.intro : True)])); all_goals (first | rfl | (congr 2; omega) | (congr 1; congr 1; omega))))) ?_
  rintro _ _ ⟨rfl, aA1, aA2, rfl⟩
  obtain ⟨kA, rfl⟩ := Int.eq_ofNat_of_zero_le aA1
  simp only [Int.toNat_natCast]
  have hkA : kA < 3 := by omega
  have hcA := hC.cs hkA
  obtain ⟨stA, liA, ixA, laA, eA, bA0, bA1, iA2, iA3, iA4, eA7⟩ := id hcA
  refine z_astore dCls_open_5 (Nat.le_of_ble_eq_true rfl) ?_
  refine z_aload_n dCls_open_7 rfl ?_
  refine z_iload_n dCls_open_8 rfl ?_
  refine z_callV (bc' := 4) (bs' := 24) MV_Cls_listAt lk_Cls_34 dCls_open_9 (k_Cls_listAt (by assumption) (by omega)) rfl rfl (Nat.le_of_ble_eq_true rfl) rfl (by assumption) (Nat.le_of_ble_eq_true rfl) (Nat.le_of_ble_eq_true rfl) (by decide) (by decide) (fun E h9 q9 => z_out rfl (by obtain ⟨rfl, q1, rfl⟩ := q9; exact zXc.mk (by assumption) (by first | exact zFrm.rf | assumption) (by unfold sp_open; (try unfold spPut); (try simp only [Int.toNat_natCast]); (repeat (first | rw [if_pos (by omega)] | rw [if_neg (by omega)] | rw [if_pos (by assumption)] | rw [if_neg (by assumption)] | rw [if_pos (True.intro : True)])); all_goals (first | rfl | (congr 2; omega) | (congr 1; congr 1; omega))))) ?_
  rintro _ _ ⟨rfl, aB1, aB2, rfl⟩
  obtain ⟨kB, rfl⟩ := Int.eq_ofNat_of_zero_le aB1
  simp only [Int.toNat_natCast]
  have hkB : kB < 4 := by omega
  have hrB := hC.ls hkB
  obtain ⟨fB, eB, -⟩ := id hrB
  have hlB := hrB.len
  refine z_astore dCls_open_12 (Nat.le_of_ble_eq_true rfl) ?_
  refine z_aload dCls_open_14 rfl ?_
  refine z_iload_n dCls_open_16 rfl ?_
  refine z_callS (bc' := 3) (bs' := 18) MS_Cls_demandGap lk_Cls_81 dCls_open_17 (k_Cls_demandGap hrB (by omega)) rfl rfl (Nat.le_of_ble_eq_true rfl)  (Nat.le_of_ble_eq_true rfl) (Nat.le_of_ble_eq_true rfl) (by decide) (by decide) (fun E h9 q9 => z_out rfl (by obtain ⟨rfl, q1, rfl⟩ := q9; exact zXc.mk (by assumption) (by first | exact zFrm.rf | assumption) (by unfold sp_open; (try unfold spPut); (try simp only [Int.toNat_natCast]); (repeat (first | rw [if_pos (by omega)] | rw [if_neg (by omega)] | rw [if_pos (by assumption)] | rw [if_neg (by assumption)] | rw [if_pos (True.intro : True)])); all_goals (first | rfl | (congr 2; omega) | (congr 1; congr 1; omega))))) ?_
  rintro _ _ ⟨rfl, v1, v2, rfl⟩
  refine z_aload dCls_open_20 rfl ?_
  refine z_iload_n dCls_open_22 rfl ?_
  refine z_iload_n dCls_open_23 rfl ?_
  refine z_callVN MV_Cur_begin lk_Cls_141 dCls_open_24 (k_Cur_begin (show zCe _ _ _ _ _ _ _ from eA)) rfl rfl (Nat.le_of_ble_eq_true rfl) rfl (by assumption) (Nat.le_of_ble_eq_true rfl) (Nat.le_of_ble_eq_true rfl) (Nat.le_of_eq (Nat.zero_add _)) (Nat.le_of_eq (Nat.zero_add _)) (fun _ _ q => q.elim) ?_
  rintro _ h1 ⟨rfl, p1, f1⟩
  have hC1 := hC.cu hkA p1 (Or.inr rfl) (Or.inl rfl) (by omega) (by omega) (by omega) f1
  obtain ⟨-, d1, -⟩ := id hC1
  have fz1 : zFrm ad h h1 := zFrm.of1 (i := 5 + kA) (by omega) f1
  have eB1 := (f1 _ (hC.inj (i := 8 + 2 * kB) (j := 5 + kA) (by omega) (by omega) (by omega))).trans eB
  refine z_aload dCls_open_27 rfl ?_
  refine z_getN (k := 1) fd_Row (by decide) fl_Cls_46 dCls_open_29 (by assumption) (by rfl) ?_
  refine z_iload_n dCls_open_32 rfl ?_
  refine z_isub dCls_open_33 ?_
  refine z_iret rfl rfl dCls_open_34 ?_
  first
    | (exfalso; omega)
    | exact zQc.mk (by assumption) (by first | exact zFrm.rf | assumption) (by unfold sp_open; (try unfold spPut); (try simp only [Int.toNat_natCast]); (repeat (first | rw [if_pos (by omega)] | rw [if_neg (by omega)] | rw [if_pos (by assumption)] | rw [if_neg (by assumption)] | rw [if_pos (True.intro : True)])); all_goals (first | rfl | (congr 2; omega) | (congr 1; congr 1; omega)))
theorem k_Cls_shut {c : Int}  (hC : zCls G h ad S) (z_c : zI32 c) : zM G l hCls_shut yCls_shut 9 [.ref (ad 0), zi c] h (zQc G ad h (sp_shut S c)) (zXc G ad h (sp_shut S c)) 6 36 := by
  obtain ⟨c1, c2, ⟨g3, c3, d3⟩, ⟨g4, c4, d4⟩, c5, ⟨T6, c6, d6⟩, c7, c8, ⟨R9, c9⟩, c10⟩ := id hC
  obtain ⟨f16, e16, -⟩ := id c9
  refine zM.of [some (.ref (ad 0)), some (zi c), none, none] (by decide +kernel) rfl (by decide) rfl (Nat.le_of_ble_eq_true rfl) rfl ?_
  refine z_aload_n dCls_shut_0 rfl ?_
  refine z_iload_n dCls_shut_1 rfl ?_
  refine z_callV (bc' := 5) (bs' := 30) MV_Cls_cursorAt lk_Cls_137 dCls_shut_2 (k_Cls_cursorAt (by assumption) (by omega)) rfl rfl (Nat.le_of_ble_eq_true rfl) rfl (by assumption) (Nat.le_of_ble_eq_true rfl) (Nat.le_of_ble_eq_true rfl) (by decide) (by decide) (fun E h9 q9 => z_out rfl (by obtain ⟨rfl, q1, rfl⟩ := q9; exact zXc.mk (by assumption) (by first | exact zFrm.rf | assumption) (by unfold sp_shut; (try unfold spPut); (try simp only [Int.toNat_natCast]); (repeat (first | rw [if_pos (by omega)] | rw [if_neg (by omega)] | rw [if_pos (by assumption)] | rw [if_neg (by assumption)] | rw [if_pos (True.intro : True)])); all_goals (first | rfl | (congr 2; omega) | (congr 1; congr 1; omega))))) ?_
  rintro _ _ ⟨rfl, aA1, aA2, rfl⟩
  obtain ⟨kA, rfl⟩ := Int.eq_ofNat_of_zero_le aA1
  simp only [Int.toNat_natCast]
  have hkA : kA < 3 := by omega
  have hcA := hC.cs hkA
  obtain ⟨stA, liA, ixA, laA, eA, bA0, bA1, iA2, iA3, iA4, eA7⟩ := id hcA
  refine z_astore_n dCls_shut_5 (Nat.le_of_ble_eq_true rfl) ?_
  refine z_aload_n dCls_shut_6 rfl ?_
  refine z_getN (k := 0) fd_Cur (by decide) fl_Cls_144 dCls_shut_7 (by assumption) (by rfl) ?_
  refine z_istore_n dCls_shut_10 (Nat.le_of_ble_eq_true rfl) ?_
  refine z_aload_n dCls_shut_11 rfl ?_
  refine z_iconst dCls_shut_12 ?_
  refine z_putN (k := 0) fd_Cur (by decide) fl_Cls_144 rfl dCls_shut_13 (by assumption) (by simp) rfl rfl ?_
  refine z_hx (fun h1 p1 f1 => ?_)
  have hC1 := hC.cu0 hkA (show zCe _ _ _ _ _ _ _ from p1) bA1 (by omega) (by omega) (by omega) f1
  have fz1 : zFrm ad h h1 := zFrm.of1 (i := 5 + kA) (by omega) f1
  refine z_iload_n dCls_shut_16 rfl ?_
  refine z_iret rfl (by rcases bA0 with e9 | e9 <;> rw [e9] <;> rfl) dCls_shut_17 ?_
  first
    | (exfalso; omega)
    | exact zQc.mk (by assumption) (by first | exact zFrm.rf | assumption) (by unfold sp_shut; (try unfold spPut); (try simp only [Int.toNat_natCast]); (repeat (first | rw [if_pos (by omega)] | rw [if_neg (by omega)] | rw [if_pos (by assumption)] | rw [if_neg (by assumption)] | rw [if_pos (True.intro : True)])); all_goals (first | rfl | (congr 2; omega) | (congr 1; congr 1; omega)))
theorem k_Cls_forth {c : Int} (hO : zOk S) (hC : zCls G h ad S) (z_c : zI32 c) : zM G l hCls_forth yCls_forth 9 [.ref (ad 0), zi c] h (zQc G ad h (sp_forth S c)) (zXc G ad h (sp_forth S c)) 6 36 := by
  obtain ⟨c1, c2, ⟨g3, c3, d3⟩, ⟨g4, c4, d4⟩, c5, ⟨T6, c6, d6⟩, c7, c8, ⟨R9, c9⟩, c10⟩ := id hC
  obtain ⟨f16, e16, -⟩ := id c9
  refine zM.of [some (.ref (ad 0)), some (zi c), none] (by decide +kernel) rfl (by decide) rfl (Nat.le_of_ble_eq_true rfl) rfl ?_
  refine z_aload_n dCls_forth_0 rfl ?_
  refine z_iload_n dCls_forth_1 rfl ?_
  refine z_callV (bc' := 5) (bs' := 30) MV_Cls_cursorAt lk_Cls_137 dCls_forth_2 (k_Cls_cursorAt (by assumption) (by omega)) rfl rfl (Nat.le_of_ble_eq_true rfl) rfl (by assumption) (Nat.le_of_ble_eq_true rfl) (Nat.le_of_ble_eq_true rfl) (by decide) (by decide) (fun E h9 q9 => z_out rfl (by obtain ⟨rfl, q1, rfl⟩ := q9; exact zXc.mk (by assumption) (by first | exact zFrm.rf | assumption) (by unfold sp_forth; (try unfold spPut); (try simp only [Int.toNat_natCast]); (repeat (first | rw [if_pos (by omega)] | rw [if_neg (by omega)] | rw [if_pos (by assumption)] | rw [if_neg (by assumption)] | rw [if_pos (True.intro : True)])); all_goals (first | rfl | (congr 2; omega) | (congr 1; congr 1; omega))))) ?_
  rintro _ _ ⟨rfl, aA1, aA2, rfl⟩
  obtain ⟨kA, rfl⟩ := Int.eq_ofNat_of_zero_le aA1
  simp only [Int.toNat_natCast]
  have hkA : kA < 3 := by omega
  have hcA := hC.cs hkA
  obtain ⟨stA, liA, ixA, laA, eA, bA0, bA1, iA2, iA3, iA4, eA7⟩ := id hcA
  refine z_astore_n dCls_forth_5 (Nat.le_of_ble_eq_true rfl) ?_
  refine z_aload_n dCls_forth_6 rfl ?_
  refine z_callS (bc' := 4) (bs' := 24) MS_Cls_demandThere lk_Cls_148 dCls_forth_7 (k_Cls_demandThere hcA) rfl rfl (Nat.le_of_ble_eq_true rfl)  (Nat.le_of_ble_eq_true rfl) (Nat.le_of_ble_eq_true rfl) (by decide) (by decide) (fun E h9 q9 => z_out rfl (by obtain ⟨rfl, q1, rfl⟩ := q9; exact zXc.mk (by assumption) (by first | exact zFrm.rf | assumption) (by unfold sp_forth; (try unfold spPut); (try simp only [Int.toNat_natCast]); (repeat (first | rw [if_pos (by omega)] | rw [if_neg (by omega)] | rw [if_pos (by assumption)] | rw [if_neg (by assumption)] | rw [if_pos (True.intro : True)])); all_goals (first | rfl | (congr 2; omega) | (congr 1; congr 1; omega))))) ?_
  rintro _ _ ⟨rfl, tA, rfl⟩
  obtain ⟨rfl, rfl, rfl, rfl⟩ := eA7 tA
  obtain ⟨oA2, oA3, oA4, oA5⟩ := hO.1 kA hkA tA
  refine z_aload_n dCls_forth_10 rfl ?_
  refine z_getN (k := 1) fd_Cur (by decide) fl_Cls_152 dCls_forth_11 (by assumption) (by rfl) ?_
  refine z_if_eq (tgt := 24) dCls_forth_14 (by decide) (by omega) (fun c14 => ?_) (fun c14 => ?_)
  · refine z_aload_n dCls_forth_24 rfl ?_
    refine z_aload_n dCls_forth_25 rfl ?_
    refine z_aload_n dCls_forth_26 rfl ?_
    refine z_callV (bc' := 3) (bs' := 18) MV_Cls_rowUnder lk_Cls_155 dCls_forth_27 (k_Cls_rowUnder (c := 0) (by assumption) hcA tA (by omega)) rfl rfl (Nat.le_of_ble_eq_true rfl) rfl (by assumption) (Nat.le_of_ble_eq_true rfl) (Nat.le_of_ble_eq_true rfl) (by decide) (by decide) (fun _ _ q => q.elim) ?_
    rintro _ _ ⟨rfl, rfl⟩
    have hkU : (S.2.1 kA 2).toNat < 4 := by omega
    have hrU := hC.ls hkU
    obtain ⟨fU, eU, -⟩ := id hrU
    have hlU := hrU.len
    refine z_callVN MV_Cur_stepForth lk_Cls_159 dCls_forth_30 (k_Cur_stepForth (show zCe _ _ _ _ _ _ _ from eA) hrU (hC.inj (by omega) (by omega) (by omega)) (hC.inj (by omega) (by omega) (by omega)) (by omega)) rfl rfl (Nat.le_of_ble_eq_true rfl) rfl (by assumption) (Nat.le_of_ble_eq_true rfl) (Nat.le_of_ble_eq_true rfl) (Nat.le_of_eq (Nat.zero_add _)) (Nat.le_of_eq (Nat.zero_add _)) (fun _ _ q => q.elim) ?_
    rintro _ h1 ⟨(⟨rfl, m1, p1⟩ | ⟨rfl, m1, rfl⟩), f1⟩
    · have hC1 := hC.cu hkA p1 bA0 bA1 (by omega) (by omega) (by omega) f1
      obtain ⟨-, d1, -⟩ := id hC1
      have fz1 : zFrm ad h h1 := zFrm.of1 (i := 5 + kA) (by omega) f1
      refine z_iret rfl rfl dCls_forth_33 ?_
      first
        | (exfalso; omega)
        | exact zQc.mk (by assumption) (by first | exact zFrm.rf | assumption) (by unfold sp_forth; (try unfold spPut); (try simp only [Int.toNat_natCast]); (repeat (first | rw [if_pos (by omega)] | rw [if_neg (by omega)] | rw [if_pos (by assumption)] | rw [if_neg (by assumption)] | rw [if_pos (True.intro : True)])); all_goals (first | rfl | (congr 2; omega) | (congr 1; congr 1; omega)))
    · refine z_iret rfl rfl dCls_forth_33 ?_
      first
        | (exfalso; omega)
        | exact zQc.mk (by assumption) (by first | exact zFrm.rf | assumption) (by unfold sp_forth; (try unfold spPut); (try simp only [Int.toNat_natCast]); (repeat (first | rw [if_pos (by omega)] | rw [if_neg (by omega)] | rw [if_pos (by assumption)] | rw [if_neg (by assumption)] | rw [if_pos (True.intro : True)])); all_goals (first | rfl | (congr 2; omega) | (congr 1; congr 1; omega)))
  · refine z_aload_n dCls_forth_17 rfl ?_
    refine z_callV MV_Cls_refuse lk_Cls_54 dCls_forth_18 (k_Cls_refuse (by assumption)) rfl rfl (Nat.le_of_ble_eq_true rfl) rfl (by assumption) (Nat.le_of_ble_eq_true rfl) (Nat.le_of_ble_eq_true rfl) (Nat.le_of_eq (Nat.zero_add _)) (Nat.le_of_eq (Nat.zero_add _)) (fun _ _ q => q.elim) ?_
    rintro _ h9 ⟨rfl, hC9, fz9⟩
    refine z_goto (tgt := 33) dCls_forth_21 (by decide) ?_
    refine z_iret rfl rfl dCls_forth_33 ?_
    first
      | (exfalso; omega)
      | exact zQc.mk (by assumption) (by first | exact zFrm.rf | assumption) (by unfold sp_forth; (try unfold spPut); (try simp only [Int.toNat_natCast]); (repeat (first | rw [if_pos (by omega)] | rw [if_neg (by omega)] | rw [if_pos (by assumption)] | rw [if_neg (by assumption)] | rw [if_pos (True.intro : True)])); all_goals (first | rfl | (congr 2; omega) | (congr 1; congr 1; omega)))
theorem k_Cls_back {c : Int} (hO : zOk S) (hC : zCls G h ad S) (z_c : zI32 c) : zM G l hCls_back yCls_back 9 [.ref (ad 0), zi c] h (zQc G ad h (sp_back S c)) (zXc G ad h (sp_back S c)) 6 36 := by
  obtain ⟨c1, c2, ⟨g3, c3, d3⟩, ⟨g4, c4, d4⟩, c5, ⟨T6, c6, d6⟩, c7, c8, ⟨R9, c9⟩, c10⟩ := id hC
  obtain ⟨f16, e16, -⟩ := id c9
  refine zM.of [some (.ref (ad 0)), some (zi c), none] (by decide +kernel) rfl (by decide) rfl (Nat.le_of_ble_eq_true rfl) rfl ?_
  refine z_aload_n dCls_back_0 rfl ?_
  refine z_iload_n dCls_back_1 rfl ?_
  refine z_callV (bc' := 5) (bs' := 30) MV_Cls_cursorAt lk_Cls_137 dCls_back_2 (k_Cls_cursorAt (by assumption) (by omega)) rfl rfl (Nat.le_of_ble_eq_true rfl) rfl (by assumption) (Nat.le_of_ble_eq_true rfl) (Nat.le_of_ble_eq_true rfl) (by decide) (by decide) (fun E h9 q9 => z_out rfl (by obtain ⟨rfl, q1, rfl⟩ := q9; exact zXc.mk (by assumption) (by first | exact zFrm.rf | assumption) (by unfold sp_back; (try unfold spPut); (try simp only [Int.toNat_natCast]); (repeat (first | rw [if_pos (by omega)] | rw [if_neg (by omega)] | rw [if_pos (by assumption)] | rw [if_neg (by assumption)] | rw [if_pos (True.intro : True)])); all_goals (first | rfl | (congr 2; omega) | (congr 1; congr 1; omega))))) ?_
  rintro _ _ ⟨rfl, aA1, aA2, rfl⟩
  obtain ⟨kA, rfl⟩ := Int.eq_ofNat_of_zero_le aA1
  simp only [Int.toNat_natCast]
  have hkA : kA < 3 := by omega
  have hcA := hC.cs hkA
  obtain ⟨stA, liA, ixA, laA, eA, bA0, bA1, iA2, iA3, iA4, eA7⟩ := id hcA
  refine z_astore_n dCls_back_5 (Nat.le_of_ble_eq_true rfl) ?_
  refine z_aload_n dCls_back_6 rfl ?_
  refine z_callS (bc' := 4) (bs' := 24) MS_Cls_demandThere lk_Cls_148 dCls_back_7 (k_Cls_demandThere hcA) rfl rfl (Nat.le_of_ble_eq_true rfl)  (Nat.le_of_ble_eq_true rfl) (Nat.le_of_ble_eq_true rfl) (by decide) (by decide) (fun E h9 q9 => z_out rfl (by obtain ⟨rfl, q1, rfl⟩ := q9; exact zXc.mk (by assumption) (by first | exact zFrm.rf | assumption) (by unfold sp_back; (try unfold spPut); (try simp only [Int.toNat_natCast]); (repeat (first | rw [if_pos (by omega)] | rw [if_neg (by omega)] | rw [if_pos (by assumption)] | rw [if_neg (by assumption)] | rw [if_pos (True.intro : True)])); all_goals (first | rfl | (congr 2; omega) | (congr 1; congr 1; omega))))) ?_
  rintro _ _ ⟨rfl, tA, rfl⟩
  obtain ⟨rfl, rfl, rfl, rfl⟩ := eA7 tA
  obtain ⟨oA2, oA3, oA4, oA5⟩ := hO.1 kA hkA tA
  refine z_aload_n dCls_back_10 rfl ?_
  refine z_getN (k := 1) fd_Cur (by decide) fl_Cls_152 dCls_back_11 (by assumption) (by rfl) ?_
  refine z_if_eq (tgt := 24) dCls_back_14 (by decide) (by omega) (fun c14 => ?_) (fun c14 => ?_)
  · refine z_aload_n dCls_back_24 rfl ?_
    refine z_aload_n dCls_back_25 rfl ?_
    refine z_aload_n dCls_back_26 rfl ?_
    refine z_callV (bc' := 3) (bs' := 18) MV_Cls_rowUnder lk_Cls_155 dCls_back_27 (k_Cls_rowUnder (c := 0) (by assumption) hcA tA (by omega)) rfl rfl (Nat.le_of_ble_eq_true rfl) rfl (by assumption) (Nat.le_of_ble_eq_true rfl) (Nat.le_of_ble_eq_true rfl) (by decide) (by decide) (fun _ _ q => q.elim) ?_
    rintro _ _ ⟨rfl, rfl⟩
    have hkU : (S.2.1 kA 2).toNat < 4 := by omega
    have hrU := hC.ls hkU
    obtain ⟨fU, eU, -⟩ := id hrU
    have hlU := hrU.len
    refine z_callVN MV_Cur_stepBack lk_Cls_162 dCls_back_30 (k_Cur_stepBack (show zCe _ _ _ _ _ _ _ from eA) hrU (hC.inj (by omega) (by omega) (by omega)) (hC.inj (by omega) (by omega) (by omega)) (by omega)) rfl rfl (Nat.le_of_ble_eq_true rfl) rfl (by assumption) (Nat.le_of_ble_eq_true rfl) (Nat.le_of_ble_eq_true rfl) (Nat.le_of_eq (Nat.zero_add _)) (Nat.le_of_eq (Nat.zero_add _)) (fun _ _ q => q.elim) ?_
    rintro _ h1 ⟨(⟨rfl, m1, p1⟩ | ⟨rfl, m1, rfl⟩), f1⟩
    · have hC1 := hC.cu hkA p1 bA0 bA1 (by omega) (by omega) (by omega) f1
      obtain ⟨-, d1, -⟩ := id hC1
      have fz1 : zFrm ad h h1 := zFrm.of1 (i := 5 + kA) (by omega) f1
      refine z_iret rfl rfl dCls_back_33 ?_
      first
        | (exfalso; omega)
        | exact zQc.mk (by assumption) (by first | exact zFrm.rf | assumption) (by unfold sp_back; (try unfold spPut); (try simp only [Int.toNat_natCast]); (repeat (first | rw [if_pos (by omega)] | rw [if_neg (by omega)] | rw [if_pos (by assumption)] | rw [if_neg (by assumption)] | rw [if_pos (True.intro : True)])); all_goals (first | rfl | (congr 2; omega) | (congr 1; congr 1; omega)))
    · refine z_iret rfl rfl dCls_back_33 ?_
      first
        | (exfalso; omega)
        | exact zQc.mk (by assumption) (by first | exact zFrm.rf | assumption) (by unfold sp_back; (try unfold spPut); (try simp only [Int.toNat_natCast]); (repeat (first | rw [if_pos (by omega)] | rw [if_neg (by omega)] | rw [if_pos (by assumption)] | rw [if_neg (by assumption)] | rw [if_pos (True.intro : True)])); all_goals (first | rfl | (congr 2; omega) | (congr 1; congr 1; omega)))
  · refine z_aload_n dCls_back_17 rfl ?_
    refine z_callV MV_Cls_refuse lk_Cls_54 dCls_back_18 (k_Cls_refuse (by assumption)) rfl rfl (Nat.le_of_ble_eq_true rfl) rfl (by assumption) (Nat.le_of_ble_eq_true rfl) (Nat.le_of_ble_eq_true rfl) (Nat.le_of_eq (Nat.zero_add _)) (Nat.le_of_eq (Nat.zero_add _)) (fun _ _ q => q.elim) ?_
    rintro _ h9 ⟨rfl, hC9, fz9⟩
    refine z_goto (tgt := 33) dCls_back_21 (by decide) ?_
    refine z_iret rfl rfl dCls_back_33 ?_
    first
      | (exfalso; omega)
      | exact zQc.mk (by assumption) (by first | exact zFrm.rf | assumption) (by unfold sp_back; (try unfold spPut); (try simp only [Int.toNat_natCast]); (repeat (first | rw [if_pos (by omega)] | rw [if_neg (by omega)] | rw [if_pos (by assumption)] | rw [if_neg (by assumption)] | rw [if_pos (True.intro : True)])); all_goals (first | rfl | (congr 2; omega) | (congr 1; congr 1; omega)))
theorem zFrm.of3 {i j k : Nat} (hi : i < 20) (hj : j < 20) (hk : k < 20) (H : ∀ q, q ≠ ad i → q ≠ ad j → q ≠ ad k → h' q = h q) : zFrm ad h h' := fun q hq => H q (hq i hi) (hq j hj) (hq k hk)
theorem k_Cls_puts {c x : Int} (hO : zOk S) (hC : zCls G h ad S) (z_c : zI32 c) (z_x : zI32 x) : zM G l hCls_puts yCls_puts 9 [.ref (ad 0), zi c, zi x] h (zQc G ad h (sp_puts S c x)) (zXc G ad h (sp_puts S c x)) 6 36 := by
  obtain ⟨c1, c2, ⟨g3, c3, d3⟩, ⟨g4, c4, d4⟩, c5, ⟨T6, c6, d6⟩, c7, c8, ⟨R9, c9⟩, c10⟩ := id hC
  obtain ⟨f16, e16, -⟩ := id c9
  refine zM.of [some (.ref (ad 0)), some (zi c), some (zi x), none] (by decide +kernel) rfl (by decide) rfl (Nat.le_of_ble_eq_true rfl) rfl ?_
  refine z_aload_n dCls_puts_0 rfl ?_
  refine z_iload_n dCls_puts_1 rfl ?_
  refine z_callV (bc' := 5) (bs' := 30) MV_Cls_cursorAt lk_Cls_137 dCls_puts_2 (k_Cls_cursorAt (by assumption) (by omega)) rfl rfl (Nat.le_of_ble_eq_true rfl) rfl (by assumption) (Nat.le_of_ble_eq_true rfl) (Nat.le_of_ble_eq_true rfl) (by decide) (by decide) (fun E h9 q9 => z_out rfl (by obtain ⟨rfl, q1, rfl⟩ := q9; exact zXc.mk (by assumption) (by first | exact zFrm.rf | assumption) (by unfold sp_puts; (try unfold spPut); (try simp only [Int.toNat_natCast]); (repeat (first | rw [if_pos (by omega)] | rw [if_neg (by omega)] | rw [if_pos (by assumption)] | rw [if_neg (by assumption)] | rw [if_pos (True.intro : True)])); all_goals (first | rfl | (congr 2; omega) | (congr 1; congr 1; omega))))) ?_
  rintro _ _ ⟨rfl, aA1, aA2, rfl⟩
  obtain ⟨kA, rfl⟩ := Int.eq_ofNat_of_zero_le aA1
  simp only [Int.toNat_natCast]
  have hkA : kA < 3 := by omega
  have hcA := hC.cs hkA
  obtain ⟨stA, liA, ixA, laA, eA, bA0, bA1, iA2, iA3, iA4, eA7⟩ := id hcA
  refine z_astore_n dCls_puts_5 (Nat.le_of_ble_eq_true rfl) ?_
  refine z_iload_n dCls_puts_6 rfl ?_
  refine z_callS (bc' := 4) (bs' := 24) MS_Cls_demandItem lk_Cls_42 dCls_puts_7 (k_Cls_demandItem (by omega)) rfl rfl (Nat.le_of_ble_eq_true rfl)  (Nat.le_of_ble_eq_true rfl) (Nat.le_of_ble_eq_true rfl) (by decide) (by decide) (fun E h9 q9 => z_out rfl (by obtain ⟨rfl, q1, rfl⟩ := q9; exact zXc.mk (by assumption) (by first | exact zFrm.rf | assumption) (by unfold sp_puts; (try unfold spPut); (try simp only [Int.toNat_natCast]); (repeat (first | rw [if_pos (by omega)] | rw [if_neg (by omega)] | rw [if_pos (by assumption)] | rw [if_neg (by assumption)] | rw [if_pos (True.intro : True)])); all_goals (first | rfl | (congr 2; omega) | (congr 1; congr 1; omega))))) ?_
  rintro _ _ ⟨rfl, hx9, rfl⟩
  refine z_aload_n dCls_puts_10 rfl ?_
  refine z_callS (bc' := 3) (bs' := 18) MS_Cls_demandThere lk_Cls_148 dCls_puts_11 (k_Cls_demandThere hcA) rfl rfl (Nat.le_of_ble_eq_true rfl)  (Nat.le_of_ble_eq_true rfl) (Nat.le_of_ble_eq_true rfl) (by decide) (by decide) (fun E h9 q9 => z_out rfl (by obtain ⟨rfl, q1, rfl⟩ := q9; exact zXc.mk (by assumption) (by first | exact zFrm.rf | assumption) (by unfold sp_puts; (try unfold spPut); (try simp only [Int.toNat_natCast]); (repeat (first | rw [if_pos (by omega)] | rw [if_neg (by omega)] | rw [if_pos (by assumption)] | rw [if_neg (by assumption)] | rw [if_pos (True.intro : True)])); all_goals (first | rfl | (congr 2; omega) | (congr 1; congr 1; omega))))) ?_
  rintro _ _ ⟨rfl, tA, rfl⟩
  obtain ⟨rfl, rfl, rfl, rfl⟩ := eA7 tA
  obtain ⟨oA2, oA3, oA4, oA5⟩ := hO.1 kA hkA tA
  refine z_aload_n dCls_puts_14 rfl ?_
  refine z_getN (k := 1) fd_Cur (by decide) fl_Cls_152 dCls_puts_15 (by assumption) (by rfl) ?_
  refine z_if_ne (tgt := 34) dCls_puts_18 (by decide) (by omega) (fun c18 => ?_) (fun c18 => ?_)
  · refine z_aload_n dCls_puts_34 rfl ?_
    refine z_callV MV_Cls_refuse lk_Cls_54 dCls_puts_35 (k_Cls_refuse (by assumption)) rfl rfl (Nat.le_of_ble_eq_true rfl) rfl (by assumption) (Nat.le_of_ble_eq_true rfl) (Nat.le_of_ble_eq_true rfl) (Nat.le_of_eq (Nat.zero_add _)) (Nat.le_of_eq (Nat.zero_add _)) (fun _ _ q => q.elim) ?_
    rintro _ h9 ⟨rfl, hC9, fz9⟩
    refine z_iret rfl rfl dCls_puts_38 ?_
    first
      | (exfalso; omega)
      | exact zQc.mk (by assumption) (by first | exact zFrm.rf | assumption) (by unfold sp_puts; (try unfold spPut); (try simp only [Int.toNat_natCast]); (repeat (first | rw [if_pos (by omega)] | rw [if_neg (by omega)] | rw [if_pos (by assumption)] | rw [if_neg (by assumption)] | rw [if_pos (True.intro : True)])); all_goals (first | rfl | (congr 2; omega) | (congr 1; congr 1; omega)))
  · refine z_aload_n dCls_puts_21 rfl ?_
    refine z_aload_n dCls_puts_22 rfl ?_
    refine z_aload_n dCls_puts_23 rfl ?_
    refine z_callV (bc' := 2) (bs' := 12) MV_Cls_rowUnder lk_Cls_155 dCls_puts_24 (k_Cls_rowUnder (c := 0) (by assumption) hcA tA (by omega)) rfl rfl (Nat.le_of_ble_eq_true rfl) rfl (by assumption) (Nat.le_of_ble_eq_true rfl) (Nat.le_of_ble_eq_true rfl) (by decide) (by decide) (fun _ _ q => q.elim) ?_
    rintro _ _ ⟨rfl, rfl⟩
    have hkU : (S.2.1 kA 2).toNat < 4 := by omega
    have hrU := hC.ls hkU
    obtain ⟨fU, eU, -⟩ := id hrU
    have hlU := hrU.len
    refine z_iload_n dCls_puts_27 rfl ?_
    refine z_callVN MV_Cur_putHere lk_Cls_165 dCls_puts_28 (k_Cur_putHere (show zCe _ _ _ _ _ _ _ from eA) hrU (hC.inj (by omega) (by omega) (by omega)) (hC.inj (by omega) (by omega) (by omega)) (by omega) hx9) rfl rfl (Nat.le_of_ble_eq_true rfl) rfl (by assumption) (Nat.le_of_ble_eq_true rfl) (Nat.le_of_ble_eq_true rfl) (Nat.le_of_eq (Nat.zero_add _)) (Nat.le_of_eq (Nat.zero_add _)) (fun _ _ q => q.elim) ?_
    rintro _ h1 ⟨(⟨rfl, m1, hr1, p1⟩ | ⟨rfl, m1, rfl⟩), f1⟩
    · have hC1 := hC.rowcu hkU hkA hr1 p1 bA0 bA1 (by omega) (by omega) (by omega) f1
      obtain ⟨-, d1, -⟩ := id hC1
      have fz1 : zFrm ad h h1 := zFrm.of3 (i := 5 + kA) (j := 8 + 2 * (S.2.1 kA 2).toNat) (k := 9 + 2 * (S.2.1 kA 2).toNat) (by omega) (by omega) (by omega) f1
      refine z_if_ne (tgt := 39) dCls_puts_31 (by decide) (by omega) (fun c31 => ?_) (fun c31 => ?_)
      · refine z_aload_n dCls_puts_39 rfl ?_
        refine z_aload_n dCls_puts_40 rfl ?_
        refine z_getN (k := 2) fd_Cur (by decide) fl_Cls_169 dCls_puts_41 (by assumption) (by rfl) ?_
        refine z_iload_n dCls_puts_44 rfl ?_
        refine z_callV MV_Cls_makeStale lk_Cls_58 dCls_puts_45 (k_Cls_makeStale (by assumption) (by omega) (by omega)) rfl rfl (Nat.le_of_ble_eq_true rfl) rfl (by assumption) (Nat.le_of_ble_eq_true rfl) (Nat.le_of_ble_eq_true rfl) (Nat.le_of_eq (Nat.zero_add _)) (Nat.le_of_eq (Nat.zero_add _)) (fun _ _ q => q.elim) ?_
        rintro _ h2 ⟨rfl, hC2, gz2⟩
        have fz2 : zFrm ad h h2 := fz1.tr gz2
        have hcM := hC2.cs hkA
        rw [zsSt_but, zsC_at] at hcM
        obtain ⟨stM, liM, ixM, laM, eM, -, -, -, -, -, eM7⟩ := id hcM
        obtain ⟨rfl, rfl, rfl, rfl⟩ := eM7 tA
        refine z_aload_n dCls_puts_48 rfl ?_
        refine z_getN (k := 3) fd_Cur (by decide) fl_Cls_172 dCls_puts_49 (by assumption) (by rfl) ?_
        refine z_iret rfl rfl dCls_puts_52 ?_
        first
          | (exfalso; omega)
          | exact zQc.mk (by assumption) (by first | exact zFrm.rf | assumption) (by unfold sp_puts; (try unfold spPut); (try simp only [Int.toNat_natCast]); (repeat (first | rw [if_pos (by omega)] | rw [if_neg (by omega)] | rw [if_pos (by assumption)] | rw [if_neg (by assumption)] | rw [if_pos (True.intro : True)])); all_goals (first | rfl | (congr 2; omega) | (congr 1; congr 1; omega)))
      · refine z_aload_n dCls_puts_34 rfl ?_
        refine z_callV MV_Cls_refuse lk_Cls_54 dCls_puts_35 (k_Cls_refuse (by assumption)) rfl rfl (Nat.le_of_ble_eq_true rfl) rfl (by assumption) (Nat.le_of_ble_eq_true rfl) (Nat.le_of_ble_eq_true rfl) (Nat.le_of_eq (Nat.zero_add _)) (Nat.le_of_eq (Nat.zero_add _)) (fun _ _ q => q.elim) ?_
        rintro _ h9 ⟨rfl, hC9, fz9⟩
        refine z_iret rfl rfl dCls_puts_38 ?_
        first
          | (exfalso; omega)
          | exact zQc.mk (by assumption) (by first | exact zFrm.rf | assumption) (by unfold sp_puts; (try unfold spPut); (try simp only [Int.toNat_natCast]); (repeat (first | rw [if_pos (by omega)] | rw [if_neg (by omega)] | rw [if_pos (by assumption)] | rw [if_neg (by assumption)] | rw [if_pos (True.intro : True)])); all_goals (first | rfl | (congr 2; omega) | (congr 1; congr 1; omega)))
    · refine z_if_ne (tgt := 39) dCls_puts_31 (by decide) (by omega) (fun c31 => ?_) (fun c31 => ?_)
      · exact absurd rfl c31
      · refine z_aload_n dCls_puts_34 rfl ?_
        refine z_callV MV_Cls_refuse lk_Cls_54 dCls_puts_35 (k_Cls_refuse (by assumption)) rfl rfl (Nat.le_of_ble_eq_true rfl) rfl (by assumption) (Nat.le_of_ble_eq_true rfl) (Nat.le_of_ble_eq_true rfl) (Nat.le_of_eq (Nat.zero_add _)) (Nat.le_of_eq (Nat.zero_add _)) (fun _ _ q => q.elim) ?_
        rintro _ h9 ⟨rfl, hC9, fz9⟩
        refine z_iret rfl rfl dCls_puts_38 ?_
        first
          | (exfalso; omega)
          | exact zQc.mk (by assumption) (by first | exact zFrm.rf | assumption) (by unfold sp_puts; (try unfold spPut); (try simp only [Int.toNat_natCast]); (repeat (first | rw [if_pos (by omega)] | rw [if_neg (by omega)] | rw [if_pos (by assumption)] | rw [if_neg (by assumption)] | rw [if_pos (True.intro : True)])); all_goals (first | rfl | (congr 2; omega) | (congr 1; congr 1; omega)))
theorem k_Cls_cuts {c : Int} (hO : zOk S) (hC : zCls G h ad S) (z_c : zI32 c) : zM G l hCls_cuts yCls_cuts 9 [.ref (ad 0), zi c] h (zQc G ad h (sp_cuts S c)) (zXc G ad h (sp_cuts S c)) 6 36 := by
  obtain ⟨c1, c2, ⟨g3, c3, d3⟩, ⟨g4, c4, d4⟩, c5, ⟨T6, c6, d6⟩, c7, c8, ⟨R9, c9⟩, c10⟩ := id hC
  obtain ⟨f16, e16, -⟩ := id c9
  refine zM.of [some (.ref (ad 0)), some (zi c), none] (by decide +kernel) rfl (by decide) rfl (Nat.le_of_ble_eq_true rfl) rfl ?_
  refine z_aload_n dCls_cuts_0 rfl ?_
  refine z_iload_n dCls_cuts_1 rfl ?_
  refine z_callV (bc' := 5) (bs' := 30) MV_Cls_cursorAt lk_Cls_137 dCls_cuts_2 (k_Cls_cursorAt (by assumption) (by omega)) rfl rfl (Nat.le_of_ble_eq_true rfl) rfl (by assumption) (Nat.le_of_ble_eq_true rfl) (Nat.le_of_ble_eq_true rfl) (by decide) (by decide) (fun E h9 q9 => z_out rfl (by obtain ⟨rfl, q1, rfl⟩ := q9; exact zXc.mk (by assumption) (by first | exact zFrm.rf | assumption) (by unfold sp_cuts; (try unfold spPut); (try simp only [Int.toNat_natCast]); (repeat (first | rw [if_pos (by omega)] | rw [if_neg (by omega)] | rw [if_pos (by assumption)] | rw [if_neg (by assumption)] | rw [if_pos (True.intro : True)])); all_goals (first | rfl | (congr 2; omega) | (congr 1; congr 1; omega))))) ?_
  rintro _ _ ⟨rfl, aA1, aA2, rfl⟩
  obtain ⟨kA, rfl⟩ := Int.eq_ofNat_of_zero_le aA1
  simp only [Int.toNat_natCast]
  have hkA : kA < 3 := by omega
  have hcA := hC.cs hkA
  obtain ⟨stA, liA, ixA, laA, eA, bA0, bA1, iA2, iA3, iA4, eA7⟩ := id hcA
  refine z_astore_n dCls_cuts_5 (Nat.le_of_ble_eq_true rfl) ?_
  refine z_aload_n dCls_cuts_6 rfl ?_
  refine z_callS (bc' := 4) (bs' := 24) MS_Cls_demandThere lk_Cls_148 dCls_cuts_7 (k_Cls_demandThere hcA) rfl rfl (Nat.le_of_ble_eq_true rfl)  (Nat.le_of_ble_eq_true rfl) (Nat.le_of_ble_eq_true rfl) (by decide) (by decide) (fun E h9 q9 => z_out rfl (by obtain ⟨rfl, q1, rfl⟩ := q9; exact zXc.mk (by assumption) (by first | exact zFrm.rf | assumption) (by unfold sp_cuts; (try unfold spPut); (try simp only [Int.toNat_natCast]); (repeat (first | rw [if_pos (by omega)] | rw [if_neg (by omega)] | rw [if_pos (by assumption)] | rw [if_neg (by assumption)] | rw [if_pos (True.intro : True)])); all_goals (first | rfl | (congr 2; omega) | (congr 1; congr 1; omega))))) ?_
  rintro _ _ ⟨rfl, tA, rfl⟩
  obtain ⟨rfl, rfl, rfl, rfl⟩ := eA7 tA
  obtain ⟨oA2, oA3, oA4, oA5⟩ := hO.1 kA hkA tA
  refine z_aload_n dCls_cuts_10 rfl ?_
  refine z_getN (k := 1) fd_Cur (by decide) fl_Cls_152 dCls_cuts_11 (by assumption) (by rfl) ?_
  refine z_if_ne (tgt := 25) dCls_cuts_14 (by decide) (by omega) (fun c14 => ?_) (fun c14 => ?_)
  · refine z_aload_n dCls_cuts_25 rfl ?_
    refine z_callV MV_Cls_refuse lk_Cls_54 dCls_cuts_26 (k_Cls_refuse (by assumption)) rfl rfl (Nat.le_of_ble_eq_true rfl) rfl (by assumption) (Nat.le_of_ble_eq_true rfl) (Nat.le_of_ble_eq_true rfl) (Nat.le_of_eq (Nat.zero_add _)) (Nat.le_of_eq (Nat.zero_add _)) (fun _ _ q => q.elim) ?_
    rintro _ h9 ⟨rfl, hC9, fz9⟩
    refine z_iret rfl rfl dCls_cuts_29 ?_
    first
      | (exfalso; omega)
      | exact zQc.mk (by assumption) (by first | exact zFrm.rf | assumption) (by unfold sp_cuts; (try unfold spPut); (try simp only [Int.toNat_natCast]); (repeat (first | rw [if_pos (by omega)] | rw [if_neg (by omega)] | rw [if_pos (by assumption)] | rw [if_neg (by assumption)] | rw [if_pos (True.intro : True)])); all_goals (first | rfl | (congr 2; omega) | (congr 1; congr 1; omega)))
  · refine z_aload_n dCls_cuts_17 rfl ?_
    refine z_getN (k := 4) fd_Cur (by decide) fl_Cls_175 dCls_cuts_18 (by assumption) (by rfl) ?_
    refine z_iconst dCls_cuts_21 ?_
    refine z_icmp_ne (tgt := 30) dCls_cuts_22 (by decide) (by omega) (by omega) (fun c22 => ?_) (fun c22 => ?_)
    · refine z_aload_n dCls_cuts_30 rfl ?_
      refine z_aload_n dCls_cuts_31 rfl ?_
      refine z_aload_n dCls_cuts_32 rfl ?_
      refine z_callV (bc' := 3) (bs' := 18) MV_Cls_rowUnder lk_Cls_155 dCls_cuts_33 (k_Cls_rowUnder (c := 0) (by assumption) hcA tA (by omega)) rfl rfl (Nat.le_of_ble_eq_true rfl) rfl (by assumption) (Nat.le_of_ble_eq_true rfl) (Nat.le_of_ble_eq_true rfl) (by decide) (by decide) (fun _ _ q => q.elim) ?_
      rintro _ _ ⟨rfl, rfl⟩
      have hkU : (S.2.1 kA 2).toNat < 4 := by omega
      have hrU := hC.ls hkU
      obtain ⟨fU, eU, -⟩ := id hrU
      have hlU := hrU.len
      refine z_callVN MV_Cur_cutLast lk_Cls_178 dCls_cuts_36 (k_Cur_cutLast (show zCe _ _ _ _ _ _ _ from eA) hrU (hC.inj (by omega) (by omega) (by omega)) (hC.inj (by omega) (by omega) (by omega)) (by omega) (by omega)) rfl rfl (Nat.le_of_ble_eq_true rfl) rfl (by assumption) (Nat.le_of_ble_eq_true rfl) (Nat.le_of_ble_eq_true rfl) (Nat.le_of_eq (Nat.zero_add _)) (Nat.le_of_eq (Nat.zero_add _)) (fun _ _ q => q.elim) ?_
      rintro _ h1 ⟨rfl, hr1, p1, f1⟩
      have hC1 := hC.rowcu hkU hkA hr1 p1 bA0 bA1 (by omega) (by split <;> omega) (by omega) f1
      obtain ⟨-, d1, -⟩ := id hC1
      have fz1 : zFrm ad h h1 := zFrm.of3 (i := 5 + kA) (j := 8 + 2 * (S.2.1 kA 2).toNat) (k := 9 + 2 * (S.2.1 kA 2).toNat) (by omega) (by omega) (by omega) f1
      refine z_aload_n dCls_cuts_39 rfl ?_
      refine z_aload_n dCls_cuts_40 rfl ?_
      refine z_getN (k := 2) fd_Cur (by decide) fl_Cls_169 dCls_cuts_41 (by assumption) (by rfl) ?_
      refine z_iload_n dCls_cuts_44 rfl ?_
      refine z_callV MV_Cls_makeStale lk_Cls_58 dCls_cuts_45 (k_Cls_makeStale (by assumption) (by omega) (by omega)) rfl rfl (Nat.le_of_ble_eq_true rfl) rfl (by assumption) (Nat.le_of_ble_eq_true rfl) (Nat.le_of_ble_eq_true rfl) (Nat.le_of_eq (Nat.zero_add _)) (Nat.le_of_eq (Nat.zero_add _)) (fun _ _ q => q.elim) ?_
      rintro _ h2 ⟨rfl, hC2, gz2⟩
      have fz2 : zFrm ad h h2 := fz1.tr gz2
      have hcM := hC2.cs hkA
      rw [zsSt_but, zsC_at] at hcM
      obtain ⟨stM, liM, ixM, laM, eM, -, -, -, -, -, eM7⟩ := id hcM
      obtain ⟨rfl, rfl, rfl, rfl⟩ := eM7 tA
      refine z_aload_n dCls_cuts_48 rfl ?_
      refine z_getN (k := 3) fd_Cur (by decide) fl_Cls_172 dCls_cuts_49 (by assumption) (by rfl) ?_
      refine z_iret rfl rfl dCls_cuts_52 ?_
      first
        | (exfalso; omega)
        | exact zQc.mk (by assumption) (by first | exact zFrm.rf | assumption) (by unfold sp_cuts; (try unfold spPut); (try simp only [Int.toNat_natCast]); (repeat (first | rw [if_pos (by omega)] | rw [if_neg (by omega)] | rw [if_pos (by assumption)] | rw [if_neg (by assumption)] | rw [if_pos (True.intro : True)])); all_goals (first | rfl | (congr 2; omega) | (congr 1; congr 1; omega)))
    · refine z_aload_n dCls_cuts_25 rfl ?_
      refine z_callV MV_Cls_refuse lk_Cls_54 dCls_cuts_26 (k_Cls_refuse (by assumption)) rfl rfl (Nat.le_of_ble_eq_true rfl) rfl (by assumption) (Nat.le_of_ble_eq_true rfl) (Nat.le_of_ble_eq_true rfl) (Nat.le_of_eq (Nat.zero_add _)) (Nat.le_of_eq (Nat.zero_add _)) (fun _ _ q => q.elim) ?_
      rintro _ h9 ⟨rfl, hC9, fz9⟩
      refine z_iret rfl rfl dCls_cuts_29 ?_
      first
        | (exfalso; omega)
        | exact zQc.mk (by assumption) (by first | exact zFrm.rf | assumption) (by unfold sp_cuts; (try unfold spPut); (try simp only [Int.toNat_natCast]); (repeat (first | rw [if_pos (by omega)] | rw [if_neg (by omega)] | rw [if_pos (by assumption)] | rw [if_neg (by assumption)] | rw [if_pos (True.intro : True)])); all_goals (first | rfl | (congr 2; omega) | (congr 1; congr 1; omega)))
theorem k_Cls_changes {c x : Int} (hO : zOk S) (hC : zCls G h ad S) (z_c : zI32 c) (z_x : zI32 x) : zM G l hCls_changes yCls_changes 9 [.ref (ad 0), zi c, zi x] h (zQc G ad h (sp_changes S c x)) (zXc G ad h (sp_changes S c x)) 6 36 := by
  obtain ⟨c1, c2, ⟨g3, c3, d3⟩, ⟨g4, c4, d4⟩, c5, ⟨T6, c6, d6⟩, c7, c8, ⟨R9, c9⟩, c10⟩ := id hC
  obtain ⟨f16, e16, -⟩ := id c9
  refine zM.of [some (.ref (ad 0)), some (zi c), some (zi x), none] (by decide +kernel) rfl (by decide) rfl (Nat.le_of_ble_eq_true rfl) rfl ?_
  refine z_aload_n dCls_changes_0 rfl ?_
  refine z_iload_n dCls_changes_1 rfl ?_
  refine z_callV (bc' := 5) (bs' := 30) MV_Cls_cursorAt lk_Cls_137 dCls_changes_2 (k_Cls_cursorAt (by assumption) (by omega)) rfl rfl (Nat.le_of_ble_eq_true rfl) rfl (by assumption) (Nat.le_of_ble_eq_true rfl) (Nat.le_of_ble_eq_true rfl) (by decide) (by decide) (fun E h9 q9 => z_out rfl (by obtain ⟨rfl, q1, rfl⟩ := q9; exact zXc.mk (by assumption) (by first | exact zFrm.rf | assumption) (by unfold sp_changes; (try unfold spPut); (try simp only [Int.toNat_natCast]); (repeat (first | rw [if_pos (by omega)] | rw [if_neg (by omega)] | rw [if_pos (by assumption)] | rw [if_neg (by assumption)] | rw [if_pos (True.intro : True)])); all_goals (first | rfl | (congr 2; omega) | (congr 1; congr 1; omega))))) ?_
  rintro _ _ ⟨rfl, aA1, aA2, rfl⟩
  obtain ⟨kA, rfl⟩ := Int.eq_ofNat_of_zero_le aA1
  simp only [Int.toNat_natCast]
  have hkA : kA < 3 := by omega
  have hcA := hC.cs hkA
  obtain ⟨stA, liA, ixA, laA, eA, bA0, bA1, iA2, iA3, iA4, eA7⟩ := id hcA
  refine z_astore_n dCls_changes_5 (Nat.le_of_ble_eq_true rfl) ?_
  refine z_iload_n dCls_changes_6 rfl ?_
  refine z_callS (bc' := 4) (bs' := 24) MS_Cls_demandItem lk_Cls_42 dCls_changes_7 (k_Cls_demandItem (by omega)) rfl rfl (Nat.le_of_ble_eq_true rfl)  (Nat.le_of_ble_eq_true rfl) (Nat.le_of_ble_eq_true rfl) (by decide) (by decide) (fun E h9 q9 => z_out rfl (by obtain ⟨rfl, q1, rfl⟩ := q9; exact zXc.mk (by assumption) (by first | exact zFrm.rf | assumption) (by unfold sp_changes; (try unfold spPut); (try simp only [Int.toNat_natCast]); (repeat (first | rw [if_pos (by omega)] | rw [if_neg (by omega)] | rw [if_pos (by assumption)] | rw [if_neg (by assumption)] | rw [if_pos (True.intro : True)])); all_goals (first | rfl | (congr 2; omega) | (congr 1; congr 1; omega))))) ?_
  rintro _ _ ⟨rfl, hx9, rfl⟩
  refine z_aload_n dCls_changes_10 rfl ?_
  refine z_callS (bc' := 3) (bs' := 18) MS_Cls_demandThere lk_Cls_148 dCls_changes_11 (k_Cls_demandThere hcA) rfl rfl (Nat.le_of_ble_eq_true rfl)  (Nat.le_of_ble_eq_true rfl) (Nat.le_of_ble_eq_true rfl) (by decide) (by decide) (fun E h9 q9 => z_out rfl (by obtain ⟨rfl, q1, rfl⟩ := q9; exact zXc.mk (by assumption) (by first | exact zFrm.rf | assumption) (by unfold sp_changes; (try unfold spPut); (try simp only [Int.toNat_natCast]); (repeat (first | rw [if_pos (by omega)] | rw [if_neg (by omega)] | rw [if_pos (by assumption)] | rw [if_neg (by assumption)] | rw [if_pos (True.intro : True)])); all_goals (first | rfl | (congr 2; omega) | (congr 1; congr 1; omega))))) ?_
  rintro _ _ ⟨rfl, tA, rfl⟩
  obtain ⟨rfl, rfl, rfl, rfl⟩ := eA7 tA
  obtain ⟨oA2, oA3, oA4, oA5⟩ := hO.1 kA hkA tA
  refine z_aload_n dCls_changes_14 rfl ?_
  refine z_getN (k := 1) fd_Cur (by decide) fl_Cls_152 dCls_changes_15 (by assumption) (by rfl) ?_
  refine z_if_ne (tgt := 29) dCls_changes_18 (by decide) (by omega) (fun c18 => ?_) (fun c18 => ?_)
  · refine z_aload_n dCls_changes_29 rfl ?_
    refine z_callV MV_Cls_refuse lk_Cls_54 dCls_changes_30 (k_Cls_refuse (by assumption)) rfl rfl (Nat.le_of_ble_eq_true rfl) rfl (by assumption) (Nat.le_of_ble_eq_true rfl) (Nat.le_of_ble_eq_true rfl) (Nat.le_of_eq (Nat.zero_add _)) (Nat.le_of_eq (Nat.zero_add _)) (fun _ _ q => q.elim) ?_
    rintro _ h9 ⟨rfl, hC9, fz9⟩
    refine z_iret rfl rfl dCls_changes_33 ?_
    first
      | (exfalso; omega)
      | exact zQc.mk (by assumption) (by first | exact zFrm.rf | assumption) (by unfold sp_changes; (try unfold spPut); (try simp only [Int.toNat_natCast]); (repeat (first | rw [if_pos (by omega)] | rw [if_neg (by omega)] | rw [if_pos (by assumption)] | rw [if_neg (by assumption)] | rw [if_pos (True.intro : True)])); all_goals (first | rfl | (congr 2; omega) | (congr 1; congr 1; omega)))
  · refine z_aload_n dCls_changes_21 rfl ?_
    refine z_getN (k := 4) fd_Cur (by decide) fl_Cls_175 dCls_changes_22 (by assumption) (by rfl) ?_
    refine z_iconst dCls_changes_25 ?_
    refine z_icmp_ne (tgt := 34) dCls_changes_26 (by decide) (by omega) (by omega) (fun c26 => ?_) (fun c26 => ?_)
    · refine z_aload_n dCls_changes_34 rfl ?_
      refine z_aload_n dCls_changes_35 rfl ?_
      refine z_callV (bc' := 2) (bs' := 12) MV_Cls_rowUnder lk_Cls_155 dCls_changes_36 (k_Cls_rowUnder (c := 0) (by assumption) hcA tA (by omega)) rfl rfl (Nat.le_of_ble_eq_true rfl) rfl (by assumption) (Nat.le_of_ble_eq_true rfl) (Nat.le_of_ble_eq_true rfl) (by decide) (by decide) (fun _ _ q => q.elim) ?_
      rintro _ _ ⟨rfl, rfl⟩
      have hkU : (S.2.1 kA 2).toNat < 4 := by omega
      have hrU := hC.ls hkU
      obtain ⟨fU, eU, -⟩ := id hrU
      have hlU := hrU.len
      refine z_aload_n dCls_changes_39 rfl ?_
      refine z_getN (k := 4) fd_Cur (by decide) fl_Cls_175 dCls_changes_40 (by assumption) (by rfl) ?_
      refine z_iload_n dCls_changes_43 rfl ?_
      refine z_callVN MV_Row_changeAt lk_Cls_78 dCls_changes_44 (k_Row_changeAt hrU (by omega) hx9) rfl rfl (Nat.le_of_ble_eq_true rfl) rfl (by assumption) (Nat.le_of_ble_eq_true rfl) (Nat.le_of_ble_eq_true rfl) (Nat.le_of_eq (Nat.zero_add _)) (Nat.le_of_eq (Nat.zero_add _)) (fun _ _ q => q.elim) ?_
      rintro _ h1 ⟨rfl, hr1, f1⟩
      have hC1 := hC.row hkU hr1 f1
      obtain ⟨-, d1, -⟩ := id hC1
      have fz1 : zFrm ad h h1 := zFrm.of2 (i := 8 + 2 * (S.2.1 kA 2).toNat) (j := 9 + 2 * (S.2.1 kA 2).toNat) (by omega) (by omega) f1
      obtain ⟨fr1, er1, -⟩ := id hr1
      have hl1 := hr1.len
      have eA1 := (f1 _ (hC.inj (i := 5 + kA) (j := 8 + 2 * (S.2.1 kA 2).toNat) (by omega) (by omega) (by omega)) (hC.inj (i := 5 + kA) (j := 9 + 2 * (S.2.1 kA 2).toNat) (by omega) (by omega) (by omega))).trans eA
      refine z_aload_n dCls_changes_47 rfl ?_
      refine z_getN (k := 3) fd_Cur (by decide) fl_Cls_172 dCls_changes_48 (by assumption) (by rfl) ?_
      refine z_iret rfl rfl dCls_changes_51 ?_
      first
        | (exfalso; omega)
        | exact zQc.mk (by assumption) (by first | exact zFrm.rf | assumption) (by unfold sp_changes; (try unfold spPut); (try simp only [Int.toNat_natCast]); (repeat (first | rw [if_pos (by omega)] | rw [if_neg (by omega)] | rw [if_pos (by assumption)] | rw [if_neg (by assumption)] | rw [if_pos (True.intro : True)])); all_goals (first | rfl | (congr 2; omega) | (congr 1; congr 1; omega)))
    · refine z_aload_n dCls_changes_29 rfl ?_
      refine z_callV MV_Cls_refuse lk_Cls_54 dCls_changes_30 (k_Cls_refuse (by assumption)) rfl rfl (Nat.le_of_ble_eq_true rfl) rfl (by assumption) (Nat.le_of_ble_eq_true rfl) (Nat.le_of_ble_eq_true rfl) (Nat.le_of_eq (Nat.zero_add _)) (Nat.le_of_eq (Nat.zero_add _)) (fun _ _ q => q.elim) ?_
      rintro _ h9 ⟨rfl, hC9, fz9⟩
      refine z_iret rfl rfl dCls_changes_33 ?_
      first
        | (exfalso; omega)
        | exact zQc.mk (by assumption) (by first | exact zFrm.rf | assumption) (by unfold sp_changes; (try unfold spPut); (try simp only [Int.toNat_natCast]); (repeat (first | rw [if_pos (by omega)] | rw [if_neg (by omega)] | rw [if_pos (by assumption)] | rw [if_neg (by assumption)] | rw [if_pos (True.intro : True)])); all_goals (first | rfl | (congr 2; omega) | (congr 1; congr 1; omega)))
end CLS7
end
section
section SPEC8
def zSumN (g : Nat → Int) : Nat → Int
  | 0 => 0
  | n + 1 => zSumN g n + g n
def zItems (S : zSt) : Int := zSumN (fun k => ((S.1 k).length : Int)) 4
def zThere (S : zSt) : Int := zSumN (fun c => S.2.1 c 0) 3
def zStl (S : zSt) : Int := zSumN (fun c => if S.2.1 c 0 = 1 ∧ S.2.1 c 1 ≠ 0 then 1 else 0) 3
def zMt (L : List Int) (ia la ib lb : Int) : Nat → Int × Int × Int × Int × Int
  | 0 => (0, ia, la, ib, lb)
  | n + 1 => if (zMt L ia la ib lb n).2.1 < (zMt L ia la ib lb n).2.2.2.1 then (if n % 2 = 0 then ((zMt L ia la ib lb n).1 + zAt L (zMt L ia la ib lb n).2.1, (zMt L ia la ib lb n).2.1 + 1, (zMt L ia la ib lb n).2.1, (zMt L ia la ib lb n).2.2.2.1, (zMt L ia la ib lb n).2.2.2.2) else ((zMt L ia la ib lb n).1 + zAt L ((zMt L ia la ib lb n).2.2.2.1 - 1), (zMt L ia la ib lb n).2.1, (zMt L ia la ib lb n).2.2.1, (zMt L ia la ib lb n).2.2.2.1 - 1, (zMt L ia la ib lb n).2.2.2.1 - 1)) else zMt L ia la ib lb n
def zCntT (A : List Int) : Nat → Int := fun k => (zCnt A k : Int)
def sp_ofCursor (S : zSt) (c w : Int) : zRes := if 0 ≤ c ∧ c < 3 then (if 0 ≤ w ∧ w ≤ 5 then (if S.2.1 c.toNat 0 ≠ 1 then (.inl (-1), S) else if w = 0 then (.inl (S.2.1 c.toNat 2), S) else if w = 5 then (.inl (S.2.1 c.toNat 1), S) else if S.2.1 c.toNat 1 ≠ 0 then (.inl (-1), S) else if w = 1 then (.inl (S.2.1 c.toNat 3), S) else if w = 2 then (.inl (S.2.1 c.toNat 3 - 1), S) else if w = 3 then (if S.2.1 c.toNat 3 < ((S.1 (S.2.1 c.toNat 2).toNat).length : Int) then (.inl 1, S) else (.inl 0, S)) else (if 0 < S.2.1 c.toNat 3 then (.inl 1, S) else (.inl 0, S))) else (.inr zE2, S)) else (.inr zE1, S)
def sp_house (S : zSt) (w : Int) : zRes := if 0 ≤ w ∧ w ≤ 4 then (if w = 0 then (.inl (zItems S), S) else if w = 1 then (.inl (zThere S), S) else if w = 2 then (.inl (zStl S), S) else if w = 3 then (.inl (S.2.2.2.2 1), S) else (.inl (S.2.2.2.2 2), S)) else (.inr zE2, S)
def sp_knock (S : zSt) : zRes := (.inl (S.2.2.2.2 2 + 1), zsN S 2 (S.2.2.2.2 2 + 1))
def zMeet (S : zSt) (c o : Nat) (M : Int × Int × Int × Int × Int) : zSt := zsC (zsC S (zup S.2.1 c (zCv (S.2.1 c 0) (S.2.1 c 1) (S.2.1 c 2) M.2.1 M.2.2.1))) (zup (zup S.2.1 c (zCv (S.2.1 c 0) (S.2.1 c 1) (S.2.1 c 2) M.2.1 M.2.2.1)) o (zCv (S.2.1 o 0) (S.2.1 o 1) (S.2.1 o 2) M.2.2.2.1 M.2.2.2.2))
def sp_meet (S : zSt) (c o : Int) : zRes := if 0 ≤ c ∧ c < 3 then (if 0 ≤ o ∧ o < 3 then (if c = o then (.inr zE2, S) else if S.2.1 c.toNat 0 = 1 then (if S.2.1 o.toNat 0 = 1 then (if S.2.1 c.toNat 1 ≠ 0 then spRef S else if S.2.1 o.toNat 1 ≠ 0 then spRef S else if S.2.1 c.toNat 2 ≠ S.2.1 o.toNat 2 then spRef S else if S.2.1 o.toNat 3 < S.2.1 c.toNat 3 then spRef S else (.inl (zMt (S.1 (S.2.1 c.toNat 2).toNat) (S.2.1 c.toNat 3) (S.2.1 c.toNat 4) (S.2.1 o.toNat 3) (S.2.1 o.toNat 4) 16).1, zMeet S c.toNat o.toNat (zMt (S.1 (S.2.1 c.toNat 2).toNat) (S.2.1 c.toNat 3) (S.2.1 c.toNat 4) (S.2.1 o.toNat 3) (S.2.1 o.toNat 4) 16))) else (.inr zE3, S)) else (.inr zE3, S)) else (.inr zE1, S)) else (.inr zE1, S)
def zsAsk (S : zSt) (key : Int) : zSt := (S.1, S.2.1, zIns (zDel S.2.2.1 (zFind S.2.2.1 key 0)) 0 key, S.2.2.2.1 ++ [key], zup S.2.2.2.2 0 (S.2.2.2.2 0 + (zFind S.2.2.1 key 0 + 1)))
def zsForget (S : zSt) : zSt := (S.1, S.2.1, zPl9 8, [], zup S.2.2.2.2 0 0)
def sp_ask (S : zSt) (key : Int) : zRes := if 0 ≤ key ∧ key ≤ 7 then (if S.2.2.2.1.length < 60 then (.inl (zFind S.2.2.1 key 0 + 1), zsAsk S key) else (.inr zE3, S)) else (.inr zE2, S)
def sp_forget (S : zSt) : zRes := (.inl (S.2.2.2.1.length : Int), zsForget S)
def sp_asked (S : zSt) (w : Int) : zRes := if 0 ≤ w ∧ w ≤ 3 then (if w = 0 then (.inl (S.2.2.2.1.length : Int), S) else if w = 1 then (.inl (S.2.2.2.2 0), S) else if w = 2 then (.inl (zLastOf S.2.2.2.1), S) else (.inl (zAt S.2.2.1 7), S)) else (.inr zE2, S)
def sp_byOrder (S : zSt) (p w : Int) : zRes := if 0 ≤ p ∧ p < 4 then (if 0 ≤ w ∧ w ≤ 2 then (if ((S.1 p.toNat).length = 8 ∧ ∀ k : Nat, k < 8 → zFind (S.1 p.toNat) k 0 ≠ -1) then (if w = 0 then (.inl (zCost (zCntT S.2.2.2.1) (S.1 p.toNat) 8), S) else if w = 1 then (.inl (zInv (S.1 p.toNat)), S) else (.inl (2 * zCost (zCntT S.2.2.2.1) (S.1 p.toNat) 8 - (S.2.2.2.1.length : Int) + zInv (S.1 p.toNat)), S)) else spRef S) else (.inr zE2, S)) else (.inr zE1, S)
end SPEC8
section CLS8
variable {G : zG} {l : Launch} {h h' : zHp} {ad : Nat → Nat} {S : zSt}
theorem l_Cls_itemsOfAll {d mc ms bc bs : Nat} {Qn : Option Value → zHp → Prop} {Qx : String → zHp → Prop} (hC : zCls G h ad S)  (K : ∀ y, zR G l (zMJ G hCls_itemsOfAll d Qn Qx mc ms) bc bs h 27 [some (.ref (ad 0)), some (zi (zItems S)), y] []) :
    ∀ (n : Nat) (m : Nat), 4 - m < n → m ≤ 4 →
      zR G l (zMJ G hCls_itemsOfAll d Qn Qx mc ms) bc bs h 4 [some (.ref (ad 0)), some (zi (zSumN (fun k => ((S.1 k).length : Int)) m)), some (zi (m : Int))] [] := by
  intro n
  induction n with
  | zero => intro m q1 q2; omega
  | succ n ih =>
  intro m q1 q2
  obtain ⟨c1, c2, ⟨g3, c3, d3⟩, ⟨g4, hc4, d4⟩, c5, -⟩ := id hC
  refine z_iload_n dCls_itemsOfAll_4 rfl ?_
  refine z_iconst dCls_itemsOfAll_5 ?_
  refine z_icmp_ge (tgt := 27) dCls_itemsOfAll_6 (by decide) (by omega) (by omega) (fun c6 => ?_) (fun c6 => ?_)
  · have em9 : m = 4 := by omega
    subst em9
    exact K _
  · obtain ⟨fm, em, -⟩ := id (hC.ls (k := m) (by omega))
    refine z_iload_n dCls_itemsOfAll_9 rfl ?_
    refine z_aload_n dCls_itemsOfAll_10 rfl ?_
    refine z_get (k := 0) fd_Cls (by decide) fl_Cls_11 dCls_itemsOfAll_11 (by assumption) (by rfl) ?_
    refine z_iload_n dCls_itemsOfAll_14 rfl ?_
    refine z_aald (t := 5) (ty := .object "Cursorlist$Row") rfl rfl dCls_itemsOfAll_15 c3 (by refine ⟨?_, ?_, ?_⟩ <;> omega) ?_
    rw [show (m : Int).toNat = m by omega, d3 m (by omega)]
    refine z_getN (k := 1) fd_Row (by decide) fl_Cls_46 dCls_itemsOfAll_16 (by assumption) (by rfl) ?_
    refine z_iadd dCls_itemsOfAll_19 ?_
    refine z_istore_n dCls_itemsOfAll_20 (Nat.le_of_ble_eq_true rfl) ?_
    refine z_iinc dCls_itemsOfAll_21 rfl (Nat.le_of_ble_eq_true rfl) ?_
    refine z_goto (tgt := 4) dCls_itemsOfAll_24 (by decide) ?_
    exact ih (m + 1) (by omega) (by omega)
theorem k_Cls_itemsOfAll (hC : zCls G h ad S) : zM G l hCls_itemsOfAll yCls_itemsOfAll 1 [.ref (ad 0)] h (fun v h' => v = some (zi (zItems S)) ∧ h = h') zNo 0 0 := by
  refine zM.of [some (.ref (ad 0)), none, none] (by decide +kernel) rfl (by decide) rfl (Nat.le_of_ble_eq_true rfl) rfl ?_
  refine z_iconst dCls_itemsOfAll_0 ?_
  refine z_istore_n dCls_itemsOfAll_1 (Nat.le_of_ble_eq_true rfl) ?_
  refine z_iconst dCls_itemsOfAll_2 ?_
  refine z_istore_n dCls_itemsOfAll_3 (Nat.le_of_ble_eq_true rfl) ?_
  refine l_Cls_itemsOfAll hC (fun y => ?_) 5 0 (by omega) (by omega)
  refine z_iload_n dCls_itemsOfAll_27 rfl ?_
  refine z_iret rfl rfl dCls_itemsOfAll_28 ?_
  exact ⟨rfl, rfl⟩
theorem l_Cls_cursorsThere {d mc ms bc bs : Nat} {Qn : Option Value → zHp → Prop} {Qx : String → zHp → Prop} (hC : zCls G h ad S) (hd : 2 ≤ d) (K : ∀ y, zR G l (zMJ G hCls_cursorsThere d Qn Qx mc ms) bc bs h 30 [some (.ref (ad 0)), some (zi (zThere S)), y] []) :
    ∀ (n : Nat) (m : Nat), 3 - m < n → m ≤ 3 →
      zR G l (zMJ G hCls_cursorsThere d Qn Qx mc ms) bc bs h 4 [some (.ref (ad 0)), some (zi (zSumN (fun c => S.2.1 c 0) m)), some (zi (m : Int))] [] := by
  intro n
  induction n with
  | zero => intro m q1 q2; omega
  | succ n ih =>
  intro m q1 q2
  obtain ⟨c1, c2, ⟨g3, c3, d3⟩, ⟨g4, hc4, d4⟩, c5, -⟩ := id hC
  refine z_iload_n dCls_cursorsThere_4 rfl ?_
  refine z_iconst dCls_cursorsThere_5 ?_
  refine z_icmp_ge (tgt := 30) dCls_cursorsThere_6 (by decide) (by omega) (by omega) (fun c6 => ?_) (fun c6 => ?_)
  · have em9 : m = 3 := by omega
    subst em9
    exact K _
  · obtain ⟨stm, lim, ixm, lam, em, bm0, bm1, -, -, -, em7⟩ := id (hC.cs (c := m) (by omega))
    refine z_iload_n dCls_cursorsThere_9 rfl ?_
    refine z_aload_n dCls_cursorsThere_10 rfl ?_
    refine z_get (k := 1) fd_Cls (by decide) fl_Cls_17 dCls_cursorsThere_11 (by assumption) (by rfl) ?_
    refine z_iload_n dCls_cursorsThere_14 rfl ?_
    refine z_aald (t := 6) (ty := .object "Cursorlist$Cursor") rfl rfl dCls_cursorsThere_15 hc4 (by refine ⟨?_, ?_, ?_⟩ <;> omega) ?_
    rw [show (m : Int).toNat = m by omega, d4 m (by omega)]
    refine z_getN (k := 0) fd_Cur (by decide) fl_Cls_144 dCls_cursorsThere_16 (by assumption) (by rfl) ?_
    refine z_callS MS_Cls_numberOf lk_Cls_192 dCls_cursorsThere_19 (k_Cls_numberOf (by omega)) rfl rfl (Nat.le_of_ble_eq_true rfl)  (by show 1 + 1 ≤ d; omega) (by show 1 * 64 + 64 ≤ d * 64; omega) (Nat.le_of_eq (Nat.zero_add _)) (Nat.le_of_eq (Nat.zero_add _)) (fun _ _ q => q.elim) ?_
    rintro _ _ ⟨rfl, rfl⟩
    refine z_iadd dCls_cursorsThere_22 ?_
    refine z_istore_n dCls_cursorsThere_23 (Nat.le_of_ble_eq_true rfl) ?_
    refine z_iinc dCls_cursorsThere_24 rfl (Nat.le_of_ble_eq_true rfl) ?_
    refine z_goto (tgt := 4) dCls_cursorsThere_27 (by decide) ?_
    exact ih (m + 1) (by omega) (by omega)
theorem k_Cls_cursorsThere (hC : zCls G h ad S) : zM G l hCls_cursorsThere yCls_cursorsThere 2 [.ref (ad 0)] h (fun v h' => v = some (zi (zThere S)) ∧ h = h') zNo 0 0 := by
  refine zM.of [some (.ref (ad 0)), none, none] (by decide +kernel) rfl (by decide) rfl (Nat.le_of_ble_eq_true rfl) rfl ?_
  refine z_iconst dCls_cursorsThere_0 ?_
  refine z_istore_n dCls_cursorsThere_1 (Nat.le_of_ble_eq_true rfl) ?_
  refine z_iconst dCls_cursorsThere_2 ?_
  refine z_istore_n dCls_cursorsThere_3 (Nat.le_of_ble_eq_true rfl) ?_
  refine l_Cls_cursorsThere hC (by omega) (fun y => ?_) 4 0 (by omega) (by omega)
  refine z_iload_n dCls_cursorsThere_30 rfl ?_
  refine z_iret rfl rfl dCls_cursorsThere_31 ?_
  exact ⟨rfl, rfl⟩
theorem l_Cls_cursorsStale {d mc ms bc bs : Nat} {Qn : Option Value → zHp → Prop} {Qx : String → zHp → Prop} (hC : zCls G h ad S) (hd : 2 ≤ d) (K : ∀ y, zR G l (zMJ G hCls_cursorsStale d Qn Qx mc ms) bc bs h 50 [some (.ref (ad 0)), some (zi (zStl S)), y] []) :
    ∀ (n : Nat) (m : Nat), 3 - m < n → m ≤ 3 →
      zR G l (zMJ G hCls_cursorsStale d Qn Qx mc ms) bc bs h 4 [some (.ref (ad 0)), some (zi (zSumN (fun c => if S.2.1 c 0 = 1 ∧ S.2.1 c 1 ≠ 0 then 1 else 0) m)), some (zi (m : Int))] [] := by
  intro n
  induction n with
  | zero => intro m q1 q2; omega
  | succ n ih =>
  intro m q1 q2
  obtain ⟨c1, c2, ⟨g3, c3, d3⟩, ⟨g4, hc4, d4⟩, c5, -⟩ := id hC
  refine z_iload_n dCls_cursorsStale_4 rfl ?_
  refine z_iconst dCls_cursorsStale_5 ?_
  refine z_icmp_ge (tgt := 50) dCls_cursorsStale_6 (by decide) (by omega) (by omega) (fun c6 => ?_) (fun c6 => ?_)
  · have em9 : m = 3 := by omega
    subst em9
    exact K _
  · obtain ⟨stm, lim, ixm, lam, em, bm0, bm1, -, -, -, em7⟩ := id (hC.cs (c := m) (by omega))
    refine z_iload_n dCls_cursorsStale_9 rfl ?_
    refine z_aload_n dCls_cursorsStale_10 rfl ?_
    refine z_get (k := 1) fd_Cls (by decide) fl_Cls_17 dCls_cursorsStale_11 (by assumption) (by rfl) ?_
    refine z_iload_n dCls_cursorsStale_14 rfl ?_
    refine z_aald (t := 6) (ty := .object "Cursorlist$Cursor") rfl rfl dCls_cursorsStale_15 hc4 (by refine ⟨?_, ?_, ?_⟩ <;> omega) ?_
    rw [show (m : Int).toNat = m by omega, d4 m (by omega)]
    refine z_getN (k := 0) fd_Cur (by decide) fl_Cls_144 dCls_cursorsStale_16 (by assumption) (by rfl) ?_
    refine z_if_eq (tgt := 38) dCls_cursorsStale_19 (by decide) (by omega) (fun c19 => ?_) (fun c19 => ?_)
    · refine z_iconst dCls_cursorsStale_38 ?_
      refine z_callS MS_Cls_numberOf lk_Cls_192 dCls_cursorsStale_39 (k_Cls_numberOf (by omega)) rfl rfl (Nat.le_of_ble_eq_true rfl)  (by show 1 + 1 ≤ d; omega) (by show 1 * 64 + 64 ≤ d * 64; omega) (Nat.le_of_eq (Nat.zero_add _)) (Nat.le_of_eq (Nat.zero_add _)) (fun _ _ q => q.elim) ?_
      rintro _ _ ⟨rfl, rfl⟩
      refine z_iadd dCls_cursorsStale_42 ?_
      refine z_istore_n dCls_cursorsStale_43 (Nat.le_of_ble_eq_true rfl) ?_
      refine z_iinc dCls_cursorsStale_44 rfl (Nat.le_of_ble_eq_true rfl) ?_
      refine z_goto (tgt := 4) dCls_cursorsStale_47 (by decide) ?_
      refine cast (congrArg (fun x => zR G l (zMJ G hCls_cursorsStale d Qn Qx mc ms) bc bs h 4 [some (.ref (ad 0)), some (zi x), some (zi ((m + 1 : Nat) : Int))] []) ?_) (ih (m + 1) (by omega) (by omega))
      show zSumN (fun c => if S.2.1 c 0 = 1 ∧ S.2.1 c 1 ≠ 0 then 1 else 0) m + (if S.2.1 m 0 = 1 ∧ S.2.1 m 1 ≠ 0 then 1 else 0) = _
      first
        | (rw [if_pos (by omega)])
        | (rw [if_neg (by omega)])
    · refine z_aload_n dCls_cursorsStale_22 rfl ?_
      refine z_get (k := 1) fd_Cls (by decide) fl_Cls_17 dCls_cursorsStale_23 (by assumption) (by rfl) ?_
      refine z_iload_n dCls_cursorsStale_26 rfl ?_
      refine z_aald (t := 6) (ty := .object "Cursorlist$Cursor") rfl rfl dCls_cursorsStale_27 hc4 (by refine ⟨?_, ?_, ?_⟩ <;> omega) ?_
      rw [show (m : Int).toNat = m by omega, d4 m (by omega)]
      refine z_getN (k := 1) fd_Cur (by decide) fl_Cls_152 dCls_cursorsStale_28 (by assumption) (by rfl) ?_
      refine z_if_eq (tgt := 38) dCls_cursorsStale_31 (by decide) (by omega) (fun c31 => ?_) (fun c31 => ?_)
      · refine z_iconst dCls_cursorsStale_38 ?_
        refine z_callS MS_Cls_numberOf lk_Cls_192 dCls_cursorsStale_39 (k_Cls_numberOf (by omega)) rfl rfl (Nat.le_of_ble_eq_true rfl)  (by show 1 + 1 ≤ d; omega) (by show 1 * 64 + 64 ≤ d * 64; omega) (Nat.le_of_eq (Nat.zero_add _)) (Nat.le_of_eq (Nat.zero_add _)) (fun _ _ q => q.elim) ?_
        rintro _ _ ⟨rfl, rfl⟩
        refine z_iadd dCls_cursorsStale_42 ?_
        refine z_istore_n dCls_cursorsStale_43 (Nat.le_of_ble_eq_true rfl) ?_
        refine z_iinc dCls_cursorsStale_44 rfl (Nat.le_of_ble_eq_true rfl) ?_
        refine z_goto (tgt := 4) dCls_cursorsStale_47 (by decide) ?_
        refine cast (congrArg (fun x => zR G l (zMJ G hCls_cursorsStale d Qn Qx mc ms) bc bs h 4 [some (.ref (ad 0)), some (zi x), some (zi ((m + 1 : Nat) : Int))] []) ?_) (ih (m + 1) (by omega) (by omega))
        show zSumN (fun c => if S.2.1 c 0 = 1 ∧ S.2.1 c 1 ≠ 0 then 1 else 0) m + (if S.2.1 m 0 = 1 ∧ S.2.1 m 1 ≠ 0 then 1 else 0) = _
        first
          | (rw [if_pos (by omega)])
          | (rw [if_neg (by omega)])
      · refine z_iconst dCls_cursorsStale_34 ?_
        refine z_goto (tgt := 39) dCls_cursorsStale_35 (by decide) ?_
        refine z_callS MS_Cls_numberOf lk_Cls_192 dCls_cursorsStale_39 (k_Cls_numberOf (by omega)) rfl rfl (Nat.le_of_ble_eq_true rfl)  (by show 1 + 1 ≤ d; omega) (by show 1 * 64 + 64 ≤ d * 64; omega) (Nat.le_of_eq (Nat.zero_add _)) (Nat.le_of_eq (Nat.zero_add _)) (fun _ _ q => q.elim) ?_
        rintro _ _ ⟨rfl, rfl⟩
        refine z_iadd dCls_cursorsStale_42 ?_
        refine z_istore_n dCls_cursorsStale_43 (Nat.le_of_ble_eq_true rfl) ?_
        refine z_iinc dCls_cursorsStale_44 rfl (Nat.le_of_ble_eq_true rfl) ?_
        refine z_goto (tgt := 4) dCls_cursorsStale_47 (by decide) ?_
        refine cast (congrArg (fun x => zR G l (zMJ G hCls_cursorsStale d Qn Qx mc ms) bc bs h 4 [some (.ref (ad 0)), some (zi x), some (zi ((m + 1 : Nat) : Int))] []) ?_) (ih (m + 1) (by omega) (by omega))
        show zSumN (fun c => if S.2.1 c 0 = 1 ∧ S.2.1 c 1 ≠ 0 then 1 else 0) m + (if S.2.1 m 0 = 1 ∧ S.2.1 m 1 ≠ 0 then 1 else 0) = _
        first
          | (rw [if_pos (by omega)])
          | (rw [if_neg (by omega)])
theorem k_Cls_cursorsStale (hC : zCls G h ad S) : zM G l hCls_cursorsStale yCls_cursorsStale 2 [.ref (ad 0)] h (fun v h' => v = some (zi (zStl S)) ∧ h = h') zNo 0 0 := by
  refine zM.of [some (.ref (ad 0)), none, none] (by decide +kernel) rfl (by decide) rfl (Nat.le_of_ble_eq_true rfl) rfl ?_
  refine z_iconst dCls_cursorsStale_0 ?_
  refine z_istore_n dCls_cursorsStale_1 (Nat.le_of_ble_eq_true rfl) ?_
  refine z_iconst dCls_cursorsStale_2 ?_
  refine z_istore_n dCls_cursorsStale_3 (Nat.le_of_ble_eq_true rfl) ?_
  refine l_Cls_cursorsStale hC (by omega) (fun y => ?_) 4 0 (by omega) (by omega)
  refine z_iload_n dCls_cursorsStale_50 rfl ?_
  refine z_iret rfl rfl dCls_cursorsStale_51 ?_
  exact ⟨rfl, rfl⟩
theorem k_Cls_house {w : Int}  (hC : zCls G h ad S) (z_w : zI32 w) : zM G l hCls_house yCls_house 9 [.ref (ad 0), zi w] h (zQc G ad h (sp_house S w)) (zXc G ad h (sp_house S w)) 6 36 := by
  obtain ⟨c1, c2, ⟨g3, c3, d3⟩, ⟨g4, c4, d4⟩, c5, ⟨T6, c6, d6⟩, c7, c8, ⟨R9, c9⟩, c10⟩ := id hC
  obtain ⟨f16, e16, -⟩ := id c9
  refine zM.of [some (.ref (ad 0)), some (zi w)] (by decide +kernel) rfl (by decide) rfl (Nat.le_of_ble_eq_true rfl) rfl ?_
  refine z_iload_n dCls_house_0 rfl ?_
  refine z_iconst dCls_house_1 ?_
  refine z_iconst dCls_house_2 ?_
  refine z_callS (bc' := 5) (bs' := 30) MS_Cls_demandWithin lk_Cls_38 dCls_house_3 (k_Cls_demandWithin (by omega) (by omega) (by omega)) rfl rfl (Nat.le_of_ble_eq_true rfl)  (Nat.le_of_ble_eq_true rfl) (Nat.le_of_ble_eq_true rfl) (by decide) (by decide) (fun E h9 q9 => z_out rfl (by obtain ⟨rfl, q1, rfl⟩ := q9; exact zXc.mk (by assumption) (by first | exact zFrm.rf | assumption) (by unfold sp_house; (try unfold spPut); (try simp only [Int.toNat_natCast]); (repeat (first | rw [if_pos (by omega)] | rw [if_neg (by omega)] | rw [if_pos (by assumption)] | rw [if_neg (by assumption)] | rw [if_pos (True.intro : True)])); all_goals (first | rfl | (congr 2; omega) | (congr 1; congr 1; omega))))) ?_
  rintro _ _ ⟨rfl, w1, w2, rfl⟩
  refine z_iload_n dCls_house_6 rfl ?_
  rcases (show w = 0 ∨ w = 1 ∨ w = 2 ∨ w = 3 ∨ w = 4 by omega) with rfl | rfl | rfl | rfl | rfl
  · refine z_tableIn (tgt := 36) dCls_house_7 (by omega) (by omega) (by omega) rfl (by decide) ?_
    refine z_aload_n dCls_house_36 rfl ?_
    refine z_callV MV_Cls_itemsOfAll lk_Cls_250 dCls_house_37 (k_Cls_itemsOfAll hC) rfl rfl (Nat.le_of_ble_eq_true rfl) rfl (by assumption) (Nat.le_of_ble_eq_true rfl) (Nat.le_of_ble_eq_true rfl) (Nat.le_of_eq (Nat.zero_add _)) (Nat.le_of_eq (Nat.zero_add _)) (fun _ _ q => q.elim) ?_
    rintro _ _ ⟨rfl, rfl⟩
    refine z_iret rfl rfl dCls_house_40 ?_
    first
      | (exfalso; omega)
      | exact zQc.mk (by assumption) (by first | exact zFrm.rf | assumption) (by unfold sp_house; (try unfold spPut); (try simp only [Int.toNat_natCast]); (repeat (first | rw [if_pos (by omega)] | rw [if_neg (by omega)] | rw [if_pos (by assumption)] | rw [if_neg (by assumption)] | rw [if_pos (True.intro : True)])); all_goals (first | rfl | (congr 2; omega) | (congr 1; congr 1; omega)))
  · refine z_tableIn (tgt := 41) dCls_house_7 (by omega) (by omega) (by omega) rfl (by decide) ?_
    refine z_aload_n dCls_house_41 rfl ?_
    refine z_callV MV_Cls_cursorsThere lk_Cls_253 dCls_house_42 (k_Cls_cursorsThere hC) rfl rfl (Nat.le_of_ble_eq_true rfl) rfl (by assumption) (Nat.le_of_ble_eq_true rfl) (Nat.le_of_ble_eq_true rfl) (Nat.le_of_eq (Nat.zero_add _)) (Nat.le_of_eq (Nat.zero_add _)) (fun _ _ q => q.elim) ?_
    rintro _ _ ⟨rfl, rfl⟩
    refine z_iret rfl rfl dCls_house_45 ?_
    first
      | (exfalso; omega)
      | exact zQc.mk (by assumption) (by first | exact zFrm.rf | assumption) (by unfold sp_house; (try unfold spPut); (try simp only [Int.toNat_natCast]); (repeat (first | rw [if_pos (by omega)] | rw [if_neg (by omega)] | rw [if_pos (by assumption)] | rw [if_neg (by assumption)] | rw [if_pos (True.intro : True)])); all_goals (first | rfl | (congr 2; omega) | (congr 1; congr 1; omega)))
  · refine z_tableIn (tgt := 46) dCls_house_7 (by omega) (by omega) (by omega) rfl (by decide) ?_
    refine z_aload_n dCls_house_46 rfl ?_
    refine z_callV MV_Cls_cursorsStale lk_Cls_256 dCls_house_47 (k_Cls_cursorsStale hC) rfl rfl (Nat.le_of_ble_eq_true rfl) rfl (by assumption) (Nat.le_of_ble_eq_true rfl) (Nat.le_of_ble_eq_true rfl) (Nat.le_of_eq (Nat.zero_add _)) (Nat.le_of_eq (Nat.zero_add _)) (fun _ _ q => q.elim) ?_
    rintro _ _ ⟨rfl, rfl⟩
    refine z_iret rfl rfl dCls_house_50 ?_
    first
      | (exfalso; omega)
      | exact zQc.mk (by assumption) (by first | exact zFrm.rf | assumption) (by unfold sp_house; (try unfold spPut); (try simp only [Int.toNat_natCast]); (repeat (first | rw [if_pos (by omega)] | rw [if_neg (by omega)] | rw [if_pos (by assumption)] | rw [if_neg (by assumption)] | rw [if_pos (True.intro : True)])); all_goals (first | rfl | (congr 2; omega) | (congr 1; congr 1; omega)))
  · refine z_tableIn (tgt := 51) dCls_house_7 (by omega) (by omega) (by omega) rfl (by decide) ?_
    refine z_aload_n dCls_house_51 rfl ?_
    refine z_get (k := 4) fd_Cls (by decide) fl_Cls_259 dCls_house_52 (by assumption) (by rfl) ?_
    refine z_iret rfl rfl dCls_house_55 ?_
    first
      | (exfalso; omega)
      | exact zQc.mk (by assumption) (by first | exact zFrm.rf | assumption) (by unfold sp_house; (try unfold spPut); (try simp only [Int.toNat_natCast]); (repeat (first | rw [if_pos (by omega)] | rw [if_neg (by omega)] | rw [if_pos (by assumption)] | rw [if_neg (by assumption)] | rw [if_pos (True.intro : True)])); all_goals (first | rfl | (congr 2; omega) | (congr 1; congr 1; omega)))
  · refine z_tableOut (tgt := 56) dCls_house_7 (by omega) (by omega) (by decide) ?_
    refine z_aload_n dCls_house_56 rfl ?_
    refine z_get (k := 5) fd_Cls (by decide) fl_Cls_262 dCls_house_57 (by assumption) (by rfl) ?_
    refine z_iret rfl rfl dCls_house_60 ?_
    first
      | (exfalso; omega)
      | exact zQc.mk (by assumption) (by first | exact zFrm.rf | assumption) (by unfold sp_house; (try unfold spPut); (try simp only [Int.toNat_natCast]); (repeat (first | rw [if_pos (by omega)] | rw [if_neg (by omega)] | rw [if_pos (by assumption)] | rw [if_neg (by assumption)] | rw [if_pos (True.intro : True)])); all_goals (first | rfl | (congr 2; omega) | (congr 1; congr 1; omega)))
theorem k_Cls_whereIs {c : Nat} {w : Int} (hC : zCls G h ad S) (hc : c < 3) (ht : S.2.1 c 0 = 1) (hl : 0 ≤ S.2.1 c 2 ∧ S.2.1 c 2 < 4) (hw : 1 ≤ w ∧ w ≤ 4) : zM G l hCls_whereIs yCls_whereIs 9 [.ref (ad 0), .ref (ad (5 + c)), zi w] h (fun v h' => v = some (zi (if w = 1 then S.2.1 c 3 else if w = 2 then S.2.1 c 3 - 1 else if w = 3 then (if S.2.1 c 3 < ((S.1 (S.2.1 c 2).toNat).length : Int) then 1 else 0) else (if 0 < S.2.1 c 3 then 1 else 0))) ∧ h = h') zNo 1 6 := by
  obtain ⟨c1, c2, ⟨g3, c3, d3⟩, ⟨g4, hc4, d4⟩, c5, -⟩ := id hC
  have hcA := hC.cs hc
  obtain ⟨st, li, ix, la, e1, e2, e3, e4, e5, e6, e7⟩ := id hcA
  obtain ⟨rfl, rfl, rfl, rfl⟩ := e7 ht
  have hrU := hC.ls (k := (S.2.1 c 2).toNat) (by omega)
  obtain ⟨fU, eU, -⟩ := id hrU
  have hlU := hrU.len
  refine zM.of [some (.ref (ad 0)), some (.ref (ad (5 + c))), some (zi w)] (by decide +kernel) rfl (by decide) rfl (Nat.le_of_ble_eq_true rfl) rfl ?_
  refine z_iload_n dCls_whereIs_0 rfl ?_
  rcases (show w = 1 ∨ w = 2 ∨ w = 3 ∨ w = 4 by omega) with rfl | rfl | rfl | rfl
  · refine z_tableIn (tgt := 28) dCls_whereIs_1 (by omega) (by omega) (by omega) rfl (by decide) ?_
    refine z_aload_n dCls_whereIs_28 rfl ?_
    refine z_getN (k := 3) fd_Cur (by decide) fl_Cls_172 dCls_whereIs_29 (by assumption) (by rfl) ?_
    refine z_iret rfl rfl dCls_whereIs_32 ?_
    refine ⟨?_, rfl⟩
    repeat (first | rw [if_pos (by omega)] | rw [if_neg (by omega)])
  · refine z_tableIn (tgt := 33) dCls_whereIs_1 (by omega) (by omega) (by omega) rfl (by decide) ?_
    refine z_aload_n dCls_whereIs_33 rfl ?_
    refine z_getN (k := 3) fd_Cur (by decide) fl_Cls_172 dCls_whereIs_34 (by assumption) (by rfl) ?_
    refine z_iconst dCls_whereIs_37 ?_
    refine z_isub dCls_whereIs_38 ?_
    refine z_iret rfl rfl dCls_whereIs_39 ?_
    refine ⟨?_, rfl⟩
    repeat (first | rw [if_pos (by omega)] | rw [if_neg (by omega)])
  · refine z_tableIn (tgt := 40) dCls_whereIs_1 (by omega) (by omega) (by omega) rfl (by decide) ?_
    refine z_aload_n dCls_whereIs_40 rfl ?_
    refine z_getN (k := 3) fd_Cur (by decide) fl_Cls_172 dCls_whereIs_41 (by assumption) (by rfl) ?_
    refine z_aload_n dCls_whereIs_44 rfl ?_
    refine z_aload_n dCls_whereIs_45 rfl ?_
    refine z_callV (bc' := 0) (bs' := 0) MV_Cls_rowUnder lk_Cls_155 dCls_whereIs_46 (k_Cls_rowUnder (c := 0) hC hcA ht hl) rfl rfl (Nat.le_of_ble_eq_true rfl) rfl (by assumption) (Nat.le_of_ble_eq_true rfl) (Nat.le_of_ble_eq_true rfl) (by decide) (by decide) (fun _ _ q => q.elim) ?_
    rintro _ _ ⟨rfl, rfl⟩
    refine z_getN (k := 1) fd_Row (by decide) fl_Cls_46 dCls_whereIs_49 (by assumption) (by rfl) ?_
    refine z_icmp_ge (tgt := 59) dCls_whereIs_52 (by decide) (by omega) (by omega) (fun c52 => ?_) (fun c52 => ?_)
    · refine z_iconst dCls_whereIs_59 ?_
      refine z_callS MS_Cls_numberOf lk_Cls_192 dCls_whereIs_60 (k_Cls_numberOf (by omega)) rfl rfl (Nat.le_of_ble_eq_true rfl)  (Nat.le_of_ble_eq_true rfl) (Nat.le_of_ble_eq_true rfl) (Nat.le_of_eq (Nat.zero_add _)) (Nat.le_of_eq (Nat.zero_add _)) (fun _ _ q => q.elim) ?_
      rintro _ _ ⟨rfl, rfl⟩
      refine z_iret rfl rfl dCls_whereIs_63 ?_
      refine ⟨?_, rfl⟩
      repeat (first | rw [if_pos (by omega)] | rw [if_neg (by omega)])
    · refine z_iconst dCls_whereIs_55 ?_
      refine z_goto (tgt := 60) dCls_whereIs_56 (by decide) ?_
      refine z_callS MS_Cls_numberOf lk_Cls_192 dCls_whereIs_60 (k_Cls_numberOf (by omega)) rfl rfl (Nat.le_of_ble_eq_true rfl)  (Nat.le_of_ble_eq_true rfl) (Nat.le_of_ble_eq_true rfl) (Nat.le_of_eq (Nat.zero_add _)) (Nat.le_of_eq (Nat.zero_add _)) (fun _ _ q => q.elim) ?_
      rintro _ _ ⟨rfl, rfl⟩
      refine z_iret rfl rfl dCls_whereIs_63 ?_
      refine ⟨?_, rfl⟩
      repeat (first | rw [if_pos (by omega)] | rw [if_neg (by omega)])
  · refine z_tableOut (tgt := 64) dCls_whereIs_1 (by omega) (by omega) (by decide) ?_
    refine z_aload_n dCls_whereIs_64 rfl ?_
    refine z_getN (k := 3) fd_Cur (by decide) fl_Cls_172 dCls_whereIs_65 (by assumption) (by rfl) ?_
    refine z_if_le (tgt := 75) dCls_whereIs_68 (by decide) (by omega) (fun c68 => ?_) (fun c68 => ?_)
    · refine z_iconst dCls_whereIs_75 ?_
      refine z_callS MS_Cls_numberOf lk_Cls_192 dCls_whereIs_76 (k_Cls_numberOf (by omega)) rfl rfl (Nat.le_of_ble_eq_true rfl)  (Nat.le_of_ble_eq_true rfl) (Nat.le_of_ble_eq_true rfl) (Nat.le_of_eq (Nat.zero_add _)) (Nat.le_of_eq (Nat.zero_add _)) (fun _ _ q => q.elim) ?_
      rintro _ _ ⟨rfl, rfl⟩
      refine z_iret rfl rfl dCls_whereIs_79 ?_
      refine ⟨?_, rfl⟩
      repeat (first | rw [if_pos (by omega)] | rw [if_neg (by omega)])
    · refine z_iconst dCls_whereIs_71 ?_
      refine z_goto (tgt := 76) dCls_whereIs_72 (by decide) ?_
      refine z_callS MS_Cls_numberOf lk_Cls_192 dCls_whereIs_76 (k_Cls_numberOf (by omega)) rfl rfl (Nat.le_of_ble_eq_true rfl)  (Nat.le_of_ble_eq_true rfl) (Nat.le_of_ble_eq_true rfl) (Nat.le_of_eq (Nat.zero_add _)) (Nat.le_of_eq (Nat.zero_add _)) (fun _ _ q => q.elim) ?_
      rintro _ _ ⟨rfl, rfl⟩
      refine z_iret rfl rfl dCls_whereIs_79 ?_
      refine ⟨?_, rfl⟩
      repeat (first | rw [if_pos (by omega)] | rw [if_neg (by omega)])
theorem k_Cls_ofCursor {c w : Int} (hO : zOk S) (hC : zCls G h ad S) (z_c : zI32 c) (z_w : zI32 w) : zM G l hCls_ofCursor yCls_ofCursor 10 [.ref (ad 0), zi c, zi w] h (zQc G ad h (sp_ofCursor S c w)) (zXc G ad h (sp_ofCursor S c w)) 6 36 := by
  obtain ⟨c1, c2, ⟨g3, c3, d3⟩, ⟨g4, c4, d4⟩, c5, ⟨T6, c6, d6⟩, c7, c8, ⟨R9, c9⟩, c10⟩ := id hC
  obtain ⟨f16, e16, -⟩ := id c9
  refine zM.of [some (.ref (ad 0)), some (zi c), some (zi w), none] (by decide +kernel) rfl (by decide) rfl (Nat.le_of_ble_eq_true rfl) rfl ?_
  refine z_aload_n dCls_ofCursor_0 rfl ?_
  refine z_iload_n dCls_ofCursor_1 rfl ?_
  refine z_callV (bc' := 5) (bs' := 30) MV_Cls_cursorAt lk_Cls_137 dCls_ofCursor_2 (k_Cls_cursorAt (by assumption) (by omega)) rfl rfl (Nat.le_of_ble_eq_true rfl) rfl (by assumption) (Nat.le_of_ble_eq_true rfl) (Nat.le_of_ble_eq_true rfl) (by decide) (by decide) (fun E h9 q9 => z_out rfl (by obtain ⟨rfl, q1, rfl⟩ := q9; exact zXc.mk (by assumption) (by first | exact zFrm.rf | assumption) (by unfold sp_ofCursor; (try unfold spPut); (try simp only [Int.toNat_natCast]); (repeat (first | rw [if_pos (by omega)] | rw [if_neg (by omega)] | rw [if_pos (by assumption)] | rw [if_neg (by assumption)] | rw [if_pos (True.intro : True)])); all_goals (first | rfl | (congr 2; omega) | (congr 1; congr 1; omega))))) ?_
  rintro _ _ ⟨rfl, aA1, aA2, rfl⟩
  obtain ⟨kA, rfl⟩ := Int.eq_ofNat_of_zero_le aA1
  simp only [Int.toNat_natCast]
  have hkA : kA < 3 := by omega
  have hcA := hC.cs hkA
  obtain ⟨stA, liA, ixA, laA, eA, bA0, bA1, iA2, iA3, iA4, eA7⟩ := id hcA
  refine z_astore_n dCls_ofCursor_5 (Nat.le_of_ble_eq_true rfl) ?_
  refine z_iload_n dCls_ofCursor_6 rfl ?_
  refine z_iconst dCls_ofCursor_7 ?_
  refine z_iconst dCls_ofCursor_8 ?_
  refine z_callS (bc' := 4) (bs' := 24) MS_Cls_demandWithin lk_Cls_38 dCls_ofCursor_9 (k_Cls_demandWithin (by omega) (by omega) (by omega)) rfl rfl (Nat.le_of_ble_eq_true rfl)  (Nat.le_of_ble_eq_true rfl) (Nat.le_of_ble_eq_true rfl) (by decide) (by decide) (fun E h9 q9 => z_out rfl (by obtain ⟨rfl, q1, rfl⟩ := q9; exact zXc.mk (by assumption) (by first | exact zFrm.rf | assumption) (by unfold sp_ofCursor; (try unfold spPut); (try simp only [Int.toNat_natCast]); (repeat (first | rw [if_pos (by omega)] | rw [if_neg (by omega)] | rw [if_pos (by assumption)] | rw [if_neg (by assumption)] | rw [if_pos (True.intro : True)])); all_goals (first | rfl | (congr 2; omega) | (congr 1; congr 1; omega))))) ?_
  rintro _ _ ⟨rfl, w1, w2, rfl⟩
  refine z_aload_n dCls_ofCursor_12 rfl ?_
  refine z_getN (k := 0) fd_Cur (by decide) fl_Cls_144 dCls_ofCursor_13 (by assumption) (by rfl) ?_
  refine z_if_ne (tgt := 21) dCls_ofCursor_16 (by decide) (by omega) (fun c16 => ?_) (fun c16 => ?_)
  · refine z_iload_n dCls_ofCursor_21 rfl ?_
    refine z_if_ne (tgt := 30) dCls_ofCursor_22 (by decide) (by omega) (fun c22 => ?_) (fun c22 => ?_)
    · refine z_iload_n dCls_ofCursor_30 rfl ?_
      refine z_iconst dCls_ofCursor_31 ?_
      refine z_icmp_ne (tgt := 43) dCls_ofCursor_32 (by decide) (by omega) (by omega) (fun c32 => ?_) (fun c32 => ?_)
      · refine z_aload_n dCls_ofCursor_43 rfl ?_
        refine z_getN (k := 1) fd_Cur (by decide) fl_Cls_152 dCls_ofCursor_44 (by assumption) (by rfl) ?_
        refine z_if_eq (tgt := 54) dCls_ofCursor_47 (by decide) (by omega) (fun c47 => ?_) (fun c47 => ?_)
        · refine z_aload_n dCls_ofCursor_54 rfl ?_
          refine z_aload_n dCls_ofCursor_55 rfl ?_
          refine z_iload_n dCls_ofCursor_56 rfl ?_
          refine z_callV (bc' := 3) (bs' := 18) MV_Cls_whereIs lk_Cls_196 dCls_ofCursor_57 (k_Cls_whereIs hC hkA (by omega) (hO.1 kA hkA (by omega)).1 (by omega)) rfl rfl (Nat.le_of_ble_eq_true rfl) rfl (by assumption) (Nat.le_of_ble_eq_true rfl) (Nat.le_of_ble_eq_true rfl) (by decide) (by decide) (fun _ _ q => q.elim) ?_
          rintro _ _ ⟨rfl, rfl⟩
          rcases (show w = 1 ∨ w = 2 ∨ (w = 3 ∧ S.2.1 kA 3 < ((S.1 (S.2.1 kA 2).toNat).length : Int)) ∨ (w = 3 ∧ ¬ S.2.1 kA 3 < ((S.1 (S.2.1 kA 2).toNat).length : Int)) ∨ (w = 4 ∧ 0 < S.2.1 kA 3) ∨ (w = 4 ∧ ¬ 0 < S.2.1 kA 3) by omega) with rfl | rfl | ⟨rfl, c99⟩ | ⟨rfl, c99⟩ | ⟨rfl, c99⟩ | ⟨rfl, c99⟩
          · refine z_iret rfl rfl dCls_ofCursor_60 ?_
            first
              | (exfalso; omega)
              | exact zQc.mk (by assumption) zFrm.rf (by unfold sp_ofCursor; (try unfold spPut); (try simp only [Int.toNat_natCast]); (repeat (first | rw [if_pos (by omega)] | rw [if_neg (by omega)] | rw [if_pos (by assumption)] | rw [if_neg (by assumption)] | rw [if_pos (True.intro : True)])); all_goals (first | rfl | (congr 2; omega) | (congr 1; congr 1; omega)))
              | (have tA : S.2.1 kA 0 = 1 := by omega
                 obtain ⟨rfl, rfl, rfl, rfl⟩ := eA7 tA
                 exact zQc.mk (by assumption) zFrm.rf (by unfold sp_ofCursor; (try unfold spPut); (try simp only [Int.toNat_natCast]); (repeat (first | rw [if_pos (by omega)] | rw [if_neg (by omega)] | rw [if_pos (by assumption)] | rw [if_neg (by assumption)] | rw [if_pos (True.intro : True)])); all_goals (first | rfl | (congr 2; omega) | (congr 1; congr 1; omega))))
              | (have tA : S.2.1 kA 0 = 1 := by omega
                 obtain ⟨rfl, rfl, rfl, rfl⟩ := eA7 tA
                 refine zQc.mk (by assumption) zFrm.rf ?_
                 unfold sp_ofCursor
                 (try simp only [Int.toNat_natCast])
                 (repeat (first | rw [if_pos (by omega)] | rw [if_neg (by omega)]))
                 split <;> rfl)
          · refine z_iret rfl rfl dCls_ofCursor_60 ?_
            first
              | (exfalso; omega)
              | exact zQc.mk (by assumption) zFrm.rf (by unfold sp_ofCursor; (try unfold spPut); (try simp only [Int.toNat_natCast]); (repeat (first | rw [if_pos (by omega)] | rw [if_neg (by omega)] | rw [if_pos (by assumption)] | rw [if_neg (by assumption)] | rw [if_pos (True.intro : True)])); all_goals (first | rfl | (congr 2; omega) | (congr 1; congr 1; omega)))
              | (have tA : S.2.1 kA 0 = 1 := by omega
                 obtain ⟨rfl, rfl, rfl, rfl⟩ := eA7 tA
                 exact zQc.mk (by assumption) zFrm.rf (by unfold sp_ofCursor; (try unfold spPut); (try simp only [Int.toNat_natCast]); (repeat (first | rw [if_pos (by omega)] | rw [if_neg (by omega)] | rw [if_pos (by assumption)] | rw [if_neg (by assumption)] | rw [if_pos (True.intro : True)])); all_goals (first | rfl | (congr 2; omega) | (congr 1; congr 1; omega))))
              | (have tA : S.2.1 kA 0 = 1 := by omega
                 obtain ⟨rfl, rfl, rfl, rfl⟩ := eA7 tA
                 refine zQc.mk (by assumption) zFrm.rf ?_
                 unfold sp_ofCursor
                 (try simp only [Int.toNat_natCast])
                 (repeat (first | rw [if_pos (by omega)] | rw [if_neg (by omega)]))
                 split <;> rfl)
          · refine z_iret rfl rfl dCls_ofCursor_60 ?_
            first
              | (exfalso; omega)
              | exact zQc.mk (by assumption) zFrm.rf (by unfold sp_ofCursor; (try unfold spPut); (try simp only [Int.toNat_natCast]); (repeat (first | rw [if_pos (by omega)] | rw [if_neg (by omega)] | rw [if_pos (by assumption)] | rw [if_neg (by assumption)] | rw [if_pos (True.intro : True)])); all_goals (first | rfl | (congr 2; omega) | (congr 1; congr 1; omega)))
              | (have tA : S.2.1 kA 0 = 1 := by omega
                 obtain ⟨rfl, rfl, rfl, rfl⟩ := eA7 tA
                 exact zQc.mk (by assumption) zFrm.rf (by unfold sp_ofCursor; (try unfold spPut); (try simp only [Int.toNat_natCast]); (repeat (first | rw [if_pos (by omega)] | rw [if_neg (by omega)] | rw [if_pos (by assumption)] | rw [if_neg (by assumption)] | rw [if_pos (True.intro : True)])); all_goals (first | rfl | (congr 2; omega) | (congr 1; congr 1; omega))))
              | (have tA : S.2.1 kA 0 = 1 := by omega
                 obtain ⟨rfl, rfl, rfl, rfl⟩ := eA7 tA
                 refine zQc.mk (by assumption) zFrm.rf ?_
                 unfold sp_ofCursor
                 (try simp only [Int.toNat_natCast])
                 (repeat (first | rw [if_pos (by omega)] | rw [if_neg (by omega)]))
                 split <;> rfl)
          · refine z_iret rfl rfl dCls_ofCursor_60 ?_
            first
              | (exfalso; omega)
              | exact zQc.mk (by assumption) zFrm.rf (by unfold sp_ofCursor; (try unfold spPut); (try simp only [Int.toNat_natCast]); (repeat (first | rw [if_pos (by omega)] | rw [if_neg (by omega)] | rw [if_pos (by assumption)] | rw [if_neg (by assumption)] | rw [if_pos (True.intro : True)])); all_goals (first | rfl | (congr 2; omega) | (congr 1; congr 1; omega)))
              | (have tA : S.2.1 kA 0 = 1 := by omega
                 obtain ⟨rfl, rfl, rfl, rfl⟩ := eA7 tA
                 exact zQc.mk (by assumption) zFrm.rf (by unfold sp_ofCursor; (try unfold spPut); (try simp only [Int.toNat_natCast]); (repeat (first | rw [if_pos (by omega)] | rw [if_neg (by omega)] | rw [if_pos (by assumption)] | rw [if_neg (by assumption)] | rw [if_pos (True.intro : True)])); all_goals (first | rfl | (congr 2; omega) | (congr 1; congr 1; omega))))
              | (have tA : S.2.1 kA 0 = 1 := by omega
                 obtain ⟨rfl, rfl, rfl, rfl⟩ := eA7 tA
                 refine zQc.mk (by assumption) zFrm.rf ?_
                 unfold sp_ofCursor
                 (try simp only [Int.toNat_natCast])
                 (repeat (first | rw [if_pos (by omega)] | rw [if_neg (by omega)]))
                 split <;> rfl)
          · refine z_iret rfl rfl dCls_ofCursor_60 ?_
            first
              | (exfalso; omega)
              | exact zQc.mk (by assumption) zFrm.rf (by unfold sp_ofCursor; (try unfold spPut); (try simp only [Int.toNat_natCast]); (repeat (first | rw [if_pos (by omega)] | rw [if_neg (by omega)] | rw [if_pos (by assumption)] | rw [if_neg (by assumption)] | rw [if_pos (True.intro : True)])); all_goals (first | rfl | (congr 2; omega) | (congr 1; congr 1; omega)))
              | (have tA : S.2.1 kA 0 = 1 := by omega
                 obtain ⟨rfl, rfl, rfl, rfl⟩ := eA7 tA
                 exact zQc.mk (by assumption) zFrm.rf (by unfold sp_ofCursor; (try unfold spPut); (try simp only [Int.toNat_natCast]); (repeat (first | rw [if_pos (by omega)] | rw [if_neg (by omega)] | rw [if_pos (by assumption)] | rw [if_neg (by assumption)] | rw [if_pos (True.intro : True)])); all_goals (first | rfl | (congr 2; omega) | (congr 1; congr 1; omega))))
              | (have tA : S.2.1 kA 0 = 1 := by omega
                 obtain ⟨rfl, rfl, rfl, rfl⟩ := eA7 tA
                 refine zQc.mk (by assumption) zFrm.rf ?_
                 unfold sp_ofCursor
                 (try simp only [Int.toNat_natCast])
                 (repeat (first | rw [if_pos (by omega)] | rw [if_neg (by omega)]))
                 split <;> rfl)
          · refine z_iret rfl rfl dCls_ofCursor_60 ?_
            first
              | (exfalso; omega)
              | exact zQc.mk (by assumption) zFrm.rf (by unfold sp_ofCursor; (try unfold spPut); (try simp only [Int.toNat_natCast]); (repeat (first | rw [if_pos (by omega)] | rw [if_neg (by omega)] | rw [if_pos (by assumption)] | rw [if_neg (by assumption)] | rw [if_pos (True.intro : True)])); all_goals (first | rfl | (congr 2; omega) | (congr 1; congr 1; omega)))
              | (have tA : S.2.1 kA 0 = 1 := by omega
                 obtain ⟨rfl, rfl, rfl, rfl⟩ := eA7 tA
                 exact zQc.mk (by assumption) zFrm.rf (by unfold sp_ofCursor; (try unfold spPut); (try simp only [Int.toNat_natCast]); (repeat (first | rw [if_pos (by omega)] | rw [if_neg (by omega)] | rw [if_pos (by assumption)] | rw [if_neg (by assumption)] | rw [if_pos (True.intro : True)])); all_goals (first | rfl | (congr 2; omega) | (congr 1; congr 1; omega))))
              | (have tA : S.2.1 kA 0 = 1 := by omega
                 obtain ⟨rfl, rfl, rfl, rfl⟩ := eA7 tA
                 refine zQc.mk (by assumption) zFrm.rf ?_
                 unfold sp_ofCursor
                 (try simp only [Int.toNat_natCast])
                 (repeat (first | rw [if_pos (by omega)] | rw [if_neg (by omega)]))
                 split <;> rfl)
        · refine z_iconst dCls_ofCursor_50 ?_
          refine z_goto (tgt := 60) dCls_ofCursor_51 (by decide) ?_
          refine z_iret rfl rfl dCls_ofCursor_60 ?_
          first
            | (exfalso; omega)
            | exact zQc.mk (by assumption) zFrm.rf (by unfold sp_ofCursor; (try unfold spPut); (try simp only [Int.toNat_natCast]); (repeat (first | rw [if_pos (by omega)] | rw [if_neg (by omega)] | rw [if_pos (by assumption)] | rw [if_neg (by assumption)] | rw [if_pos (True.intro : True)])); all_goals (first | rfl | (congr 2; omega) | (congr 1; congr 1; omega)))
            | (have tA : S.2.1 kA 0 = 1 := by omega
               obtain ⟨rfl, rfl, rfl, rfl⟩ := eA7 tA
               exact zQc.mk (by assumption) zFrm.rf (by unfold sp_ofCursor; (try unfold spPut); (try simp only [Int.toNat_natCast]); (repeat (first | rw [if_pos (by omega)] | rw [if_neg (by omega)] | rw [if_pos (by assumption)] | rw [if_neg (by assumption)] | rw [if_pos (True.intro : True)])); all_goals (first | rfl | (congr 2; omega) | (congr 1; congr 1; omega))))
            | (have tA : S.2.1 kA 0 = 1 := by omega
               obtain ⟨rfl, rfl, rfl, rfl⟩ := eA7 tA
               refine zQc.mk (by assumption) zFrm.rf ?_
               unfold sp_ofCursor
               (try simp only [Int.toNat_natCast])
               (repeat (first | rw [if_pos (by omega)] | rw [if_neg (by omega)]))
               split <;> rfl)
      · refine z_aload_n dCls_ofCursor_35 rfl ?_
        refine z_getN (k := 1) fd_Cur (by decide) fl_Cls_152 dCls_ofCursor_36 (by assumption) (by rfl) ?_
        refine z_callS MS_Cls_numberOf lk_Cls_192 dCls_ofCursor_39 (k_Cls_numberOf bA1) rfl rfl (Nat.le_of_ble_eq_true rfl)  (Nat.le_of_ble_eq_true rfl) (Nat.le_of_ble_eq_true rfl) (Nat.le_of_eq (Nat.zero_add _)) (Nat.le_of_eq (Nat.zero_add _)) (fun _ _ q => q.elim) ?_
        rintro _ _ ⟨rfl, rfl⟩
        have tA : S.2.1 kA 0 = 1 := by omega
        obtain ⟨rfl, rfl, rfl, rfl⟩ := eA7 tA
        refine z_iret rfl rfl dCls_ofCursor_42 ?_
        first
          | (exfalso; omega)
          | exact zQc.mk (by assumption) zFrm.rf (by unfold sp_ofCursor; (try unfold spPut); (try simp only [Int.toNat_natCast]); (repeat (first | rw [if_pos (by omega)] | rw [if_neg (by omega)] | rw [if_pos (by assumption)] | rw [if_neg (by assumption)] | rw [if_pos (True.intro : True)])); all_goals (first | rfl | (congr 2; omega) | (congr 1; congr 1; omega)))
          | (have tA : S.2.1 kA 0 = 1 := by omega
             obtain ⟨rfl, rfl, rfl, rfl⟩ := eA7 tA
             exact zQc.mk (by assumption) zFrm.rf (by unfold sp_ofCursor; (try unfold spPut); (try simp only [Int.toNat_natCast]); (repeat (first | rw [if_pos (by omega)] | rw [if_neg (by omega)] | rw [if_pos (by assumption)] | rw [if_neg (by assumption)] | rw [if_pos (True.intro : True)])); all_goals (first | rfl | (congr 2; omega) | (congr 1; congr 1; omega))))
          | (have tA : S.2.1 kA 0 = 1 := by omega
             obtain ⟨rfl, rfl, rfl, rfl⟩ := eA7 tA
             refine zQc.mk (by assumption) zFrm.rf ?_
             unfold sp_ofCursor
             (try simp only [Int.toNat_natCast])
             (repeat (first | rw [if_pos (by omega)] | rw [if_neg (by omega)]))
             split <;> rfl)
    · refine z_aload_n dCls_ofCursor_25 rfl ?_
      refine z_getN (k := 2) fd_Cur (by decide) fl_Cls_169 dCls_ofCursor_26 (by assumption) (by rfl) ?_
      refine z_iret rfl rfl dCls_ofCursor_29 ?_
      first
        | (exfalso; omega)
        | exact zQc.mk (by assumption) zFrm.rf (by unfold sp_ofCursor; (try unfold spPut); (try simp only [Int.toNat_natCast]); (repeat (first | rw [if_pos (by omega)] | rw [if_neg (by omega)] | rw [if_pos (by assumption)] | rw [if_neg (by assumption)] | rw [if_pos (True.intro : True)])); all_goals (first | rfl | (congr 2; omega) | (congr 1; congr 1; omega)))
        | (have tA : S.2.1 kA 0 = 1 := by omega
           obtain ⟨rfl, rfl, rfl, rfl⟩ := eA7 tA
           exact zQc.mk (by assumption) zFrm.rf (by unfold sp_ofCursor; (try unfold spPut); (try simp only [Int.toNat_natCast]); (repeat (first | rw [if_pos (by omega)] | rw [if_neg (by omega)] | rw [if_pos (by assumption)] | rw [if_neg (by assumption)] | rw [if_pos (True.intro : True)])); all_goals (first | rfl | (congr 2; omega) | (congr 1; congr 1; omega))))
        | (have tA : S.2.1 kA 0 = 1 := by omega
           obtain ⟨rfl, rfl, rfl, rfl⟩ := eA7 tA
           refine zQc.mk (by assumption) zFrm.rf ?_
           unfold sp_ofCursor
           (try simp only [Int.toNat_natCast])
           (repeat (first | rw [if_pos (by omega)] | rw [if_neg (by omega)]))
           split <;> rfl)
  · refine z_iconst dCls_ofCursor_19 ?_
    refine z_iret rfl rfl dCls_ofCursor_20 ?_
    first
      | (exfalso; omega)
      | exact zQc.mk (by assumption) zFrm.rf (by unfold sp_ofCursor; (try unfold spPut); (try simp only [Int.toNat_natCast]); (repeat (first | rw [if_pos (by omega)] | rw [if_neg (by omega)] | rw [if_pos (by assumption)] | rw [if_neg (by assumption)] | rw [if_pos (True.intro : True)])); all_goals (first | rfl | (congr 2; omega) | (congr 1; congr 1; omega)))
      | (have tA : S.2.1 kA 0 = 1 := by omega
         obtain ⟨rfl, rfl, rfl, rfl⟩ := eA7 tA
         exact zQc.mk (by assumption) zFrm.rf (by unfold sp_ofCursor; (try unfold spPut); (try simp only [Int.toNat_natCast]); (repeat (first | rw [if_pos (by omega)] | rw [if_neg (by omega)] | rw [if_pos (by assumption)] | rw [if_neg (by assumption)] | rw [if_pos (True.intro : True)])); all_goals (first | rfl | (congr 2; omega) | (congr 1; congr 1; omega))))
      | (have tA : S.2.1 kA 0 = 1 := by omega
         obtain ⟨rfl, rfl, rfl, rfl⟩ := eA7 tA
         refine zQc.mk (by assumption) zFrm.rf ?_
         unfold sp_ofCursor
         (try simp only [Int.toNat_natCast])
         (repeat (first | rw [if_pos (by omega)] | rw [if_neg (by omega)]))
         split <;> rfl)
theorem k_Cls_knock  (hC : zCls G h ad S)  : zM G l hCls_knock yCls_knock 9 [.ref (ad 0)] h (zQc G ad h (sp_knock S)) (zXc G ad h (sp_knock S)) 6 36 := by
  obtain ⟨c1, c2, ⟨g3, c3, d3⟩, ⟨g4, c4, d4⟩, c5, ⟨T6, c6, d6⟩, c7, c8, ⟨R9, c9⟩, c10⟩ := id hC
  obtain ⟨f16, e16, -⟩ := id c9
  refine zM.of [some (.ref (ad 0))] (by decide +kernel) rfl (by decide) rfl (Nat.le_of_ble_eq_true rfl) rfl ?_
  refine z_aload_n dCls_knock_0 rfl ?_
  refine z_dup rfl dCls_knock_1 ?_
  refine z_get (k := 5) fd_Cls (by decide) fl_Cls_262 dCls_knock_2 (by assumption) (by rfl) ?_
  refine z_iconst dCls_knock_5 ?_
  refine z_iadd dCls_knock_6 ?_
  refine z_put (k := 5) fd_Cls (by decide) fl_Cls_262 rfl dCls_knock_7 (by assumption) (by simp) rfl rfl ?_
  refine z_hx (fun h1 p1 f1 => ?_)
  have hC1 := hC.obj (h' := h1) p1 f1
  have fz1 : zFrm ad h h1 := zFrm.of1 (i := 0) (by omega) f1
  refine z_aload_n dCls_knock_10 rfl ?_
  refine z_get (k := 5) fd_Cls (by decide) fl_Cls_262 dCls_knock_11 (by assumption) (by rfl) ?_
  refine z_iret rfl rfl dCls_knock_14 ?_
  refine zQc.mk hC1 fz1 ?_
  unfold sp_knock zsN
  refine congrArg (fun x => (Sum.inl (S.2.2.2.2 2 + 1), (S.1, S.2.1, S.2.2.1, S.2.2.2.1, x))) ?_
  funext j
  show zup S.2.2.2.2 2 (S.2.2.2.2 2 + 1) j = zup (zup S.2.2.2.2 1 (S.2.2.2.2 1)) 2 (S.2.2.2.2 2 + 1) j
  unfold zup
  by_cases e1 : j = 2
  · rw [if_pos e1, if_pos e1]
  · rw [if_neg e1, if_neg e1]
    by_cases e2 : j = 1
    · rw [if_pos e2, e2]
    · rw [if_neg e2]
end CLS8
end
section
section CLS9
variable {G : zG} {l : Launch} {h h' : zHp} {ad : Nat → Nat} {S : zSt}
theorem zMt_stay {L : List Int} {ia la ib lb : Int} {m : Nat} (hs : ¬ (zMt L ia la ib lb m).2.1 < (zMt L ia la ib lb m).2.2.2.1) : ∀ j : Nat, zMt L ia la ib lb (m + j) = zMt L ia la ib lb m
  | 0 => rfl
  | j + 1 => by
    show zMt L ia la ib lb ((m + j) + 1) = _
    conv => lhs; unfold zMt
    rw [zMt_stay hs j, if_neg hs]
theorem zMt_in {L : List Int} {ia la ib lb : Int} (h0 : 0 ≤ ia ∧ ia ≤ ib ∧ ib ≤ 16) (h1 : -1 ≤ la ∧ la ≤ 15) (h2 : -1 ≤ lb ∧ lb ≤ 15) : ∀ m : Nat, (0 ≤ (zMt L ia la ib lb m).2.1 ∧ (zMt L ia la ib lb m).2.1 ≤ (zMt L ia la ib lb m).2.2.2.1 ∧ (zMt L ia la ib lb m).2.2.2.1 ≤ 16) ∧ (-1 ≤ (zMt L ia la ib lb m).2.2.1 ∧ (zMt L ia la ib lb m).2.2.1 ≤ 15) ∧ (-1 ≤ (zMt L ia la ib lb m).2.2.2.2 ∧ (zMt L ia la ib lb m).2.2.2.2 ≤ 15) ∧ (zMt L ia la ib lb m).2.2.2.1 ≤ ib
  | 0 => by unfold zMt; dsimp only; omega
  | m + 1 => by
    have := zMt_in (L := L) h0 h1 h2 m
    unfold zMt
    split
    · split <;> dsimp only <;> omega
    · exact this
theorem zMt_evn {L : List Int} {ia la ib lb : Int} {m : Nat} (hs : (zMt L ia la ib lb m).2.1 < (zMt L ia la ib lb m).2.2.2.1) (he : m % 2 = 0) : zMt L ia la ib lb (m + 1) = ((zMt L ia la ib lb m).1 + zAt L (zMt L ia la ib lb m).2.1, (zMt L ia la ib lb m).2.1 + 1, (zMt L ia la ib lb m).2.1, (zMt L ia la ib lb m).2.2.2.1, (zMt L ia la ib lb m).2.2.2.2) := by
  conv => lhs; unfold zMt
  rw [if_pos hs, if_pos he]
theorem zMt_odd {L : List Int} {ia la ib lb : Int} {m : Nat} (hs : (zMt L ia la ib lb m).2.1 < (zMt L ia la ib lb m).2.2.2.1) (he : ¬ m % 2 = 0) : zMt L ia la ib lb (m + 1) = ((zMt L ia la ib lb m).1 + zAt L ((zMt L ia la ib lb m).2.2.2.1 - 1), (zMt L ia la ib lb m).2.1, (zMt L ia la ib lb m).2.2.1, (zMt L ia la ib lb m).2.2.2.1 - 1, (zMt L ia la ib lb m).2.2.2.1 - 1) := by
  conv => lhs; unfold zMt
  rw [if_pos hs, if_neg he]
theorem l_Cls_sumUntilMet {d mc ms bc bs : Nat} {Qn : Option Value → zHp → Prop} {Qx : String → zHp → Prop} {a b r ar : Nat} {L : List Int} {th st li th2 st2 li2 ia la ib lb : Int} (hd : 4 ≤ d) (hab : a ≠ b) (na : r ≠ a) (nb : ar ≠ a) (na2 : r ≠ b) (nb2 : ar ≠ b) (h0 : 0 ≤ ia ∧ ia ≤ ib ∧ ib ≤ 16) (hl : ib ≤ L.length) (hla : -1 ≤ la ∧ la ≤ 15) (hlb : -1 ≤ lb ∧ lb ≤ 15)
    (K : ∀ (h1 : zHp) y, zCe h1 a th st li (zMt L ia la ib lb 16).2.1 (zMt L ia la ib lb 16).2.2.1 → zCe h1 b th2 st2 li2 (zMt L ia la ib lb 16).2.2.2.1 (zMt L ia la ib lb 16).2.2.2.2 → (∀ q, q ≠ a → q ≠ b → h1 q = h q) → zR G l (zMJ G hCls_sumUntilMet d Qn Qx mc ms) bc bs h1 52 [some (.ref a), some (.ref b), some (.ref r), some (zi (zMt L ia la ib lb 16).1), y] []) :
    ∀ (n : Nat) (m : Nat) (h1 : zHp), 16 - m < n → m ≤ 16 → zCe h1 a th st li (zMt L ia la ib lb m).2.1 (zMt L ia la ib lb m).2.2.1 → zCe h1 b th2 st2 li2 (zMt L ia la ib lb m).2.2.2.1 (zMt L ia la ib lb m).2.2.2.2 → zRow G h1 r ar L → (∀ q, q ≠ a → q ≠ b → h1 q = h q) →
      zR G l (zMJ G hCls_sumUntilMet d Qn Qx mc ms) bc bs h1 5 [some (.ref a), some (.ref b), some (.ref r), some (zi (zMt L ia la ib lb m).1), some (zi (m : Int))] [] := by
  intro n
  induction n with
  | zero => intro m h1 q1 q2 ea eb hrm hf; omega
  | succ n ih =>
  intro m h1 q1 q2 ea eb hrm hf
  have hin := zMt_in (L := L) h0 hla hlb m
  unfold zCe at ea eb
  obtain ⟨fr, er, -⟩ := id hrm
  refine z_iload dCls_sumUntilMet_5 rfl ?_
  refine z_bipush dCls_sumUntilMet_7 rfl ?_
  refine z_icmp_ge (tgt := 52) dCls_sumUntilMet_9 (by decide) (by omega) (by omega) (fun c9 => ?_) (fun c9 => ?_)
  · first
      | (have em : m = 16 := by omega
         subst em
         exact K h1 _ ea eb hf)
      | (have e9 := zMt_stay (L := L) (ia := ia) (la := la) (ib := ib) (lb := lb) (m := m) (by omega) (16 - m)
         rw [show m + (16 - m) = 16 by omega] at e9
         rw [← e9] at ea eb ⊢
         exact K h1 _ ea eb hf)
  · refine z_aload_n dCls_sumUntilMet_12 rfl ?_
    refine z_getN (k := 3) fd_Cur (by decide) fl_Cls_172 dCls_sumUntilMet_13 (by assumption) (by rfl) ?_
    refine z_aload_n dCls_sumUntilMet_16 rfl ?_
    refine z_getN (k := 3) fd_Cur (by decide) fl_Cls_172 dCls_sumUntilMet_17 (by assumption) (by rfl) ?_
    refine z_icmp_ge (tgt := 52) dCls_sumUntilMet_20 (by decide) (by omega) (by omega) (fun c20 => ?_) (fun c20 => ?_)
    · first
        | (have em : m = 16 := by omega
           subst em
           exact K h1 _ ea eb hf)
        | (have e9 := zMt_stay (L := L) (ia := ia) (la := la) (ib := ib) (lb := lb) (m := m) (by omega) (16 - m)
           rw [show m + (16 - m) = 16 by omega] at e9
           rw [← e9] at ea eb ⊢
           exact K h1 _ ea eb hf)
    · refine z_iload_n dCls_sumUntilMet_23 rfl ?_
      refine z_iload dCls_sumUntilMet_24 rfl ?_
      refine z_iconst dCls_sumUntilMet_26 ?_
      refine z_irem _ (zI_rem (by omega) (by omega)) (by decide) dCls_sumUntilMet_27 ?_
      rw [Int.tmod_eq_emod_of_nonneg (by omega)]
      refine z_if_ne (tgt := 39) dCls_sumUntilMet_28 (by decide) (by omega) (fun c28 => ?_) (fun c28 => ?_)
      · refine z_aload_n dCls_sumUntilMet_39 rfl ?_
        refine z_aload_n dCls_sumUntilMet_40 rfl ?_
        refine z_callVN MV_Cur_stepBack lk_Cls_162 dCls_sumUntilMet_41 (k_Cur_stepBack (show zCe _ _ _ _ _ _ _ from eb) hrm na2 nb2 (by omega)) rfl rfl (Nat.le_of_ble_eq_true rfl) rfl (by assumption) (by show 3 + 1 ≤ d; omega) (by show 3 * 64 + 64 ≤ d * 64; omega) (Nat.le_of_eq (Nat.zero_add _)) (Nat.le_of_eq (Nat.zero_add _)) (fun _ _ q => q.elim) ?_
        rintro _ h3 ⟨(⟨rfl, m1, p3⟩ | ⟨rfl, m1, rfl⟩), f3⟩
        rotate_left
        · exact absurd (by omega) m1
        refine z_iadd dCls_sumUntilMet_44 ?_
        refine z_istore_n dCls_sumUntilMet_45 (Nat.le_of_ble_eq_true rfl) ?_
        refine z_iinc dCls_sumUntilMet_46 rfl (Nat.le_of_ble_eq_true rfl) ?_
        refine z_goto (tgt := 5) dCls_sumUntilMet_49 (by decide) ?_
        replace ih := ih (m + 1) h3 (by omega) (by omega)
        rw [zMt_odd (by omega) (by omega)] at ih
        exact ih ((f3 a hab).trans ea) p3 (hrm.kept (f3 r na2) (f3 ar nb2)) (fun q q1 q2 => (f3 q q2).trans (hf q q1 q2))
      · refine z_aload_n dCls_sumUntilMet_31 rfl ?_
        refine z_aload_n dCls_sumUntilMet_32 rfl ?_
        refine z_callVN MV_Cur_stepForth lk_Cls_159 dCls_sumUntilMet_33 (k_Cur_stepForth (show zCe _ _ _ _ _ _ _ from ea) hrm na nb (by omega)) rfl rfl (Nat.le_of_ble_eq_true rfl) rfl (by assumption) (by show 3 + 1 ≤ d; omega) (by show 3 * 64 + 64 ≤ d * 64; omega) (Nat.le_of_eq (Nat.zero_add _)) (Nat.le_of_eq (Nat.zero_add _)) (fun _ _ q => q.elim) ?_
        rintro _ h3 ⟨(⟨rfl, m1, p3⟩ | ⟨rfl, m1, rfl⟩), f3⟩
        rotate_left
        · exact absurd (by omega) m1
        refine z_goto (tgt := 44) dCls_sumUntilMet_36 (by decide) ?_
        refine z_iadd dCls_sumUntilMet_44 ?_
        refine z_istore_n dCls_sumUntilMet_45 (Nat.le_of_ble_eq_true rfl) ?_
        refine z_iinc dCls_sumUntilMet_46 rfl (Nat.le_of_ble_eq_true rfl) ?_
        refine z_goto (tgt := 5) dCls_sumUntilMet_49 (by decide) ?_
        replace ih := ih (m + 1) h3 (by omega) (by omega)
        rw [zMt_evn (by omega) (by omega)] at ih
        exact ih p3 ((f3 b hab.symm).trans eb) (hrm.kept (f3 r na) (f3 ar nb)) (fun q q1 q2 => (f3 q q1).trans (hf q q1 q2))
theorem k_Cls_sumUntilMet {a b r ar : Nat} {L : List Int} {th st li th2 st2 li2 ia la ib lb : Int} (hab : a ≠ b) (na : r ≠ a) (nb : ar ≠ a) (na2 : r ≠ b) (nb2 : ar ≠ b) (h0 : 0 ≤ ia ∧ ia ≤ ib ∧ ib ≤ 16) (hl : ib ≤ L.length) (hla : -1 ≤ la ∧ la ≤ 15) (hlb : -1 ≤ lb ∧ lb ≤ 15) (hr : zRow G h r ar L) (ea : zCe h a th st li ia la) (eb : zCe h b th2 st2 li2 ib lb) : zM G l hCls_sumUntilMet yCls_sumUntilMet 4 [.ref a, .ref b, .ref r] h (fun v h' => v = some (zi (zMt L ia la ib lb 16).1) ∧ zCe h' a th st li (zMt L ia la ib lb 16).2.1 (zMt L ia la ib lb 16).2.2.1 ∧ zCe h' b th2 st2 li2 (zMt L ia la ib lb 16).2.2.2.1 (zMt L ia la ib lb 16).2.2.2.2 ∧ ∀ q, q ≠ a → q ≠ b → h' q = h q) zNo 0 0 := by
  refine zM.of [some (.ref a), some (.ref b), some (.ref r), none, none] (by decide +kernel) rfl (by decide) rfl (Nat.le_of_ble_eq_true rfl) rfl ?_
  refine z_iconst dCls_sumUntilMet_0 ?_
  refine z_istore_n dCls_sumUntilMet_1 (Nat.le_of_ble_eq_true rfl) ?_
  refine z_iconst dCls_sumUntilMet_2 ?_
  refine z_istore dCls_sumUntilMet_3 (Nat.le_of_ble_eq_true rfl) ?_
  refine l_Cls_sumUntilMet (by omega) hab na nb na2 nb2 h0 hl hla hlb (fun h1 y p1 p2 f1 => ?_) 17 0 h (by omega) (by omega) ea eb hr (fun q _ _ => rfl)
  refine z_iload_n dCls_sumUntilMet_52 rfl ?_
  refine z_iret rfl rfl dCls_sumUntilMet_53 ?_
  exact ⟨rfl, p1, p2, f1⟩
end CLS9
end
section
section CLS10
variable {G : zG} {l : Launch} {h h' : zHp} {ad : Nat → Nat} {S : zSt}
theorem zCls.cu2 {c o : Nat} {t1 s1 l1 i1 a1 t2 s2 l2 i2 a2 : Int} (hC : zCls G h ad S) (hc : c < 3) (ho : o < 3) (hne : c ≠ o) (p1 : zCe h' (ad (5 + c)) t1 s1 l1 i1 a1) (p2 : zCe h' (ad (5 + o)) t2 s2 l2 i2 a2) (x0 : t1 = 0 ∨ t1 = 1) (x1 : s1 = 0 ∨ s1 = 1) (x2 : zI32 l1) (x3 : zI32 i1) (x4 : zI32 a1) (y0 : t2 = 0 ∨ t2 = 1) (y1 : s2 = 0 ∨ s2 = 1) (y2 : zI32 l2) (y3 : zI32 i2) (y4 : zI32 a2) (hf : ∀ q, q ≠ ad (5 + c) → q ≠ ad (5 + o) → h' q = h q) : zCls G h' ad (zsC (zsC S (zup S.2.1 c (zCv t1 s1 l1 i1 a1))) (zup (zup S.2.1 c (zCv t1 s1 l1 i1 a1)) o (zCv t2 s2 l2 i2 a2))) := by
  have hm : zCls G (zup h' (ad (5 + o)) (h (ad (5 + o)))) ad (zsC S (zup S.2.1 c (zCv t1 s1 l1 i1 a1))) := hC.cu hc ((zup_ne (hC.inj (by omega) (by omega) (by omega))).trans p1) x0 x1 x2 x3 x4 (fun q a => by
    by_cases e : q = ad (5 + o)
    · subst e; exact zup_same _ _ _
    · exact (zup_ne e).trans (hf q a e))
  exact hm.cu ho p2 y0 y1 y2 y3 y4 (fun q hq => (zup_ne hq).symm)
theorem zCost_cn {T T' : Nat → Int} {L : List Int} (H : ∀ k : Nat, k < 8 → T k = T' k) : ∀ n : Nat, n ≤ 8 → zCost T L n = zCost T' L n
  | 0, _ => rfl
  | n + 1, hn => by
    unfold zCost
    rw [zCost_cn H n (by omega), H n (by omega)]
theorem zCost_cg {T : Nat → Int} {A L : List Int} (H : ∀ k : Nat, k < 8 → T k = (zCnt A k : Int)) : zCost T L 8 = zCost (zCntT A) L 8 := zCost_cn H 8 (by omega)
theorem k_Cls_meet {c o : Int} (hO : zOk S) (hC : zCls G h ad S) (z_c : zI32 c) (z_o : zI32 o) : zM G l hCls_meet yCls_meet 9 [.ref (ad 0), zi c, zi o] h (zQc G ad h (sp_meet S c o)) (zXc G ad h (sp_meet S c o)) 6 36 := by
  obtain ⟨c1, c2, ⟨g3, c3, d3⟩, ⟨g4, c4, d4⟩, c5, ⟨T6, c6, d6⟩, c7, c8, ⟨R9, c9⟩, c10⟩ := id hC
  obtain ⟨f16, e16, -⟩ := id c9
  refine zM.of [some (.ref (ad 0)), some (zi c), some (zi o), none, none] (by decide +kernel) rfl (by decide) rfl (Nat.le_of_ble_eq_true rfl) rfl ?_
  refine z_aload_n dCls_meet_0 rfl ?_
  refine z_iload_n dCls_meet_1 rfl ?_
  refine z_callV (bc' := 5) (bs' := 30) MV_Cls_cursorAt lk_Cls_137 dCls_meet_2 (k_Cls_cursorAt (by assumption) (by omega)) rfl rfl (Nat.le_of_ble_eq_true rfl) rfl (by assumption) (Nat.le_of_ble_eq_true rfl) (Nat.le_of_ble_eq_true rfl) (by decide) (by decide) (fun E h9 q9 => z_out rfl (by obtain ⟨rfl, q1, rfl⟩ := q9; exact zXc.mk (by assumption) (by first | exact zFrm.rf | assumption) (by unfold sp_meet; (try unfold spPut); (try simp only [Int.toNat_natCast]); (repeat (first | rw [if_pos (by omega)] | rw [if_neg (by omega)] | rw [if_pos (by assumption)] | rw [if_neg (by assumption)] | rw [if_pos (True.intro : True)])); all_goals (first | rfl | (congr 2; omega) | (congr 1; congr 1; omega))))) ?_
  rintro _ _ ⟨rfl, aA1, aA2, rfl⟩
  obtain ⟨kA, rfl⟩ := Int.eq_ofNat_of_zero_le aA1
  simp only [Int.toNat_natCast]
  have hkA : kA < 3 := by omega
  have hcA := hC.cs hkA
  obtain ⟨stA, liA, ixA, laA, eA, bA0, bA1, iA2, iA3, iA4, eA7⟩ := id hcA
  refine z_astore_n dCls_meet_5 (Nat.le_of_ble_eq_true rfl) ?_
  refine z_aload_n dCls_meet_6 rfl ?_
  refine z_iload_n dCls_meet_7 rfl ?_
  refine z_callV (bc' := 4) (bs' := 24) MV_Cls_cursorAt lk_Cls_137 dCls_meet_8 (k_Cls_cursorAt (by assumption) (by omega)) rfl rfl (Nat.le_of_ble_eq_true rfl) rfl (by assumption) (Nat.le_of_ble_eq_true rfl) (Nat.le_of_ble_eq_true rfl) (by decide) (by decide) (fun E h9 q9 => z_out rfl (by obtain ⟨rfl, q1, rfl⟩ := q9; exact zXc.mk (by assumption) (by first | exact zFrm.rf | assumption) (by unfold sp_meet; (try unfold spPut); (try simp only [Int.toNat_natCast]); (repeat (first | rw [if_pos (by omega)] | rw [if_neg (by omega)] | rw [if_pos (by assumption)] | rw [if_neg (by assumption)] | rw [if_pos (True.intro : True)])); all_goals (first | rfl | (congr 2; omega) | (congr 1; congr 1; omega))))) ?_
  rintro _ _ ⟨rfl, aB1, aB2, rfl⟩
  obtain ⟨kB, rfl⟩ := Int.eq_ofNat_of_zero_le aB1
  simp only [Int.toNat_natCast]
  have hkB : kB < 3 := by omega
  have hcB := hC.cs hkB
  obtain ⟨stB, liB, ixB, laB, eB, bB0, bB1, iB2, iB3, iB4, eB7⟩ := id hcB
  refine z_astore dCls_meet_11 (Nat.le_of_ble_eq_true rfl) ?_
  refine z_iload_n dCls_meet_13 rfl ?_
  refine z_iload_n dCls_meet_14 rfl ?_
  refine z_icmp_ne (tgt := 28) dCls_meet_15 (by decide) (by omega) (by omega) (fun c15 => ?_) (fun c15 => ?_)
  · refine z_aload_n dCls_meet_28 rfl ?_
    refine z_callS (bc' := 3) (bs' := 18) MS_Cls_demandThere lk_Cls_148 dCls_meet_29 (k_Cls_demandThere hcA) rfl rfl (Nat.le_of_ble_eq_true rfl)  (Nat.le_of_ble_eq_true rfl) (Nat.le_of_ble_eq_true rfl) (by decide) (by decide) (fun E h9 q9 => z_out rfl (by obtain ⟨rfl, q1, rfl⟩ := q9; exact zXc.mk (by assumption) (by first | exact zFrm.rf | assumption) (by unfold sp_meet; (try unfold spPut); (try simp only [Int.toNat_natCast]); (repeat (first | rw [if_pos (by omega)] | rw [if_neg (by omega)] | rw [if_pos (by assumption)] | rw [if_neg (by assumption)] | rw [if_pos (True.intro : True)])); all_goals (first | rfl | (congr 2; omega) | (congr 1; congr 1; omega))))) ?_
    rintro _ _ ⟨rfl, tA, rfl⟩
    obtain ⟨rfl, rfl, rfl, rfl⟩ := eA7 tA
    obtain ⟨oA2, oA3, oA4, oA5⟩ := hO.1 kA hkA tA
    refine z_aload dCls_meet_32 rfl ?_
    refine z_callS (bc' := 2) (bs' := 12) MS_Cls_demandThere lk_Cls_148 dCls_meet_34 (k_Cls_demandThere hcB) rfl rfl (Nat.le_of_ble_eq_true rfl)  (Nat.le_of_ble_eq_true rfl) (Nat.le_of_ble_eq_true rfl) (by decide) (by decide) (fun E h9 q9 => z_out rfl (by obtain ⟨rfl, q1, rfl⟩ := q9; exact zXc.mk (by assumption) (by first | exact zFrm.rf | assumption) (by unfold sp_meet; (try unfold spPut); (try simp only [Int.toNat_natCast]); (repeat (first | rw [if_pos (by omega)] | rw [if_neg (by omega)] | rw [if_pos (by assumption)] | rw [if_neg (by assumption)] | rw [if_pos (True.intro : True)])); all_goals (first | rfl | (congr 2; omega) | (congr 1; congr 1; omega))))) ?_
    rintro _ _ ⟨rfl, tB, rfl⟩
    obtain ⟨rfl, rfl, rfl, rfl⟩ := eB7 tB
    obtain ⟨oB2, oB3, oB4, oB5⟩ := hO.1 kB hkB tB
    refine z_aload_n dCls_meet_37 rfl ?_
    refine z_getN (k := 1) fd_Cur (by decide) fl_Cls_152 dCls_meet_38 (by assumption) (by rfl) ?_
    refine z_if_ne (tgt := 76) dCls_meet_41 (by decide) (by omega) (fun c41 => ?_) (fun c41 => ?_)
    · refine z_aload_n dCls_meet_76 rfl ?_
      refine z_callV MV_Cls_refuse lk_Cls_54 dCls_meet_77 (k_Cls_refuse (by assumption)) rfl rfl (Nat.le_of_ble_eq_true rfl) rfl (by assumption) (Nat.le_of_ble_eq_true rfl) (Nat.le_of_ble_eq_true rfl) (Nat.le_of_eq (Nat.zero_add _)) (Nat.le_of_eq (Nat.zero_add _)) (fun _ _ q => q.elim) ?_
      rintro _ h9 ⟨rfl, hC9, fz9⟩
      refine z_iret rfl rfl dCls_meet_80 ?_
      first
        | (exfalso; omega)
        | exact zQc.mk (by assumption) (by first | exact zFrm.rf | assumption) (by unfold sp_meet; (try unfold spPut); (try simp only [Int.toNat_natCast]); (repeat (first | rw [if_pos (by omega)] | rw [if_neg (by omega)] | rw [if_pos (by assumption)] | rw [if_neg (by assumption)] | rw [if_pos (True.intro : True)])); all_goals (first | rfl | (congr 2; omega) | (congr 1; congr 1; omega)))
    · refine z_aload dCls_meet_44 rfl ?_
      refine z_getN (k := 1) fd_Cur (by decide) fl_Cls_152 dCls_meet_46 (by assumption) (by rfl) ?_
      refine z_if_ne (tgt := 76) dCls_meet_49 (by decide) (by omega) (fun c49 => ?_) (fun c49 => ?_)
      · refine z_aload_n dCls_meet_76 rfl ?_
        refine z_callV MV_Cls_refuse lk_Cls_54 dCls_meet_77 (k_Cls_refuse (by assumption)) rfl rfl (Nat.le_of_ble_eq_true rfl) rfl (by assumption) (Nat.le_of_ble_eq_true rfl) (Nat.le_of_ble_eq_true rfl) (Nat.le_of_eq (Nat.zero_add _)) (Nat.le_of_eq (Nat.zero_add _)) (fun _ _ q => q.elim) ?_
        rintro _ h9 ⟨rfl, hC9, fz9⟩
        refine z_iret rfl rfl dCls_meet_80 ?_
        first
          | (exfalso; omega)
          | exact zQc.mk (by assumption) (by first | exact zFrm.rf | assumption) (by unfold sp_meet; (try unfold spPut); (try simp only [Int.toNat_natCast]); (repeat (first | rw [if_pos (by omega)] | rw [if_neg (by omega)] | rw [if_pos (by assumption)] | rw [if_neg (by assumption)] | rw [if_pos (True.intro : True)])); all_goals (first | rfl | (congr 2; omega) | (congr 1; congr 1; omega)))
      · refine z_aload_n dCls_meet_52 rfl ?_
        refine z_getN (k := 2) fd_Cur (by decide) fl_Cls_169 dCls_meet_53 (by assumption) (by rfl) ?_
        refine z_aload dCls_meet_56 rfl ?_
        refine z_getN (k := 2) fd_Cur (by decide) fl_Cls_169 dCls_meet_58 (by assumption) (by rfl) ?_
        refine z_icmp_ne (tgt := 76) dCls_meet_61 (by decide) (by omega) (by omega) (fun c61 => ?_) (fun c61 => ?_)
        · refine z_aload_n dCls_meet_76 rfl ?_
          refine z_callV MV_Cls_refuse lk_Cls_54 dCls_meet_77 (k_Cls_refuse (by assumption)) rfl rfl (Nat.le_of_ble_eq_true rfl) rfl (by assumption) (Nat.le_of_ble_eq_true rfl) (Nat.le_of_ble_eq_true rfl) (Nat.le_of_eq (Nat.zero_add _)) (Nat.le_of_eq (Nat.zero_add _)) (fun _ _ q => q.elim) ?_
          rintro _ h9 ⟨rfl, hC9, fz9⟩
          refine z_iret rfl rfl dCls_meet_80 ?_
          first
            | (exfalso; omega)
            | exact zQc.mk (by assumption) (by first | exact zFrm.rf | assumption) (by unfold sp_meet; (try unfold spPut); (try simp only [Int.toNat_natCast]); (repeat (first | rw [if_pos (by omega)] | rw [if_neg (by omega)] | rw [if_pos (by assumption)] | rw [if_neg (by assumption)] | rw [if_pos (True.intro : True)])); all_goals (first | rfl | (congr 2; omega) | (congr 1; congr 1; omega)))
        · refine z_aload_n dCls_meet_64 rfl ?_
          refine z_getN (k := 3) fd_Cur (by decide) fl_Cls_172 dCls_meet_65 (by assumption) (by rfl) ?_
          refine z_aload dCls_meet_68 rfl ?_
          refine z_getN (k := 3) fd_Cur (by decide) fl_Cls_172 dCls_meet_70 (by assumption) (by rfl) ?_
          refine z_icmp_le (tgt := 81) dCls_meet_73 (by decide) (by omega) (by omega) (fun c73 => ?_) (fun c73 => ?_)
          · refine z_aload_n dCls_meet_81 rfl ?_
            refine z_aload dCls_meet_82 rfl ?_
            refine z_aload_n dCls_meet_84 rfl ?_
            refine z_aload_n dCls_meet_85 rfl ?_
            refine z_callV (bc' := 1) (bs' := 6) MV_Cls_rowUnder lk_Cls_155 dCls_meet_86 (k_Cls_rowUnder (c := 0) (by assumption) hcA tA (by omega)) rfl rfl (Nat.le_of_ble_eq_true rfl) rfl (by assumption) (Nat.le_of_ble_eq_true rfl) (Nat.le_of_ble_eq_true rfl) (by decide) (by decide) (fun _ _ q => q.elim) ?_
            rintro _ _ ⟨rfl, rfl⟩
            have hkU : (S.2.1 kA 2).toNat < 4 := by omega
            have hrU := hC.ls hkU
            obtain ⟨fU, eU, -⟩ := id hrU
            have hlU := hrU.len
            have hle := oB5 (by omega)
            rw [← (show S.2.1 kA 2 = S.2.1 kB 2 by omega)] at hle
            refine z_callS MS_Cls_sumUntilMet lk_Cls_188 dCls_meet_89 (k_Cls_sumUntilMet (hC.inj (i := 5 + kA) (j := 5 + kB) (by omega) (by omega) (by omega)) (hC.inj (by omega) (by omega) (by omega)) (hC.inj (by omega) (by omega) (by omega)) (hC.inj (by omega) (by omega) (by omega)) (hC.inj (by omega) (by omega) (by omega)) (by omega) (by omega) (by omega) (by omega) hrU (show zCe _ _ _ _ _ _ _ from eA) (show zCe _ _ _ _ _ _ _ from eB)) rfl rfl (Nat.le_of_ble_eq_true rfl)  (Nat.le_of_ble_eq_true rfl) (Nat.le_of_ble_eq_true rfl) (Nat.le_of_eq (Nat.zero_add _)) (Nat.le_of_eq (Nat.zero_add _)) (fun _ _ q => q.elim) ?_
            rintro _ h1 ⟨rfl, p1, p2, f1⟩
            have hin := (zMt_in (L := S.1 (S.2.1 kA 2).toNat) (ia := S.2.1 kA 3) (la := S.2.1 kA 4) (ib := S.2.1 kB 3) (lb := S.2.1 kB 4) (by omega) (by omega) (by omega) 16)
            have hC1 := hC.cu2 hkA hkB (by omega) p1 p2 bA0 bA1 (by omega) (by omega) (by omega) bB0 bB1 (by omega) (by omega) (by omega) f1
            have fz1 : zFrm ad h h1 := fun q hq => f1 q (hq _ (by omega)) (hq _ (by omega))
            refine z_iret rfl rfl dCls_meet_92 ?_
            first
              | (exfalso; omega)
              | exact zQc.mk (by assumption) (by first | exact zFrm.rf | assumption) (by unfold sp_meet; (try unfold spPut); (try simp only [Int.toNat_natCast]); (repeat (first | rw [if_pos (by omega)] | rw [if_neg (by omega)] | rw [if_pos (by assumption)] | rw [if_neg (by assumption)] | rw [if_pos (True.intro : True)])); all_goals (first | rfl | (congr 2; omega) | (congr 1; congr 1; omega)))
          · refine z_aload_n dCls_meet_76 rfl ?_
            refine z_callV MV_Cls_refuse lk_Cls_54 dCls_meet_77 (k_Cls_refuse (by assumption)) rfl rfl (Nat.le_of_ble_eq_true rfl) rfl (by assumption) (Nat.le_of_ble_eq_true rfl) (Nat.le_of_ble_eq_true rfl) (Nat.le_of_eq (Nat.zero_add _)) (Nat.le_of_eq (Nat.zero_add _)) (fun _ _ q => q.elim) ?_
            rintro _ h9 ⟨rfl, hC9, fz9⟩
            refine z_iret rfl rfl dCls_meet_80 ?_
            first
              | (exfalso; omega)
              | exact zQc.mk (by assumption) (by first | exact zFrm.rf | assumption) (by unfold sp_meet; (try unfold spPut); (try simp only [Int.toNat_natCast]); (repeat (first | rw [if_pos (by omega)] | rw [if_neg (by omega)] | rw [if_pos (by assumption)] | rw [if_neg (by assumption)] | rw [if_pos (True.intro : True)])); all_goals (first | rfl | (congr 2; omega) | (congr 1; congr 1; omega)))
  · refine z_throw (text := "a cursor does not meet itself") (names := ["java/lang/RuntimeException", "java/lang/Exception"]) tw_185.2.2.2.1 tw_185.2.2.2.2 cl_Cls_181 in_IllegalArgumentException (by decide +kernel) tw_185.1 tw_185.2.1 tw_185.2.2.1 rfl dCls_meet_18 dCls_meet_21 dCls_meet_22 dCls_meet_24 dCls_meet_27 (by decide) (Nat.le_of_ble_eq_true rfl) (by decide) (by decide) ?_
    exact zXc.mk (by assumption) zFrm.rf (by unfold sp_meet; (try unfold spPut); (try simp only [Int.toNat_natCast]); (repeat (first | rw [if_pos (by omega)] | rw [if_neg (by omega)] | rw [if_pos (by assumption)] | rw [if_neg (by assumption)] | rw [if_pos (True.intro : True)])); all_goals (first | rfl | (congr 2; omega) | (congr 1; congr 1; omega)))
theorem k_Cls_ask {key : Int} (hO : zOk S) (hC : zCls G h ad S) (z_key : zI32 key) : zM G l hCls_ask yCls_ask 9 [.ref (ad 0), zi key] h (zQc G ad h (sp_ask S key)) (zXc G ad h (sp_ask S key)) 6 36 := by
  obtain ⟨c1, c2, ⟨g3, c3, d3⟩, ⟨g4, c4, d4⟩, c5, ⟨T6, c6, d6⟩, c7, c8, ⟨R9, c9⟩, c10⟩ := id hC
  obtain ⟨f16, e16, -⟩ := id c9
  have hA60 := hO.2.2.2.1
  obtain ⟨f18, e18, -⟩ := id c10
  refine zM.of [some (.ref (ad 0)), some (zi key)] (by decide +kernel) rfl (by decide) rfl (Nat.le_of_ble_eq_true rfl) rfl ?_
  refine z_iload_n dCls_ask_0 rfl ?_
  refine z_iconst dCls_ask_1 ?_
  refine z_bipush dCls_ask_2 rfl ?_
  refine z_callS (bc' := 5) (bs' := 30) MS_Cls_demandWithin lk_Cls_38 dCls_ask_4 (k_Cls_demandWithin (by omega) (by omega) (by omega)) rfl rfl (Nat.le_of_ble_eq_true rfl)  (Nat.le_of_ble_eq_true rfl) (Nat.le_of_ble_eq_true rfl) (by decide) (by decide) (fun E h9 q9 => z_out rfl (by obtain ⟨rfl, q1, rfl⟩ := q9; exact zXc.mk (by assumption) (by first | exact zFrm.rf | assumption) (by unfold sp_ask; (try unfold spPut); (try simp only [Int.toNat_natCast]); (repeat (first | rw [if_pos (by omega)] | rw [if_neg (by omega)] | rw [if_pos (by assumption)] | rw [if_neg (by assumption)] | rw [if_pos (True.intro : True)])); all_goals (first | rfl | (congr 2; omega) | (congr 1; congr 1; omega))))) ?_
  rintro _ _ ⟨rfl, w1, w2, rfl⟩
  refine z_aload_n dCls_ask_7 rfl ?_
  refine z_get (k := 2) fd_Cls (by decide) fl_Cls_24 dCls_ask_8 (by assumption) (by rfl) ?_
  refine z_getN (k := 2) fd_Rec (by decide) fl_Cls_215 dCls_ask_11 (by assumption) (by rfl) ?_
  refine z_bipush dCls_ask_14 rfl ?_
  refine z_icmp_lt (tgt := 29) dCls_ask_16 (by decide) (by omega) (by omega) (fun c16 => ?_) (fun c16 => ?_)
  · refine z_aload_n dCls_ask_29 rfl ?_
    refine z_get (k := 2) fd_Cls (by decide) fl_Cls_24 dCls_ask_30 (by assumption) (by rfl) ?_
    refine z_iload_n dCls_ask_33 rfl ?_
    refine z_callVN MV_Rec_bringAhead lk_Cls_223 dCls_ask_34 (k_Rec_bringAhead c5 c6 c10 (hC.inj (by omega) (by omega) (by omega)) (hC.inj (by omega) (by omega) (by omega)) (hC.inj (by omega) (by omega) (by omega)) (hC.inj (by omega) (by omega) (by omega)) (hC.inj (by omega) (by omega) (by omega)) (by omega) (hO.2.1 key (by omega) (by omega))) rfl rfl (Nat.le_of_ble_eq_true rfl) rfl (by assumption) (Nat.le_of_ble_eq_true rfl) (Nat.le_of_ble_eq_true rfl) (Nat.le_of_eq (Nat.zero_add _)) (Nat.le_of_eq (Nat.zero_add _)) (fun _ _ q => q.elim) ?_
    rintro _ h1 ⟨rfl, p1, p2, p3, f1⟩
    have e8 : ((S.2.2.2.1 ++ [key]).length : Int) = (S.2.2.2.1.length : Int) + 1 := by simp
    have hC1 := hC.rc (A' := S.2.2.2.1 ++ [key]) (by rw [e8, zLastOf_app]; exact p1) p2 (fun k hk => by
      rw [zCnt_app]
      by_cases e : (k : Int) = key
      · have e' : k = key.toNat := by omega
        rw [if_pos e, ← d6 k hk, e']
        exact zup_same _ _ _
      · rw [if_neg e, ← d6 k hk, Int.add_zero]
        exact zup_ne (by omega)) p3 f1
    have fz1 : zFrm ad h h1 := zFrm.of4 f1
    refine z_iret rfl rfl dCls_ask_37 ?_
    first
      | (exfalso; omega)
      | exact zQc.mk (by assumption) (by first | exact zFrm.rf | assumption) (by unfold sp_ask; (try unfold spPut); (try simp only [Int.toNat_natCast]); (repeat (first | rw [if_pos (by omega)] | rw [if_neg (by omega)] | rw [if_pos (by assumption)] | rw [if_neg (by assumption)] | rw [if_pos (True.intro : True)])); all_goals (first | rfl | (congr 2; omega) | (congr 1; congr 1; omega)))
  · refine z_throw (text := "no more askings") (names := ["java/lang/RuntimeException", "java/lang/Exception"]) tw_222.2.2.2.1 tw_222.2.2.2.2 cl_Cls_218 in_IllegalStateException (by decide +kernel) tw_222.1 tw_222.2.1 tw_222.2.2.1 rfl dCls_ask_19 dCls_ask_22 dCls_ask_23 dCls_ask_25 dCls_ask_28 (by decide) (Nat.le_of_ble_eq_true rfl) (by decide) (by decide) ?_
    exact zXc.mk (by assumption) zFrm.rf (by unfold sp_ask; (try unfold spPut); (try simp only [Int.toNat_natCast]); (repeat (first | rw [if_pos (by omega)] | rw [if_neg (by omega)] | rw [if_pos (by assumption)] | rw [if_neg (by assumption)] | rw [if_pos (True.intro : True)])); all_goals (first | rfl | (congr 2; omega) | (congr 1; congr 1; omega)))
theorem k_Cls_forget  (hC : zCls G h ad S)  : zM G l hCls_forget yCls_forget 9 [.ref (ad 0)] h (zQc G ad h (sp_forget S)) (zXc G ad h (sp_forget S)) 6 36 := by
  obtain ⟨c1, c2, ⟨g3, c3, d3⟩, ⟨g4, c4, d4⟩, c5, ⟨T6, c6, d6⟩, c7, c8, ⟨R9, c9⟩, c10⟩ := id hC
  obtain ⟨f16, e16, -⟩ := id c9
  refine zM.of [some (.ref (ad 0)), none] (by decide +kernel) rfl (by decide) rfl (Nat.le_of_ble_eq_true rfl) rfl ?_
  refine z_aload_n dCls_forget_0 rfl ?_
  refine z_get (k := 2) fd_Cls (by decide) fl_Cls_24 dCls_forget_1 (by assumption) (by rfl) ?_
  refine z_getN (k := 2) fd_Rec (by decide) fl_Cls_215 dCls_forget_4 (by assumption) (by rfl) ?_
  refine z_istore_n dCls_forget_7 (Nat.le_of_ble_eq_true rfl) ?_
  refine z_aload_n dCls_forget_8 rfl ?_
  refine z_get (k := 2) fd_Cls (by decide) fl_Cls_24 dCls_forget_9 (by assumption) (by rfl) ?_
  refine z_callVN MV_Rec_begin lk_Cls_226 dCls_forget_12 (k_Rec_begin c5 c6 c10 (hC.inj (by omega) (by omega) (by omega)) (hC.inj (by omega) (by omega) (by omega)) (hC.inj (by omega) (by omega) (by omega)) (hC.inj (by omega) (by omega) (by omega)) (hC.inj (by omega) (by omega) (by omega))) rfl rfl (Nat.le_of_ble_eq_true rfl) rfl (by assumption) (Nat.le_of_ble_eq_true rfl) (Nat.le_of_ble_eq_true rfl) (Nat.le_of_eq (Nat.zero_add _)) (Nat.le_of_eq (Nat.zero_add _)) (fun _ _ q => q.elim) ?_
  rintro _ h1 ⟨rfl, p1, ⟨T9, p2, q2⟩, p3, f1⟩
  have hC1 := hC.rc (A' := []) (x := 0) p1 p2 (fun k hk => q2 k hk) p3 f1
  have fz1 : zFrm ad h h1 := zFrm.of4 f1
  refine z_iload_n dCls_forget_15 rfl ?_
  refine z_iret rfl rfl dCls_forget_16 ?_
  exact zQc.mk hC1 fz1 rfl
theorem k_Cls_asked {w : Int}  (hC : zCls G h ad S) (z_w : zI32 w) : zM G l hCls_asked yCls_asked 9 [.ref (ad 0), zi w] h (zQc G ad h (sp_asked S w)) (zXc G ad h (sp_asked S w)) 6 36 := by
  obtain ⟨c1, c2, ⟨g3, c3, d3⟩, ⟨g4, c4, d4⟩, c5, ⟨T6, c6, d6⟩, c7, c8, ⟨R9, c9⟩, c10⟩ := id hC
  obtain ⟨f16, e16, -⟩ := id c9
  obtain ⟨f18, e18, -⟩ := id c10
  refine zM.of [some (.ref (ad 0)), some (zi w)] (by decide +kernel) rfl (by decide) rfl (Nat.le_of_ble_eq_true rfl) rfl ?_
  refine z_iload_n dCls_asked_0 rfl ?_
  refine z_iconst dCls_asked_1 ?_
  refine z_iconst dCls_asked_2 ?_
  refine z_callS (bc' := 5) (bs' := 30) MS_Cls_demandWithin lk_Cls_38 dCls_asked_3 (k_Cls_demandWithin (by omega) (by omega) (by omega)) rfl rfl (Nat.le_of_ble_eq_true rfl)  (Nat.le_of_ble_eq_true rfl) (Nat.le_of_ble_eq_true rfl) (by decide) (by decide) (fun E h9 q9 => z_out rfl (by obtain ⟨rfl, q1, rfl⟩ := q9; exact zXc.mk (by assumption) (by first | exact zFrm.rf | assumption) (by unfold sp_asked; (try unfold spPut); (try simp only [Int.toNat_natCast]); (repeat (first | rw [if_pos (by omega)] | rw [if_neg (by omega)] | rw [if_pos (by assumption)] | rw [if_neg (by assumption)] | rw [if_pos (True.intro : True)])); all_goals (first | rfl | (congr 2; omega) | (congr 1; congr 1; omega))))) ?_
  rintro _ _ ⟨rfl, w1, w2, rfl⟩
  refine z_iload_n dCls_asked_6 rfl ?_
  rcases (show w = 0 ∨ w = 1 ∨ w = 2 ∨ w = 3 by omega) with rfl | rfl | rfl | rfl
  · refine z_tableIn (tgt := 32) dCls_asked_7 (by omega) (by omega) (by omega) rfl (by decide) ?_
    refine z_aload_n dCls_asked_32 rfl ?_
    refine z_get (k := 2) fd_Cls (by decide) fl_Cls_24 dCls_asked_33 (by assumption) (by rfl) ?_
    refine z_getN (k := 2) fd_Rec (by decide) fl_Cls_215 dCls_asked_36 (by assumption) (by rfl) ?_
    refine z_iret rfl rfl dCls_asked_39 ?_
    first
      | (exfalso; omega)
      | exact zQc.mk (by assumption) (by first | exact zFrm.rf | assumption) (by unfold sp_asked; (try unfold spPut); (try simp only [Int.toNat_natCast]); (repeat (first | rw [if_pos (by omega)] | rw [if_neg (by omega)] | rw [if_pos (by assumption)] | rw [if_neg (by assumption)] | rw [if_pos (True.intro : True)])); all_goals (first | rfl | (congr 2; omega) | (congr 1; congr 1; omega)))
  · refine z_tableIn (tgt := 40) dCls_asked_7 (by omega) (by omega) (by omega) rfl (by decide) ?_
    refine z_aload_n dCls_asked_40 rfl ?_
    refine z_get (k := 2) fd_Cls (by decide) fl_Cls_24 dCls_asked_41 (by assumption) (by rfl) ?_
    refine z_getN (k := 3) fd_Rec (by decide) fl_Cls_228 dCls_asked_44 (by assumption) (by rfl) ?_
    refine z_iret rfl rfl dCls_asked_47 ?_
    first
      | (exfalso; omega)
      | exact zQc.mk (by assumption) (by first | exact zFrm.rf | assumption) (by unfold sp_asked; (try unfold spPut); (try simp only [Int.toNat_natCast]); (repeat (first | rw [if_pos (by omega)] | rw [if_neg (by omega)] | rw [if_pos (by assumption)] | rw [if_neg (by assumption)] | rw [if_pos (True.intro : True)])); all_goals (first | rfl | (congr 2; omega) | (congr 1; congr 1; omega)))
  · refine z_tableIn (tgt := 48) dCls_asked_7 (by omega) (by omega) (by omega) rfl (by decide) ?_
    refine z_aload_n dCls_asked_48 rfl ?_
    refine z_get (k := 2) fd_Cls (by decide) fl_Cls_24 dCls_asked_49 (by assumption) (by rfl) ?_
    refine z_getN (k := 4) fd_Rec (by decide) fl_Cls_231 dCls_asked_52 (by assumption) (by rfl) ?_
    refine z_iret rfl rfl dCls_asked_55 ?_
    first
      | (exfalso; omega)
      | exact zQc.mk (by assumption) (by first | exact zFrm.rf | assumption) (by unfold sp_asked; (try unfold spPut); (try simp only [Int.toNat_natCast]); (repeat (first | rw [if_pos (by omega)] | rw [if_neg (by omega)] | rw [if_pos (by assumption)] | rw [if_neg (by assumption)] | rw [if_pos (True.intro : True)])); all_goals (first | rfl | (congr 2; omega) | (congr 1; congr 1; omega)))
  · refine z_tableOut (tgt := 56) dCls_asked_7 (by omega) (by omega) (by decide) ?_
    refine z_aload_n dCls_asked_56 rfl ?_
    refine z_get (k := 2) fd_Cls (by decide) fl_Cls_24 dCls_asked_57 (by assumption) (by rfl) ?_
    refine z_getN (k := 0) fd_Rec (by decide) fl_Cls_234 dCls_asked_60 (by assumption) (by rfl) ?_
    refine z_bipush dCls_asked_63 rfl ?_
    refine z_callVN MV_Row_itemAt lk_Cls_70 dCls_asked_65 (k_Row_itemAt c10 (by omega)) rfl rfl (Nat.le_of_ble_eq_true rfl) rfl (by assumption) (Nat.le_of_ble_eq_true rfl) (Nat.le_of_ble_eq_true rfl) (Nat.le_of_eq (Nat.zero_add _)) (Nat.le_of_eq (Nat.zero_add _)) (fun _ _ q => q.elim) ?_
    rintro _ _ ⟨rfl, rfl⟩
    refine z_iret rfl rfl dCls_asked_68 ?_
    first
      | (exfalso; omega)
      | exact zQc.mk (by assumption) (by first | exact zFrm.rf | assumption) (by unfold sp_asked; (try unfold spPut); (try simp only [Int.toNat_natCast]); (repeat (first | rw [if_pos (by omega)] | rw [if_neg (by omega)] | rw [if_pos (by assumption)] | rw [if_neg (by assumption)] | rw [if_pos (True.intro : True)])); all_goals (first | rfl | (congr 2; omega) | (congr 1; congr 1; omega)))
theorem k_Cls_byOrder {p w : Int}  (hC : zCls G h ad S) (z_p : zI32 p) (z_w : zI32 w) : zM G l hCls_byOrder yCls_byOrder 9 [.ref (ad 0), zi p, zi w] h (zQc G ad h (sp_byOrder S p w)) (zXc G ad h (sp_byOrder S p w)) 6 36 := by
  obtain ⟨c1, c2, ⟨g3, c3, d3⟩, ⟨g4, c4, d4⟩, c5, ⟨T6, c6, d6⟩, c7, c8, ⟨R9, c9⟩, c10⟩ := id hC
  obtain ⟨f16, e16, -⟩ := id c9
  refine zM.of [some (.ref (ad 0)), some (zi p), some (zi w), none] (by decide +kernel) rfl (by decide) rfl (Nat.le_of_ble_eq_true rfl) rfl ?_
  refine z_aload_n dCls_byOrder_0 rfl ?_
  refine z_iload_n dCls_byOrder_1 rfl ?_
  refine z_callV (bc' := 5) (bs' := 30) MV_Cls_listAt lk_Cls_34 dCls_byOrder_2 (k_Cls_listAt (by assumption) (by omega)) rfl rfl (Nat.le_of_ble_eq_true rfl) rfl (by assumption) (Nat.le_of_ble_eq_true rfl) (Nat.le_of_ble_eq_true rfl) (by decide) (by decide) (fun E h9 q9 => z_out rfl (by obtain ⟨rfl, q1, rfl⟩ := q9; exact zXc.mk (by assumption) (by first | exact zFrm.rf | assumption) (by unfold sp_byOrder; (try unfold spPut); (try simp only [Int.toNat_natCast]); (repeat (first | rw [if_pos (by omega)] | rw [if_neg (by omega)] | rw [if_pos (by assumption)] | rw [if_neg (by assumption)] | rw [if_pos (True.intro : True)])); all_goals (first | rfl | (congr 2; omega) | (congr 1; congr 1; omega))))) ?_
  rintro _ _ ⟨rfl, aA1, aA2, rfl⟩
  obtain ⟨kA, rfl⟩ := Int.eq_ofNat_of_zero_le aA1
  simp only [Int.toNat_natCast]
  have hkA : kA < 4 := by omega
  have hrA := hC.ls hkA
  obtain ⟨fA, eA, -⟩ := id hrA
  have hlA := hrA.len
  refine z_astore_n dCls_byOrder_5 (Nat.le_of_ble_eq_true rfl) ?_
  refine z_iload_n dCls_byOrder_6 rfl ?_
  refine z_iconst dCls_byOrder_7 ?_
  refine z_iconst dCls_byOrder_8 ?_
  refine z_callS (bc' := 4) (bs' := 24) MS_Cls_demandWithin lk_Cls_38 dCls_byOrder_9 (k_Cls_demandWithin (by omega) (by omega) (by omega)) rfl rfl (Nat.le_of_ble_eq_true rfl)  (Nat.le_of_ble_eq_true rfl) (Nat.le_of_ble_eq_true rfl) (by decide) (by decide) (fun E h9 q9 => z_out rfl (by obtain ⟨rfl, q1, rfl⟩ := q9; exact zXc.mk (by assumption) (by first | exact zFrm.rf | assumption) (by unfold sp_byOrder; (try unfold spPut); (try simp only [Int.toNat_natCast]); (repeat (first | rw [if_pos (by omega)] | rw [if_neg (by omega)] | rw [if_pos (by assumption)] | rw [if_neg (by assumption)] | rw [if_pos (True.intro : True)])); all_goals (first | rfl | (congr 2; omega) | (congr 1; congr 1; omega))))) ?_
  rintro _ _ ⟨rfl, w1, w2, rfl⟩
  refine z_aload_n dCls_byOrder_12 rfl ?_
  refine z_callVN MV_Row_isOrder lk_Cls_237 dCls_byOrder_13 (k_Row_isOrder hrA) rfl rfl (Nat.le_of_ble_eq_true rfl) rfl (by assumption) (Nat.le_of_ble_eq_true rfl) (Nat.le_of_ble_eq_true rfl) (Nat.le_of_eq (Nat.zero_add _)) (Nat.le_of_eq (Nat.zero_add _)) (fun _ _ q => q.elim) ?_
  rintro _ _ ⟨b9, rfl, (⟨rfl, m1⟩ | ⟨rfl, m1⟩), rfl⟩
  all_goals unfold zOrd at m1
  · refine z_if_ne (tgt := 24) dCls_byOrder_16 (by decide) (by omega) (fun c16 => ?_) (fun c16 => ?_)
    · refine z_iload_n dCls_byOrder_24 rfl ?_
      rcases (show w = 0 ∨ w = 1 ∨ w = 2 by omega) with rfl | rfl | rfl
      · refine z_lookup (tgt := 52) (off := 27) dCls_byOrder_25 (by omega) (by decide) (by decide) (by decide) ?_
        refine z_aload_n dCls_byOrder_52 rfl ?_
        refine z_get (k := 2) fd_Cls (by decide) fl_Cls_24 dCls_byOrder_53 (by assumption) (by rfl) ?_
        refine z_aload_n dCls_byOrder_56 rfl ?_
        refine z_callVN MV_Rec_costBy lk_Cls_241 dCls_byOrder_57 (k_Rec_costBy hrA c5 c6) rfl rfl (Nat.le_of_ble_eq_true rfl) rfl (by assumption) (Nat.le_of_ble_eq_true rfl) (Nat.le_of_ble_eq_true rfl) (Nat.le_of_eq (Nat.zero_add _)) (Nat.le_of_eq (Nat.zero_add _)) (fun _ _ q => q.elim) ?_
        rintro _ _ ⟨rfl, rfl⟩
        rw [zCost_cg d6]
        refine z_iret rfl rfl dCls_byOrder_60 ?_
        first
          | (exfalso; omega)
          | exact zQc.mk (by assumption) (by first | exact zFrm.rf | assumption) (by unfold sp_byOrder; (try unfold spPut); (try simp only [Int.toNat_natCast]); (repeat (first | rw [if_pos (by omega)] | rw [if_neg (by omega)] | rw [if_pos (by assumption)] | rw [if_neg (by assumption)] | rw [if_pos (True.intro : True)])); all_goals (first | rfl | (congr 2; omega) | (congr 1; congr 1; omega)))
      · refine z_lookup (tgt := 61) (off := 36) dCls_byOrder_25 (by omega) (by decide) (by decide) (by decide) ?_
        refine z_aload_n dCls_byOrder_61 rfl ?_
        refine z_callVN MV_Row_inversions lk_Cls_244 dCls_byOrder_62 (k_Row_inversions hrA) rfl rfl (Nat.le_of_ble_eq_true rfl) rfl (by assumption) (Nat.le_of_ble_eq_true rfl) (Nat.le_of_ble_eq_true rfl) (Nat.le_of_eq (Nat.zero_add _)) (Nat.le_of_eq (Nat.zero_add _)) (fun _ _ q => q.elim) ?_
        rintro _ _ ⟨rfl, rfl⟩
        refine z_iret rfl rfl dCls_byOrder_65 ?_
        first
          | (exfalso; omega)
          | exact zQc.mk (by assumption) (by first | exact zFrm.rf | assumption) (by unfold sp_byOrder; (try unfold spPut); (try simp only [Int.toNat_natCast]); (repeat (first | rw [if_pos (by omega)] | rw [if_neg (by omega)] | rw [if_pos (by assumption)] | rw [if_neg (by assumption)] | rw [if_pos (True.intro : True)])); all_goals (first | rfl | (congr 2; omega) | (congr 1; congr 1; omega)))
      · refine z_lookup (tgt := 66) (off := 41) dCls_byOrder_25 (by omega) (by decide) (by decide) (by decide) ?_
        refine z_aload_n dCls_byOrder_66 rfl ?_
        refine z_get (k := 2) fd_Cls (by decide) fl_Cls_24 dCls_byOrder_67 (by assumption) (by rfl) ?_
        refine z_aload_n dCls_byOrder_70 rfl ?_
        refine z_callVN MV_Rec_boundBy lk_Cls_247 dCls_byOrder_71 (k_Rec_boundBy hrA c5 c6) rfl rfl (Nat.le_of_ble_eq_true rfl) rfl (by assumption) (Nat.le_of_ble_eq_true rfl) (Nat.le_of_ble_eq_true rfl) (Nat.le_of_eq (Nat.zero_add _)) (Nat.le_of_eq (Nat.zero_add _)) (fun _ _ q => q.elim) ?_
        rintro _ _ ⟨rfl, rfl⟩
        rw [zCost_cg d6]
        refine z_iret rfl rfl dCls_byOrder_74 ?_
        first
          | (exfalso; omega)
          | exact zQc.mk (by assumption) (by first | exact zFrm.rf | assumption) (by unfold sp_byOrder; (try unfold spPut); (try simp only [Int.toNat_natCast]); (repeat (first | rw [if_pos (by omega)] | rw [if_neg (by omega)] | rw [if_pos (by assumption)] | rw [if_neg (by assumption)] | rw [if_pos (True.intro : True)])); all_goals (first | rfl | (congr 2; omega) | (congr 1; congr 1; omega)))
    · refine z_aload_n dCls_byOrder_19 rfl ?_
      refine z_callV MV_Cls_refuse lk_Cls_54 dCls_byOrder_20 (k_Cls_refuse (by assumption)) rfl rfl (Nat.le_of_ble_eq_true rfl) rfl (by assumption) (Nat.le_of_ble_eq_true rfl) (Nat.le_of_ble_eq_true rfl) (Nat.le_of_eq (Nat.zero_add _)) (Nat.le_of_eq (Nat.zero_add _)) (fun _ _ q => q.elim) ?_
      rintro _ h9 ⟨rfl, hC9, fz9⟩
      refine z_iret rfl rfl dCls_byOrder_23 ?_
      first
        | (exfalso; omega)
        | exact zQc.mk (by assumption) (by first | exact zFrm.rf | assumption) (by unfold sp_byOrder; (try unfold spPut); (try simp only [Int.toNat_natCast]); (repeat (first | rw [if_pos (by omega)] | rw [if_neg (by omega)] | rw [if_pos (by assumption)] | rw [if_neg (by assumption)] | rw [if_pos (True.intro : True)])); all_goals (first | rfl | (congr 2; omega) | (congr 1; congr 1; omega)))
  · refine z_if_ne (tgt := 24) dCls_byOrder_16 (by decide) (by omega) (fun c16 => ?_) (fun c16 => ?_)
    · refine z_iload_n dCls_byOrder_24 rfl ?_
      rcases (show w = 0 ∨ w = 1 ∨ w = 2 by omega) with rfl | rfl | rfl
      · refine z_lookup (tgt := 52) (off := 27) dCls_byOrder_25 (by omega) (by decide) (by decide) (by decide) ?_
        refine z_aload_n dCls_byOrder_52 rfl ?_
        refine z_get (k := 2) fd_Cls (by decide) fl_Cls_24 dCls_byOrder_53 (by assumption) (by rfl) ?_
        refine z_aload_n dCls_byOrder_56 rfl ?_
        refine z_callVN MV_Rec_costBy lk_Cls_241 dCls_byOrder_57 (k_Rec_costBy hrA c5 c6) rfl rfl (Nat.le_of_ble_eq_true rfl) rfl (by assumption) (Nat.le_of_ble_eq_true rfl) (Nat.le_of_ble_eq_true rfl) (Nat.le_of_eq (Nat.zero_add _)) (Nat.le_of_eq (Nat.zero_add _)) (fun _ _ q => q.elim) ?_
        rintro _ _ ⟨rfl, rfl⟩
        rw [zCost_cg d6]
        refine z_iret rfl rfl dCls_byOrder_60 ?_
        first
          | (exfalso; omega)
          | exact zQc.mk (by assumption) (by first | exact zFrm.rf | assumption) (by unfold sp_byOrder; (try unfold spPut); (try simp only [Int.toNat_natCast]); (repeat (first | rw [if_pos (by omega)] | rw [if_neg (by omega)] | rw [if_pos (by assumption)] | rw [if_neg (by assumption)] | rw [if_pos (True.intro : True)])); all_goals (first | rfl | (congr 2; omega) | (congr 1; congr 1; omega)))
      · refine z_lookup (tgt := 61) (off := 36) dCls_byOrder_25 (by omega) (by decide) (by decide) (by decide) ?_
        refine z_aload_n dCls_byOrder_61 rfl ?_
        refine z_callVN MV_Row_inversions lk_Cls_244 dCls_byOrder_62 (k_Row_inversions hrA) rfl rfl (Nat.le_of_ble_eq_true rfl) rfl (by assumption) (Nat.le_of_ble_eq_true rfl) (Nat.le_of_ble_eq_true rfl) (Nat.le_of_eq (Nat.zero_add _)) (Nat.le_of_eq (Nat.zero_add _)) (fun _ _ q => q.elim) ?_
        rintro _ _ ⟨rfl, rfl⟩
        refine z_iret rfl rfl dCls_byOrder_65 ?_
        first
          | (exfalso; omega)
          | exact zQc.mk (by assumption) (by first | exact zFrm.rf | assumption) (by unfold sp_byOrder; (try unfold spPut); (try simp only [Int.toNat_natCast]); (repeat (first | rw [if_pos (by omega)] | rw [if_neg (by omega)] | rw [if_pos (by assumption)] | rw [if_neg (by assumption)] | rw [if_pos (True.intro : True)])); all_goals (first | rfl | (congr 2; omega) | (congr 1; congr 1; omega)))
      · refine z_lookup (tgt := 66) (off := 41) dCls_byOrder_25 (by omega) (by decide) (by decide) (by decide) ?_
        refine z_aload_n dCls_byOrder_66 rfl ?_
        refine z_get (k := 2) fd_Cls (by decide) fl_Cls_24 dCls_byOrder_67 (by assumption) (by rfl) ?_
        refine z_aload_n dCls_byOrder_70 rfl ?_
        refine z_callVN MV_Rec_boundBy lk_Cls_247 dCls_byOrder_71 (k_Rec_boundBy hrA c5 c6) rfl rfl (Nat.le_of_ble_eq_true rfl) rfl (by assumption) (Nat.le_of_ble_eq_true rfl) (Nat.le_of_ble_eq_true rfl) (Nat.le_of_eq (Nat.zero_add _)) (Nat.le_of_eq (Nat.zero_add _)) (fun _ _ q => q.elim) ?_
        rintro _ _ ⟨rfl, rfl⟩
        rw [zCost_cg d6]
        refine z_iret rfl rfl dCls_byOrder_74 ?_
        first
          | (exfalso; omega)
          | exact zQc.mk (by assumption) (by first | exact zFrm.rf | assumption) (by unfold sp_byOrder; (try unfold spPut); (try simp only [Int.toNat_natCast]); (repeat (first | rw [if_pos (by omega)] | rw [if_neg (by omega)] | rw [if_pos (by assumption)] | rw [if_neg (by assumption)] | rw [if_pos (True.intro : True)])); all_goals (first | rfl | (congr 2; omega) | (congr 1; congr 1; omega)))
    · refine z_aload_n dCls_byOrder_19 rfl ?_
      refine z_callV MV_Cls_refuse lk_Cls_54 dCls_byOrder_20 (k_Cls_refuse (by assumption)) rfl rfl (Nat.le_of_ble_eq_true rfl) rfl (by assumption) (Nat.le_of_ble_eq_true rfl) (Nat.le_of_ble_eq_true rfl) (Nat.le_of_eq (Nat.zero_add _)) (Nat.le_of_eq (Nat.zero_add _)) (fun _ _ q => q.elim) ?_
      rintro _ h9 ⟨rfl, hC9, fz9⟩
      refine z_iret rfl rfl dCls_byOrder_23 ?_
      first
        | (exfalso; omega)
        | exact zQc.mk (by assumption) (by first | exact zFrm.rf | assumption) (by unfold sp_byOrder; (try unfold spPut); (try simp only [Int.toNat_natCast]); (repeat (first | rw [if_pos (by omega)] | rw [if_neg (by omega)] | rw [if_pos (by assumption)] | rw [if_neg (by assumption)] | rw [if_pos (True.intro : True)])); all_goals (first | rfl | (congr 2; omega) | (congr 1; congr 1; omega)))
end CLS10
end
section
section CLS11
variable {G : zG} {l : Launch} {h h' : zHp} {ad : Nat → Nat} {S : zSt}
def zTB (L : List Int) : Prop := zRev (zRev L) = L ∧ zRot (zRot (zRev (zRev L)) 1) (-1) = L
/-- the rest of the result at x is the rest of the sum or of the product -/
def zRA (L M R : List Int) (b x : Int) : Prop := zHr R x R.length = (if b = 0 then zHr L x L.length + zHr M x M.length else zHr L x L.length * zHr M x M.length) % 9973
def zAg (L M R : List Int) (b : Int) : Prop := zRA L M R b 2 ∧ zRA L M R b 3 ∧ zRA L M R b (-1)
def zAU (L M : List Int) : Prop := ((∀ j : Nat, j < (if (L.length : Int) < M.length then M.length else L.length) → zIn (zAt L j + zAt M j)) → zAg L M (zmk (if (L.length : Int) < M.length then M.length else L.length) (fun j => zAt L j + zAt M j)) 0) ∧ ((zPn L M ≤ 16 ∧ ∀ j : Nat, j < zPn L M → zIn (zCf L M j (j + 1))) → zAg L M (zmk (zPn L M) (fun j => zCf L M j (j + 1))) 1)
theorem k_Cls_turnsBack {k : Nat} (hC : zCls G h ad S) (hk : k < 4) : zM G l hCls_turnsBack yCls_turnsBack 5 [.ref (ad 0), .ref (ad (8 + 2 * k))] h (fun v h' => ∃ b9 : Int, v = some (zi b9) ∧ ((b9 = 1 ∧ zTB (S.1 k)) ∨ (b9 = 0 ∧ ¬ zTB (S.1 k))) ∧ zCls G h' ad S ∧ zFrm ad h h') zNo 0 0 := by
  obtain ⟨c1, c2, ⟨g3, c3, d3⟩, ⟨g4, c4, d4⟩, c5, ⟨T6, c6, d6⟩, c7, c8, ⟨R9, c9⟩, c10⟩ := id hC
  obtain ⟨f16, e16, -⟩ := id c9
  have hrA := hC.ls hk
  obtain ⟨fA, eA, -⟩ := id hrA
  refine zM.of [some (.ref (ad 0)), some (.ref (ad (8 + 2 * k)))] (by decide +kernel) rfl (by decide) rfl (Nat.le_of_ble_eq_true rfl) rfl ?_
  refine z_aload_n dCls_turnsBack_0 rfl ?_
  refine z_get (k := 3) fd_Cls (by decide) fl_Cls_29 dCls_turnsBack_1 (by assumption) (by rfl) ?_
  refine z_aload_n dCls_turnsBack_4 rfl ?_
  refine z_callVN MV_Row_become lk_Cls_105 dCls_turnsBack_5 (k_Row_become c9 hrA (hC.inj (by omega) (by omega) (by omega)) (hC.inj (by omega) (by omega) (by omega))) rfl rfl (Nat.le_of_ble_eq_true rfl) rfl (by assumption) (Nat.le_of_ble_eq_true rfl) (Nat.le_of_ble_eq_true rfl) (Nat.le_of_eq (Nat.zero_add _)) (Nat.le_of_eq (Nat.zero_add _)) (fun _ _ q => q.elim) ?_
  rintro _ h1 ⟨rfl, hR1, f1⟩
  have F1 : ∀ q, q ≠ ad 16 → q ≠ ad 17 → h1 q = h q := fun q x y => f1 q x y
  have hC1 := hC.res hR1 F1
  obtain ⟨-, d1, -⟩ := id hC1
  have fz1 : zFrm ad h h1 := zFrm.of2 (i := 16) (j := 17) (by omega) (by omega) F1
  obtain ⟨fr1, er1, -⟩ := id hR1
  have hrA1 := hrA.kept (F1 _ (hC.inj (by omega) (by omega) (by omega)) (hC.inj (by omega) (by omega) (by omega))) (F1 _ (hC.inj (by omega) (by omega) (by omega)) (hC.inj (by omega) (by omega) (by omega)))
  obtain ⟨fA1, eA1, -⟩ := id hrA1
  refine z_aload_n dCls_turnsBack_8 rfl ?_
  refine z_get (k := 3) fd_Cls (by decide) fl_Cls_29 dCls_turnsBack_9 (by assumption) (by rfl) ?_
  refine z_callVN MV_Row_turnRound lk_Cls_126 dCls_turnsBack_12 (k_Row_turnRound hR1) rfl rfl (Nat.le_of_ble_eq_true rfl) rfl (by assumption) (Nat.le_of_ble_eq_true rfl) (Nat.le_of_ble_eq_true rfl) (Nat.le_of_eq (Nat.zero_add _)) (Nat.le_of_eq (Nat.zero_add _)) (fun _ _ q => q.elim) ?_
  rintro _ h2 ⟨rfl, hR2, f2⟩
  have F2 : ∀ q, q ≠ ad 16 → q ≠ ad 17 → h2 q = h q := fun q x y => (f2 q x y).trans (F1 q x y)
  have hC2 := hC.res hR2 F2
  obtain ⟨-, d2, -⟩ := id hC2
  have fz2 : zFrm ad h h2 := zFrm.of2 (i := 16) (j := 17) (by omega) (by omega) F2
  obtain ⟨fr2, er2, -⟩ := id hR2
  have hrA2 := hrA.kept (F2 _ (hC.inj (by omega) (by omega) (by omega)) (hC.inj (by omega) (by omega) (by omega))) (F2 _ (hC.inj (by omega) (by omega) (by omega)) (hC.inj (by omega) (by omega) (by omega)))
  obtain ⟨fA2, eA2, -⟩ := id hrA2
  refine z_aload_n dCls_turnsBack_15 rfl ?_
  refine z_get (k := 3) fd_Cls (by decide) fl_Cls_29 dCls_turnsBack_16 (by assumption) (by rfl) ?_
  refine z_callVN MV_Row_turnRound lk_Cls_126 dCls_turnsBack_19 (k_Row_turnRound hR2) rfl rfl (Nat.le_of_ble_eq_true rfl) rfl (by assumption) (Nat.le_of_ble_eq_true rfl) (Nat.le_of_ble_eq_true rfl) (Nat.le_of_eq (Nat.zero_add _)) (Nat.le_of_eq (Nat.zero_add _)) (fun _ _ q => q.elim) ?_
  rintro _ h3 ⟨rfl, hR3, f3⟩
  have F3 : ∀ q, q ≠ ad 16 → q ≠ ad 17 → h3 q = h q := fun q x y => (f3 q x y).trans (F2 q x y)
  have hC3 := hC.res hR3 F3
  obtain ⟨-, d3, -⟩ := id hC3
  have fz3 : zFrm ad h h3 := zFrm.of2 (i := 16) (j := 17) (by omega) (by omega) F3
  obtain ⟨fr3, er3, -⟩ := id hR3
  have hrA3 := hrA.kept (F3 _ (hC.inj (by omega) (by omega) (by omega)) (hC.inj (by omega) (by omega) (by omega))) (F3 _ (hC.inj (by omega) (by omega) (by omega)) (hC.inj (by omega) (by omega) (by omega)))
  obtain ⟨fA3, eA3, -⟩ := id hrA3
  refine z_aload_n dCls_turnsBack_22 rfl ?_
  refine z_get (k := 3) fd_Cls (by decide) fl_Cls_29 dCls_turnsBack_23 (by assumption) (by rfl) ?_
  refine z_aload_n dCls_turnsBack_26 rfl ?_
  refine z_callVN MV_Row_isAs lk_Cls_133 dCls_turnsBack_27 (k_Row_isAs hR3 hrA3) rfl rfl (Nat.le_of_ble_eq_true rfl) rfl (by assumption) (Nat.le_of_ble_eq_true rfl) (Nat.le_of_ble_eq_true rfl) (Nat.le_of_eq (Nat.zero_add _)) (Nat.le_of_eq (Nat.zero_add _)) (fun _ _ q => q.elim) ?_
  rintro _ _ ⟨b8, rfl, (⟨rfl, m8⟩ | ⟨rfl, m8⟩), rfl⟩
  · refine z_if_ne (tgt := 35) dCls_turnsBack_30 (by decide) (by omega) (fun c30 => ?_) (fun c30 => ?_)
    · refine z_aload_n dCls_turnsBack_35 rfl ?_
      refine z_get (k := 3) fd_Cls (by decide) fl_Cls_29 dCls_turnsBack_36 (by assumption) (by rfl) ?_
      refine z_iconst dCls_turnsBack_39 ?_
      refine z_callVN MV_Row_turnBy lk_Cls_112 dCls_turnsBack_40 (k_Row_turnBy hR3 (by omega)) rfl rfl (Nat.le_of_ble_eq_true rfl) rfl (by assumption) (Nat.le_of_ble_eq_true rfl) (Nat.le_of_ble_eq_true rfl) (Nat.le_of_eq (Nat.zero_add _)) (Nat.le_of_eq (Nat.zero_add _)) (fun _ _ q => q.elim) ?_
      rintro _ h4 ⟨rfl, hR4, f4⟩
      have F4 : ∀ q, q ≠ ad 16 → q ≠ ad 17 → h4 q = h q := fun q x y => (f4 q x y).trans (F3 q x y)
      have hC4 := hC.res hR4 F4
      obtain ⟨-, d4, -⟩ := id hC4
      have fz4 : zFrm ad h h4 := zFrm.of2 (i := 16) (j := 17) (by omega) (by omega) F4
      obtain ⟨fr4, er4, -⟩ := id hR4
      have hrA4 := hrA.kept (F4 _ (hC.inj (by omega) (by omega) (by omega)) (hC.inj (by omega) (by omega) (by omega))) (F4 _ (hC.inj (by omega) (by omega) (by omega)) (hC.inj (by omega) (by omega) (by omega)))
      obtain ⟨fA4, eA4, -⟩ := id hrA4
      refine z_aload_n dCls_turnsBack_43 rfl ?_
      refine z_get (k := 3) fd_Cls (by decide) fl_Cls_29 dCls_turnsBack_44 (by assumption) (by rfl) ?_
      refine z_iconst dCls_turnsBack_47 ?_
      refine z_callVN MV_Row_turnBy lk_Cls_112 dCls_turnsBack_48 (k_Row_turnBy hR4 (by omega)) rfl rfl (Nat.le_of_ble_eq_true rfl) rfl (by assumption) (Nat.le_of_ble_eq_true rfl) (Nat.le_of_ble_eq_true rfl) (Nat.le_of_eq (Nat.zero_add _)) (Nat.le_of_eq (Nat.zero_add _)) (fun _ _ q => q.elim) ?_
      rintro _ h5 ⟨rfl, hR5, f5⟩
      have F5 : ∀ q, q ≠ ad 16 → q ≠ ad 17 → h5 q = h q := fun q x y => (f5 q x y).trans (F4 q x y)
      have hC5 := hC.res hR5 F5
      obtain ⟨-, d5, -⟩ := id hC5
      have fz5 : zFrm ad h h5 := zFrm.of2 (i := 16) (j := 17) (by omega) (by omega) F5
      obtain ⟨fr5, er5, -⟩ := id hR5
      have hrA5 := hrA.kept (F5 _ (hC.inj (by omega) (by omega) (by omega)) (hC.inj (by omega) (by omega) (by omega))) (F5 _ (hC.inj (by omega) (by omega) (by omega)) (hC.inj (by omega) (by omega) (by omega)))
      obtain ⟨fA5, eA5, -⟩ := id hrA5
      refine z_aload_n dCls_turnsBack_51 rfl ?_
      refine z_get (k := 3) fd_Cls (by decide) fl_Cls_29 dCls_turnsBack_52 (by assumption) (by rfl) ?_
      refine z_aload_n dCls_turnsBack_55 rfl ?_
      refine z_callVN MV_Row_isAs lk_Cls_133 dCls_turnsBack_56 (k_Row_isAs hR5 hrA5) rfl rfl (Nat.le_of_ble_eq_true rfl) rfl (by assumption) (Nat.le_of_ble_eq_true rfl) (Nat.le_of_ble_eq_true rfl) (Nat.le_of_eq (Nat.zero_add _)) (Nat.le_of_eq (Nat.zero_add _)) (fun _ _ q => q.elim) ?_
      rintro _ _ ⟨b9, rfl, (⟨rfl, m9⟩ | ⟨rfl, m9⟩), rfl⟩
      · refine z_iret rfl rfl dCls_turnsBack_59 ?_
        first
          | (exfalso; omega)
          | exact ⟨1, rfl, Or.inl ⟨rfl, m8, m9⟩, by assumption, by assumption⟩
          | exact ⟨0, rfl, Or.inr ⟨rfl, fun q => m9 q.2⟩, by assumption, by assumption⟩
          | exact ⟨0, rfl, Or.inr ⟨rfl, fun q => m8 q.1⟩, by assumption, by assumption⟩
      · refine z_iret rfl rfl dCls_turnsBack_59 ?_
        first
          | (exfalso; omega)
          | exact ⟨1, rfl, Or.inl ⟨rfl, m8, m9⟩, by assumption, by assumption⟩
          | exact ⟨0, rfl, Or.inr ⟨rfl, fun q => m9 q.2⟩, by assumption, by assumption⟩
          | exact ⟨0, rfl, Or.inr ⟨rfl, fun q => m8 q.1⟩, by assumption, by assumption⟩
    · refine z_iconst dCls_turnsBack_33 ?_
      refine z_iret rfl rfl dCls_turnsBack_34 ?_
      first
        | (exfalso; omega)
        | exact ⟨1, rfl, Or.inl ⟨rfl, m8, m9⟩, by assumption, by assumption⟩
        | exact ⟨0, rfl, Or.inr ⟨rfl, fun q => m9 q.2⟩, by assumption, by assumption⟩
        | exact ⟨0, rfl, Or.inr ⟨rfl, fun q => m8 q.1⟩, by assumption, by assumption⟩
  · refine z_if_ne (tgt := 35) dCls_turnsBack_30 (by decide) (by omega) (fun c30 => ?_) (fun c30 => ?_)
    · refine z_aload_n dCls_turnsBack_35 rfl ?_
      refine z_get (k := 3) fd_Cls (by decide) fl_Cls_29 dCls_turnsBack_36 (by assumption) (by rfl) ?_
      refine z_iconst dCls_turnsBack_39 ?_
      refine z_callVN MV_Row_turnBy lk_Cls_112 dCls_turnsBack_40 (k_Row_turnBy hR3 (by omega)) rfl rfl (Nat.le_of_ble_eq_true rfl) rfl (by assumption) (Nat.le_of_ble_eq_true rfl) (Nat.le_of_ble_eq_true rfl) (Nat.le_of_eq (Nat.zero_add _)) (Nat.le_of_eq (Nat.zero_add _)) (fun _ _ q => q.elim) ?_
      rintro _ h4 ⟨rfl, hR4, f4⟩
      have F4 : ∀ q, q ≠ ad 16 → q ≠ ad 17 → h4 q = h q := fun q x y => (f4 q x y).trans (F3 q x y)
      have hC4 := hC.res hR4 F4
      obtain ⟨-, d4, -⟩ := id hC4
      have fz4 : zFrm ad h h4 := zFrm.of2 (i := 16) (j := 17) (by omega) (by omega) F4
      obtain ⟨fr4, er4, -⟩ := id hR4
      have hrA4 := hrA.kept (F4 _ (hC.inj (by omega) (by omega) (by omega)) (hC.inj (by omega) (by omega) (by omega))) (F4 _ (hC.inj (by omega) (by omega) (by omega)) (hC.inj (by omega) (by omega) (by omega)))
      obtain ⟨fA4, eA4, -⟩ := id hrA4
      refine z_aload_n dCls_turnsBack_43 rfl ?_
      refine z_get (k := 3) fd_Cls (by decide) fl_Cls_29 dCls_turnsBack_44 (by assumption) (by rfl) ?_
      refine z_iconst dCls_turnsBack_47 ?_
      refine z_callVN MV_Row_turnBy lk_Cls_112 dCls_turnsBack_48 (k_Row_turnBy hR4 (by omega)) rfl rfl (Nat.le_of_ble_eq_true rfl) rfl (by assumption) (Nat.le_of_ble_eq_true rfl) (Nat.le_of_ble_eq_true rfl) (Nat.le_of_eq (Nat.zero_add _)) (Nat.le_of_eq (Nat.zero_add _)) (fun _ _ q => q.elim) ?_
      rintro _ h5 ⟨rfl, hR5, f5⟩
      have F5 : ∀ q, q ≠ ad 16 → q ≠ ad 17 → h5 q = h q := fun q x y => (f5 q x y).trans (F4 q x y)
      have hC5 := hC.res hR5 F5
      obtain ⟨-, d5, -⟩ := id hC5
      have fz5 : zFrm ad h h5 := zFrm.of2 (i := 16) (j := 17) (by omega) (by omega) F5
      obtain ⟨fr5, er5, -⟩ := id hR5
      have hrA5 := hrA.kept (F5 _ (hC.inj (by omega) (by omega) (by omega)) (hC.inj (by omega) (by omega) (by omega))) (F5 _ (hC.inj (by omega) (by omega) (by omega)) (hC.inj (by omega) (by omega) (by omega)))
      obtain ⟨fA5, eA5, -⟩ := id hrA5
      refine z_aload_n dCls_turnsBack_51 rfl ?_
      refine z_get (k := 3) fd_Cls (by decide) fl_Cls_29 dCls_turnsBack_52 (by assumption) (by rfl) ?_
      refine z_aload_n dCls_turnsBack_55 rfl ?_
      refine z_callVN MV_Row_isAs lk_Cls_133 dCls_turnsBack_56 (k_Row_isAs hR5 hrA5) rfl rfl (Nat.le_of_ble_eq_true rfl) rfl (by assumption) (Nat.le_of_ble_eq_true rfl) (Nat.le_of_ble_eq_true rfl) (Nat.le_of_eq (Nat.zero_add _)) (Nat.le_of_eq (Nat.zero_add _)) (fun _ _ q => q.elim) ?_
      rintro _ _ ⟨b9, rfl, (⟨rfl, m9⟩ | ⟨rfl, m9⟩), rfl⟩
      · refine z_iret rfl rfl dCls_turnsBack_59 ?_
        first
          | (exfalso; omega)
          | exact ⟨1, rfl, Or.inl ⟨rfl, m8, m9⟩, by assumption, by assumption⟩
          | exact ⟨0, rfl, Or.inr ⟨rfl, fun q => m9 q.2⟩, by assumption, by assumption⟩
          | exact ⟨0, rfl, Or.inr ⟨rfl, fun q => m8 q.1⟩, by assumption, by assumption⟩
      · refine z_iret rfl rfl dCls_turnsBack_59 ?_
        first
          | (exfalso; omega)
          | exact ⟨1, rfl, Or.inl ⟨rfl, m8, m9⟩, by assumption, by assumption⟩
          | exact ⟨0, rfl, Or.inr ⟨rfl, fun q => m9 q.2⟩, by assumption, by assumption⟩
          | exact ⟨0, rfl, Or.inr ⟨rfl, fun q => m8 q.1⟩, by assumption, by assumption⟩
    · refine z_iconst dCls_turnsBack_33 ?_
      refine z_iret rfl rfl dCls_turnsBack_34 ?_
      first
        | (exfalso; omega)
        | exact ⟨1, rfl, Or.inl ⟨rfl, m8, m9⟩, by assumption, by assumption⟩
        | exact ⟨0, rfl, Or.inr ⟨rfl, fun q => m9 q.2⟩, by assumption, by assumption⟩
        | exact ⟨0, rfl, Or.inr ⟨rfl, fun q => m8 q.1⟩, by assumption, by assumption⟩
theorem k_Cls_isResultAt {ro ra r2 a2 : Nat} {L M R : List Int} {b x : Int} (hC : zCls G h ad S) (hL : zRow G h ro ra L) (hM : zRow G h r2 a2 M) (hR : zRow G h (ad 16) (ad 17) R) (hb : b = 0 ∨ b = 1) (hx : -99 ≤ x ∧ x ≤ 99) : zM G l hCls_isResultAt yCls_isResultAt 3 [.ref (ad 0), .ref ro, .ref r2, zi b, zi x] h (fun v h' => ∃ b9 : Int, v = some (zi b9) ∧ ((b9 = 1 ∧ zRA L M R b x) ∨ (b9 = 0 ∧ ¬ zRA L M R b x)) ∧ h = h') zNo 0 0 := by
  obtain ⟨c1, c2, ⟨g3, c3, d3⟩, ⟨g4, c4, d4⟩, c5, ⟨T6, c6, d6⟩, c7, c8, ⟨R9, c9⟩, c10⟩ := id hC
  obtain ⟨f16, e16, -⟩ := id hR
  obtain ⟨f1, e1, -⟩ := id hL
  obtain ⟨f2, e2, -⟩ := id hM
  have z1 := zHr_in L x L.length
  have z2 := zHr_in M x M.length
  have z3 := zHr_in R x R.length
  have hpr : -2147483648 ≤ zHr L x L.length * zHr M x M.length ∧ zHr L x L.length * zHr M x M.length ≤ 2147483647 := by
    have p1 : 0 ≤ zHr L x L.length * zHr M x M.length := Int.mul_nonneg z1.1 z2.1
    have p2 : zHr L x L.length * zHr M x M.length ≤ 9972 * 9972 := Int.mul_le_mul (by omega) (by omega) z2.1 (by omega)
    omega
  refine zM.of [some (.ref (ad 0)), some (.ref ro), some (.ref r2), some (zi b), some (zi x), none, none] (by decide +kernel) rfl (by decide) rfl (Nat.le_of_ble_eq_true rfl) rfl ?_
  refine z_aload_n dCls_isResultAt_0 rfl ?_
  refine z_iload dCls_isResultAt_1 rfl ?_
  refine z_callVN MV_Row_restAt lk_Cls_212 dCls_isResultAt_3 (k_Row_restAt hL hx) rfl rfl (Nat.le_of_ble_eq_true rfl) rfl (by assumption) (Nat.le_of_ble_eq_true rfl) (Nat.le_of_ble_eq_true rfl) (Nat.le_of_eq (Nat.zero_add _)) (Nat.le_of_eq (Nat.zero_add _)) (fun _ _ q => q.elim) ?_
  rintro _ _ ⟨rfl, rfl⟩
  refine z_istore dCls_isResultAt_6 (Nat.le_of_ble_eq_true rfl) ?_
  refine z_aload_n dCls_isResultAt_8 rfl ?_
  refine z_iload dCls_isResultAt_9 rfl ?_
  refine z_callVN MV_Row_restAt lk_Cls_212 dCls_isResultAt_11 (k_Row_restAt hM hx) rfl rfl (Nat.le_of_ble_eq_true rfl) rfl (by assumption) (Nat.le_of_ble_eq_true rfl) (Nat.le_of_ble_eq_true rfl) (Nat.le_of_eq (Nat.zero_add _)) (Nat.le_of_eq (Nat.zero_add _)) (fun _ _ q => q.elim) ?_
  rintro _ _ ⟨rfl, rfl⟩
  refine z_istore dCls_isResultAt_14 (Nat.le_of_ble_eq_true rfl) ?_
  refine z_aload_n dCls_isResultAt_16 rfl ?_
  refine z_get (k := 3) fd_Cls (by decide) fl_Cls_29 dCls_isResultAt_17 (by assumption) (by rfl) ?_
  refine z_iload dCls_isResultAt_20 rfl ?_
  refine z_callVN MV_Row_restAt lk_Cls_212 dCls_isResultAt_22 (k_Row_restAt hR hx) rfl rfl (Nat.le_of_ble_eq_true rfl) rfl (by assumption) (Nat.le_of_ble_eq_true rfl) (Nat.le_of_ble_eq_true rfl) (Nat.le_of_eq (Nat.zero_add _)) (Nat.le_of_eq (Nat.zero_add _)) (fun _ _ q => q.elim) ?_
  rintro _ _ ⟨rfl, rfl⟩
  refine z_iload_n dCls_isResultAt_25 rfl ?_
  refine z_if_eq (tgt := 37) dCls_isResultAt_26 (by decide) (by omega) (fun c26 => ?_) (fun c26 => ?_)
  · refine z_iload dCls_isResultAt_37 rfl ?_
    refine z_iload dCls_isResultAt_39 rfl ?_
    refine z_iadd dCls_isResultAt_41 ?_
    refine z_sipush dCls_isResultAt_42 rfl ?_
    refine z_callS MS_Mth_floorMod_7cf53 lk_Cls_333 dCls_isResultAt_45 (k_Mth_floorMod (by first | omega | exact hpr) (by omega)) rfl rfl (Nat.le_of_ble_eq_true rfl)  (Nat.le_of_ble_eq_true rfl) (Nat.le_of_ble_eq_true rfl) (Nat.le_of_eq (Nat.zero_add _)) (Nat.le_of_eq (Nat.zero_add _)) (fun _ _ q => q.elim) ?_
    rintro _ _ ⟨rfl, rfl⟩
    refine z_icmp_ne (tgt := 55) dCls_isResultAt_48 (by decide) (by omega) (by omega) (fun c48 => ?_) (fun c48 => ?_)
    · refine z_iconst dCls_isResultAt_55 ?_
      refine z_iret rfl rfl dCls_isResultAt_56 ?_
      refine ⟨_, rfl, ?_, rfl⟩
      unfold zRA
      first
        | exact Or.inl ⟨rfl, by rw [if_pos (by omega)]; omega⟩
        | exact Or.inl ⟨rfl, by rw [if_neg (by omega)]; omega⟩
        | exact Or.inr ⟨rfl, by rw [if_pos (by omega)]; omega⟩
        | exact Or.inr ⟨rfl, by rw [if_neg (by omega)]; omega⟩
    · refine z_iconst dCls_isResultAt_51 ?_
      refine z_goto (tgt := 56) dCls_isResultAt_52 (by decide) ?_
      refine z_iret rfl rfl dCls_isResultAt_56 ?_
      refine ⟨_, rfl, ?_, rfl⟩
      unfold zRA
      first
        | exact Or.inl ⟨rfl, by rw [if_pos (by omega)]; omega⟩
        | exact Or.inl ⟨rfl, by rw [if_neg (by omega)]; omega⟩
        | exact Or.inr ⟨rfl, by rw [if_pos (by omega)]; omega⟩
        | exact Or.inr ⟨rfl, by rw [if_neg (by omega)]; omega⟩
  · refine z_iload dCls_isResultAt_29 rfl ?_
    refine z_iload dCls_isResultAt_31 rfl ?_
    refine z_imul dCls_isResultAt_33 ?_
    refine z_goto (tgt := 42) dCls_isResultAt_34 (by decide) ?_
    refine z_sipush dCls_isResultAt_42 rfl ?_
    refine z_callS MS_Mth_floorMod_7cf53 lk_Cls_333 dCls_isResultAt_45 (k_Mth_floorMod (by first | omega | exact hpr) (by omega)) rfl rfl (Nat.le_of_ble_eq_true rfl)  (Nat.le_of_ble_eq_true rfl) (Nat.le_of_ble_eq_true rfl) (Nat.le_of_eq (Nat.zero_add _)) (Nat.le_of_eq (Nat.zero_add _)) (fun _ _ q => q.elim) ?_
    rintro _ _ ⟨rfl, rfl⟩
    refine z_icmp_ne (tgt := 55) dCls_isResultAt_48 (by decide) (by omega) (by omega) (fun c48 => ?_) (fun c48 => ?_)
    · refine z_iconst dCls_isResultAt_55 ?_
      refine z_iret rfl rfl dCls_isResultAt_56 ?_
      refine ⟨_, rfl, ?_, rfl⟩
      unfold zRA
      first
        | exact Or.inl ⟨rfl, by rw [if_pos (by omega)]; omega⟩
        | exact Or.inl ⟨rfl, by rw [if_neg (by omega)]; omega⟩
        | exact Or.inr ⟨rfl, by rw [if_pos (by omega)]; omega⟩
        | exact Or.inr ⟨rfl, by rw [if_neg (by omega)]; omega⟩
    · refine z_iconst dCls_isResultAt_51 ?_
      refine z_goto (tgt := 56) dCls_isResultAt_52 (by decide) ?_
      refine z_iret rfl rfl dCls_isResultAt_56 ?_
      refine ⟨_, rfl, ?_, rfl⟩
      unfold zRA
      first
        | exact Or.inl ⟨rfl, by rw [if_pos (by omega)]; omega⟩
        | exact Or.inl ⟨rfl, by rw [if_neg (by omega)]; omega⟩
        | exact Or.inr ⟨rfl, by rw [if_pos (by omega)]; omega⟩
        | exact Or.inr ⟨rfl, by rw [if_neg (by omega)]; omega⟩
theorem k_Cls_agreesWithResult {ro ra r2 a2 : Nat} {L M R : List Int} {b x : Int} (hC : zCls G h ad S) (hL : zRow G h ro ra L) (hM : zRow G h r2 a2 M) (hR : zRow G h (ad 16) (ad 17) R) (hb : b = 0 ∨ b = 1) : zM G l hCls_agreesWithResult yCls_agreesWithResult 4 [.ref (ad 0), .ref ro, .ref r2, zi b] h (fun v h' => ∃ b9 : Int, v = some (zi b9) ∧ ((b9 = 1 ∧ zAg L M R b) ∨ (b9 = 0 ∧ ¬ zAg L M R b)) ∧ h = h') zNo 0 0 := by
  obtain ⟨c1, c2, ⟨g3, c3, d3⟩, ⟨g4, c4, d4⟩, c5, ⟨T6, c6, d6⟩, c7, c8, ⟨R9, c9⟩, c10⟩ := id hC
  obtain ⟨f16, e16, -⟩ := id hR
  obtain ⟨f1, e1, -⟩ := id hL
  obtain ⟨f2, e2, -⟩ := id hM
  refine zM.of [some (.ref (ad 0)), some (.ref ro), some (.ref r2), some (zi b)] (by decide +kernel) rfl (by decide) rfl (Nat.le_of_ble_eq_true rfl) rfl ?_
  refine z_aload_n dCls_agreesWithResult_0 rfl ?_
  refine z_aload_n dCls_agreesWithResult_1 rfl ?_
  refine z_aload_n dCls_agreesWithResult_2 rfl ?_
  refine z_iload_n dCls_agreesWithResult_3 rfl ?_
  refine z_iconst dCls_agreesWithResult_4 ?_
  refine z_callV MV_Cls_isResultAt lk_Cls_329 dCls_agreesWithResult_5 (k_Cls_isResultAt hC hL hM hR hb (by omega)) rfl rfl (Nat.le_of_ble_eq_true rfl) rfl (by assumption) (Nat.le_of_ble_eq_true rfl) (Nat.le_of_ble_eq_true rfl) (Nat.le_of_eq (Nat.zero_add _)) (Nat.le_of_eq (Nat.zero_add _)) (fun _ _ q => q.elim) ?_
  rintro _ _ ⟨b7, rfl, (⟨rfl, m7⟩ | ⟨rfl, m7⟩), rfl⟩
  · refine z_if_eq (tgt := 37) dCls_agreesWithResult_8 (by decide) (by omega) (fun c8 => ?_) (fun c8 => ?_)
    · refine z_iconst dCls_agreesWithResult_37 ?_
      refine z_iret rfl rfl dCls_agreesWithResult_38 ?_
      first
        | (exfalso; omega)
        | exact ⟨1, rfl, Or.inl ⟨rfl, m7, m8, m9⟩, rfl⟩
        | exact ⟨0, rfl, Or.inr ⟨rfl, fun q => m9 q.2.2⟩, rfl⟩
        | exact ⟨0, rfl, Or.inr ⟨rfl, fun q => m8 q.2.1⟩, rfl⟩
        | exact ⟨0, rfl, Or.inr ⟨rfl, fun q => m7 q.1⟩, rfl⟩
    · refine z_aload_n dCls_agreesWithResult_11 rfl ?_
      refine z_aload_n dCls_agreesWithResult_12 rfl ?_
      refine z_aload_n dCls_agreesWithResult_13 rfl ?_
      refine z_iload_n dCls_agreesWithResult_14 rfl ?_
      refine z_iconst dCls_agreesWithResult_15 ?_
      refine z_callV MV_Cls_isResultAt lk_Cls_329 dCls_agreesWithResult_16 (k_Cls_isResultAt hC hL hM hR hb (by omega)) rfl rfl (Nat.le_of_ble_eq_true rfl) rfl (by assumption) (Nat.le_of_ble_eq_true rfl) (Nat.le_of_ble_eq_true rfl) (Nat.le_of_eq (Nat.zero_add _)) (Nat.le_of_eq (Nat.zero_add _)) (fun _ _ q => q.elim) ?_
      rintro _ _ ⟨b8, rfl, (⟨rfl, m8⟩ | ⟨rfl, m8⟩), rfl⟩
      · refine z_if_eq (tgt := 37) dCls_agreesWithResult_19 (by decide) (by omega) (fun c19 => ?_) (fun c19 => ?_)
        · refine z_iconst dCls_agreesWithResult_37 ?_
          refine z_iret rfl rfl dCls_agreesWithResult_38 ?_
          first
            | (exfalso; omega)
            | exact ⟨1, rfl, Or.inl ⟨rfl, m7, m8, m9⟩, rfl⟩
            | exact ⟨0, rfl, Or.inr ⟨rfl, fun q => m9 q.2.2⟩, rfl⟩
            | exact ⟨0, rfl, Or.inr ⟨rfl, fun q => m8 q.2.1⟩, rfl⟩
            | exact ⟨0, rfl, Or.inr ⟨rfl, fun q => m7 q.1⟩, rfl⟩
        · refine z_aload_n dCls_agreesWithResult_22 rfl ?_
          refine z_aload_n dCls_agreesWithResult_23 rfl ?_
          refine z_aload_n dCls_agreesWithResult_24 rfl ?_
          refine z_iload_n dCls_agreesWithResult_25 rfl ?_
          refine z_iconst dCls_agreesWithResult_26 ?_
          refine z_callV MV_Cls_isResultAt lk_Cls_329 dCls_agreesWithResult_27 (k_Cls_isResultAt hC hL hM hR hb (by omega)) rfl rfl (Nat.le_of_ble_eq_true rfl) rfl (by assumption) (Nat.le_of_ble_eq_true rfl) (Nat.le_of_ble_eq_true rfl) (Nat.le_of_eq (Nat.zero_add _)) (Nat.le_of_eq (Nat.zero_add _)) (fun _ _ q => q.elim) ?_
          rintro _ _ ⟨b9, rfl, (⟨rfl, m9⟩ | ⟨rfl, m9⟩), rfl⟩
          · refine z_if_eq (tgt := 37) dCls_agreesWithResult_30 (by decide) (by omega) (fun c30 => ?_) (fun c30 => ?_)
            · refine z_iconst dCls_agreesWithResult_37 ?_
              refine z_iret rfl rfl dCls_agreesWithResult_38 ?_
              first
                | (exfalso; omega)
                | exact ⟨1, rfl, Or.inl ⟨rfl, m7, m8, m9⟩, rfl⟩
                | exact ⟨0, rfl, Or.inr ⟨rfl, fun q => m9 q.2.2⟩, rfl⟩
                | exact ⟨0, rfl, Or.inr ⟨rfl, fun q => m8 q.2.1⟩, rfl⟩
                | exact ⟨0, rfl, Or.inr ⟨rfl, fun q => m7 q.1⟩, rfl⟩
            · refine z_iconst dCls_agreesWithResult_33 ?_
              refine z_goto (tgt := 38) dCls_agreesWithResult_34 (by decide) ?_
              refine z_iret rfl rfl dCls_agreesWithResult_38 ?_
              first
                | (exfalso; omega)
                | exact ⟨1, rfl, Or.inl ⟨rfl, m7, m8, m9⟩, rfl⟩
                | exact ⟨0, rfl, Or.inr ⟨rfl, fun q => m9 q.2.2⟩, rfl⟩
                | exact ⟨0, rfl, Or.inr ⟨rfl, fun q => m8 q.2.1⟩, rfl⟩
                | exact ⟨0, rfl, Or.inr ⟨rfl, fun q => m7 q.1⟩, rfl⟩
          · refine z_if_eq (tgt := 37) dCls_agreesWithResult_30 (by decide) (by omega) (fun c30 => ?_) (fun c30 => ?_)
            · refine z_iconst dCls_agreesWithResult_37 ?_
              refine z_iret rfl rfl dCls_agreesWithResult_38 ?_
              first
                | (exfalso; omega)
                | exact ⟨1, rfl, Or.inl ⟨rfl, m7, m8, m9⟩, rfl⟩
                | exact ⟨0, rfl, Or.inr ⟨rfl, fun q => m9 q.2.2⟩, rfl⟩
                | exact ⟨0, rfl, Or.inr ⟨rfl, fun q => m8 q.2.1⟩, rfl⟩
                | exact ⟨0, rfl, Or.inr ⟨rfl, fun q => m7 q.1⟩, rfl⟩
            · refine z_iconst dCls_agreesWithResult_33 ?_
              refine z_goto (tgt := 38) dCls_agreesWithResult_34 (by decide) ?_
              refine z_iret rfl rfl dCls_agreesWithResult_38 ?_
              first
                | (exfalso; omega)
                | exact ⟨1, rfl, Or.inl ⟨rfl, m7, m8, m9⟩, rfl⟩
                | exact ⟨0, rfl, Or.inr ⟨rfl, fun q => m9 q.2.2⟩, rfl⟩
                | exact ⟨0, rfl, Or.inr ⟨rfl, fun q => m8 q.2.1⟩, rfl⟩
                | exact ⟨0, rfl, Or.inr ⟨rfl, fun q => m7 q.1⟩, rfl⟩
      · refine z_if_eq (tgt := 37) dCls_agreesWithResult_19 (by decide) (by omega) (fun c19 => ?_) (fun c19 => ?_)
        · refine z_iconst dCls_agreesWithResult_37 ?_
          refine z_iret rfl rfl dCls_agreesWithResult_38 ?_
          first
            | (exfalso; omega)
            | exact ⟨1, rfl, Or.inl ⟨rfl, m7, m8, m9⟩, rfl⟩
            | exact ⟨0, rfl, Or.inr ⟨rfl, fun q => m9 q.2.2⟩, rfl⟩
            | exact ⟨0, rfl, Or.inr ⟨rfl, fun q => m8 q.2.1⟩, rfl⟩
            | exact ⟨0, rfl, Or.inr ⟨rfl, fun q => m7 q.1⟩, rfl⟩
        · refine z_aload_n dCls_agreesWithResult_22 rfl ?_
          refine z_aload_n dCls_agreesWithResult_23 rfl ?_
          refine z_aload_n dCls_agreesWithResult_24 rfl ?_
          refine z_iload_n dCls_agreesWithResult_25 rfl ?_
          refine z_iconst dCls_agreesWithResult_26 ?_
          refine z_callV MV_Cls_isResultAt lk_Cls_329 dCls_agreesWithResult_27 (k_Cls_isResultAt hC hL hM hR hb (by omega)) rfl rfl (Nat.le_of_ble_eq_true rfl) rfl (by assumption) (Nat.le_of_ble_eq_true rfl) (Nat.le_of_ble_eq_true rfl) (Nat.le_of_eq (Nat.zero_add _)) (Nat.le_of_eq (Nat.zero_add _)) (fun _ _ q => q.elim) ?_
          rintro _ _ ⟨b9, rfl, (⟨rfl, m9⟩ | ⟨rfl, m9⟩), rfl⟩
          · refine z_if_eq (tgt := 37) dCls_agreesWithResult_30 (by decide) (by omega) (fun c30 => ?_) (fun c30 => ?_)
            · refine z_iconst dCls_agreesWithResult_37 ?_
              refine z_iret rfl rfl dCls_agreesWithResult_38 ?_
              first
                | (exfalso; omega)
                | exact ⟨1, rfl, Or.inl ⟨rfl, m7, m8, m9⟩, rfl⟩
                | exact ⟨0, rfl, Or.inr ⟨rfl, fun q => m9 q.2.2⟩, rfl⟩
                | exact ⟨0, rfl, Or.inr ⟨rfl, fun q => m8 q.2.1⟩, rfl⟩
                | exact ⟨0, rfl, Or.inr ⟨rfl, fun q => m7 q.1⟩, rfl⟩
            · refine z_iconst dCls_agreesWithResult_33 ?_
              refine z_goto (tgt := 38) dCls_agreesWithResult_34 (by decide) ?_
              refine z_iret rfl rfl dCls_agreesWithResult_38 ?_
              first
                | (exfalso; omega)
                | exact ⟨1, rfl, Or.inl ⟨rfl, m7, m8, m9⟩, rfl⟩
                | exact ⟨0, rfl, Or.inr ⟨rfl, fun q => m9 q.2.2⟩, rfl⟩
                | exact ⟨0, rfl, Or.inr ⟨rfl, fun q => m8 q.2.1⟩, rfl⟩
                | exact ⟨0, rfl, Or.inr ⟨rfl, fun q => m7 q.1⟩, rfl⟩
          · refine z_if_eq (tgt := 37) dCls_agreesWithResult_30 (by decide) (by omega) (fun c30 => ?_) (fun c30 => ?_)
            · refine z_iconst dCls_agreesWithResult_37 ?_
              refine z_iret rfl rfl dCls_agreesWithResult_38 ?_
              first
                | (exfalso; omega)
                | exact ⟨1, rfl, Or.inl ⟨rfl, m7, m8, m9⟩, rfl⟩
                | exact ⟨0, rfl, Or.inr ⟨rfl, fun q => m9 q.2.2⟩, rfl⟩
                | exact ⟨0, rfl, Or.inr ⟨rfl, fun q => m8 q.2.1⟩, rfl⟩
                | exact ⟨0, rfl, Or.inr ⟨rfl, fun q => m7 q.1⟩, rfl⟩
            · refine z_iconst dCls_agreesWithResult_33 ?_
              refine z_goto (tgt := 38) dCls_agreesWithResult_34 (by decide) ?_
              refine z_iret rfl rfl dCls_agreesWithResult_38 ?_
              first
                | (exfalso; omega)
                | exact ⟨1, rfl, Or.inl ⟨rfl, m7, m8, m9⟩, rfl⟩
                | exact ⟨0, rfl, Or.inr ⟨rfl, fun q => m9 q.2.2⟩, rfl⟩
                | exact ⟨0, rfl, Or.inr ⟨rfl, fun q => m8 q.2.1⟩, rfl⟩
                | exact ⟨0, rfl, Or.inr ⟨rfl, fun q => m7 q.1⟩, rfl⟩
  · refine z_if_eq (tgt := 37) dCls_agreesWithResult_8 (by decide) (by omega) (fun c8 => ?_) (fun c8 => ?_)
    · refine z_iconst dCls_agreesWithResult_37 ?_
      refine z_iret rfl rfl dCls_agreesWithResult_38 ?_
      first
        | (exfalso; omega)
        | exact ⟨1, rfl, Or.inl ⟨rfl, m7, m8, m9⟩, rfl⟩
        | exact ⟨0, rfl, Or.inr ⟨rfl, fun q => m9 q.2.2⟩, rfl⟩
        | exact ⟨0, rfl, Or.inr ⟨rfl, fun q => m8 q.2.1⟩, rfl⟩
        | exact ⟨0, rfl, Or.inr ⟨rfl, fun q => m7 q.1⟩, rfl⟩
    · refine z_aload_n dCls_agreesWithResult_11 rfl ?_
      refine z_aload_n dCls_agreesWithResult_12 rfl ?_
      refine z_aload_n dCls_agreesWithResult_13 rfl ?_
      refine z_iload_n dCls_agreesWithResult_14 rfl ?_
      refine z_iconst dCls_agreesWithResult_15 ?_
      refine z_callV MV_Cls_isResultAt lk_Cls_329 dCls_agreesWithResult_16 (k_Cls_isResultAt hC hL hM hR hb (by omega)) rfl rfl (Nat.le_of_ble_eq_true rfl) rfl (by assumption) (Nat.le_of_ble_eq_true rfl) (Nat.le_of_ble_eq_true rfl) (Nat.le_of_eq (Nat.zero_add _)) (Nat.le_of_eq (Nat.zero_add _)) (fun _ _ q => q.elim) ?_
      rintro _ _ ⟨b8, rfl, (⟨rfl, m8⟩ | ⟨rfl, m8⟩), rfl⟩
      · refine z_if_eq (tgt := 37) dCls_agreesWithResult_19 (by decide) (by omega) (fun c19 => ?_) (fun c19 => ?_)
        · refine z_iconst dCls_agreesWithResult_37 ?_
          refine z_iret rfl rfl dCls_agreesWithResult_38 ?_
          first
            | (exfalso; omega)
            | exact ⟨1, rfl, Or.inl ⟨rfl, m7, m8, m9⟩, rfl⟩
            | exact ⟨0, rfl, Or.inr ⟨rfl, fun q => m9 q.2.2⟩, rfl⟩
            | exact ⟨0, rfl, Or.inr ⟨rfl, fun q => m8 q.2.1⟩, rfl⟩
            | exact ⟨0, rfl, Or.inr ⟨rfl, fun q => m7 q.1⟩, rfl⟩
        · refine z_aload_n dCls_agreesWithResult_22 rfl ?_
          refine z_aload_n dCls_agreesWithResult_23 rfl ?_
          refine z_aload_n dCls_agreesWithResult_24 rfl ?_
          refine z_iload_n dCls_agreesWithResult_25 rfl ?_
          refine z_iconst dCls_agreesWithResult_26 ?_
          refine z_callV MV_Cls_isResultAt lk_Cls_329 dCls_agreesWithResult_27 (k_Cls_isResultAt hC hL hM hR hb (by omega)) rfl rfl (Nat.le_of_ble_eq_true rfl) rfl (by assumption) (Nat.le_of_ble_eq_true rfl) (Nat.le_of_ble_eq_true rfl) (Nat.le_of_eq (Nat.zero_add _)) (Nat.le_of_eq (Nat.zero_add _)) (fun _ _ q => q.elim) ?_
          rintro _ _ ⟨b9, rfl, (⟨rfl, m9⟩ | ⟨rfl, m9⟩), rfl⟩
          · refine z_if_eq (tgt := 37) dCls_agreesWithResult_30 (by decide) (by omega) (fun c30 => ?_) (fun c30 => ?_)
            · refine z_iconst dCls_agreesWithResult_37 ?_
              refine z_iret rfl rfl dCls_agreesWithResult_38 ?_
              first
                | (exfalso; omega)
                | exact ⟨1, rfl, Or.inl ⟨rfl, m7, m8, m9⟩, rfl⟩
                | exact ⟨0, rfl, Or.inr ⟨rfl, fun q => m9 q.2.2⟩, rfl⟩
                | exact ⟨0, rfl, Or.inr ⟨rfl, fun q => m8 q.2.1⟩, rfl⟩
                | exact ⟨0, rfl, Or.inr ⟨rfl, fun q => m7 q.1⟩, rfl⟩
            · refine z_iconst dCls_agreesWithResult_33 ?_
              refine z_goto (tgt := 38) dCls_agreesWithResult_34 (by decide) ?_
              refine z_iret rfl rfl dCls_agreesWithResult_38 ?_
              first
                | (exfalso; omega)
                | exact ⟨1, rfl, Or.inl ⟨rfl, m7, m8, m9⟩, rfl⟩
                | exact ⟨0, rfl, Or.inr ⟨rfl, fun q => m9 q.2.2⟩, rfl⟩
                | exact ⟨0, rfl, Or.inr ⟨rfl, fun q => m8 q.2.1⟩, rfl⟩
                | exact ⟨0, rfl, Or.inr ⟨rfl, fun q => m7 q.1⟩, rfl⟩
          · refine z_if_eq (tgt := 37) dCls_agreesWithResult_30 (by decide) (by omega) (fun c30 => ?_) (fun c30 => ?_)
            · refine z_iconst dCls_agreesWithResult_37 ?_
              refine z_iret rfl rfl dCls_agreesWithResult_38 ?_
              first
                | (exfalso; omega)
                | exact ⟨1, rfl, Or.inl ⟨rfl, m7, m8, m9⟩, rfl⟩
                | exact ⟨0, rfl, Or.inr ⟨rfl, fun q => m9 q.2.2⟩, rfl⟩
                | exact ⟨0, rfl, Or.inr ⟨rfl, fun q => m8 q.2.1⟩, rfl⟩
                | exact ⟨0, rfl, Or.inr ⟨rfl, fun q => m7 q.1⟩, rfl⟩
            · refine z_iconst dCls_agreesWithResult_33 ?_
              refine z_goto (tgt := 38) dCls_agreesWithResult_34 (by decide) ?_
              refine z_iret rfl rfl dCls_agreesWithResult_38 ?_
              first
                | (exfalso; omega)
                | exact ⟨1, rfl, Or.inl ⟨rfl, m7, m8, m9⟩, rfl⟩
                | exact ⟨0, rfl, Or.inr ⟨rfl, fun q => m9 q.2.2⟩, rfl⟩
                | exact ⟨0, rfl, Or.inr ⟨rfl, fun q => m8 q.2.1⟩, rfl⟩
                | exact ⟨0, rfl, Or.inr ⟨rfl, fun q => m7 q.1⟩, rfl⟩
      · refine z_if_eq (tgt := 37) dCls_agreesWithResult_19 (by decide) (by omega) (fun c19 => ?_) (fun c19 => ?_)
        · refine z_iconst dCls_agreesWithResult_37 ?_
          refine z_iret rfl rfl dCls_agreesWithResult_38 ?_
          first
            | (exfalso; omega)
            | exact ⟨1, rfl, Or.inl ⟨rfl, m7, m8, m9⟩, rfl⟩
            | exact ⟨0, rfl, Or.inr ⟨rfl, fun q => m9 q.2.2⟩, rfl⟩
            | exact ⟨0, rfl, Or.inr ⟨rfl, fun q => m8 q.2.1⟩, rfl⟩
            | exact ⟨0, rfl, Or.inr ⟨rfl, fun q => m7 q.1⟩, rfl⟩
        · refine z_aload_n dCls_agreesWithResult_22 rfl ?_
          refine z_aload_n dCls_agreesWithResult_23 rfl ?_
          refine z_aload_n dCls_agreesWithResult_24 rfl ?_
          refine z_iload_n dCls_agreesWithResult_25 rfl ?_
          refine z_iconst dCls_agreesWithResult_26 ?_
          refine z_callV MV_Cls_isResultAt lk_Cls_329 dCls_agreesWithResult_27 (k_Cls_isResultAt hC hL hM hR hb (by omega)) rfl rfl (Nat.le_of_ble_eq_true rfl) rfl (by assumption) (Nat.le_of_ble_eq_true rfl) (Nat.le_of_ble_eq_true rfl) (Nat.le_of_eq (Nat.zero_add _)) (Nat.le_of_eq (Nat.zero_add _)) (fun _ _ q => q.elim) ?_
          rintro _ _ ⟨b9, rfl, (⟨rfl, m9⟩ | ⟨rfl, m9⟩), rfl⟩
          · refine z_if_eq (tgt := 37) dCls_agreesWithResult_30 (by decide) (by omega) (fun c30 => ?_) (fun c30 => ?_)
            · refine z_iconst dCls_agreesWithResult_37 ?_
              refine z_iret rfl rfl dCls_agreesWithResult_38 ?_
              first
                | (exfalso; omega)
                | exact ⟨1, rfl, Or.inl ⟨rfl, m7, m8, m9⟩, rfl⟩
                | exact ⟨0, rfl, Or.inr ⟨rfl, fun q => m9 q.2.2⟩, rfl⟩
                | exact ⟨0, rfl, Or.inr ⟨rfl, fun q => m8 q.2.1⟩, rfl⟩
                | exact ⟨0, rfl, Or.inr ⟨rfl, fun q => m7 q.1⟩, rfl⟩
            · refine z_iconst dCls_agreesWithResult_33 ?_
              refine z_goto (tgt := 38) dCls_agreesWithResult_34 (by decide) ?_
              refine z_iret rfl rfl dCls_agreesWithResult_38 ?_
              first
                | (exfalso; omega)
                | exact ⟨1, rfl, Or.inl ⟨rfl, m7, m8, m9⟩, rfl⟩
                | exact ⟨0, rfl, Or.inr ⟨rfl, fun q => m9 q.2.2⟩, rfl⟩
                | exact ⟨0, rfl, Or.inr ⟨rfl, fun q => m8 q.2.1⟩, rfl⟩
                | exact ⟨0, rfl, Or.inr ⟨rfl, fun q => m7 q.1⟩, rfl⟩
          · refine z_if_eq (tgt := 37) dCls_agreesWithResult_30 (by decide) (by omega) (fun c30 => ?_) (fun c30 => ?_)
            · refine z_iconst dCls_agreesWithResult_37 ?_
              refine z_iret rfl rfl dCls_agreesWithResult_38 ?_
              first
                | (exfalso; omega)
                | exact ⟨1, rfl, Or.inl ⟨rfl, m7, m8, m9⟩, rfl⟩
                | exact ⟨0, rfl, Or.inr ⟨rfl, fun q => m9 q.2.2⟩, rfl⟩
                | exact ⟨0, rfl, Or.inr ⟨rfl, fun q => m8 q.2.1⟩, rfl⟩
                | exact ⟨0, rfl, Or.inr ⟨rfl, fun q => m7 q.1⟩, rfl⟩
            · refine z_iconst dCls_agreesWithResult_33 ?_
              refine z_goto (tgt := 38) dCls_agreesWithResult_34 (by decide) ?_
              refine z_iret rfl rfl dCls_agreesWithResult_38 ?_
              first
                | (exfalso; omega)
                | exact ⟨1, rfl, Or.inl ⟨rfl, m7, m8, m9⟩, rfl⟩
                | exact ⟨0, rfl, Or.inr ⟨rfl, fun q => m9 q.2.2⟩, rfl⟩
                | exact ⟨0, rfl, Or.inr ⟨rfl, fun q => m8 q.2.1⟩, rfl⟩
                | exact ⟨0, rfl, Or.inr ⟨rfl, fun q => m7 q.1⟩, rfl⟩
end CLS11
end
section
section CLS12
variable {G : zG} {l : Launch} {h h' : zHp} {ad : Nat → Nat} {S : zSt}
theorem zCnt_le (A : List Int) (k : Int) : zCnt A k ≤ A.length := List.countP_le_length
theorem zCost_in {T : Nat → Int} {L : List Int} {B : Int} (hT : ∀ k : Nat, k < 8 → 0 ≤ T k ∧ T k ≤ B) (hL : L.length ≤ 16) : ∀ n : Nat, n ≤ 8 → 0 ≤ zCost T L n ∧ zCost T L n ≤ n * (B * 16)
  | 0, _ => by unfold zCost; omega
  | n + 1, hn => by
    have h1 := zCost_in hT hL n (by omega)
    have h2 := hT n (by omega)
    have h3 := zFind_in L n 0
    unfold zCost
    have p1 : 0 ≤ T n * (zFind L n 0 + 1) := Int.mul_nonneg h2.1 (by omega)
    have p2 : T n * (zFind L n 0 + 1) ≤ B * 16 := Int.mul_le_mul h2.2 (by omega) (by omega) (by omega)
    have e : ((n + 1 : Nat) : Int) * (B * 16) = n * (B * 16) + B * 16 := by rw [Int.natCast_add, Int.add_mul]; omega
    rw [e]
    omega
/-- what the asked keys cost is no more than the bound of any order -/
def zRS (S : zSt) : Prop := zOrd S.2.2.1 ∧ ∀ k : Nat, k < 4 → zOrd (S.1 k) → S.2.2.2.2 0 ≤ 2 * zCost (zCntT S.2.2.2.1) (S.1 k) 8 - (S.2.2.2.1.length : Int) + zInv (S.1 k)
theorem k_Cls_addsUp {k j : Nat} (hC : zCls G h ad S) (hk : k < 4) (hj : j < 4) : zM G l hCls_addsUp yCls_addsUp 5 [.ref (ad 0), .ref (ad (8 + 2 * k)), .ref (ad (8 + 2 * j))] h (fun v h' => ∃ b9 : Int, v = some (zi b9) ∧ ((b9 = 1 ∧ zAU (S.1 k) (S.1 j)) ∨ (b9 = 0 ∧ ¬ zAU (S.1 k) (S.1 j))) ∧ zCls G h' ad S ∧ zFrm ad h h') zNo 0 0 := by
  obtain ⟨c1, c2, ⟨g3, c3, d3⟩, ⟨g4, c4, d4⟩, c5, ⟨T6, c6, d6⟩, c7, c8, ⟨R9, c9⟩, c10⟩ := id hC
  obtain ⟨f16, e16, -⟩ := id c9
  have hrA := hC.ls hk
  obtain ⟨fA, eA, -⟩ := id hrA
  have hrB := hC.ls hj
  obtain ⟨fB, eB, -⟩ := id hrB
  refine zM.of [some (.ref (ad 0)), some (.ref (ad (8 + 2 * k))), some (.ref (ad (8 + 2 * j)))] (by decide +kernel) rfl (by decide) rfl (Nat.le_of_ble_eq_true rfl) rfl ?_
  refine z_aload_n dCls_addsUp_0 rfl ?_
  refine z_get (k := 3) fd_Cls (by decide) fl_Cls_29 dCls_addsUp_1 (by assumption) (by rfl) ?_
  refine z_aload_n dCls_addsUp_4 rfl ?_
  refine z_aload_n dCls_addsUp_5 rfl ?_
  refine z_callVN MV_Row_becomeSum lk_Cls_200 dCls_addsUp_6 (k_Row_becomeSum c9 hrA hrB (hC.inj (by omega) (by omega) (by omega)) (hC.inj (by omega) (by omega) (by omega)) (hC.inj (by omega) (by omega) (by omega)) (hC.inj (by omega) (by omega) (by omega))) rfl rfl (Nat.le_of_ble_eq_true rfl) rfl (by assumption) (Nat.le_of_ble_eq_true rfl) (Nat.le_of_ble_eq_true rfl) (Nat.le_of_eq (Nat.zero_add _)) (Nat.le_of_eq (Nat.zero_add _)) (fun _ _ q => q.elim) ?_
  rintro _ h1 (⟨rfl, m1, hR1, f1⟩ | ⟨rfl, m1, ⟨L9, hR1⟩, f1⟩)
  · have F1 : ∀ q, q ≠ ad 16 → q ≠ ad 17 → h1 q = h q := fun q x y => f1 q x y
    have hC1 := hC.res hR1 F1
    obtain ⟨-, d1, -⟩ := id hC1
    have fz1 : zFrm ad h h1 := zFrm.of2 (i := 16) (j := 17) (by omega) (by omega) F1
    obtain ⟨fr1, er1, -⟩ := id hR1
    have hrA1 := hrA.kept (F1 _ (hC.inj (by omega) (by omega) (by omega)) (hC.inj (by omega) (by omega) (by omega))) (F1 _ (hC.inj (by omega) (by omega) (by omega)) (hC.inj (by omega) (by omega) (by omega)))
    obtain ⟨fA1, eA1, -⟩ := id hrA1
    have hrB1 := hrB.kept (F1 _ (hC.inj (by omega) (by omega) (by omega)) (hC.inj (by omega) (by omega) (by omega))) (F1 _ (hC.inj (by omega) (by omega) (by omega)) (hC.inj (by omega) (by omega) (by omega)))
    obtain ⟨fB1, eB1, -⟩ := id hrB1
    refine z_if_eq (tgt := 24) dCls_addsUp_9 (by decide) (by omega) (fun c9 => ?_) (fun c9 => ?_)
    · refine z_aload_n dCls_addsUp_24 rfl ?_
      refine z_get (k := 3) fd_Cls (by decide) fl_Cls_29 dCls_addsUp_25 (by assumption) (by rfl) ?_
      refine z_aload_n dCls_addsUp_28 rfl ?_
      refine z_aload_n dCls_addsUp_29 rfl ?_
      refine z_callVN MV_Row_becomeProduct lk_Cls_203 dCls_addsUp_30 (k_Row_becomeProduct hR1 hrA1 hrB1 (hC.inj (by omega) (by omega) (by omega)) (hC.inj (by omega) (by omega) (by omega)) (hC.inj (by omega) (by omega) (by omega)) (hC.inj (by omega) (by omega) (by omega))) rfl rfl (Nat.le_of_ble_eq_true rfl) rfl (by assumption) (Nat.le_of_ble_eq_true rfl) (Nat.le_of_ble_eq_true rfl) (Nat.le_of_eq (Nat.zero_add _)) (Nat.le_of_eq (Nat.zero_add _)) (fun _ _ q => q.elim) ?_
      rintro _ h2 (⟨rfl, m2, hR2, f2⟩ | ⟨rfl, m2, ⟨L8, hR2⟩, f2⟩)
      · have F2 : ∀ q, q ≠ ad 16 → q ≠ ad 17 → h2 q = h q := fun q x y => (f2 q x y).trans (F1 q x y)
        have hC2 := hC.res hR2 F2
        obtain ⟨-, d2, -⟩ := id hC2
        have fz2 : zFrm ad h h2 := zFrm.of2 (i := 16) (j := 17) (by omega) (by omega) F2
        obtain ⟨fr2, er2, -⟩ := id hR2
        have hrA2 := hrA.kept (F2 _ (hC.inj (by omega) (by omega) (by omega)) (hC.inj (by omega) (by omega) (by omega))) (F2 _ (hC.inj (by omega) (by omega) (by omega)) (hC.inj (by omega) (by omega) (by omega)))
        obtain ⟨fA2, eA2, -⟩ := id hrA2
        have hrB2 := hrB.kept (F2 _ (hC.inj (by omega) (by omega) (by omega)) (hC.inj (by omega) (by omega) (by omega))) (F2 _ (hC.inj (by omega) (by omega) (by omega)) (hC.inj (by omega) (by omega) (by omega)))
        obtain ⟨fB2, eB2, -⟩ := id hrB2
        refine z_if_eq (tgt := 46) dCls_addsUp_33 (by decide) (by omega) (fun c33 => ?_) (fun c33 => ?_)
        · refine z_iconst dCls_addsUp_46 ?_
          refine z_goto (tgt := 51) dCls_addsUp_47 (by decide) ?_
          refine z_iret rfl rfl dCls_addsUp_51 ?_
          first
            | (exfalso; omega)
            | exact ⟨1, rfl, Or.inl ⟨rfl, fun q => by first | exact m8 | exact absurd q m1, fun q => by first | exact m9 | exact absurd q m2⟩, by assumption, by assumption⟩
            | exact ⟨0, rfl, Or.inr ⟨rfl, fun q => m8 (q.1 m1)⟩, by assumption, by assumption⟩
            | exact ⟨0, rfl, Or.inr ⟨rfl, fun q => m9 (q.2 m2)⟩, by assumption, by assumption⟩
        · refine z_aload_n dCls_addsUp_36 rfl ?_
          refine z_aload_n dCls_addsUp_37 rfl ?_
          refine z_aload_n dCls_addsUp_38 rfl ?_
          refine z_iconst dCls_addsUp_39 ?_
          refine z_callV MV_Cls_agreesWithResult lk_Cls_325 dCls_addsUp_40 (k_Cls_agreesWithResult (x := 0) hC2 hrA2 hrB2 hR2 (by omega)) rfl rfl (Nat.le_of_ble_eq_true rfl) rfl (by assumption) (Nat.le_of_ble_eq_true rfl) (Nat.le_of_ble_eq_true rfl) (Nat.le_of_eq (Nat.zero_add _)) (Nat.le_of_eq (Nat.zero_add _)) (fun _ _ q => q.elim) ?_
          rintro _ _ ⟨b9, rfl, (⟨rfl, m9⟩ | ⟨rfl, m9⟩), rfl⟩
          · refine z_if_eq (tgt := 50) dCls_addsUp_43 (by decide) (by omega) (fun c43 => ?_) (fun c43 => ?_)
            · refine z_iconst dCls_addsUp_50 ?_
              refine z_iret rfl rfl dCls_addsUp_51 ?_
              first
                | (exfalso; omega)
                | exact ⟨1, rfl, Or.inl ⟨rfl, fun q => by first | exact m8 | exact absurd q m1, fun q => by first | exact m9 | exact absurd q m2⟩, by assumption, by assumption⟩
                | exact ⟨0, rfl, Or.inr ⟨rfl, fun q => m8 (q.1 m1)⟩, by assumption, by assumption⟩
                | exact ⟨0, rfl, Or.inr ⟨rfl, fun q => m9 (q.2 m2)⟩, by assumption, by assumption⟩
            · refine z_iconst dCls_addsUp_46 ?_
              refine z_goto (tgt := 51) dCls_addsUp_47 (by decide) ?_
              refine z_iret rfl rfl dCls_addsUp_51 ?_
              first
                | (exfalso; omega)
                | exact ⟨1, rfl, Or.inl ⟨rfl, fun q => by first | exact m8 | exact absurd q m1, fun q => by first | exact m9 | exact absurd q m2⟩, by assumption, by assumption⟩
                | exact ⟨0, rfl, Or.inr ⟨rfl, fun q => m8 (q.1 m1)⟩, by assumption, by assumption⟩
                | exact ⟨0, rfl, Or.inr ⟨rfl, fun q => m9 (q.2 m2)⟩, by assumption, by assumption⟩
          · refine z_if_eq (tgt := 50) dCls_addsUp_43 (by decide) (by omega) (fun c43 => ?_) (fun c43 => ?_)
            · refine z_iconst dCls_addsUp_50 ?_
              refine z_iret rfl rfl dCls_addsUp_51 ?_
              first
                | (exfalso; omega)
                | exact ⟨1, rfl, Or.inl ⟨rfl, fun q => by first | exact m8 | exact absurd q m1, fun q => by first | exact m9 | exact absurd q m2⟩, by assumption, by assumption⟩
                | exact ⟨0, rfl, Or.inr ⟨rfl, fun q => m8 (q.1 m1)⟩, by assumption, by assumption⟩
                | exact ⟨0, rfl, Or.inr ⟨rfl, fun q => m9 (q.2 m2)⟩, by assumption, by assumption⟩
            · refine z_iconst dCls_addsUp_46 ?_
              refine z_goto (tgt := 51) dCls_addsUp_47 (by decide) ?_
              refine z_iret rfl rfl dCls_addsUp_51 ?_
              first
                | (exfalso; omega)
                | exact ⟨1, rfl, Or.inl ⟨rfl, fun q => by first | exact m8 | exact absurd q m1, fun q => by first | exact m9 | exact absurd q m2⟩, by assumption, by assumption⟩
                | exact ⟨0, rfl, Or.inr ⟨rfl, fun q => m8 (q.1 m1)⟩, by assumption, by assumption⟩
                | exact ⟨0, rfl, Or.inr ⟨rfl, fun q => m9 (q.2 m2)⟩, by assumption, by assumption⟩
      · have F2 : ∀ q, q ≠ ad 16 → q ≠ ad 17 → h2 q = h q := fun q x y => (f2 q x y).trans (F1 q x y)
        have hC2 := hC.res hR2 F2
        obtain ⟨-, d2, -⟩ := id hC2
        have fz2 : zFrm ad h h2 := zFrm.of2 (i := 16) (j := 17) (by omega) (by omega) F2
        obtain ⟨fr2, er2, -⟩ := id hR2
        have hrA2 := hrA.kept (F2 _ (hC.inj (by omega) (by omega) (by omega)) (hC.inj (by omega) (by omega) (by omega))) (F2 _ (hC.inj (by omega) (by omega) (by omega)) (hC.inj (by omega) (by omega) (by omega)))
        obtain ⟨fA2, eA2, -⟩ := id hrA2
        have hrB2 := hrB.kept (F2 _ (hC.inj (by omega) (by omega) (by omega)) (hC.inj (by omega) (by omega) (by omega))) (F2 _ (hC.inj (by omega) (by omega) (by omega)) (hC.inj (by omega) (by omega) (by omega)))
        obtain ⟨fB2, eB2, -⟩ := id hrB2
        refine z_if_eq (tgt := 46) dCls_addsUp_33 (by decide) (by omega) (fun c33 => ?_) (fun c33 => ?_)
        · refine z_iconst dCls_addsUp_46 ?_
          refine z_goto (tgt := 51) dCls_addsUp_47 (by decide) ?_
          refine z_iret rfl rfl dCls_addsUp_51 ?_
          first
            | (exfalso; omega)
            | exact ⟨1, rfl, Or.inl ⟨rfl, fun q => by first | exact m8 | exact absurd q m1, fun q => by first | exact m9 | exact absurd q m2⟩, by assumption, by assumption⟩
            | exact ⟨0, rfl, Or.inr ⟨rfl, fun q => m8 (q.1 m1)⟩, by assumption, by assumption⟩
            | exact ⟨0, rfl, Or.inr ⟨rfl, fun q => m9 (q.2 m2)⟩, by assumption, by assumption⟩
        · refine z_aload_n dCls_addsUp_36 rfl ?_
          refine z_aload_n dCls_addsUp_37 rfl ?_
          refine z_aload_n dCls_addsUp_38 rfl ?_
          refine z_iconst dCls_addsUp_39 ?_
          refine z_callV MV_Cls_agreesWithResult lk_Cls_325 dCls_addsUp_40 (k_Cls_agreesWithResult (x := 0) hC2 hrA2 hrB2 hR2 (by omega)) rfl rfl (Nat.le_of_ble_eq_true rfl) rfl (by assumption) (Nat.le_of_ble_eq_true rfl) (Nat.le_of_ble_eq_true rfl) (Nat.le_of_eq (Nat.zero_add _)) (Nat.le_of_eq (Nat.zero_add _)) (fun _ _ q => q.elim) ?_
          rintro _ _ ⟨b9, rfl, (⟨rfl, m9⟩ | ⟨rfl, m9⟩), rfl⟩
          · refine z_if_eq (tgt := 50) dCls_addsUp_43 (by decide) (by omega) (fun c43 => ?_) (fun c43 => ?_)
            · refine z_iconst dCls_addsUp_50 ?_
              refine z_iret rfl rfl dCls_addsUp_51 ?_
              first
                | (exfalso; omega)
                | exact ⟨1, rfl, Or.inl ⟨rfl, fun q => by first | exact m8 | exact absurd q m1, fun q => by first | exact m9 | exact absurd q m2⟩, by assumption, by assumption⟩
                | exact ⟨0, rfl, Or.inr ⟨rfl, fun q => m8 (q.1 m1)⟩, by assumption, by assumption⟩
                | exact ⟨0, rfl, Or.inr ⟨rfl, fun q => m9 (q.2 m2)⟩, by assumption, by assumption⟩
            · refine z_iconst dCls_addsUp_46 ?_
              refine z_goto (tgt := 51) dCls_addsUp_47 (by decide) ?_
              refine z_iret rfl rfl dCls_addsUp_51 ?_
              first
                | (exfalso; omega)
                | exact ⟨1, rfl, Or.inl ⟨rfl, fun q => by first | exact m8 | exact absurd q m1, fun q => by first | exact m9 | exact absurd q m2⟩, by assumption, by assumption⟩
                | exact ⟨0, rfl, Or.inr ⟨rfl, fun q => m8 (q.1 m1)⟩, by assumption, by assumption⟩
                | exact ⟨0, rfl, Or.inr ⟨rfl, fun q => m9 (q.2 m2)⟩, by assumption, by assumption⟩
          · refine z_if_eq (tgt := 50) dCls_addsUp_43 (by decide) (by omega) (fun c43 => ?_) (fun c43 => ?_)
            · refine z_iconst dCls_addsUp_50 ?_
              refine z_iret rfl rfl dCls_addsUp_51 ?_
              first
                | (exfalso; omega)
                | exact ⟨1, rfl, Or.inl ⟨rfl, fun q => by first | exact m8 | exact absurd q m1, fun q => by first | exact m9 | exact absurd q m2⟩, by assumption, by assumption⟩
                | exact ⟨0, rfl, Or.inr ⟨rfl, fun q => m8 (q.1 m1)⟩, by assumption, by assumption⟩
                | exact ⟨0, rfl, Or.inr ⟨rfl, fun q => m9 (q.2 m2)⟩, by assumption, by assumption⟩
            · refine z_iconst dCls_addsUp_46 ?_
              refine z_goto (tgt := 51) dCls_addsUp_47 (by decide) ?_
              refine z_iret rfl rfl dCls_addsUp_51 ?_
              first
                | (exfalso; omega)
                | exact ⟨1, rfl, Or.inl ⟨rfl, fun q => by first | exact m8 | exact absurd q m1, fun q => by first | exact m9 | exact absurd q m2⟩, by assumption, by assumption⟩
                | exact ⟨0, rfl, Or.inr ⟨rfl, fun q => m8 (q.1 m1)⟩, by assumption, by assumption⟩
                | exact ⟨0, rfl, Or.inr ⟨rfl, fun q => m9 (q.2 m2)⟩, by assumption, by assumption⟩
    · refine z_aload_n dCls_addsUp_12 rfl ?_
      refine z_aload_n dCls_addsUp_13 rfl ?_
      refine z_aload_n dCls_addsUp_14 rfl ?_
      refine z_iconst dCls_addsUp_15 ?_
      refine z_callV MV_Cls_agreesWithResult lk_Cls_325 dCls_addsUp_16 (k_Cls_agreesWithResult (x := 0) hC1 hrA1 hrB1 hR1 (by omega)) rfl rfl (Nat.le_of_ble_eq_true rfl) rfl (by assumption) (Nat.le_of_ble_eq_true rfl) (Nat.le_of_ble_eq_true rfl) (Nat.le_of_eq (Nat.zero_add _)) (Nat.le_of_eq (Nat.zero_add _)) (fun _ _ q => q.elim) ?_
      rintro _ _ ⟨b8, rfl, (⟨rfl, m8⟩ | ⟨rfl, m8⟩), rfl⟩
      · refine z_if_ne (tgt := 24) dCls_addsUp_19 (by decide) (by omega) (fun c19 => ?_) (fun c19 => ?_)
        · refine z_aload_n dCls_addsUp_24 rfl ?_
          refine z_get (k := 3) fd_Cls (by decide) fl_Cls_29 dCls_addsUp_25 (by assumption) (by rfl) ?_
          refine z_aload_n dCls_addsUp_28 rfl ?_
          refine z_aload_n dCls_addsUp_29 rfl ?_
          refine z_callVN MV_Row_becomeProduct lk_Cls_203 dCls_addsUp_30 (k_Row_becomeProduct hR1 hrA1 hrB1 (hC.inj (by omega) (by omega) (by omega)) (hC.inj (by omega) (by omega) (by omega)) (hC.inj (by omega) (by omega) (by omega)) (hC.inj (by omega) (by omega) (by omega))) rfl rfl (Nat.le_of_ble_eq_true rfl) rfl (by assumption) (Nat.le_of_ble_eq_true rfl) (Nat.le_of_ble_eq_true rfl) (Nat.le_of_eq (Nat.zero_add _)) (Nat.le_of_eq (Nat.zero_add _)) (fun _ _ q => q.elim) ?_
          rintro _ h2 (⟨rfl, m2, hR2, f2⟩ | ⟨rfl, m2, ⟨L8, hR2⟩, f2⟩)
          · have F2 : ∀ q, q ≠ ad 16 → q ≠ ad 17 → h2 q = h q := fun q x y => (f2 q x y).trans (F1 q x y)
            have hC2 := hC.res hR2 F2
            obtain ⟨-, d2, -⟩ := id hC2
            have fz2 : zFrm ad h h2 := zFrm.of2 (i := 16) (j := 17) (by omega) (by omega) F2
            obtain ⟨fr2, er2, -⟩ := id hR2
            have hrA2 := hrA.kept (F2 _ (hC.inj (by omega) (by omega) (by omega)) (hC.inj (by omega) (by omega) (by omega))) (F2 _ (hC.inj (by omega) (by omega) (by omega)) (hC.inj (by omega) (by omega) (by omega)))
            obtain ⟨fA2, eA2, -⟩ := id hrA2
            have hrB2 := hrB.kept (F2 _ (hC.inj (by omega) (by omega) (by omega)) (hC.inj (by omega) (by omega) (by omega))) (F2 _ (hC.inj (by omega) (by omega) (by omega)) (hC.inj (by omega) (by omega) (by omega)))
            obtain ⟨fB2, eB2, -⟩ := id hrB2
            refine z_if_eq (tgt := 46) dCls_addsUp_33 (by decide) (by omega) (fun c33 => ?_) (fun c33 => ?_)
            · refine z_iconst dCls_addsUp_46 ?_
              refine z_goto (tgt := 51) dCls_addsUp_47 (by decide) ?_
              refine z_iret rfl rfl dCls_addsUp_51 ?_
              first
                | (exfalso; omega)
                | exact ⟨1, rfl, Or.inl ⟨rfl, fun q => by first | exact m8 | exact absurd q m1, fun q => by first | exact m9 | exact absurd q m2⟩, by assumption, by assumption⟩
                | exact ⟨0, rfl, Or.inr ⟨rfl, fun q => m8 (q.1 m1)⟩, by assumption, by assumption⟩
                | exact ⟨0, rfl, Or.inr ⟨rfl, fun q => m9 (q.2 m2)⟩, by assumption, by assumption⟩
            · refine z_aload_n dCls_addsUp_36 rfl ?_
              refine z_aload_n dCls_addsUp_37 rfl ?_
              refine z_aload_n dCls_addsUp_38 rfl ?_
              refine z_iconst dCls_addsUp_39 ?_
              refine z_callV MV_Cls_agreesWithResult lk_Cls_325 dCls_addsUp_40 (k_Cls_agreesWithResult (x := 0) hC2 hrA2 hrB2 hR2 (by omega)) rfl rfl (Nat.le_of_ble_eq_true rfl) rfl (by assumption) (Nat.le_of_ble_eq_true rfl) (Nat.le_of_ble_eq_true rfl) (Nat.le_of_eq (Nat.zero_add _)) (Nat.le_of_eq (Nat.zero_add _)) (fun _ _ q => q.elim) ?_
              rintro _ _ ⟨b9, rfl, (⟨rfl, m9⟩ | ⟨rfl, m9⟩), rfl⟩
              · refine z_if_eq (tgt := 50) dCls_addsUp_43 (by decide) (by omega) (fun c43 => ?_) (fun c43 => ?_)
                · refine z_iconst dCls_addsUp_50 ?_
                  refine z_iret rfl rfl dCls_addsUp_51 ?_
                  first
                    | (exfalso; omega)
                    | exact ⟨1, rfl, Or.inl ⟨rfl, fun q => by first | exact m8 | exact absurd q m1, fun q => by first | exact m9 | exact absurd q m2⟩, by assumption, by assumption⟩
                    | exact ⟨0, rfl, Or.inr ⟨rfl, fun q => m8 (q.1 m1)⟩, by assumption, by assumption⟩
                    | exact ⟨0, rfl, Or.inr ⟨rfl, fun q => m9 (q.2 m2)⟩, by assumption, by assumption⟩
                · refine z_iconst dCls_addsUp_46 ?_
                  refine z_goto (tgt := 51) dCls_addsUp_47 (by decide) ?_
                  refine z_iret rfl rfl dCls_addsUp_51 ?_
                  first
                    | (exfalso; omega)
                    | exact ⟨1, rfl, Or.inl ⟨rfl, fun q => by first | exact m8 | exact absurd q m1, fun q => by first | exact m9 | exact absurd q m2⟩, by assumption, by assumption⟩
                    | exact ⟨0, rfl, Or.inr ⟨rfl, fun q => m8 (q.1 m1)⟩, by assumption, by assumption⟩
                    | exact ⟨0, rfl, Or.inr ⟨rfl, fun q => m9 (q.2 m2)⟩, by assumption, by assumption⟩
              · refine z_if_eq (tgt := 50) dCls_addsUp_43 (by decide) (by omega) (fun c43 => ?_) (fun c43 => ?_)
                · refine z_iconst dCls_addsUp_50 ?_
                  refine z_iret rfl rfl dCls_addsUp_51 ?_
                  first
                    | (exfalso; omega)
                    | exact ⟨1, rfl, Or.inl ⟨rfl, fun q => by first | exact m8 | exact absurd q m1, fun q => by first | exact m9 | exact absurd q m2⟩, by assumption, by assumption⟩
                    | exact ⟨0, rfl, Or.inr ⟨rfl, fun q => m8 (q.1 m1)⟩, by assumption, by assumption⟩
                    | exact ⟨0, rfl, Or.inr ⟨rfl, fun q => m9 (q.2 m2)⟩, by assumption, by assumption⟩
                · refine z_iconst dCls_addsUp_46 ?_
                  refine z_goto (tgt := 51) dCls_addsUp_47 (by decide) ?_
                  refine z_iret rfl rfl dCls_addsUp_51 ?_
                  first
                    | (exfalso; omega)
                    | exact ⟨1, rfl, Or.inl ⟨rfl, fun q => by first | exact m8 | exact absurd q m1, fun q => by first | exact m9 | exact absurd q m2⟩, by assumption, by assumption⟩
                    | exact ⟨0, rfl, Or.inr ⟨rfl, fun q => m8 (q.1 m1)⟩, by assumption, by assumption⟩
                    | exact ⟨0, rfl, Or.inr ⟨rfl, fun q => m9 (q.2 m2)⟩, by assumption, by assumption⟩
          · have F2 : ∀ q, q ≠ ad 16 → q ≠ ad 17 → h2 q = h q := fun q x y => (f2 q x y).trans (F1 q x y)
            have hC2 := hC.res hR2 F2
            obtain ⟨-, d2, -⟩ := id hC2
            have fz2 : zFrm ad h h2 := zFrm.of2 (i := 16) (j := 17) (by omega) (by omega) F2
            obtain ⟨fr2, er2, -⟩ := id hR2
            have hrA2 := hrA.kept (F2 _ (hC.inj (by omega) (by omega) (by omega)) (hC.inj (by omega) (by omega) (by omega))) (F2 _ (hC.inj (by omega) (by omega) (by omega)) (hC.inj (by omega) (by omega) (by omega)))
            obtain ⟨fA2, eA2, -⟩ := id hrA2
            have hrB2 := hrB.kept (F2 _ (hC.inj (by omega) (by omega) (by omega)) (hC.inj (by omega) (by omega) (by omega))) (F2 _ (hC.inj (by omega) (by omega) (by omega)) (hC.inj (by omega) (by omega) (by omega)))
            obtain ⟨fB2, eB2, -⟩ := id hrB2
            refine z_if_eq (tgt := 46) dCls_addsUp_33 (by decide) (by omega) (fun c33 => ?_) (fun c33 => ?_)
            · refine z_iconst dCls_addsUp_46 ?_
              refine z_goto (tgt := 51) dCls_addsUp_47 (by decide) ?_
              refine z_iret rfl rfl dCls_addsUp_51 ?_
              first
                | (exfalso; omega)
                | exact ⟨1, rfl, Or.inl ⟨rfl, fun q => by first | exact m8 | exact absurd q m1, fun q => by first | exact m9 | exact absurd q m2⟩, by assumption, by assumption⟩
                | exact ⟨0, rfl, Or.inr ⟨rfl, fun q => m8 (q.1 m1)⟩, by assumption, by assumption⟩
                | exact ⟨0, rfl, Or.inr ⟨rfl, fun q => m9 (q.2 m2)⟩, by assumption, by assumption⟩
            · refine z_aload_n dCls_addsUp_36 rfl ?_
              refine z_aload_n dCls_addsUp_37 rfl ?_
              refine z_aload_n dCls_addsUp_38 rfl ?_
              refine z_iconst dCls_addsUp_39 ?_
              refine z_callV MV_Cls_agreesWithResult lk_Cls_325 dCls_addsUp_40 (k_Cls_agreesWithResult (x := 0) hC2 hrA2 hrB2 hR2 (by omega)) rfl rfl (Nat.le_of_ble_eq_true rfl) rfl (by assumption) (Nat.le_of_ble_eq_true rfl) (Nat.le_of_ble_eq_true rfl) (Nat.le_of_eq (Nat.zero_add _)) (Nat.le_of_eq (Nat.zero_add _)) (fun _ _ q => q.elim) ?_
              rintro _ _ ⟨b9, rfl, (⟨rfl, m9⟩ | ⟨rfl, m9⟩), rfl⟩
              · refine z_if_eq (tgt := 50) dCls_addsUp_43 (by decide) (by omega) (fun c43 => ?_) (fun c43 => ?_)
                · refine z_iconst dCls_addsUp_50 ?_
                  refine z_iret rfl rfl dCls_addsUp_51 ?_
                  first
                    | (exfalso; omega)
                    | exact ⟨1, rfl, Or.inl ⟨rfl, fun q => by first | exact m8 | exact absurd q m1, fun q => by first | exact m9 | exact absurd q m2⟩, by assumption, by assumption⟩
                    | exact ⟨0, rfl, Or.inr ⟨rfl, fun q => m8 (q.1 m1)⟩, by assumption, by assumption⟩
                    | exact ⟨0, rfl, Or.inr ⟨rfl, fun q => m9 (q.2 m2)⟩, by assumption, by assumption⟩
                · refine z_iconst dCls_addsUp_46 ?_
                  refine z_goto (tgt := 51) dCls_addsUp_47 (by decide) ?_
                  refine z_iret rfl rfl dCls_addsUp_51 ?_
                  first
                    | (exfalso; omega)
                    | exact ⟨1, rfl, Or.inl ⟨rfl, fun q => by first | exact m8 | exact absurd q m1, fun q => by first | exact m9 | exact absurd q m2⟩, by assumption, by assumption⟩
                    | exact ⟨0, rfl, Or.inr ⟨rfl, fun q => m8 (q.1 m1)⟩, by assumption, by assumption⟩
                    | exact ⟨0, rfl, Or.inr ⟨rfl, fun q => m9 (q.2 m2)⟩, by assumption, by assumption⟩
              · refine z_if_eq (tgt := 50) dCls_addsUp_43 (by decide) (by omega) (fun c43 => ?_) (fun c43 => ?_)
                · refine z_iconst dCls_addsUp_50 ?_
                  refine z_iret rfl rfl dCls_addsUp_51 ?_
                  first
                    | (exfalso; omega)
                    | exact ⟨1, rfl, Or.inl ⟨rfl, fun q => by first | exact m8 | exact absurd q m1, fun q => by first | exact m9 | exact absurd q m2⟩, by assumption, by assumption⟩
                    | exact ⟨0, rfl, Or.inr ⟨rfl, fun q => m8 (q.1 m1)⟩, by assumption, by assumption⟩
                    | exact ⟨0, rfl, Or.inr ⟨rfl, fun q => m9 (q.2 m2)⟩, by assumption, by assumption⟩
                · refine z_iconst dCls_addsUp_46 ?_
                  refine z_goto (tgt := 51) dCls_addsUp_47 (by decide) ?_
                  refine z_iret rfl rfl dCls_addsUp_51 ?_
                  first
                    | (exfalso; omega)
                    | exact ⟨1, rfl, Or.inl ⟨rfl, fun q => by first | exact m8 | exact absurd q m1, fun q => by first | exact m9 | exact absurd q m2⟩, by assumption, by assumption⟩
                    | exact ⟨0, rfl, Or.inr ⟨rfl, fun q => m8 (q.1 m1)⟩, by assumption, by assumption⟩
                    | exact ⟨0, rfl, Or.inr ⟨rfl, fun q => m9 (q.2 m2)⟩, by assumption, by assumption⟩
        · refine z_iconst dCls_addsUp_22 ?_
          refine z_iret rfl rfl dCls_addsUp_23 ?_
          first
            | (exfalso; omega)
            | exact ⟨1, rfl, Or.inl ⟨rfl, fun q => by first | exact m8 | exact absurd q m1, fun q => by first | exact m9 | exact absurd q m2⟩, by assumption, by assumption⟩
            | exact ⟨0, rfl, Or.inr ⟨rfl, fun q => m8 (q.1 m1)⟩, by assumption, by assumption⟩
            | exact ⟨0, rfl, Or.inr ⟨rfl, fun q => m9 (q.2 m2)⟩, by assumption, by assumption⟩
      · refine z_if_ne (tgt := 24) dCls_addsUp_19 (by decide) (by omega) (fun c19 => ?_) (fun c19 => ?_)
        · refine z_aload_n dCls_addsUp_24 rfl ?_
          refine z_get (k := 3) fd_Cls (by decide) fl_Cls_29 dCls_addsUp_25 (by assumption) (by rfl) ?_
          refine z_aload_n dCls_addsUp_28 rfl ?_
          refine z_aload_n dCls_addsUp_29 rfl ?_
          refine z_callVN MV_Row_becomeProduct lk_Cls_203 dCls_addsUp_30 (k_Row_becomeProduct hR1 hrA1 hrB1 (hC.inj (by omega) (by omega) (by omega)) (hC.inj (by omega) (by omega) (by omega)) (hC.inj (by omega) (by omega) (by omega)) (hC.inj (by omega) (by omega) (by omega))) rfl rfl (Nat.le_of_ble_eq_true rfl) rfl (by assumption) (Nat.le_of_ble_eq_true rfl) (Nat.le_of_ble_eq_true rfl) (Nat.le_of_eq (Nat.zero_add _)) (Nat.le_of_eq (Nat.zero_add _)) (fun _ _ q => q.elim) ?_
          rintro _ h2 (⟨rfl, m2, hR2, f2⟩ | ⟨rfl, m2, ⟨L8, hR2⟩, f2⟩)
          · have F2 : ∀ q, q ≠ ad 16 → q ≠ ad 17 → h2 q = h q := fun q x y => (f2 q x y).trans (F1 q x y)
            have hC2 := hC.res hR2 F2
            obtain ⟨-, d2, -⟩ := id hC2
            have fz2 : zFrm ad h h2 := zFrm.of2 (i := 16) (j := 17) (by omega) (by omega) F2
            obtain ⟨fr2, er2, -⟩ := id hR2
            have hrA2 := hrA.kept (F2 _ (hC.inj (by omega) (by omega) (by omega)) (hC.inj (by omega) (by omega) (by omega))) (F2 _ (hC.inj (by omega) (by omega) (by omega)) (hC.inj (by omega) (by omega) (by omega)))
            obtain ⟨fA2, eA2, -⟩ := id hrA2
            have hrB2 := hrB.kept (F2 _ (hC.inj (by omega) (by omega) (by omega)) (hC.inj (by omega) (by omega) (by omega))) (F2 _ (hC.inj (by omega) (by omega) (by omega)) (hC.inj (by omega) (by omega) (by omega)))
            obtain ⟨fB2, eB2, -⟩ := id hrB2
            refine z_if_eq (tgt := 46) dCls_addsUp_33 (by decide) (by omega) (fun c33 => ?_) (fun c33 => ?_)
            · refine z_iconst dCls_addsUp_46 ?_
              refine z_goto (tgt := 51) dCls_addsUp_47 (by decide) ?_
              refine z_iret rfl rfl dCls_addsUp_51 ?_
              first
                | (exfalso; omega)
                | exact ⟨1, rfl, Or.inl ⟨rfl, fun q => by first | exact m8 | exact absurd q m1, fun q => by first | exact m9 | exact absurd q m2⟩, by assumption, by assumption⟩
                | exact ⟨0, rfl, Or.inr ⟨rfl, fun q => m8 (q.1 m1)⟩, by assumption, by assumption⟩
                | exact ⟨0, rfl, Or.inr ⟨rfl, fun q => m9 (q.2 m2)⟩, by assumption, by assumption⟩
            · refine z_aload_n dCls_addsUp_36 rfl ?_
              refine z_aload_n dCls_addsUp_37 rfl ?_
              refine z_aload_n dCls_addsUp_38 rfl ?_
              refine z_iconst dCls_addsUp_39 ?_
              refine z_callV MV_Cls_agreesWithResult lk_Cls_325 dCls_addsUp_40 (k_Cls_agreesWithResult (x := 0) hC2 hrA2 hrB2 hR2 (by omega)) rfl rfl (Nat.le_of_ble_eq_true rfl) rfl (by assumption) (Nat.le_of_ble_eq_true rfl) (Nat.le_of_ble_eq_true rfl) (Nat.le_of_eq (Nat.zero_add _)) (Nat.le_of_eq (Nat.zero_add _)) (fun _ _ q => q.elim) ?_
              rintro _ _ ⟨b9, rfl, (⟨rfl, m9⟩ | ⟨rfl, m9⟩), rfl⟩
              · refine z_if_eq (tgt := 50) dCls_addsUp_43 (by decide) (by omega) (fun c43 => ?_) (fun c43 => ?_)
                · refine z_iconst dCls_addsUp_50 ?_
                  refine z_iret rfl rfl dCls_addsUp_51 ?_
                  first
                    | (exfalso; omega)
                    | exact ⟨1, rfl, Or.inl ⟨rfl, fun q => by first | exact m8 | exact absurd q m1, fun q => by first | exact m9 | exact absurd q m2⟩, by assumption, by assumption⟩
                    | exact ⟨0, rfl, Or.inr ⟨rfl, fun q => m8 (q.1 m1)⟩, by assumption, by assumption⟩
                    | exact ⟨0, rfl, Or.inr ⟨rfl, fun q => m9 (q.2 m2)⟩, by assumption, by assumption⟩
                · refine z_iconst dCls_addsUp_46 ?_
                  refine z_goto (tgt := 51) dCls_addsUp_47 (by decide) ?_
                  refine z_iret rfl rfl dCls_addsUp_51 ?_
                  first
                    | (exfalso; omega)
                    | exact ⟨1, rfl, Or.inl ⟨rfl, fun q => by first | exact m8 | exact absurd q m1, fun q => by first | exact m9 | exact absurd q m2⟩, by assumption, by assumption⟩
                    | exact ⟨0, rfl, Or.inr ⟨rfl, fun q => m8 (q.1 m1)⟩, by assumption, by assumption⟩
                    | exact ⟨0, rfl, Or.inr ⟨rfl, fun q => m9 (q.2 m2)⟩, by assumption, by assumption⟩
              · refine z_if_eq (tgt := 50) dCls_addsUp_43 (by decide) (by omega) (fun c43 => ?_) (fun c43 => ?_)
                · refine z_iconst dCls_addsUp_50 ?_
                  refine z_iret rfl rfl dCls_addsUp_51 ?_
                  first
                    | (exfalso; omega)
                    | exact ⟨1, rfl, Or.inl ⟨rfl, fun q => by first | exact m8 | exact absurd q m1, fun q => by first | exact m9 | exact absurd q m2⟩, by assumption, by assumption⟩
                    | exact ⟨0, rfl, Or.inr ⟨rfl, fun q => m8 (q.1 m1)⟩, by assumption, by assumption⟩
                    | exact ⟨0, rfl, Or.inr ⟨rfl, fun q => m9 (q.2 m2)⟩, by assumption, by assumption⟩
                · refine z_iconst dCls_addsUp_46 ?_
                  refine z_goto (tgt := 51) dCls_addsUp_47 (by decide) ?_
                  refine z_iret rfl rfl dCls_addsUp_51 ?_
                  first
                    | (exfalso; omega)
                    | exact ⟨1, rfl, Or.inl ⟨rfl, fun q => by first | exact m8 | exact absurd q m1, fun q => by first | exact m9 | exact absurd q m2⟩, by assumption, by assumption⟩
                    | exact ⟨0, rfl, Or.inr ⟨rfl, fun q => m8 (q.1 m1)⟩, by assumption, by assumption⟩
                    | exact ⟨0, rfl, Or.inr ⟨rfl, fun q => m9 (q.2 m2)⟩, by assumption, by assumption⟩
          · have F2 : ∀ q, q ≠ ad 16 → q ≠ ad 17 → h2 q = h q := fun q x y => (f2 q x y).trans (F1 q x y)
            have hC2 := hC.res hR2 F2
            obtain ⟨-, d2, -⟩ := id hC2
            have fz2 : zFrm ad h h2 := zFrm.of2 (i := 16) (j := 17) (by omega) (by omega) F2
            obtain ⟨fr2, er2, -⟩ := id hR2
            have hrA2 := hrA.kept (F2 _ (hC.inj (by omega) (by omega) (by omega)) (hC.inj (by omega) (by omega) (by omega))) (F2 _ (hC.inj (by omega) (by omega) (by omega)) (hC.inj (by omega) (by omega) (by omega)))
            obtain ⟨fA2, eA2, -⟩ := id hrA2
            have hrB2 := hrB.kept (F2 _ (hC.inj (by omega) (by omega) (by omega)) (hC.inj (by omega) (by omega) (by omega))) (F2 _ (hC.inj (by omega) (by omega) (by omega)) (hC.inj (by omega) (by omega) (by omega)))
            obtain ⟨fB2, eB2, -⟩ := id hrB2
            refine z_if_eq (tgt := 46) dCls_addsUp_33 (by decide) (by omega) (fun c33 => ?_) (fun c33 => ?_)
            · refine z_iconst dCls_addsUp_46 ?_
              refine z_goto (tgt := 51) dCls_addsUp_47 (by decide) ?_
              refine z_iret rfl rfl dCls_addsUp_51 ?_
              first
                | (exfalso; omega)
                | exact ⟨1, rfl, Or.inl ⟨rfl, fun q => by first | exact m8 | exact absurd q m1, fun q => by first | exact m9 | exact absurd q m2⟩, by assumption, by assumption⟩
                | exact ⟨0, rfl, Or.inr ⟨rfl, fun q => m8 (q.1 m1)⟩, by assumption, by assumption⟩
                | exact ⟨0, rfl, Or.inr ⟨rfl, fun q => m9 (q.2 m2)⟩, by assumption, by assumption⟩
            · refine z_aload_n dCls_addsUp_36 rfl ?_
              refine z_aload_n dCls_addsUp_37 rfl ?_
              refine z_aload_n dCls_addsUp_38 rfl ?_
              refine z_iconst dCls_addsUp_39 ?_
              refine z_callV MV_Cls_agreesWithResult lk_Cls_325 dCls_addsUp_40 (k_Cls_agreesWithResult (x := 0) hC2 hrA2 hrB2 hR2 (by omega)) rfl rfl (Nat.le_of_ble_eq_true rfl) rfl (by assumption) (Nat.le_of_ble_eq_true rfl) (Nat.le_of_ble_eq_true rfl) (Nat.le_of_eq (Nat.zero_add _)) (Nat.le_of_eq (Nat.zero_add _)) (fun _ _ q => q.elim) ?_
              rintro _ _ ⟨b9, rfl, (⟨rfl, m9⟩ | ⟨rfl, m9⟩), rfl⟩
              · refine z_if_eq (tgt := 50) dCls_addsUp_43 (by decide) (by omega) (fun c43 => ?_) (fun c43 => ?_)
                · refine z_iconst dCls_addsUp_50 ?_
                  refine z_iret rfl rfl dCls_addsUp_51 ?_
                  first
                    | (exfalso; omega)
                    | exact ⟨1, rfl, Or.inl ⟨rfl, fun q => by first | exact m8 | exact absurd q m1, fun q => by first | exact m9 | exact absurd q m2⟩, by assumption, by assumption⟩
                    | exact ⟨0, rfl, Or.inr ⟨rfl, fun q => m8 (q.1 m1)⟩, by assumption, by assumption⟩
                    | exact ⟨0, rfl, Or.inr ⟨rfl, fun q => m9 (q.2 m2)⟩, by assumption, by assumption⟩
                · refine z_iconst dCls_addsUp_46 ?_
                  refine z_goto (tgt := 51) dCls_addsUp_47 (by decide) ?_
                  refine z_iret rfl rfl dCls_addsUp_51 ?_
                  first
                    | (exfalso; omega)
                    | exact ⟨1, rfl, Or.inl ⟨rfl, fun q => by first | exact m8 | exact absurd q m1, fun q => by first | exact m9 | exact absurd q m2⟩, by assumption, by assumption⟩
                    | exact ⟨0, rfl, Or.inr ⟨rfl, fun q => m8 (q.1 m1)⟩, by assumption, by assumption⟩
                    | exact ⟨0, rfl, Or.inr ⟨rfl, fun q => m9 (q.2 m2)⟩, by assumption, by assumption⟩
              · refine z_if_eq (tgt := 50) dCls_addsUp_43 (by decide) (by omega) (fun c43 => ?_) (fun c43 => ?_)
                · refine z_iconst dCls_addsUp_50 ?_
                  refine z_iret rfl rfl dCls_addsUp_51 ?_
                  first
                    | (exfalso; omega)
                    | exact ⟨1, rfl, Or.inl ⟨rfl, fun q => by first | exact m8 | exact absurd q m1, fun q => by first | exact m9 | exact absurd q m2⟩, by assumption, by assumption⟩
                    | exact ⟨0, rfl, Or.inr ⟨rfl, fun q => m8 (q.1 m1)⟩, by assumption, by assumption⟩
                    | exact ⟨0, rfl, Or.inr ⟨rfl, fun q => m9 (q.2 m2)⟩, by assumption, by assumption⟩
                · refine z_iconst dCls_addsUp_46 ?_
                  refine z_goto (tgt := 51) dCls_addsUp_47 (by decide) ?_
                  refine z_iret rfl rfl dCls_addsUp_51 ?_
                  first
                    | (exfalso; omega)
                    | exact ⟨1, rfl, Or.inl ⟨rfl, fun q => by first | exact m8 | exact absurd q m1, fun q => by first | exact m9 | exact absurd q m2⟩, by assumption, by assumption⟩
                    | exact ⟨0, rfl, Or.inr ⟨rfl, fun q => m8 (q.1 m1)⟩, by assumption, by assumption⟩
                    | exact ⟨0, rfl, Or.inr ⟨rfl, fun q => m9 (q.2 m2)⟩, by assumption, by assumption⟩
        · refine z_iconst dCls_addsUp_22 ?_
          refine z_iret rfl rfl dCls_addsUp_23 ?_
          first
            | (exfalso; omega)
            | exact ⟨1, rfl, Or.inl ⟨rfl, fun q => by first | exact m8 | exact absurd q m1, fun q => by first | exact m9 | exact absurd q m2⟩, by assumption, by assumption⟩
            | exact ⟨0, rfl, Or.inr ⟨rfl, fun q => m8 (q.1 m1)⟩, by assumption, by assumption⟩
            | exact ⟨0, rfl, Or.inr ⟨rfl, fun q => m9 (q.2 m2)⟩, by assumption, by assumption⟩
  · have F1 : ∀ q, q ≠ ad 16 → q ≠ ad 17 → h1 q = h q := fun q x y => f1 q x y
    have hC1 := hC.res hR1 F1
    obtain ⟨-, d1, -⟩ := id hC1
    have fz1 : zFrm ad h h1 := zFrm.of2 (i := 16) (j := 17) (by omega) (by omega) F1
    obtain ⟨fr1, er1, -⟩ := id hR1
    have hrA1 := hrA.kept (F1 _ (hC.inj (by omega) (by omega) (by omega)) (hC.inj (by omega) (by omega) (by omega))) (F1 _ (hC.inj (by omega) (by omega) (by omega)) (hC.inj (by omega) (by omega) (by omega)))
    obtain ⟨fA1, eA1, -⟩ := id hrA1
    have hrB1 := hrB.kept (F1 _ (hC.inj (by omega) (by omega) (by omega)) (hC.inj (by omega) (by omega) (by omega))) (F1 _ (hC.inj (by omega) (by omega) (by omega)) (hC.inj (by omega) (by omega) (by omega)))
    obtain ⟨fB1, eB1, -⟩ := id hrB1
    refine z_if_eq (tgt := 24) dCls_addsUp_9 (by decide) (by omega) (fun c9 => ?_) (fun c9 => ?_)
    · refine z_aload_n dCls_addsUp_24 rfl ?_
      refine z_get (k := 3) fd_Cls (by decide) fl_Cls_29 dCls_addsUp_25 (by assumption) (by rfl) ?_
      refine z_aload_n dCls_addsUp_28 rfl ?_
      refine z_aload_n dCls_addsUp_29 rfl ?_
      refine z_callVN MV_Row_becomeProduct lk_Cls_203 dCls_addsUp_30 (k_Row_becomeProduct hR1 hrA1 hrB1 (hC.inj (by omega) (by omega) (by omega)) (hC.inj (by omega) (by omega) (by omega)) (hC.inj (by omega) (by omega) (by omega)) (hC.inj (by omega) (by omega) (by omega))) rfl rfl (Nat.le_of_ble_eq_true rfl) rfl (by assumption) (Nat.le_of_ble_eq_true rfl) (Nat.le_of_ble_eq_true rfl) (Nat.le_of_eq (Nat.zero_add _)) (Nat.le_of_eq (Nat.zero_add _)) (fun _ _ q => q.elim) ?_
      rintro _ h2 (⟨rfl, m2, hR2, f2⟩ | ⟨rfl, m2, ⟨L8, hR2⟩, f2⟩)
      · have F2 : ∀ q, q ≠ ad 16 → q ≠ ad 17 → h2 q = h q := fun q x y => (f2 q x y).trans (F1 q x y)
        have hC2 := hC.res hR2 F2
        obtain ⟨-, d2, -⟩ := id hC2
        have fz2 : zFrm ad h h2 := zFrm.of2 (i := 16) (j := 17) (by omega) (by omega) F2
        obtain ⟨fr2, er2, -⟩ := id hR2
        have hrA2 := hrA.kept (F2 _ (hC.inj (by omega) (by omega) (by omega)) (hC.inj (by omega) (by omega) (by omega))) (F2 _ (hC.inj (by omega) (by omega) (by omega)) (hC.inj (by omega) (by omega) (by omega)))
        obtain ⟨fA2, eA2, -⟩ := id hrA2
        have hrB2 := hrB.kept (F2 _ (hC.inj (by omega) (by omega) (by omega)) (hC.inj (by omega) (by omega) (by omega))) (F2 _ (hC.inj (by omega) (by omega) (by omega)) (hC.inj (by omega) (by omega) (by omega)))
        obtain ⟨fB2, eB2, -⟩ := id hrB2
        refine z_if_eq (tgt := 46) dCls_addsUp_33 (by decide) (by omega) (fun c33 => ?_) (fun c33 => ?_)
        · refine z_iconst dCls_addsUp_46 ?_
          refine z_goto (tgt := 51) dCls_addsUp_47 (by decide) ?_
          refine z_iret rfl rfl dCls_addsUp_51 ?_
          first
            | (exfalso; omega)
            | exact ⟨1, rfl, Or.inl ⟨rfl, fun q => by first | exact m8 | exact absurd q m1, fun q => by first | exact m9 | exact absurd q m2⟩, by assumption, by assumption⟩
            | exact ⟨0, rfl, Or.inr ⟨rfl, fun q => m8 (q.1 m1)⟩, by assumption, by assumption⟩
            | exact ⟨0, rfl, Or.inr ⟨rfl, fun q => m9 (q.2 m2)⟩, by assumption, by assumption⟩
        · refine z_aload_n dCls_addsUp_36 rfl ?_
          refine z_aload_n dCls_addsUp_37 rfl ?_
          refine z_aload_n dCls_addsUp_38 rfl ?_
          refine z_iconst dCls_addsUp_39 ?_
          refine z_callV MV_Cls_agreesWithResult lk_Cls_325 dCls_addsUp_40 (k_Cls_agreesWithResult (x := 0) hC2 hrA2 hrB2 hR2 (by omega)) rfl rfl (Nat.le_of_ble_eq_true rfl) rfl (by assumption) (Nat.le_of_ble_eq_true rfl) (Nat.le_of_ble_eq_true rfl) (Nat.le_of_eq (Nat.zero_add _)) (Nat.le_of_eq (Nat.zero_add _)) (fun _ _ q => q.elim) ?_
          rintro _ _ ⟨b9, rfl, (⟨rfl, m9⟩ | ⟨rfl, m9⟩), rfl⟩
          · refine z_if_eq (tgt := 50) dCls_addsUp_43 (by decide) (by omega) (fun c43 => ?_) (fun c43 => ?_)
            · refine z_iconst dCls_addsUp_50 ?_
              refine z_iret rfl rfl dCls_addsUp_51 ?_
              first
                | (exfalso; omega)
                | exact ⟨1, rfl, Or.inl ⟨rfl, fun q => by first | exact m8 | exact absurd q m1, fun q => by first | exact m9 | exact absurd q m2⟩, by assumption, by assumption⟩
                | exact ⟨0, rfl, Or.inr ⟨rfl, fun q => m8 (q.1 m1)⟩, by assumption, by assumption⟩
                | exact ⟨0, rfl, Or.inr ⟨rfl, fun q => m9 (q.2 m2)⟩, by assumption, by assumption⟩
            · refine z_iconst dCls_addsUp_46 ?_
              refine z_goto (tgt := 51) dCls_addsUp_47 (by decide) ?_
              refine z_iret rfl rfl dCls_addsUp_51 ?_
              first
                | (exfalso; omega)
                | exact ⟨1, rfl, Or.inl ⟨rfl, fun q => by first | exact m8 | exact absurd q m1, fun q => by first | exact m9 | exact absurd q m2⟩, by assumption, by assumption⟩
                | exact ⟨0, rfl, Or.inr ⟨rfl, fun q => m8 (q.1 m1)⟩, by assumption, by assumption⟩
                | exact ⟨0, rfl, Or.inr ⟨rfl, fun q => m9 (q.2 m2)⟩, by assumption, by assumption⟩
          · refine z_if_eq (tgt := 50) dCls_addsUp_43 (by decide) (by omega) (fun c43 => ?_) (fun c43 => ?_)
            · refine z_iconst dCls_addsUp_50 ?_
              refine z_iret rfl rfl dCls_addsUp_51 ?_
              first
                | (exfalso; omega)
                | exact ⟨1, rfl, Or.inl ⟨rfl, fun q => by first | exact m8 | exact absurd q m1, fun q => by first | exact m9 | exact absurd q m2⟩, by assumption, by assumption⟩
                | exact ⟨0, rfl, Or.inr ⟨rfl, fun q => m8 (q.1 m1)⟩, by assumption, by assumption⟩
                | exact ⟨0, rfl, Or.inr ⟨rfl, fun q => m9 (q.2 m2)⟩, by assumption, by assumption⟩
            · refine z_iconst dCls_addsUp_46 ?_
              refine z_goto (tgt := 51) dCls_addsUp_47 (by decide) ?_
              refine z_iret rfl rfl dCls_addsUp_51 ?_
              first
                | (exfalso; omega)
                | exact ⟨1, rfl, Or.inl ⟨rfl, fun q => by first | exact m8 | exact absurd q m1, fun q => by first | exact m9 | exact absurd q m2⟩, by assumption, by assumption⟩
                | exact ⟨0, rfl, Or.inr ⟨rfl, fun q => m8 (q.1 m1)⟩, by assumption, by assumption⟩
                | exact ⟨0, rfl, Or.inr ⟨rfl, fun q => m9 (q.2 m2)⟩, by assumption, by assumption⟩
      · have F2 : ∀ q, q ≠ ad 16 → q ≠ ad 17 → h2 q = h q := fun q x y => (f2 q x y).trans (F1 q x y)
        have hC2 := hC.res hR2 F2
        obtain ⟨-, d2, -⟩ := id hC2
        have fz2 : zFrm ad h h2 := zFrm.of2 (i := 16) (j := 17) (by omega) (by omega) F2
        obtain ⟨fr2, er2, -⟩ := id hR2
        have hrA2 := hrA.kept (F2 _ (hC.inj (by omega) (by omega) (by omega)) (hC.inj (by omega) (by omega) (by omega))) (F2 _ (hC.inj (by omega) (by omega) (by omega)) (hC.inj (by omega) (by omega) (by omega)))
        obtain ⟨fA2, eA2, -⟩ := id hrA2
        have hrB2 := hrB.kept (F2 _ (hC.inj (by omega) (by omega) (by omega)) (hC.inj (by omega) (by omega) (by omega))) (F2 _ (hC.inj (by omega) (by omega) (by omega)) (hC.inj (by omega) (by omega) (by omega)))
        obtain ⟨fB2, eB2, -⟩ := id hrB2
        refine z_if_eq (tgt := 46) dCls_addsUp_33 (by decide) (by omega) (fun c33 => ?_) (fun c33 => ?_)
        · refine z_iconst dCls_addsUp_46 ?_
          refine z_goto (tgt := 51) dCls_addsUp_47 (by decide) ?_
          refine z_iret rfl rfl dCls_addsUp_51 ?_
          first
            | (exfalso; omega)
            | exact ⟨1, rfl, Or.inl ⟨rfl, fun q => by first | exact m8 | exact absurd q m1, fun q => by first | exact m9 | exact absurd q m2⟩, by assumption, by assumption⟩
            | exact ⟨0, rfl, Or.inr ⟨rfl, fun q => m8 (q.1 m1)⟩, by assumption, by assumption⟩
            | exact ⟨0, rfl, Or.inr ⟨rfl, fun q => m9 (q.2 m2)⟩, by assumption, by assumption⟩
        · refine z_aload_n dCls_addsUp_36 rfl ?_
          refine z_aload_n dCls_addsUp_37 rfl ?_
          refine z_aload_n dCls_addsUp_38 rfl ?_
          refine z_iconst dCls_addsUp_39 ?_
          refine z_callV MV_Cls_agreesWithResult lk_Cls_325 dCls_addsUp_40 (k_Cls_agreesWithResult (x := 0) hC2 hrA2 hrB2 hR2 (by omega)) rfl rfl (Nat.le_of_ble_eq_true rfl) rfl (by assumption) (Nat.le_of_ble_eq_true rfl) (Nat.le_of_ble_eq_true rfl) (Nat.le_of_eq (Nat.zero_add _)) (Nat.le_of_eq (Nat.zero_add _)) (fun _ _ q => q.elim) ?_
          rintro _ _ ⟨b9, rfl, (⟨rfl, m9⟩ | ⟨rfl, m9⟩), rfl⟩
          · refine z_if_eq (tgt := 50) dCls_addsUp_43 (by decide) (by omega) (fun c43 => ?_) (fun c43 => ?_)
            · refine z_iconst dCls_addsUp_50 ?_
              refine z_iret rfl rfl dCls_addsUp_51 ?_
              first
                | (exfalso; omega)
                | exact ⟨1, rfl, Or.inl ⟨rfl, fun q => by first | exact m8 | exact absurd q m1, fun q => by first | exact m9 | exact absurd q m2⟩, by assumption, by assumption⟩
                | exact ⟨0, rfl, Or.inr ⟨rfl, fun q => m8 (q.1 m1)⟩, by assumption, by assumption⟩
                | exact ⟨0, rfl, Or.inr ⟨rfl, fun q => m9 (q.2 m2)⟩, by assumption, by assumption⟩
            · refine z_iconst dCls_addsUp_46 ?_
              refine z_goto (tgt := 51) dCls_addsUp_47 (by decide) ?_
              refine z_iret rfl rfl dCls_addsUp_51 ?_
              first
                | (exfalso; omega)
                | exact ⟨1, rfl, Or.inl ⟨rfl, fun q => by first | exact m8 | exact absurd q m1, fun q => by first | exact m9 | exact absurd q m2⟩, by assumption, by assumption⟩
                | exact ⟨0, rfl, Or.inr ⟨rfl, fun q => m8 (q.1 m1)⟩, by assumption, by assumption⟩
                | exact ⟨0, rfl, Or.inr ⟨rfl, fun q => m9 (q.2 m2)⟩, by assumption, by assumption⟩
          · refine z_if_eq (tgt := 50) dCls_addsUp_43 (by decide) (by omega) (fun c43 => ?_) (fun c43 => ?_)
            · refine z_iconst dCls_addsUp_50 ?_
              refine z_iret rfl rfl dCls_addsUp_51 ?_
              first
                | (exfalso; omega)
                | exact ⟨1, rfl, Or.inl ⟨rfl, fun q => by first | exact m8 | exact absurd q m1, fun q => by first | exact m9 | exact absurd q m2⟩, by assumption, by assumption⟩
                | exact ⟨0, rfl, Or.inr ⟨rfl, fun q => m8 (q.1 m1)⟩, by assumption, by assumption⟩
                | exact ⟨0, rfl, Or.inr ⟨rfl, fun q => m9 (q.2 m2)⟩, by assumption, by assumption⟩
            · refine z_iconst dCls_addsUp_46 ?_
              refine z_goto (tgt := 51) dCls_addsUp_47 (by decide) ?_
              refine z_iret rfl rfl dCls_addsUp_51 ?_
              first
                | (exfalso; omega)
                | exact ⟨1, rfl, Or.inl ⟨rfl, fun q => by first | exact m8 | exact absurd q m1, fun q => by first | exact m9 | exact absurd q m2⟩, by assumption, by assumption⟩
                | exact ⟨0, rfl, Or.inr ⟨rfl, fun q => m8 (q.1 m1)⟩, by assumption, by assumption⟩
                | exact ⟨0, rfl, Or.inr ⟨rfl, fun q => m9 (q.2 m2)⟩, by assumption, by assumption⟩
    · refine z_aload_n dCls_addsUp_12 rfl ?_
      refine z_aload_n dCls_addsUp_13 rfl ?_
      refine z_aload_n dCls_addsUp_14 rfl ?_
      refine z_iconst dCls_addsUp_15 ?_
      refine z_callV MV_Cls_agreesWithResult lk_Cls_325 dCls_addsUp_16 (k_Cls_agreesWithResult (x := 0) hC1 hrA1 hrB1 hR1 (by omega)) rfl rfl (Nat.le_of_ble_eq_true rfl) rfl (by assumption) (Nat.le_of_ble_eq_true rfl) (Nat.le_of_ble_eq_true rfl) (Nat.le_of_eq (Nat.zero_add _)) (Nat.le_of_eq (Nat.zero_add _)) (fun _ _ q => q.elim) ?_
      rintro _ _ ⟨b8, rfl, (⟨rfl, m8⟩ | ⟨rfl, m8⟩), rfl⟩
      · refine z_if_ne (tgt := 24) dCls_addsUp_19 (by decide) (by omega) (fun c19 => ?_) (fun c19 => ?_)
        · refine z_aload_n dCls_addsUp_24 rfl ?_
          refine z_get (k := 3) fd_Cls (by decide) fl_Cls_29 dCls_addsUp_25 (by assumption) (by rfl) ?_
          refine z_aload_n dCls_addsUp_28 rfl ?_
          refine z_aload_n dCls_addsUp_29 rfl ?_
          refine z_callVN MV_Row_becomeProduct lk_Cls_203 dCls_addsUp_30 (k_Row_becomeProduct hR1 hrA1 hrB1 (hC.inj (by omega) (by omega) (by omega)) (hC.inj (by omega) (by omega) (by omega)) (hC.inj (by omega) (by omega) (by omega)) (hC.inj (by omega) (by omega) (by omega))) rfl rfl (Nat.le_of_ble_eq_true rfl) rfl (by assumption) (Nat.le_of_ble_eq_true rfl) (Nat.le_of_ble_eq_true rfl) (Nat.le_of_eq (Nat.zero_add _)) (Nat.le_of_eq (Nat.zero_add _)) (fun _ _ q => q.elim) ?_
          rintro _ h2 (⟨rfl, m2, hR2, f2⟩ | ⟨rfl, m2, ⟨L8, hR2⟩, f2⟩)
          · have F2 : ∀ q, q ≠ ad 16 → q ≠ ad 17 → h2 q = h q := fun q x y => (f2 q x y).trans (F1 q x y)
            have hC2 := hC.res hR2 F2
            obtain ⟨-, d2, -⟩ := id hC2
            have fz2 : zFrm ad h h2 := zFrm.of2 (i := 16) (j := 17) (by omega) (by omega) F2
            obtain ⟨fr2, er2, -⟩ := id hR2
            have hrA2 := hrA.kept (F2 _ (hC.inj (by omega) (by omega) (by omega)) (hC.inj (by omega) (by omega) (by omega))) (F2 _ (hC.inj (by omega) (by omega) (by omega)) (hC.inj (by omega) (by omega) (by omega)))
            obtain ⟨fA2, eA2, -⟩ := id hrA2
            have hrB2 := hrB.kept (F2 _ (hC.inj (by omega) (by omega) (by omega)) (hC.inj (by omega) (by omega) (by omega))) (F2 _ (hC.inj (by omega) (by omega) (by omega)) (hC.inj (by omega) (by omega) (by omega)))
            obtain ⟨fB2, eB2, -⟩ := id hrB2
            refine z_if_eq (tgt := 46) dCls_addsUp_33 (by decide) (by omega) (fun c33 => ?_) (fun c33 => ?_)
            · refine z_iconst dCls_addsUp_46 ?_
              refine z_goto (tgt := 51) dCls_addsUp_47 (by decide) ?_
              refine z_iret rfl rfl dCls_addsUp_51 ?_
              first
                | (exfalso; omega)
                | exact ⟨1, rfl, Or.inl ⟨rfl, fun q => by first | exact m8 | exact absurd q m1, fun q => by first | exact m9 | exact absurd q m2⟩, by assumption, by assumption⟩
                | exact ⟨0, rfl, Or.inr ⟨rfl, fun q => m8 (q.1 m1)⟩, by assumption, by assumption⟩
                | exact ⟨0, rfl, Or.inr ⟨rfl, fun q => m9 (q.2 m2)⟩, by assumption, by assumption⟩
            · refine z_aload_n dCls_addsUp_36 rfl ?_
              refine z_aload_n dCls_addsUp_37 rfl ?_
              refine z_aload_n dCls_addsUp_38 rfl ?_
              refine z_iconst dCls_addsUp_39 ?_
              refine z_callV MV_Cls_agreesWithResult lk_Cls_325 dCls_addsUp_40 (k_Cls_agreesWithResult (x := 0) hC2 hrA2 hrB2 hR2 (by omega)) rfl rfl (Nat.le_of_ble_eq_true rfl) rfl (by assumption) (Nat.le_of_ble_eq_true rfl) (Nat.le_of_ble_eq_true rfl) (Nat.le_of_eq (Nat.zero_add _)) (Nat.le_of_eq (Nat.zero_add _)) (fun _ _ q => q.elim) ?_
              rintro _ _ ⟨b9, rfl, (⟨rfl, m9⟩ | ⟨rfl, m9⟩), rfl⟩
              · refine z_if_eq (tgt := 50) dCls_addsUp_43 (by decide) (by omega) (fun c43 => ?_) (fun c43 => ?_)
                · refine z_iconst dCls_addsUp_50 ?_
                  refine z_iret rfl rfl dCls_addsUp_51 ?_
                  first
                    | (exfalso; omega)
                    | exact ⟨1, rfl, Or.inl ⟨rfl, fun q => by first | exact m8 | exact absurd q m1, fun q => by first | exact m9 | exact absurd q m2⟩, by assumption, by assumption⟩
                    | exact ⟨0, rfl, Or.inr ⟨rfl, fun q => m8 (q.1 m1)⟩, by assumption, by assumption⟩
                    | exact ⟨0, rfl, Or.inr ⟨rfl, fun q => m9 (q.2 m2)⟩, by assumption, by assumption⟩
                · refine z_iconst dCls_addsUp_46 ?_
                  refine z_goto (tgt := 51) dCls_addsUp_47 (by decide) ?_
                  refine z_iret rfl rfl dCls_addsUp_51 ?_
                  first
                    | (exfalso; omega)
                    | exact ⟨1, rfl, Or.inl ⟨rfl, fun q => by first | exact m8 | exact absurd q m1, fun q => by first | exact m9 | exact absurd q m2⟩, by assumption, by assumption⟩
                    | exact ⟨0, rfl, Or.inr ⟨rfl, fun q => m8 (q.1 m1)⟩, by assumption, by assumption⟩
                    | exact ⟨0, rfl, Or.inr ⟨rfl, fun q => m9 (q.2 m2)⟩, by assumption, by assumption⟩
              · refine z_if_eq (tgt := 50) dCls_addsUp_43 (by decide) (by omega) (fun c43 => ?_) (fun c43 => ?_)
                · refine z_iconst dCls_addsUp_50 ?_
                  refine z_iret rfl rfl dCls_addsUp_51 ?_
                  first
                    | (exfalso; omega)
                    | exact ⟨1, rfl, Or.inl ⟨rfl, fun q => by first | exact m8 | exact absurd q m1, fun q => by first | exact m9 | exact absurd q m2⟩, by assumption, by assumption⟩
                    | exact ⟨0, rfl, Or.inr ⟨rfl, fun q => m8 (q.1 m1)⟩, by assumption, by assumption⟩
                    | exact ⟨0, rfl, Or.inr ⟨rfl, fun q => m9 (q.2 m2)⟩, by assumption, by assumption⟩
                · refine z_iconst dCls_addsUp_46 ?_
                  refine z_goto (tgt := 51) dCls_addsUp_47 (by decide) ?_
                  refine z_iret rfl rfl dCls_addsUp_51 ?_
                  first
                    | (exfalso; omega)
                    | exact ⟨1, rfl, Or.inl ⟨rfl, fun q => by first | exact m8 | exact absurd q m1, fun q => by first | exact m9 | exact absurd q m2⟩, by assumption, by assumption⟩
                    | exact ⟨0, rfl, Or.inr ⟨rfl, fun q => m8 (q.1 m1)⟩, by assumption, by assumption⟩
                    | exact ⟨0, rfl, Or.inr ⟨rfl, fun q => m9 (q.2 m2)⟩, by assumption, by assumption⟩
          · have F2 : ∀ q, q ≠ ad 16 → q ≠ ad 17 → h2 q = h q := fun q x y => (f2 q x y).trans (F1 q x y)
            have hC2 := hC.res hR2 F2
            obtain ⟨-, d2, -⟩ := id hC2
            have fz2 : zFrm ad h h2 := zFrm.of2 (i := 16) (j := 17) (by omega) (by omega) F2
            obtain ⟨fr2, er2, -⟩ := id hR2
            have hrA2 := hrA.kept (F2 _ (hC.inj (by omega) (by omega) (by omega)) (hC.inj (by omega) (by omega) (by omega))) (F2 _ (hC.inj (by omega) (by omega) (by omega)) (hC.inj (by omega) (by omega) (by omega)))
            obtain ⟨fA2, eA2, -⟩ := id hrA2
            have hrB2 := hrB.kept (F2 _ (hC.inj (by omega) (by omega) (by omega)) (hC.inj (by omega) (by omega) (by omega))) (F2 _ (hC.inj (by omega) (by omega) (by omega)) (hC.inj (by omega) (by omega) (by omega)))
            obtain ⟨fB2, eB2, -⟩ := id hrB2
            refine z_if_eq (tgt := 46) dCls_addsUp_33 (by decide) (by omega) (fun c33 => ?_) (fun c33 => ?_)
            · refine z_iconst dCls_addsUp_46 ?_
              refine z_goto (tgt := 51) dCls_addsUp_47 (by decide) ?_
              refine z_iret rfl rfl dCls_addsUp_51 ?_
              first
                | (exfalso; omega)
                | exact ⟨1, rfl, Or.inl ⟨rfl, fun q => by first | exact m8 | exact absurd q m1, fun q => by first | exact m9 | exact absurd q m2⟩, by assumption, by assumption⟩
                | exact ⟨0, rfl, Or.inr ⟨rfl, fun q => m8 (q.1 m1)⟩, by assumption, by assumption⟩
                | exact ⟨0, rfl, Or.inr ⟨rfl, fun q => m9 (q.2 m2)⟩, by assumption, by assumption⟩
            · refine z_aload_n dCls_addsUp_36 rfl ?_
              refine z_aload_n dCls_addsUp_37 rfl ?_
              refine z_aload_n dCls_addsUp_38 rfl ?_
              refine z_iconst dCls_addsUp_39 ?_
              refine z_callV MV_Cls_agreesWithResult lk_Cls_325 dCls_addsUp_40 (k_Cls_agreesWithResult (x := 0) hC2 hrA2 hrB2 hR2 (by omega)) rfl rfl (Nat.le_of_ble_eq_true rfl) rfl (by assumption) (Nat.le_of_ble_eq_true rfl) (Nat.le_of_ble_eq_true rfl) (Nat.le_of_eq (Nat.zero_add _)) (Nat.le_of_eq (Nat.zero_add _)) (fun _ _ q => q.elim) ?_
              rintro _ _ ⟨b9, rfl, (⟨rfl, m9⟩ | ⟨rfl, m9⟩), rfl⟩
              · refine z_if_eq (tgt := 50) dCls_addsUp_43 (by decide) (by omega) (fun c43 => ?_) (fun c43 => ?_)
                · refine z_iconst dCls_addsUp_50 ?_
                  refine z_iret rfl rfl dCls_addsUp_51 ?_
                  first
                    | (exfalso; omega)
                    | exact ⟨1, rfl, Or.inl ⟨rfl, fun q => by first | exact m8 | exact absurd q m1, fun q => by first | exact m9 | exact absurd q m2⟩, by assumption, by assumption⟩
                    | exact ⟨0, rfl, Or.inr ⟨rfl, fun q => m8 (q.1 m1)⟩, by assumption, by assumption⟩
                    | exact ⟨0, rfl, Or.inr ⟨rfl, fun q => m9 (q.2 m2)⟩, by assumption, by assumption⟩
                · refine z_iconst dCls_addsUp_46 ?_
                  refine z_goto (tgt := 51) dCls_addsUp_47 (by decide) ?_
                  refine z_iret rfl rfl dCls_addsUp_51 ?_
                  first
                    | (exfalso; omega)
                    | exact ⟨1, rfl, Or.inl ⟨rfl, fun q => by first | exact m8 | exact absurd q m1, fun q => by first | exact m9 | exact absurd q m2⟩, by assumption, by assumption⟩
                    | exact ⟨0, rfl, Or.inr ⟨rfl, fun q => m8 (q.1 m1)⟩, by assumption, by assumption⟩
                    | exact ⟨0, rfl, Or.inr ⟨rfl, fun q => m9 (q.2 m2)⟩, by assumption, by assumption⟩
              · refine z_if_eq (tgt := 50) dCls_addsUp_43 (by decide) (by omega) (fun c43 => ?_) (fun c43 => ?_)
                · refine z_iconst dCls_addsUp_50 ?_
                  refine z_iret rfl rfl dCls_addsUp_51 ?_
                  first
                    | (exfalso; omega)
                    | exact ⟨1, rfl, Or.inl ⟨rfl, fun q => by first | exact m8 | exact absurd q m1, fun q => by first | exact m9 | exact absurd q m2⟩, by assumption, by assumption⟩
                    | exact ⟨0, rfl, Or.inr ⟨rfl, fun q => m8 (q.1 m1)⟩, by assumption, by assumption⟩
                    | exact ⟨0, rfl, Or.inr ⟨rfl, fun q => m9 (q.2 m2)⟩, by assumption, by assumption⟩
                · refine z_iconst dCls_addsUp_46 ?_
                  refine z_goto (tgt := 51) dCls_addsUp_47 (by decide) ?_
                  refine z_iret rfl rfl dCls_addsUp_51 ?_
                  first
                    | (exfalso; omega)
                    | exact ⟨1, rfl, Or.inl ⟨rfl, fun q => by first | exact m8 | exact absurd q m1, fun q => by first | exact m9 | exact absurd q m2⟩, by assumption, by assumption⟩
                    | exact ⟨0, rfl, Or.inr ⟨rfl, fun q => m8 (q.1 m1)⟩, by assumption, by assumption⟩
                    | exact ⟨0, rfl, Or.inr ⟨rfl, fun q => m9 (q.2 m2)⟩, by assumption, by assumption⟩
        · refine z_iconst dCls_addsUp_22 ?_
          refine z_iret rfl rfl dCls_addsUp_23 ?_
          first
            | (exfalso; omega)
            | exact ⟨1, rfl, Or.inl ⟨rfl, fun q => by first | exact m8 | exact absurd q m1, fun q => by first | exact m9 | exact absurd q m2⟩, by assumption, by assumption⟩
            | exact ⟨0, rfl, Or.inr ⟨rfl, fun q => m8 (q.1 m1)⟩, by assumption, by assumption⟩
            | exact ⟨0, rfl, Or.inr ⟨rfl, fun q => m9 (q.2 m2)⟩, by assumption, by assumption⟩
      · refine z_if_ne (tgt := 24) dCls_addsUp_19 (by decide) (by omega) (fun c19 => ?_) (fun c19 => ?_)
        · refine z_aload_n dCls_addsUp_24 rfl ?_
          refine z_get (k := 3) fd_Cls (by decide) fl_Cls_29 dCls_addsUp_25 (by assumption) (by rfl) ?_
          refine z_aload_n dCls_addsUp_28 rfl ?_
          refine z_aload_n dCls_addsUp_29 rfl ?_
          refine z_callVN MV_Row_becomeProduct lk_Cls_203 dCls_addsUp_30 (k_Row_becomeProduct hR1 hrA1 hrB1 (hC.inj (by omega) (by omega) (by omega)) (hC.inj (by omega) (by omega) (by omega)) (hC.inj (by omega) (by omega) (by omega)) (hC.inj (by omega) (by omega) (by omega))) rfl rfl (Nat.le_of_ble_eq_true rfl) rfl (by assumption) (Nat.le_of_ble_eq_true rfl) (Nat.le_of_ble_eq_true rfl) (Nat.le_of_eq (Nat.zero_add _)) (Nat.le_of_eq (Nat.zero_add _)) (fun _ _ q => q.elim) ?_
          rintro _ h2 (⟨rfl, m2, hR2, f2⟩ | ⟨rfl, m2, ⟨L8, hR2⟩, f2⟩)
          · have F2 : ∀ q, q ≠ ad 16 → q ≠ ad 17 → h2 q = h q := fun q x y => (f2 q x y).trans (F1 q x y)
            have hC2 := hC.res hR2 F2
            obtain ⟨-, d2, -⟩ := id hC2
            have fz2 : zFrm ad h h2 := zFrm.of2 (i := 16) (j := 17) (by omega) (by omega) F2
            obtain ⟨fr2, er2, -⟩ := id hR2
            have hrA2 := hrA.kept (F2 _ (hC.inj (by omega) (by omega) (by omega)) (hC.inj (by omega) (by omega) (by omega))) (F2 _ (hC.inj (by omega) (by omega) (by omega)) (hC.inj (by omega) (by omega) (by omega)))
            obtain ⟨fA2, eA2, -⟩ := id hrA2
            have hrB2 := hrB.kept (F2 _ (hC.inj (by omega) (by omega) (by omega)) (hC.inj (by omega) (by omega) (by omega))) (F2 _ (hC.inj (by omega) (by omega) (by omega)) (hC.inj (by omega) (by omega) (by omega)))
            obtain ⟨fB2, eB2, -⟩ := id hrB2
            refine z_if_eq (tgt := 46) dCls_addsUp_33 (by decide) (by omega) (fun c33 => ?_) (fun c33 => ?_)
            · refine z_iconst dCls_addsUp_46 ?_
              refine z_goto (tgt := 51) dCls_addsUp_47 (by decide) ?_
              refine z_iret rfl rfl dCls_addsUp_51 ?_
              first
                | (exfalso; omega)
                | exact ⟨1, rfl, Or.inl ⟨rfl, fun q => by first | exact m8 | exact absurd q m1, fun q => by first | exact m9 | exact absurd q m2⟩, by assumption, by assumption⟩
                | exact ⟨0, rfl, Or.inr ⟨rfl, fun q => m8 (q.1 m1)⟩, by assumption, by assumption⟩
                | exact ⟨0, rfl, Or.inr ⟨rfl, fun q => m9 (q.2 m2)⟩, by assumption, by assumption⟩
            · refine z_aload_n dCls_addsUp_36 rfl ?_
              refine z_aload_n dCls_addsUp_37 rfl ?_
              refine z_aload_n dCls_addsUp_38 rfl ?_
              refine z_iconst dCls_addsUp_39 ?_
              refine z_callV MV_Cls_agreesWithResult lk_Cls_325 dCls_addsUp_40 (k_Cls_agreesWithResult (x := 0) hC2 hrA2 hrB2 hR2 (by omega)) rfl rfl (Nat.le_of_ble_eq_true rfl) rfl (by assumption) (Nat.le_of_ble_eq_true rfl) (Nat.le_of_ble_eq_true rfl) (Nat.le_of_eq (Nat.zero_add _)) (Nat.le_of_eq (Nat.zero_add _)) (fun _ _ q => q.elim) ?_
              rintro _ _ ⟨b9, rfl, (⟨rfl, m9⟩ | ⟨rfl, m9⟩), rfl⟩
              · refine z_if_eq (tgt := 50) dCls_addsUp_43 (by decide) (by omega) (fun c43 => ?_) (fun c43 => ?_)
                · refine z_iconst dCls_addsUp_50 ?_
                  refine z_iret rfl rfl dCls_addsUp_51 ?_
                  first
                    | (exfalso; omega)
                    | exact ⟨1, rfl, Or.inl ⟨rfl, fun q => by first | exact m8 | exact absurd q m1, fun q => by first | exact m9 | exact absurd q m2⟩, by assumption, by assumption⟩
                    | exact ⟨0, rfl, Or.inr ⟨rfl, fun q => m8 (q.1 m1)⟩, by assumption, by assumption⟩
                    | exact ⟨0, rfl, Or.inr ⟨rfl, fun q => m9 (q.2 m2)⟩, by assumption, by assumption⟩
                · refine z_iconst dCls_addsUp_46 ?_
                  refine z_goto (tgt := 51) dCls_addsUp_47 (by decide) ?_
                  refine z_iret rfl rfl dCls_addsUp_51 ?_
                  first
                    | (exfalso; omega)
                    | exact ⟨1, rfl, Or.inl ⟨rfl, fun q => by first | exact m8 | exact absurd q m1, fun q => by first | exact m9 | exact absurd q m2⟩, by assumption, by assumption⟩
                    | exact ⟨0, rfl, Or.inr ⟨rfl, fun q => m8 (q.1 m1)⟩, by assumption, by assumption⟩
                    | exact ⟨0, rfl, Or.inr ⟨rfl, fun q => m9 (q.2 m2)⟩, by assumption, by assumption⟩
              · refine z_if_eq (tgt := 50) dCls_addsUp_43 (by decide) (by omega) (fun c43 => ?_) (fun c43 => ?_)
                · refine z_iconst dCls_addsUp_50 ?_
                  refine z_iret rfl rfl dCls_addsUp_51 ?_
                  first
                    | (exfalso; omega)
                    | exact ⟨1, rfl, Or.inl ⟨rfl, fun q => by first | exact m8 | exact absurd q m1, fun q => by first | exact m9 | exact absurd q m2⟩, by assumption, by assumption⟩
                    | exact ⟨0, rfl, Or.inr ⟨rfl, fun q => m8 (q.1 m1)⟩, by assumption, by assumption⟩
                    | exact ⟨0, rfl, Or.inr ⟨rfl, fun q => m9 (q.2 m2)⟩, by assumption, by assumption⟩
                · refine z_iconst dCls_addsUp_46 ?_
                  refine z_goto (tgt := 51) dCls_addsUp_47 (by decide) ?_
                  refine z_iret rfl rfl dCls_addsUp_51 ?_
                  first
                    | (exfalso; omega)
                    | exact ⟨1, rfl, Or.inl ⟨rfl, fun q => by first | exact m8 | exact absurd q m1, fun q => by first | exact m9 | exact absurd q m2⟩, by assumption, by assumption⟩
                    | exact ⟨0, rfl, Or.inr ⟨rfl, fun q => m8 (q.1 m1)⟩, by assumption, by assumption⟩
                    | exact ⟨0, rfl, Or.inr ⟨rfl, fun q => m9 (q.2 m2)⟩, by assumption, by assumption⟩
          · have F2 : ∀ q, q ≠ ad 16 → q ≠ ad 17 → h2 q = h q := fun q x y => (f2 q x y).trans (F1 q x y)
            have hC2 := hC.res hR2 F2
            obtain ⟨-, d2, -⟩ := id hC2
            have fz2 : zFrm ad h h2 := zFrm.of2 (i := 16) (j := 17) (by omega) (by omega) F2
            obtain ⟨fr2, er2, -⟩ := id hR2
            have hrA2 := hrA.kept (F2 _ (hC.inj (by omega) (by omega) (by omega)) (hC.inj (by omega) (by omega) (by omega))) (F2 _ (hC.inj (by omega) (by omega) (by omega)) (hC.inj (by omega) (by omega) (by omega)))
            obtain ⟨fA2, eA2, -⟩ := id hrA2
            have hrB2 := hrB.kept (F2 _ (hC.inj (by omega) (by omega) (by omega)) (hC.inj (by omega) (by omega) (by omega))) (F2 _ (hC.inj (by omega) (by omega) (by omega)) (hC.inj (by omega) (by omega) (by omega)))
            obtain ⟨fB2, eB2, -⟩ := id hrB2
            refine z_if_eq (tgt := 46) dCls_addsUp_33 (by decide) (by omega) (fun c33 => ?_) (fun c33 => ?_)
            · refine z_iconst dCls_addsUp_46 ?_
              refine z_goto (tgt := 51) dCls_addsUp_47 (by decide) ?_
              refine z_iret rfl rfl dCls_addsUp_51 ?_
              first
                | (exfalso; omega)
                | exact ⟨1, rfl, Or.inl ⟨rfl, fun q => by first | exact m8 | exact absurd q m1, fun q => by first | exact m9 | exact absurd q m2⟩, by assumption, by assumption⟩
                | exact ⟨0, rfl, Or.inr ⟨rfl, fun q => m8 (q.1 m1)⟩, by assumption, by assumption⟩
                | exact ⟨0, rfl, Or.inr ⟨rfl, fun q => m9 (q.2 m2)⟩, by assumption, by assumption⟩
            · refine z_aload_n dCls_addsUp_36 rfl ?_
              refine z_aload_n dCls_addsUp_37 rfl ?_
              refine z_aload_n dCls_addsUp_38 rfl ?_
              refine z_iconst dCls_addsUp_39 ?_
              refine z_callV MV_Cls_agreesWithResult lk_Cls_325 dCls_addsUp_40 (k_Cls_agreesWithResult (x := 0) hC2 hrA2 hrB2 hR2 (by omega)) rfl rfl (Nat.le_of_ble_eq_true rfl) rfl (by assumption) (Nat.le_of_ble_eq_true rfl) (Nat.le_of_ble_eq_true rfl) (Nat.le_of_eq (Nat.zero_add _)) (Nat.le_of_eq (Nat.zero_add _)) (fun _ _ q => q.elim) ?_
              rintro _ _ ⟨b9, rfl, (⟨rfl, m9⟩ | ⟨rfl, m9⟩), rfl⟩
              · refine z_if_eq (tgt := 50) dCls_addsUp_43 (by decide) (by omega) (fun c43 => ?_) (fun c43 => ?_)
                · refine z_iconst dCls_addsUp_50 ?_
                  refine z_iret rfl rfl dCls_addsUp_51 ?_
                  first
                    | (exfalso; omega)
                    | exact ⟨1, rfl, Or.inl ⟨rfl, fun q => by first | exact m8 | exact absurd q m1, fun q => by first | exact m9 | exact absurd q m2⟩, by assumption, by assumption⟩
                    | exact ⟨0, rfl, Or.inr ⟨rfl, fun q => m8 (q.1 m1)⟩, by assumption, by assumption⟩
                    | exact ⟨0, rfl, Or.inr ⟨rfl, fun q => m9 (q.2 m2)⟩, by assumption, by assumption⟩
                · refine z_iconst dCls_addsUp_46 ?_
                  refine z_goto (tgt := 51) dCls_addsUp_47 (by decide) ?_
                  refine z_iret rfl rfl dCls_addsUp_51 ?_
                  first
                    | (exfalso; omega)
                    | exact ⟨1, rfl, Or.inl ⟨rfl, fun q => by first | exact m8 | exact absurd q m1, fun q => by first | exact m9 | exact absurd q m2⟩, by assumption, by assumption⟩
                    | exact ⟨0, rfl, Or.inr ⟨rfl, fun q => m8 (q.1 m1)⟩, by assumption, by assumption⟩
                    | exact ⟨0, rfl, Or.inr ⟨rfl, fun q => m9 (q.2 m2)⟩, by assumption, by assumption⟩
              · refine z_if_eq (tgt := 50) dCls_addsUp_43 (by decide) (by omega) (fun c43 => ?_) (fun c43 => ?_)
                · refine z_iconst dCls_addsUp_50 ?_
                  refine z_iret rfl rfl dCls_addsUp_51 ?_
                  first
                    | (exfalso; omega)
                    | exact ⟨1, rfl, Or.inl ⟨rfl, fun q => by first | exact m8 | exact absurd q m1, fun q => by first | exact m9 | exact absurd q m2⟩, by assumption, by assumption⟩
                    | exact ⟨0, rfl, Or.inr ⟨rfl, fun q => m8 (q.1 m1)⟩, by assumption, by assumption⟩
                    | exact ⟨0, rfl, Or.inr ⟨rfl, fun q => m9 (q.2 m2)⟩, by assumption, by assumption⟩
                · refine z_iconst dCls_addsUp_46 ?_
                  refine z_goto (tgt := 51) dCls_addsUp_47 (by decide) ?_
                  refine z_iret rfl rfl dCls_addsUp_51 ?_
                  first
                    | (exfalso; omega)
                    | exact ⟨1, rfl, Or.inl ⟨rfl, fun q => by first | exact m8 | exact absurd q m1, fun q => by first | exact m9 | exact absurd q m2⟩, by assumption, by assumption⟩
                    | exact ⟨0, rfl, Or.inr ⟨rfl, fun q => m8 (q.1 m1)⟩, by assumption, by assumption⟩
                    | exact ⟨0, rfl, Or.inr ⟨rfl, fun q => m9 (q.2 m2)⟩, by assumption, by assumption⟩
        · refine z_iconst dCls_addsUp_22 ?_
          refine z_iret rfl rfl dCls_addsUp_23 ?_
          first
            | (exfalso; omega)
            | exact ⟨1, rfl, Or.inl ⟨rfl, fun q => by first | exact m8 | exact absurd q m1, fun q => by first | exact m9 | exact absurd q m2⟩, by assumption, by assumption⟩
            | exact ⟨0, rfl, Or.inr ⟨rfl, fun q => m8 (q.1 m1)⟩, by assumption, by assumption⟩
            | exact ⟨0, rfl, Or.inr ⟨rfl, fun q => m9 (q.2 m2)⟩, by assumption, by assumption⟩
theorem l_Cls_isRecencySound (hC : zCls G h ad S) (hO : zOk S) (hk0 : zOrd S.2.2.1) : ∀ (n : Nat) (m : Nat), 4 - m < n → m ≤ 4 → (∀ k : Nat, k < m → zOrd (S.1 k) → S.2.2.2.2 0 ≤ 2 * zCost (zCntT S.2.2.2.1) (S.1 k) 8 - (S.2.2.2.1.length : Int) + zInv (S.1 k)) → zR G l (zMJ G hCls_isRecencySound 5 (fun v h' => ∃ b9 : Int, v = some (zi b9) ∧ ((b9 = 1 ∧ zRS S) ∨ (b9 = 0 ∧ ¬ zRS S)) ∧ h = h') zNo 0 0) 0 0 h 17 [some (.ref (ad 0)), some (zi (m : Int))] [] := by
  intro n
  induction n with
  | zero => intro m q1 q2 q3; omega
  | succ n ih =>
  intro m q1 q2 q3
  obtain ⟨c1, c2, ⟨g3, c3, d3⟩, ⟨g4, hc4, d4⟩, c5, -⟩ := id hC
  obtain ⟨-, -, -, -, -, ⟨T6, c6, d6⟩, -⟩ := id hC
  refine z_iload_n dCls_isRecencySound_17 rfl ?_
  refine z_iconst dCls_isRecencySound_18 ?_
  refine z_icmp_ge (tgt := 65) dCls_isRecencySound_19 (by decide) (by omega) (by omega) (fun c19 => ?_) (fun c19 => ?_)
  · refine z_iconst dCls_isRecencySound_65 ?_
    refine z_iret rfl rfl dCls_isRecencySound_66 ?_
    exact ⟨1, rfl, Or.inl ⟨rfl, hk0, fun k hk => q3 k (by omega)⟩, rfl⟩
  · have hrm := hC.ls (k := m) (by omega)
    obtain ⟨fm, em, -⟩ := id hrm
    have hlm := hrm.len
    refine z_aload_n dCls_isRecencySound_22 rfl ?_
    refine z_get (k := 0) fd_Cls (by decide) fl_Cls_11 dCls_isRecencySound_23 (by assumption) (by rfl) ?_
    refine z_iload_n dCls_isRecencySound_26 rfl ?_
    refine z_aald (t := 5) (ty := .object "Cursorlist$Row") rfl rfl dCls_isRecencySound_27 c3 (by refine ⟨?_, ?_, ?_⟩ <;> omega) ?_
    rw [show (m : Int).toNat = m by omega, d3 m (by omega)]
    refine z_callVN MV_Row_isOrder lk_Cls_237 dCls_isRecencySound_28 (k_Row_isOrder hrm) rfl rfl (Nat.le_of_ble_eq_true rfl) rfl (by assumption) (Nat.le_of_ble_eq_true rfl) (Nat.le_of_ble_eq_true rfl) (Nat.le_of_eq (Nat.zero_add _)) (Nat.le_of_eq (Nat.zero_add _)) (fun _ _ q => q.elim) ?_
    rintro _ _ ⟨b7, rfl, (⟨rfl, m7⟩ | ⟨rfl, m7⟩), rfl⟩
    · refine z_if_eq (tgt := 59) dCls_isRecencySound_31 (by decide) (by omega) (fun c31 => ?_) (fun c31 => ?_)
      · refine z_iinc dCls_isRecencySound_59 rfl (Nat.le_of_ble_eq_true rfl) ?_
        refine z_goto (tgt := 17) dCls_isRecencySound_62 (by decide) ?_
        refine ih (m + 1) (by omega) (by omega) (fun k hk hz => ?_)
        by_cases e9 : k = m
        · subst e9
          first
            | exact absurd hz m7
            | omega
        · exact q3 k (by omega) hz
      · refine z_aload_n dCls_isRecencySound_34 rfl ?_
        refine z_get (k := 2) fd_Cls (by decide) fl_Cls_24 dCls_isRecencySound_35 (by assumption) (by rfl) ?_
        refine z_getN (k := 3) fd_Rec (by decide) fl_Cls_228 dCls_isRecencySound_38 (by assumption) (by rfl) ?_
        refine z_aload_n dCls_isRecencySound_41 rfl ?_
        refine z_get (k := 2) fd_Cls (by decide) fl_Cls_24 dCls_isRecencySound_42 (by assumption) (by rfl) ?_
        refine z_aload_n dCls_isRecencySound_45 rfl ?_
        refine z_get (k := 0) fd_Cls (by decide) fl_Cls_11 dCls_isRecencySound_46 (by assumption) (by rfl) ?_
        refine z_iload_n dCls_isRecencySound_49 rfl ?_
        refine z_aald (t := 5) (ty := .object "Cursorlist$Row") rfl rfl dCls_isRecencySound_50 c3 (by refine ⟨?_, ?_, ?_⟩ <;> omega) ?_
        rw [show (m : Int).toNat = m by omega, d3 m (by omega)]
        refine z_callVN MV_Rec_boundBy lk_Cls_247 dCls_isRecencySound_51 (k_Rec_boundBy hrm c5 c6) rfl rfl (Nat.le_of_ble_eq_true rfl) rfl (by assumption) (Nat.le_of_ble_eq_true rfl) (Nat.le_of_ble_eq_true rfl) (Nat.le_of_eq (Nat.zero_add _)) (Nat.le_of_eq (Nat.zero_add _)) (fun _ _ q => q.elim) ?_
        rintro _ _ ⟨rfl, rfl⟩
        rw [zCost_cg d6]
        refine z_icmp_le (tgt := 59) dCls_isRecencySound_54 (by decide) (by have ho2 := hO.2.2.2.1; have hi := zC2_in (S.1 m) (S.1 m).length; have hi2 : ((S.1 m).length : Int) * ((S.1 m).length : Int) ≤ 16 * 16 := Int.mul_le_mul (by omega) (by omega) (by omega) (by omega); have hc := zCost_in (L := S.1 m) (T := zCntT S.2.2.2.1) (B := 60) (fun k _ => ⟨Int.natCast_nonneg _, by have := zCnt_le S.2.2.2.1 k; show (zCnt S.2.2.2.1 k : Int) ≤ 60; omega⟩) hlm 8 (by omega); have ho1 := hO.2.2.2.2; (try unfold zInv); omega) (by have ho2 := hO.2.2.2.1; have hi := zC2_in (S.1 m) (S.1 m).length; have hi2 : ((S.1 m).length : Int) * ((S.1 m).length : Int) ≤ 16 * 16 := Int.mul_le_mul (by omega) (by omega) (by omega) (by omega); have hc := zCost_in (L := S.1 m) (T := zCntT S.2.2.2.1) (B := 60) (fun k _ => ⟨Int.natCast_nonneg _, by have := zCnt_le S.2.2.2.1 k; show (zCnt S.2.2.2.1 k : Int) ≤ 60; omega⟩) hlm 8 (by omega); have ho1 := hO.2.2.2.2; (try unfold zInv); omega) (fun c54 => ?_) (fun c54 => ?_)
        · refine z_iinc dCls_isRecencySound_59 rfl (Nat.le_of_ble_eq_true rfl) ?_
          refine z_goto (tgt := 17) dCls_isRecencySound_62 (by decide) ?_
          refine ih (m + 1) (by omega) (by omega) (fun k hk hz => ?_)
          by_cases e9 : k = m
          · subst e9
            first
              | exact absurd hz m7
              | omega
          · exact q3 k (by omega) hz
        · refine z_iconst dCls_isRecencySound_57 ?_
          refine z_iret rfl rfl dCls_isRecencySound_58 ?_
          first
            | (exfalso; omega)
            | exact ⟨0, rfl, Or.inr ⟨rfl, fun q => absurd (q.2 m (by omega) m7) (by omega)⟩, rfl⟩
    · refine z_if_eq (tgt := 59) dCls_isRecencySound_31 (by decide) (by omega) (fun c31 => ?_) (fun c31 => ?_)
      · refine z_iinc dCls_isRecencySound_59 rfl (Nat.le_of_ble_eq_true rfl) ?_
        refine z_goto (tgt := 17) dCls_isRecencySound_62 (by decide) ?_
        refine ih (m + 1) (by omega) (by omega) (fun k hk hz => ?_)
        by_cases e9 : k = m
        · subst e9
          first
            | exact absurd hz m7
            | omega
        · exact q3 k (by omega) hz
      · refine z_aload_n dCls_isRecencySound_34 rfl ?_
        refine z_get (k := 2) fd_Cls (by decide) fl_Cls_24 dCls_isRecencySound_35 (by assumption) (by rfl) ?_
        refine z_getN (k := 3) fd_Rec (by decide) fl_Cls_228 dCls_isRecencySound_38 (by assumption) (by rfl) ?_
        refine z_aload_n dCls_isRecencySound_41 rfl ?_
        refine z_get (k := 2) fd_Cls (by decide) fl_Cls_24 dCls_isRecencySound_42 (by assumption) (by rfl) ?_
        refine z_aload_n dCls_isRecencySound_45 rfl ?_
        refine z_get (k := 0) fd_Cls (by decide) fl_Cls_11 dCls_isRecencySound_46 (by assumption) (by rfl) ?_
        refine z_iload_n dCls_isRecencySound_49 rfl ?_
        refine z_aald (t := 5) (ty := .object "Cursorlist$Row") rfl rfl dCls_isRecencySound_50 c3 (by refine ⟨?_, ?_, ?_⟩ <;> omega) ?_
        rw [show (m : Int).toNat = m by omega, d3 m (by omega)]
        refine z_callVN MV_Rec_boundBy lk_Cls_247 dCls_isRecencySound_51 (k_Rec_boundBy hrm c5 c6) rfl rfl (Nat.le_of_ble_eq_true rfl) rfl (by assumption) (Nat.le_of_ble_eq_true rfl) (Nat.le_of_ble_eq_true rfl) (Nat.le_of_eq (Nat.zero_add _)) (Nat.le_of_eq (Nat.zero_add _)) (fun _ _ q => q.elim) ?_
        rintro _ _ ⟨rfl, rfl⟩
        rw [zCost_cg d6]
        refine z_icmp_le (tgt := 59) dCls_isRecencySound_54 (by decide) (by have ho2 := hO.2.2.2.1; have hi := zC2_in (S.1 m) (S.1 m).length; have hi2 : ((S.1 m).length : Int) * ((S.1 m).length : Int) ≤ 16 * 16 := Int.mul_le_mul (by omega) (by omega) (by omega) (by omega); have hc := zCost_in (L := S.1 m) (T := zCntT S.2.2.2.1) (B := 60) (fun k _ => ⟨Int.natCast_nonneg _, by have := zCnt_le S.2.2.2.1 k; show (zCnt S.2.2.2.1 k : Int) ≤ 60; omega⟩) hlm 8 (by omega); have ho1 := hO.2.2.2.2; (try unfold zInv); omega) (by have ho2 := hO.2.2.2.1; have hi := zC2_in (S.1 m) (S.1 m).length; have hi2 : ((S.1 m).length : Int) * ((S.1 m).length : Int) ≤ 16 * 16 := Int.mul_le_mul (by omega) (by omega) (by omega) (by omega); have hc := zCost_in (L := S.1 m) (T := zCntT S.2.2.2.1) (B := 60) (fun k _ => ⟨Int.natCast_nonneg _, by have := zCnt_le S.2.2.2.1 k; show (zCnt S.2.2.2.1 k : Int) ≤ 60; omega⟩) hlm 8 (by omega); have ho1 := hO.2.2.2.2; (try unfold zInv); omega) (fun c54 => ?_) (fun c54 => ?_)
        · refine z_iinc dCls_isRecencySound_59 rfl (Nat.le_of_ble_eq_true rfl) ?_
          refine z_goto (tgt := 17) dCls_isRecencySound_62 (by decide) ?_
          refine ih (m + 1) (by omega) (by omega) (fun k hk hz => ?_)
          by_cases e9 : k = m
          · subst e9
            first
              | exact absurd hz m7
              | omega
          · exact q3 k (by omega) hz
        · refine z_iconst dCls_isRecencySound_57 ?_
          refine z_iret rfl rfl dCls_isRecencySound_58 ?_
          first
            | (exfalso; omega)
            | exact ⟨0, rfl, Or.inr ⟨rfl, fun q => absurd (q.2 m (by omega) m7) (by omega)⟩, rfl⟩
theorem k_Cls_isRecencySound (hC : zCls G h ad S) (hO : zOk S) : zM G l hCls_isRecencySound yCls_isRecencySound 5 [.ref (ad 0)] h (fun v h' => ∃ b9 : Int, v = some (zi b9) ∧ ((b9 = 1 ∧ zRS S) ∨ (b9 = 0 ∧ ¬ zRS S)) ∧ h = h') zNo 0 0 := by
  obtain ⟨c1, c2, ⟨g3, c3, d3⟩, ⟨g4, c4, d4⟩, c5, ⟨T6, c6, d6⟩, c7, c8, ⟨R9, c9⟩, c10⟩ := id hC
  obtain ⟨f18, e18, -⟩ := id c10
  refine zM.of [some (.ref (ad 0)), none] (by decide +kernel) rfl (by decide) rfl (Nat.le_of_ble_eq_true rfl) rfl ?_
  refine z_aload_n dCls_isRecencySound_0 rfl ?_
  refine z_get (k := 2) fd_Cls (by decide) fl_Cls_24 dCls_isRecencySound_1 (by assumption) (by rfl) ?_
  refine z_getN (k := 0) fd_Rec (by decide) fl_Cls_234 dCls_isRecencySound_4 (by assumption) (by rfl) ?_
  refine z_callVN MV_Row_isOrder lk_Cls_237 dCls_isRecencySound_7 (k_Row_isOrder c10) rfl rfl (Nat.le_of_ble_eq_true rfl) rfl (by assumption) (Nat.le_of_ble_eq_true rfl) (Nat.le_of_ble_eq_true rfl) (Nat.le_of_eq (Nat.zero_add _)) (Nat.le_of_eq (Nat.zero_add _)) (fun _ _ q => q.elim) ?_
  rintro _ _ ⟨b7, rfl, (⟨rfl, m7⟩ | ⟨rfl, m7⟩), rfl⟩
  · refine z_if_ne (tgt := 15) dCls_isRecencySound_10 (by decide) (by omega) (fun c10 => ?_) (fun c10 => ?_)
    · refine z_iconst dCls_isRecencySound_15 ?_
      refine z_istore_n dCls_isRecencySound_16 (Nat.le_of_ble_eq_true rfl) ?_
      first
        | (exfalso; omega)
        | exact l_Cls_isRecencySound hC hO m7 5 0 (by omega) (by omega) (fun k hk => absurd hk (by omega))
    · refine z_iconst dCls_isRecencySound_13 ?_
      refine z_iret rfl rfl dCls_isRecencySound_14 ?_
      first
        | (exfalso; omega)
        | exact ⟨0, rfl, Or.inr ⟨rfl, fun q => m7 q.1⟩, rfl⟩
  · refine z_if_ne (tgt := 15) dCls_isRecencySound_10 (by decide) (by omega) (fun c10 => ?_) (fun c10 => ?_)
    · refine z_iconst dCls_isRecencySound_15 ?_
      refine z_istore_n dCls_isRecencySound_16 (Nat.le_of_ble_eq_true rfl) ?_
      first
        | (exfalso; omega)
        | exact l_Cls_isRecencySound hC hO m7 5 0 (by omega) (by omega) (fun k hk => absurd hk (by omega))
    · refine z_iconst dCls_isRecencySound_13 ?_
      refine z_iret rfl rfl dCls_isRecencySound_14 ?_
      first
        | (exfalso; omega)
        | exact ⟨0, rfl, Or.inr ⟨rfl, fun q => m7 q.1⟩, rfl⟩
end CLS12
end
section
section CLS13
variable {G : zG} {l : Launch} {h h' : zHp} {ad : Nat → Nat} {S : zSt}
def zSnd (S : zSt) : Prop := (∀ k : Nat, k < 4 → zTB (S.1 k) ∧ ∀ j : Nat, k ≤ j → j < 4 → zAU (S.1 k) (S.1 j)) ∧ zRS S
theorem l_Cls_isSound1 {m : Nat} (hm : m < 4) (K : ∀ (h1 : zHp) y, zCls G h1 ad S → zFrm ad h h1 → (∀ j : Nat, m ≤ j → j < 4 → zAU (S.1 m) (S.1 j)) → zR G l (zMJ G hCls_isSound 6 (fun v h' => ∃ b9 : Int, v = some (zi b9) ∧ ((b9 = 1 ∧ zSnd S) ∨ (b9 = 0 ∧ ¬ zSnd S)) ∧ zCls G h' ad S ∧ zFrm ad h h') zNo 0 0) 0 0 h1 56 [some (.ref (ad 0)), some (zi (m : Int)), y] []) :
    ∀ (n : Nat) (i : Nat) (h1 : zHp), 4 - i < n → m ≤ i → i ≤ 4 → zCls G h1 ad S → zFrm ad h h1 → (∀ j : Nat, m ≤ j → j < i → zAU (S.1 m) (S.1 j)) → zR G l (zMJ G hCls_isSound 6 (fun v h' => ∃ b9 : Int, v = some (zi b9) ∧ ((b9 = 1 ∧ zSnd S) ∨ (b9 = 0 ∧ ¬ zSnd S)) ∧ zCls G h' ad S ∧ zFrm ad h h') zNo 0 0) 0 0 h1 24 [some (.ref (ad 0)), some (zi (m : Int)), some (zi (i : Int))] [] := by
  intro n
  induction n with
  | zero => intro i h1 q0 q1 q2 hC1 hf q3; omega
  | succ n ih =>
  intro i h1 q0 q1 q2 hC1 hf q3
  obtain ⟨c1, c2, ⟨g3, c3, d3⟩, ⟨g4, hc4, d4⟩, c5, -⟩ := id hC1
  refine z_iload_n dCls_isSound_24 rfl ?_
  refine z_iconst dCls_isSound_25 ?_
  refine z_icmp_ge (tgt := 56) dCls_isSound_26 (by decide) (by omega) (by omega) (fun c26 => ?_) (fun c26 => ?_)
  · exact K h1 _ hC1 hf (fun j j1 j2 => q3 j j1 (by omega))
  · refine z_aload_n dCls_isSound_29 rfl ?_
    refine z_aload_n dCls_isSound_30 rfl ?_
    refine z_get (k := 0) fd_Cls (by decide) fl_Cls_11 dCls_isSound_31 (by assumption) (by rfl) ?_
    refine z_iload_n dCls_isSound_34 rfl ?_
    refine z_aald (t := 5) (ty := .object "Cursorlist$Row") rfl rfl dCls_isSound_35 c3 (by refine ⟨?_, ?_, ?_⟩ <;> omega) ?_
    rw [show (m : Int).toNat = m by omega, d3 m (by omega)]
    refine z_aload_n dCls_isSound_36 rfl ?_
    refine z_get (k := 0) fd_Cls (by decide) fl_Cls_11 dCls_isSound_37 (by assumption) (by rfl) ?_
    refine z_iload_n dCls_isSound_40 rfl ?_
    refine z_aald (t := 5) (ty := .object "Cursorlist$Row") rfl rfl dCls_isSound_41 c3 (by refine ⟨?_, ?_, ?_⟩ <;> omega) ?_
    rw [show (i : Int).toNat = i by omega, d3 i (by omega)]
    refine z_callV MV_Cls_addsUp lk_Cls_268 dCls_isSound_42 (k_Cls_addsUp hC1 (by omega) (by omega)) rfl rfl (Nat.le_of_ble_eq_true rfl) rfl (by assumption) (Nat.le_of_ble_eq_true rfl) (Nat.le_of_ble_eq_true rfl) (Nat.le_of_eq (Nat.zero_add _)) (Nat.le_of_eq (Nat.zero_add _)) (fun _ _ q => q.elim) ?_
    rintro _ h2 ⟨b9, rfl, (⟨rfl, m9⟩ | ⟨rfl, m9⟩), hC2, g2⟩
    · refine z_if_ne (tgt := 50) dCls_isSound_45 (by decide) (by omega) (fun c45 => ?_) (fun c45 => ?_)
      · refine z_iinc dCls_isSound_50 rfl (Nat.le_of_ble_eq_true rfl) ?_
        refine z_goto (tgt := 24) dCls_isSound_53 (by decide) ?_
        first
          | (exfalso; omega)
          | exact ih (i + 1) h2 (by omega) (by omega) (by omega) hC2 (hf.tr g2) (fun j j1 j2 => by
              by_cases e9 : j = i
              · rw [e9]; exact m9
              · exact q3 j j1 (by omega))
      · refine z_iconst dCls_isSound_48 ?_
        refine z_iret rfl rfl dCls_isSound_49 ?_
        first
          | (exfalso; omega)
          | exact ⟨0, rfl, Or.inr ⟨rfl, fun q => m9 ((q.1 m hm).2 i (by omega) (by omega))⟩, hC2, hf.tr g2⟩
    · refine z_if_ne (tgt := 50) dCls_isSound_45 (by decide) (by omega) (fun c45 => ?_) (fun c45 => ?_)
      · refine z_iinc dCls_isSound_50 rfl (Nat.le_of_ble_eq_true rfl) ?_
        refine z_goto (tgt := 24) dCls_isSound_53 (by decide) ?_
        first
          | (exfalso; omega)
          | exact ih (i + 1) h2 (by omega) (by omega) (by omega) hC2 (hf.tr g2) (fun j j1 j2 => by
              by_cases e9 : j = i
              · rw [e9]; exact m9
              · exact q3 j j1 (by omega))
      · refine z_iconst dCls_isSound_48 ?_
        refine z_iret rfl rfl dCls_isSound_49 ?_
        first
          | (exfalso; omega)
          | exact ⟨0, rfl, Or.inr ⟨rfl, fun q => m9 ((q.1 m hm).2 i (by omega) (by omega))⟩, hC2, hf.tr g2⟩
theorem l_Cls_isSound2 (hO : zOk S) :
    ∀ (n : Nat) (m : Nat) (h1 : zHp), 4 - m < n → m ≤ 4 → zCls G h1 ad S → zFrm ad h h1 → (∀ k : Nat, k < m → zTB (S.1 k) ∧ ∀ j : Nat, k ≤ j → j < 4 → zAU (S.1 k) (S.1 j)) → ∀ y, zR G l (zMJ G hCls_isSound 6 (fun v h' => ∃ b9 : Int, v = some (zi b9) ∧ ((b9 = 1 ∧ zSnd S) ∨ (b9 = 0 ∧ ¬ zSnd S)) ∧ zCls G h' ad S ∧ zFrm ad h h') zNo 0 0) 0 0 h1 2 [some (.ref (ad 0)), some (zi (m : Int)), y] [] := by
  intro n
  induction n with
  | zero => intro m h1 q0 q1 hC1 hf q3 y; omega
  | succ n ih =>
  intro m h1 q0 q1 hC1 hf q3 y
  obtain ⟨c1, c2, ⟨g3, c3, d3⟩, ⟨g4, hc4, d4⟩, c5, -⟩ := id hC1
  refine z_iload_n dCls_isSound_2 rfl ?_
  refine z_iconst dCls_isSound_3 ?_
  refine z_icmp_ge (tgt := 62) dCls_isSound_4 (by decide) (by omega) (by omega) (fun c4 => ?_) (fun c4 => ?_)
  · refine z_aload_n dCls_isSound_62 rfl ?_
    refine z_callV MV_Cls_isRecencySound lk_Cls_271 dCls_isSound_63 (k_Cls_isRecencySound hC1 hO) rfl rfl (Nat.le_of_ble_eq_true rfl) rfl (by assumption) (Nat.le_of_ble_eq_true rfl) (Nat.le_of_ble_eq_true rfl) (Nat.le_of_eq (Nat.zero_add _)) (Nat.le_of_eq (Nat.zero_add _)) (fun _ _ q => q.elim) ?_
    rintro _ _ ⟨b9, rfl, (⟨rfl, m9⟩ | ⟨rfl, m9⟩), rfl⟩
    · refine z_iret rfl rfl dCls_isSound_66 ?_
      first
        | exact ⟨1, rfl, Or.inl ⟨rfl, fun k hk => q3 k (by omega), m9⟩, hC1, hf⟩
        | exact ⟨0, rfl, Or.inr ⟨rfl, fun q => m9 q.2⟩, hC1, hf⟩
    · refine z_iret rfl rfl dCls_isSound_66 ?_
      first
        | exact ⟨1, rfl, Or.inl ⟨rfl, fun k hk => q3 k (by omega), m9⟩, hC1, hf⟩
        | exact ⟨0, rfl, Or.inr ⟨rfl, fun q => m9 q.2⟩, hC1, hf⟩
  · refine z_aload_n dCls_isSound_7 rfl ?_
    refine z_aload_n dCls_isSound_8 rfl ?_
    refine z_get (k := 0) fd_Cls (by decide) fl_Cls_11 dCls_isSound_9 (by assumption) (by rfl) ?_
    refine z_iload_n dCls_isSound_12 rfl ?_
    refine z_aald (t := 5) (ty := .object "Cursorlist$Row") rfl rfl dCls_isSound_13 c3 (by refine ⟨?_, ?_, ?_⟩ <;> omega) ?_
    rw [show (m : Int).toNat = m by omega, d3 m (by omega)]
    refine z_callV MV_Cls_turnsBack lk_Cls_265 dCls_isSound_14 (k_Cls_turnsBack hC1 (by omega)) rfl rfl (Nat.le_of_ble_eq_true rfl) rfl (by assumption) (Nat.le_of_ble_eq_true rfl) (Nat.le_of_ble_eq_true rfl) (Nat.le_of_eq (Nat.zero_add _)) (Nat.le_of_eq (Nat.zero_add _)) (fun _ _ q => q.elim) ?_
    rintro _ h2 ⟨b9, rfl, (⟨rfl, m9⟩ | ⟨rfl, m9⟩), hC2, g2⟩
    · refine z_if_ne (tgt := 22) dCls_isSound_17 (by decide) (by omega) (fun c17 => ?_) (fun c17 => ?_)
      · refine z_iload_n dCls_isSound_22 rfl ?_
        refine z_istore_n dCls_isSound_23 (Nat.le_of_ble_eq_true rfl) ?_
        refine l_Cls_isSound1 (m := m) (by omega) (fun h3 y hC3 f3 q5 => ?_) 5 m h2 (by omega) (by omega) (by omega) hC2 (hf.tr g2) (fun j j1 j2 => absurd j1 (by omega))
        refine z_iinc dCls_isSound_56 rfl (Nat.le_of_ble_eq_true rfl) ?_
        refine z_goto (tgt := 2) dCls_isSound_59 (by decide) ?_
        refine ih (m + 1) h3 (by omega) (by omega) hC3 f3 (fun k hk => ?_) _
        by_cases e9 : k = m
        · rw [e9]; exact ⟨m9, q5⟩
        · exact q3 k (by omega)
      · refine z_iconst dCls_isSound_20 ?_
        refine z_iret rfl rfl dCls_isSound_21 ?_
        first
          | (exfalso; omega)
          | exact ⟨0, rfl, Or.inr ⟨rfl, fun q => m9 (q.1 m (by omega)).1⟩, hC2, hf.tr g2⟩
    · refine z_if_ne (tgt := 22) dCls_isSound_17 (by decide) (by omega) (fun c17 => ?_) (fun c17 => ?_)
      · exact absurd rfl c17
      · refine z_iconst dCls_isSound_20 ?_
        refine z_iret rfl rfl dCls_isSound_21 ?_
        first
          | (exfalso; omega)
          | exact ⟨0, rfl, Or.inr ⟨rfl, fun q => m9 (q.1 m (by omega)).1⟩, hC2, hf.tr g2⟩
theorem k_Cls_isSound (hC : zCls G h ad S) (hO : zOk S) : zM G l hCls_isSound yCls_isSound 6 [.ref (ad 0)] h (fun v h' => ∃ b9 : Int, v = some (zi b9) ∧ ((b9 = 1 ∧ zSnd S) ∨ (b9 = 0 ∧ ¬ zSnd S)) ∧ zCls G h' ad S ∧ zFrm ad h h') zNo 0 0 := by
  refine zM.of [some (.ref (ad 0)), none, none] (by decide +kernel) rfl (by decide) rfl (Nat.le_of_ble_eq_true rfl) rfl ?_
  refine z_iconst dCls_isSound_0 ?_
  refine z_istore_n dCls_isSound_1 (Nat.le_of_ble_eq_true rfl) ?_
  exact l_Cls_isSound2 hO 5 0 h (by omega) (by omega) hC zFrm.rf (fun k hk => absurd hk (by omega)) _
end CLS13
end
section
section CLS14
variable {G : zG} {l : Launch} {h h' : zHp} {ad : Nat → Nat} {S : zSt}
def zwd (x : Int) : Int := (zI x).toInt
theorem zwd_in (x : Int) : -2147483648 ≤ zwd x ∧ zwd x ≤ 2147483647 := ⟨Int32.le_toInt _, by have := Int32.toInt_lt (zI x); unfold zwd; omega⟩
theorem zi_zwd (x : Int) : zi x = zi (zwd x) := congrArg Value.int (Int32.ofInt_toInt (zI x)).symm
theorem z_i2lw {J : zJ} {bc bs pc : Nat} {ls : List (Option Value)} {st : List Value} {a : Int} (hd : decode J.1.2.1 pc = .ok (.i2l, 1)) (k : zR G l J bc bs h (pc + 1) ls (zl (zwd a) :: st)) : zR G l J bc bs h pc ls (zi a :: st) := by
  rw [zi_zwd]
  exact z_i2l (zwd_in a) hd k
def zHv (S : zSt) (w : Int) : Int := if w = 0 then zItems S else if w = 1 then zThere S else if w = 2 then zStl S else if w = 3 then S.2.2.2.2 1 else S.2.2.2.2 2
def zWv (S : zSt) (c : Nat) (w : Int) : Int := if w = 1 then S.2.1 c 3 else if w = 2 then S.2.1 c 3 - 1 else if w = 3 then (if S.2.1 c 3 < ((S.1 (S.2.1 c 2).toNat).length : Int) then 1 else 0) else (if 0 < S.2.1 c 3 then 1 else 0)
def zCuV (S : zSt) (c : Nat) (w : Int) : Int := if S.2.1 c 0 ≠ 1 then -1 else if w = 0 then S.2.1 c 2 else if w = 5 then S.2.1 c 1 else if S.2.1 c 1 ≠ 0 then -1 else zWv S c w
def zAkV (S : zSt) (w : Int) : Int := if w = 0 then (S.2.2.2.1.length : Int) else if w = 1 then S.2.2.2.2 0 else if w = 2 then zLastOf S.2.2.2.1 else zAt S.2.2.1 7
def zFld (f : Nat → Int → Int) (d : Int) : Nat → Int
  | 0 => d
  | n + 1 => f n (zFld f d n)
def zDgI (d : Int) (L : List Int) : Nat → Int := zFld (fun n e => e * 31 + zAt L n) d
def zDgL (d : Int) (L : List Int) : Int := ((zDgI (d * 31 + (L.length : Int)) L L.length) * 31 + zHr L 2 L.length) * 31 + zLnz L
def zBd (S : zSt) (L : List Int) : Int := 2 * zCost (zCntT S.2.2.2.1) L 8 - (S.2.2.2.1.length : Int) + zInv L
theorem k_Cls_demandWithin0 {p lo hi : Int} (h1 : zI32 lo) (h2 : zI32 hi) (hp : lo ≤ p ∧ p ≤ hi) : zM G l hCls_demandWithin yCls_demandWithin 1 [zi p, zi lo, zi hi] h (fun v h' => v = none ∧ h = h') zNo 0 0 := by
  refine zM.of [some (zi p), some (zi lo), some (zi hi)] (by decide +kernel) rfl (by decide) rfl (Nat.le_of_ble_eq_true rfl) rfl ?_
  refine z_iload_n dCls_demandWithin_0 rfl ?_
  refine z_iload_n dCls_demandWithin_1 rfl ?_
  refine z_icmp_lt (tgt := 10) dCls_demandWithin_2 (by decide) (by omega) (by omega) (fun c2 => ?_) (fun c2 => ?_)
  · exfalso; omega
  · refine z_iload_n dCls_demandWithin_5 rfl ?_
    refine z_iload_n dCls_demandWithin_6 rfl ?_
    refine z_icmp_le (tgt := 21) dCls_demandWithin_7 (by decide) (by omega) (by omega) (fun c7 => ?_) (fun c7 => ?_)
    · refine z_vret rfl dCls_demandWithin_21 ?_
      exact ⟨rfl, rfl⟩
    · exfalso; omega
theorem k_Cls_listAt0 {k : Nat} (hC : zCls G h ad S) (hk : k < 4) : zM G l hCls_listAt yCls_listAt 1 [.ref (ad 0), zi (k : Int)] h (fun v h' => v = some (.ref (ad (8 + 2 * k))) ∧ h = h') zNo 0 0 := by
  obtain ⟨c1, c2, ⟨g3, c3, d3⟩, ⟨g4, hc4, d4⟩, c5, -⟩ := id hC
  refine zM.of [some (.ref (ad 0)), some (zi (k : Int))] (by decide +kernel) rfl (by decide) rfl (Nat.le_of_ble_eq_true rfl) rfl ?_
  refine z_iload_n dCls_listAt_0 rfl ?_
  refine z_if_lt (tgt := 9) dCls_listAt_1 (by decide) (by omega) (fun c1 => ?_) (fun c1 => ?_)
  · exfalso; omega
  · refine z_iload_n dCls_listAt_4 rfl ?_
    refine z_iconst dCls_listAt_5 ?_
    refine z_icmp_lt (tgt := 20) dCls_listAt_6 (by decide) (by omega) (by omega) (fun c6 => ?_) (fun c6 => ?_)
    · refine z_aload_n dCls_listAt_20 rfl ?_
      refine z_get (k := 0) fd_Cls (by decide) fl_Cls_11 dCls_listAt_21 (by assumption) (by rfl) ?_
      refine z_iload_n dCls_listAt_24 rfl ?_
      refine z_aald (t := 5) (ty := .object "Cursorlist$Row") rfl rfl dCls_listAt_25 c3 (by refine ⟨?_, ?_, ?_⟩ <;> omega) ?_
      rw [show (k : Int).toNat = k by omega, d3 k (by omega)]
      refine z_aret (v := .ref (ad (8 + 2 * k))) rfl (Or.inl ⟨_, rfl⟩) (Or.inr ⟨_, rfl⟩) dCls_listAt_26 ?_
      exact ⟨rfl, rfl⟩
    · exfalso; omega
theorem k_Cls_cursorAt0 {k : Nat} (hC : zCls G h ad S) (hk : k < 3) : zM G l hCls_cursorAt yCls_cursorAt 1 [.ref (ad 0), zi (k : Int)] h (fun v h' => v = some (.ref (ad (5 + k))) ∧ h = h') zNo 0 0 := by
  obtain ⟨c1, c2, ⟨g3, c3, d3⟩, ⟨g4, hc4, d4⟩, c5, -⟩ := id hC
  refine zM.of [some (.ref (ad 0)), some (zi (k : Int))] (by decide +kernel) rfl (by decide) rfl (Nat.le_of_ble_eq_true rfl) rfl ?_
  refine z_iload_n dCls_cursorAt_0 rfl ?_
  refine z_if_lt (tgt := 9) dCls_cursorAt_1 (by decide) (by omega) (fun c1 => ?_) (fun c1 => ?_)
  · exfalso; omega
  · refine z_iload_n dCls_cursorAt_4 rfl ?_
    refine z_iconst dCls_cursorAt_5 ?_
    refine z_icmp_lt (tgt := 20) dCls_cursorAt_6 (by decide) (by omega) (by omega) (fun c6 => ?_) (fun c6 => ?_)
    · refine z_aload_n dCls_cursorAt_20 rfl ?_
      refine z_get (k := 1) fd_Cls (by decide) fl_Cls_17 dCls_cursorAt_21 (by assumption) (by rfl) ?_
      refine z_iload_n dCls_cursorAt_24 rfl ?_
      refine z_aald (t := 6) (ty := .object "Cursorlist$Cursor") rfl rfl dCls_cursorAt_25 hc4 (by refine ⟨?_, ?_, ?_⟩ <;> omega) ?_
      rw [show (k : Int).toNat = k by omega, d4 k (by omega)]
      refine z_aret (v := .ref (ad (5 + k))) rfl (Or.inl ⟨_, rfl⟩) (Or.inr ⟨_, rfl⟩) dCls_cursorAt_26 ?_
      exact ⟨rfl, rfl⟩
    · exfalso; omega
theorem k_Cls_rowUnder0 {c : Nat} {k : Nat} (hC : zCls G h ad S) (hc : c < 3) (ht : S.2.1 c 0 = 1) (hl : S.2.1 c 2 = k ∧ k < 4) : zM G l hCls_rowUnder yCls_rowUnder 2 [.ref (ad 0), .ref (ad (5 + c))] h (fun v h' => v = some (.ref (ad (8 + 2 * k))) ∧ h = h') zNo 0 0 := by
  obtain ⟨c1, c2, ⟨g3, c3, d3⟩, ⟨g4, hc4, d4⟩, c5, -⟩ := id hC
  obtain ⟨st, li, ix, la, e1, e2, e3, e4, e5, e6, e7⟩ := id (hC.cs hc)
  obtain ⟨rfl, rfl, rfl, rfl⟩ := e7 ht
  rw [hl.1] at e1
  refine zM.of [some (.ref (ad 0)), some (.ref (ad (5 + c)))] (by decide +kernel) rfl (by decide) rfl (Nat.le_of_ble_eq_true rfl) rfl ?_
  refine z_aload_n dCls_rowUnder_0 rfl ?_
  refine z_aload_n dCls_rowUnder_1 rfl ?_
  refine z_getN (k := 2) fd_Cur (by decide) fl_Cls_169 dCls_rowUnder_2 (by assumption) (by rfl) ?_
  refine z_callV MV_Cls_listAt lk_Cls_34 dCls_rowUnder_5 (k_Cls_listAt0 hC hl.2) rfl rfl (Nat.le_of_ble_eq_true rfl) rfl (by assumption) (Nat.le_of_ble_eq_true rfl) (Nat.le_of_ble_eq_true rfl) (Nat.le_of_eq (Nat.zero_add _)) (Nat.le_of_eq (Nat.zero_add _)) (fun _ _ q => q.elim) ?_
  rintro _ _ ⟨rfl, rfl⟩
  refine z_aret (v := .ref (ad (8 + 2 * k))) rfl (Or.inl ⟨_, rfl⟩) (Or.inr ⟨_, rfl⟩) dCls_rowUnder_8 ?_
  exact ⟨rfl, rfl⟩
theorem k_Cls_whereIs0 {c : Nat} {w : Int} (hC : zCls G h ad S) (hc : c < 3) (ht : S.2.1 c 0 = 1) (hl : 0 ≤ S.2.1 c 2 ∧ S.2.1 c 2 < 4) (hw : 1 ≤ w ∧ w ≤ 4) : zM G l hCls_whereIs yCls_whereIs 3 [.ref (ad 0), .ref (ad (5 + c)), zi w] h (fun v h' => v = some (zi (zWv S c w)) ∧ h = h') zNo 0 0 := by
  obtain ⟨c1, c2, ⟨g3, c3, d3⟩, ⟨g4, hc4, d4⟩, c5, -⟩ := id hC
  have hcA := hC.cs hc
  obtain ⟨st, li, ix, la, e1, e2, e3, e4, e5, e6, e7⟩ := id hcA
  obtain ⟨rfl, rfl, rfl, rfl⟩ := e7 ht
  have hrU := hC.ls (k := (S.2.1 c 2).toNat) (by omega)
  obtain ⟨fU, eU, -⟩ := id hrU
  have hlU := hrU.len
  refine zM.of [some (.ref (ad 0)), some (.ref (ad (5 + c))), some (zi w)] (by decide +kernel) rfl (by decide) rfl (Nat.le_of_ble_eq_true rfl) rfl ?_
  refine z_iload_n dCls_whereIs_0 rfl ?_
  rcases (show w = 1 ∨ w = 2 ∨ w = 3 ∨ w = 4 by omega) with rfl | rfl | rfl | rfl
  · refine z_tableIn (tgt := 28) dCls_whereIs_1 (by omega) (by omega) (by omega) rfl (by decide) ?_
    refine z_aload_n dCls_whereIs_28 rfl ?_
    refine z_getN (k := 3) fd_Cur (by decide) fl_Cls_172 dCls_whereIs_29 (by assumption) (by rfl) ?_
    refine z_iret rfl rfl dCls_whereIs_32 ?_
    refine ⟨?_, rfl⟩
    unfold zWv
    repeat (first | rw [if_pos (by omega)] | rw [if_neg (by omega)])
  · refine z_tableIn (tgt := 33) dCls_whereIs_1 (by omega) (by omega) (by omega) rfl (by decide) ?_
    refine z_aload_n dCls_whereIs_33 rfl ?_
    refine z_getN (k := 3) fd_Cur (by decide) fl_Cls_172 dCls_whereIs_34 (by assumption) (by rfl) ?_
    refine z_iconst dCls_whereIs_37 ?_
    refine z_isub dCls_whereIs_38 ?_
    refine z_iret rfl rfl dCls_whereIs_39 ?_
    refine ⟨?_, rfl⟩
    unfold zWv
    repeat (first | rw [if_pos (by omega)] | rw [if_neg (by omega)])
  · refine z_tableIn (tgt := 40) dCls_whereIs_1 (by omega) (by omega) (by omega) rfl (by decide) ?_
    refine z_aload_n dCls_whereIs_40 rfl ?_
    refine z_getN (k := 3) fd_Cur (by decide) fl_Cls_172 dCls_whereIs_41 (by assumption) (by rfl) ?_
    refine z_aload_n dCls_whereIs_44 rfl ?_
    refine z_aload_n dCls_whereIs_45 rfl ?_
    refine z_callV MV_Cls_rowUnder lk_Cls_155 dCls_whereIs_46 (k_Cls_rowUnder0 hC hc ht ⟨(Int.toNat_of_nonneg hl.1).symm, by omega⟩) rfl rfl (Nat.le_of_ble_eq_true rfl) rfl (by assumption) (Nat.le_of_ble_eq_true rfl) (Nat.le_of_ble_eq_true rfl) (Nat.le_of_eq (Nat.zero_add _)) (Nat.le_of_eq (Nat.zero_add _)) (fun _ _ q => q.elim) ?_
    rintro _ _ ⟨rfl, rfl⟩
    refine z_getN (k := 1) fd_Row (by decide) fl_Cls_46 dCls_whereIs_49 (by assumption) (by rfl) ?_
    refine z_icmp_ge (tgt := 59) dCls_whereIs_52 (by decide) (by omega) (by omega) (fun c52 => ?_) (fun c52 => ?_)
    · refine z_iconst dCls_whereIs_59 ?_
      refine z_callS MS_Cls_numberOf lk_Cls_192 dCls_whereIs_60 (k_Cls_numberOf (by omega)) rfl rfl (Nat.le_of_ble_eq_true rfl)  (Nat.le_of_ble_eq_true rfl) (Nat.le_of_ble_eq_true rfl) (Nat.le_of_eq (Nat.zero_add _)) (Nat.le_of_eq (Nat.zero_add _)) (fun _ _ q => q.elim) ?_
      rintro _ _ ⟨rfl, rfl⟩
      refine z_iret rfl rfl dCls_whereIs_63 ?_
      refine ⟨?_, rfl⟩
      unfold zWv
      repeat (first | rw [if_pos (by omega)] | rw [if_neg (by omega)])
    · refine z_iconst dCls_whereIs_55 ?_
      refine z_goto (tgt := 60) dCls_whereIs_56 (by decide) ?_
      refine z_callS MS_Cls_numberOf lk_Cls_192 dCls_whereIs_60 (k_Cls_numberOf (by omega)) rfl rfl (Nat.le_of_ble_eq_true rfl)  (Nat.le_of_ble_eq_true rfl) (Nat.le_of_ble_eq_true rfl) (Nat.le_of_eq (Nat.zero_add _)) (Nat.le_of_eq (Nat.zero_add _)) (fun _ _ q => q.elim) ?_
      rintro _ _ ⟨rfl, rfl⟩
      refine z_iret rfl rfl dCls_whereIs_63 ?_
      refine ⟨?_, rfl⟩
      unfold zWv
      repeat (first | rw [if_pos (by omega)] | rw [if_neg (by omega)])
  · refine z_tableOut (tgt := 64) dCls_whereIs_1 (by omega) (by omega) (by decide) ?_
    refine z_aload_n dCls_whereIs_64 rfl ?_
    refine z_getN (k := 3) fd_Cur (by decide) fl_Cls_172 dCls_whereIs_65 (by assumption) (by rfl) ?_
    refine z_if_le (tgt := 75) dCls_whereIs_68 (by decide) (by omega) (fun c68 => ?_) (fun c68 => ?_)
    · refine z_iconst dCls_whereIs_75 ?_
      refine z_callS MS_Cls_numberOf lk_Cls_192 dCls_whereIs_76 (k_Cls_numberOf (by omega)) rfl rfl (Nat.le_of_ble_eq_true rfl)  (Nat.le_of_ble_eq_true rfl) (Nat.le_of_ble_eq_true rfl) (Nat.le_of_eq (Nat.zero_add _)) (Nat.le_of_eq (Nat.zero_add _)) (fun _ _ q => q.elim) ?_
      rintro _ _ ⟨rfl, rfl⟩
      refine z_iret rfl rfl dCls_whereIs_79 ?_
      refine ⟨?_, rfl⟩
      unfold zWv
      repeat (first | rw [if_pos (by omega)] | rw [if_neg (by omega)])
    · refine z_iconst dCls_whereIs_71 ?_
      refine z_goto (tgt := 76) dCls_whereIs_72 (by decide) ?_
      refine z_callS MS_Cls_numberOf lk_Cls_192 dCls_whereIs_76 (k_Cls_numberOf (by omega)) rfl rfl (Nat.le_of_ble_eq_true rfl)  (Nat.le_of_ble_eq_true rfl) (Nat.le_of_ble_eq_true rfl) (Nat.le_of_eq (Nat.zero_add _)) (Nat.le_of_eq (Nat.zero_add _)) (fun _ _ q => q.elim) ?_
      rintro _ _ ⟨rfl, rfl⟩
      refine z_iret rfl rfl dCls_whereIs_79 ?_
      refine ⟨?_, rfl⟩
      unfold zWv
      repeat (first | rw [if_pos (by omega)] | rw [if_neg (by omega)])
theorem k_Cls_ofCursor0 {k : Nat} {w : Int} (hC : zCls G h ad S) (hO : zOk S) (hk : k < 3) (hw : 0 ≤ w ∧ w ≤ 5) : zM G l hCls_ofCursor yCls_ofCursor 4 [.ref (ad 0), zi (k : Int), zi w] h (fun v h' => v = some (zi (zCuV S k w)) ∧ h = h') zNo 0 0 := by
  obtain ⟨c1, c2, ⟨g3, c3, d3⟩, ⟨g4, hc4, d4⟩, c5, -⟩ := id hC
  obtain ⟨stA, liA, ixA, laA, eA, bA0, bA1, iA2, iA3, iA4, eA7⟩ := id (hC.cs hk)
  refine zM.of [some (.ref (ad 0)), some (zi (k : Int)), some (zi w), none] (by decide +kernel) rfl (by decide) rfl (Nat.le_of_ble_eq_true rfl) rfl ?_
  refine z_aload_n dCls_ofCursor_0 rfl ?_
  refine z_iload_n dCls_ofCursor_1 rfl ?_
  refine z_callV MV_Cls_cursorAt lk_Cls_137 dCls_ofCursor_2 (k_Cls_cursorAt0 hC hk) rfl rfl (Nat.le_of_ble_eq_true rfl) rfl (by assumption) (Nat.le_of_ble_eq_true rfl) (Nat.le_of_ble_eq_true rfl) (Nat.le_of_eq (Nat.zero_add _)) (Nat.le_of_eq (Nat.zero_add _)) (fun _ _ q => q.elim) ?_
  rintro _ _ ⟨rfl, rfl⟩
  refine z_astore_n dCls_ofCursor_5 (Nat.le_of_ble_eq_true rfl) ?_
  refine z_iload_n dCls_ofCursor_6 rfl ?_
  refine z_iconst dCls_ofCursor_7 ?_
  refine z_iconst dCls_ofCursor_8 ?_
  refine z_callS MS_Cls_demandWithin lk_Cls_38 dCls_ofCursor_9 (k_Cls_demandWithin0 (by omega) (by omega) (by omega)) rfl rfl (Nat.le_of_ble_eq_true rfl)  (Nat.le_of_ble_eq_true rfl) (Nat.le_of_ble_eq_true rfl) (Nat.le_of_eq (Nat.zero_add _)) (Nat.le_of_eq (Nat.zero_add _)) (fun _ _ q => q.elim) ?_
  rintro _ _ ⟨rfl, rfl⟩
  refine z_aload_n dCls_ofCursor_12 rfl ?_
  refine z_getN (k := 0) fd_Cur (by decide) fl_Cls_144 dCls_ofCursor_13 (by assumption) (by rfl) ?_
  refine z_if_ne (tgt := 21) dCls_ofCursor_16 (by decide) (by omega) (fun c16 => ?_) (fun c16 => ?_)
  · refine z_iload_n dCls_ofCursor_21 rfl ?_
    refine z_if_ne (tgt := 30) dCls_ofCursor_22 (by decide) (by omega) (fun c22 => ?_) (fun c22 => ?_)
    · refine z_iload_n dCls_ofCursor_30 rfl ?_
      refine z_iconst dCls_ofCursor_31 ?_
      refine z_icmp_ne (tgt := 43) dCls_ofCursor_32 (by decide) (by omega) (by omega) (fun c32 => ?_) (fun c32 => ?_)
      · refine z_aload_n dCls_ofCursor_43 rfl ?_
        refine z_getN (k := 1) fd_Cur (by decide) fl_Cls_152 dCls_ofCursor_44 (by assumption) (by rfl) ?_
        refine z_if_eq (tgt := 54) dCls_ofCursor_47 (by decide) (by omega) (fun c47 => ?_) (fun c47 => ?_)
        · refine z_aload_n dCls_ofCursor_54 rfl ?_
          refine z_aload_n dCls_ofCursor_55 rfl ?_
          refine z_iload_n dCls_ofCursor_56 rfl ?_
          refine z_callV MV_Cls_whereIs lk_Cls_196 dCls_ofCursor_57 (k_Cls_whereIs0 hC hk (by omega) (hO.1 k hk (by omega)).1 (by omega)) rfl rfl (Nat.le_of_ble_eq_true rfl) rfl (by assumption) (Nat.le_of_ble_eq_true rfl) (Nat.le_of_ble_eq_true rfl) (Nat.le_of_eq (Nat.zero_add _)) (Nat.le_of_eq (Nat.zero_add _)) (fun _ _ q => q.elim) ?_
          rintro _ _ ⟨rfl, rfl⟩
          refine z_iret rfl rfl dCls_ofCursor_60 ?_
          first
            | (refine ⟨?_, rfl⟩; unfold zCuV; rw [if_pos (by omega)])
            | (obtain ⟨rfl, rfl, rfl, rfl⟩ := eA7 (by omega)
               refine ⟨?_, rfl⟩
               unfold zCuV
               (repeat (first | rw [if_pos (by omega)] | rw [if_neg (by omega)])))
        · refine z_iconst dCls_ofCursor_50 ?_
          refine z_goto (tgt := 60) dCls_ofCursor_51 (by decide) ?_
          refine z_iret rfl rfl dCls_ofCursor_60 ?_
          first
            | (refine ⟨?_, rfl⟩; unfold zCuV; rw [if_pos (by omega)])
            | (obtain ⟨rfl, rfl, rfl, rfl⟩ := eA7 (by omega)
               refine ⟨?_, rfl⟩
               unfold zCuV
               (repeat (first | rw [if_pos (by omega)] | rw [if_neg (by omega)])))
      · refine z_aload_n dCls_ofCursor_35 rfl ?_
        refine z_getN (k := 1) fd_Cur (by decide) fl_Cls_152 dCls_ofCursor_36 (by assumption) (by rfl) ?_
        refine z_callS MS_Cls_numberOf lk_Cls_192 dCls_ofCursor_39 (k_Cls_numberOf bA1) rfl rfl (Nat.le_of_ble_eq_true rfl)  (Nat.le_of_ble_eq_true rfl) (Nat.le_of_ble_eq_true rfl) (Nat.le_of_eq (Nat.zero_add _)) (Nat.le_of_eq (Nat.zero_add _)) (fun _ _ q => q.elim) ?_
        rintro _ _ ⟨rfl, rfl⟩
        refine z_iret rfl rfl dCls_ofCursor_42 ?_
        first
          | (refine ⟨?_, rfl⟩; unfold zCuV; rw [if_pos (by omega)])
          | (obtain ⟨rfl, rfl, rfl, rfl⟩ := eA7 (by omega)
             refine ⟨?_, rfl⟩
             unfold zCuV
             (repeat (first | rw [if_pos (by omega)] | rw [if_neg (by omega)])))
    · refine z_aload_n dCls_ofCursor_25 rfl ?_
      refine z_getN (k := 2) fd_Cur (by decide) fl_Cls_169 dCls_ofCursor_26 (by assumption) (by rfl) ?_
      refine z_iret rfl rfl dCls_ofCursor_29 ?_
      first
        | (refine ⟨?_, rfl⟩; unfold zCuV; rw [if_pos (by omega)])
        | (obtain ⟨rfl, rfl, rfl, rfl⟩ := eA7 (by omega)
           refine ⟨?_, rfl⟩
           unfold zCuV
           (repeat (first | rw [if_pos (by omega)] | rw [if_neg (by omega)])))
  · refine z_iconst dCls_ofCursor_19 ?_
    refine z_iret rfl rfl dCls_ofCursor_20 ?_
    first
      | (refine ⟨?_, rfl⟩; unfold zCuV; rw [if_pos (by omega)])
      | (obtain ⟨rfl, rfl, rfl, rfl⟩ := eA7 (by omega)
         refine ⟨?_, rfl⟩
         unfold zCuV
         (repeat (first | rw [if_pos (by omega)] | rw [if_neg (by omega)])))
theorem k_Cls_house0 {w : Int} (hC : zCls G h ad S) (hw : 0 ≤ w ∧ w ≤ 4) : zM G l hCls_house yCls_house 3 [.ref (ad 0), zi w] h (fun v h' => v = some (zi (zHv S w)) ∧ h = h') zNo 0 0 := by
  obtain ⟨c1, c2, ⟨g3, c3, d3⟩, ⟨g4, hc4, d4⟩, c5, -⟩ := id hC
  refine zM.of [some (.ref (ad 0)), some (zi w)] (by decide +kernel) rfl (by decide) rfl (Nat.le_of_ble_eq_true rfl) rfl ?_
  refine z_iload_n dCls_house_0 rfl ?_
  refine z_iconst dCls_house_1 ?_
  refine z_iconst dCls_house_2 ?_
  refine z_callS MS_Cls_demandWithin lk_Cls_38 dCls_house_3 (k_Cls_demandWithin0 (by omega) (by omega) (by omega)) rfl rfl (Nat.le_of_ble_eq_true rfl)  (Nat.le_of_ble_eq_true rfl) (Nat.le_of_ble_eq_true rfl) (Nat.le_of_eq (Nat.zero_add _)) (Nat.le_of_eq (Nat.zero_add _)) (fun _ _ q => q.elim) ?_
  rintro _ _ ⟨rfl, rfl⟩
  refine z_iload_n dCls_house_6 rfl ?_
  rcases (show w = 0 ∨ w = 1 ∨ w = 2 ∨ w = 3 ∨ w = 4 by omega) with rfl | rfl | rfl | rfl | rfl
  · refine z_tableIn (tgt := 36) dCls_house_7 (by omega) (by omega) (by omega) rfl (by decide) ?_
    refine z_aload_n dCls_house_36 rfl ?_
    refine z_callV MV_Cls_itemsOfAll lk_Cls_250 dCls_house_37 (k_Cls_itemsOfAll hC) rfl rfl (Nat.le_of_ble_eq_true rfl) rfl (by assumption) (Nat.le_of_ble_eq_true rfl) (Nat.le_of_ble_eq_true rfl) (Nat.le_of_eq (Nat.zero_add _)) (Nat.le_of_eq (Nat.zero_add _)) (fun _ _ q => q.elim) ?_
    rintro _ _ ⟨rfl, rfl⟩
    refine z_iret rfl rfl dCls_house_40 ?_
    exact ⟨rfl, rfl⟩
  · refine z_tableIn (tgt := 41) dCls_house_7 (by omega) (by omega) (by omega) rfl (by decide) ?_
    refine z_aload_n dCls_house_41 rfl ?_
    refine z_callV MV_Cls_cursorsThere lk_Cls_253 dCls_house_42 (k_Cls_cursorsThere hC) rfl rfl (Nat.le_of_ble_eq_true rfl) rfl (by assumption) (Nat.le_of_ble_eq_true rfl) (Nat.le_of_ble_eq_true rfl) (Nat.le_of_eq (Nat.zero_add _)) (Nat.le_of_eq (Nat.zero_add _)) (fun _ _ q => q.elim) ?_
    rintro _ _ ⟨rfl, rfl⟩
    refine z_iret rfl rfl dCls_house_45 ?_
    exact ⟨rfl, rfl⟩
  · refine z_tableIn (tgt := 46) dCls_house_7 (by omega) (by omega) (by omega) rfl (by decide) ?_
    refine z_aload_n dCls_house_46 rfl ?_
    refine z_callV MV_Cls_cursorsStale lk_Cls_256 dCls_house_47 (k_Cls_cursorsStale hC) rfl rfl (Nat.le_of_ble_eq_true rfl) rfl (by assumption) (Nat.le_of_ble_eq_true rfl) (Nat.le_of_ble_eq_true rfl) (Nat.le_of_eq (Nat.zero_add _)) (Nat.le_of_eq (Nat.zero_add _)) (fun _ _ q => q.elim) ?_
    rintro _ _ ⟨rfl, rfl⟩
    refine z_iret rfl rfl dCls_house_50 ?_
    exact ⟨rfl, rfl⟩
  · refine z_tableIn (tgt := 51) dCls_house_7 (by omega) (by omega) (by omega) rfl (by decide) ?_
    refine z_aload_n dCls_house_51 rfl ?_
    refine z_get (k := 4) fd_Cls (by decide) fl_Cls_259 dCls_house_52 (by assumption) (by rfl) ?_
    refine z_iret rfl rfl dCls_house_55 ?_
    exact ⟨rfl, rfl⟩
  · refine z_tableOut (tgt := 56) dCls_house_7 (by omega) (by omega) (by decide) ?_
    refine z_aload_n dCls_house_56 rfl ?_
    refine z_get (k := 5) fd_Cls (by decide) fl_Cls_262 dCls_house_57 (by assumption) (by rfl) ?_
    refine z_iret rfl rfl dCls_house_60 ?_
    exact ⟨rfl, rfl⟩
theorem k_Cls_asked0 {w : Int} (hC : zCls G h ad S) (hw : 0 ≤ w ∧ w ≤ 3) : zM G l hCls_asked yCls_asked 3 [.ref (ad 0), zi w] h (fun v h' => v = some (zi (zAkV S w)) ∧ h = h') zNo 0 0 := by
  obtain ⟨c1, c2, ⟨g3, c3, d3⟩, ⟨g4, c4, d4⟩, c5, ⟨T6, c6, d6⟩, c7, c8, ⟨R9, c9⟩, c10⟩ := id hC
  obtain ⟨f18, e18, -⟩ := id c10
  refine zM.of [some (.ref (ad 0)), some (zi w)] (by decide +kernel) rfl (by decide) rfl (Nat.le_of_ble_eq_true rfl) rfl ?_
  refine z_iload_n dCls_asked_0 rfl ?_
  refine z_iconst dCls_asked_1 ?_
  refine z_iconst dCls_asked_2 ?_
  refine z_callS MS_Cls_demandWithin lk_Cls_38 dCls_asked_3 (k_Cls_demandWithin0 (by omega) (by omega) (by omega)) rfl rfl (Nat.le_of_ble_eq_true rfl)  (Nat.le_of_ble_eq_true rfl) (Nat.le_of_ble_eq_true rfl) (Nat.le_of_eq (Nat.zero_add _)) (Nat.le_of_eq (Nat.zero_add _)) (fun _ _ q => q.elim) ?_
  rintro _ _ ⟨rfl, rfl⟩
  refine z_iload_n dCls_asked_6 rfl ?_
  rcases (show w = 0 ∨ w = 1 ∨ w = 2 ∨ w = 3 by omega) with rfl | rfl | rfl | rfl
  · refine z_tableIn (tgt := 32) dCls_asked_7 (by omega) (by omega) (by omega) rfl (by decide) ?_
    refine z_aload_n dCls_asked_32 rfl ?_
    refine z_get (k := 2) fd_Cls (by decide) fl_Cls_24 dCls_asked_33 (by assumption) (by rfl) ?_
    refine z_getN (k := 2) fd_Rec (by decide) fl_Cls_215 dCls_asked_36 (by assumption) (by rfl) ?_
    refine z_iret rfl rfl dCls_asked_39 ?_
    exact ⟨rfl, rfl⟩
  · refine z_tableIn (tgt := 40) dCls_asked_7 (by omega) (by omega) (by omega) rfl (by decide) ?_
    refine z_aload_n dCls_asked_40 rfl ?_
    refine z_get (k := 2) fd_Cls (by decide) fl_Cls_24 dCls_asked_41 (by assumption) (by rfl) ?_
    refine z_getN (k := 3) fd_Rec (by decide) fl_Cls_228 dCls_asked_44 (by assumption) (by rfl) ?_
    refine z_iret rfl rfl dCls_asked_47 ?_
    exact ⟨rfl, rfl⟩
  · refine z_tableIn (tgt := 48) dCls_asked_7 (by omega) (by omega) (by omega) rfl (by decide) ?_
    refine z_aload_n dCls_asked_48 rfl ?_
    refine z_get (k := 2) fd_Cls (by decide) fl_Cls_24 dCls_asked_49 (by assumption) (by rfl) ?_
    refine z_getN (k := 4) fd_Rec (by decide) fl_Cls_231 dCls_asked_52 (by assumption) (by rfl) ?_
    refine z_iret rfl rfl dCls_asked_55 ?_
    exact ⟨rfl, rfl⟩
  · refine z_tableOut (tgt := 56) dCls_asked_7 (by omega) (by omega) (by decide) ?_
    refine z_aload_n dCls_asked_56 rfl ?_
    refine z_get (k := 2) fd_Cls (by decide) fl_Cls_24 dCls_asked_57 (by assumption) (by rfl) ?_
    refine z_getN (k := 0) fd_Rec (by decide) fl_Cls_234 dCls_asked_60 (by assumption) (by rfl) ?_
    refine z_bipush dCls_asked_63 rfl ?_
    refine z_callVN MV_Row_itemAt lk_Cls_70 dCls_asked_65 (k_Row_itemAt c10 (by omega)) rfl rfl (Nat.le_of_ble_eq_true rfl) rfl (by assumption) (Nat.le_of_ble_eq_true rfl) (Nat.le_of_ble_eq_true rfl) (Nat.le_of_eq (Nat.zero_add _)) (Nat.le_of_eq (Nat.zero_add _)) (fun _ _ q => q.elim) ?_
    rintro _ _ ⟨rfl, rfl⟩
    refine z_iret rfl rfl dCls_asked_68 ?_
    exact ⟨rfl, rfl⟩
end CLS14
end
section
section CLS15
variable {G : zG} {l : Launch} {h h' : zHp} {ad : Nat → Nat} {S : zSt}
noncomputable def zDgO (S : zSt) (d : Int) (L : List Int) : Int := @ite _ (zOrd L) (Classical.propDecidable _) ((((d * 31 + 1) * 31 + zwd (zCost (zCntT S.2.2.2.1) L 8)) * 31 + zwd (zInv L)) * 31 + zwd (zBd S L)) (d * 31 + 0)
def zD1 (S : zSt) : Int := zFld (fun n e => e * 31 + zwd (zHv S n)) 7834 5
def zD2 (S : zSt) : Int := zFld (fun n e => zDgL e (S.1 n)) (zD1 S) 4
def zDc (S : zSt) (c : Nat) (e : Int) : Int := zFld (fun n e => e * 31 + zwd (zCuV S c n)) e 6
def zD3 (S : zSt) : Int := zFld (fun n e => zDc S n e) (zD2 S) 3
def zD4 (S : zSt) : Int := zFld (fun n e => e * 31 + zwd (zAkV S n)) (zD3 S) 4
def zD5 (S : zSt) : Int := zDgI (zD4 S) S.2.2.1 S.2.2.1.length
noncomputable def zD6 (S : zSt) : Int := zFld (fun n e => zDgO S e (S.1 n)) (zD5 S) 4
theorem k_Cls_mixed {x y : Int} : zM G l hCls_mixed yCls_mixed 1 [zl x, zl y] h (fun v h' => v = some (zl (x * 31 + y)) ∧ h = h') zNo 0 0 := by
  refine zM.of [some (zl x), none, some (zl y), none] (by decide +kernel) rfl (by decide) rfl (Nat.le_of_ble_eq_true rfl) rfl ?_
  refine z_lload_n dCls_mixed_0 rfl ?_
  refine z_ldc2 (v := (31 : Int64)) dCls_mixed_1 (31) (by decide) ct_Cls_338 ?_
  refine z_lmul dCls_mixed_4 ?_
  refine z_lload_n dCls_mixed_5 rfl ?_
  refine z_ladd dCls_mixed_6 ?_
  refine z_lret rfl dCls_mixed_7 ?_
  exact ⟨rfl, rfl⟩
theorem l_Cls_mixedWithItems {d mc ms bc bs : Nat} {Qn : Option Value → zHp → Prop} {Qx : String → zHp → Prop} {r a : Nat} {L : List Int} (hr : zRow G h r a L) {x : Int} (hd : 3 ≤ d) (K : ∀ y, zR G l (zMJ G hCls_mixedWithItems d Qn Qx mc ms) bc bs h 32 [some (zl x), none, some (.ref r), some (zl (zDgI x L L.length)), none, y] []) :
    ∀ (n : Nat) (m : Nat), L.length - m < n → m ≤ L.length → zR G l (zMJ G hCls_mixedWithItems d Qn Qx mc ms) bc bs h 5 [some (zl x), none, some (.ref r), some (zl (zDgI x L m)), none, some (zi (m : Int))] [] := by
  intro n
  induction n with
  | zero => intro m q1 q2; omega
  | succ n ih =>
  intro m q1 q2
  obtain ⟨fr, er, -⟩ := id hr
  have hl := hr.len
  have hi := zAt_in hr m
  refine z_iload dCls_mixedWithItems_5 rfl ?_
  refine z_aload_n dCls_mixedWithItems_7 rfl ?_
  refine z_getN (k := 1) fd_Row (by decide) fl_Cls_46 dCls_mixedWithItems_8 (by assumption) (by rfl) ?_
  refine z_icmp_ge (tgt := 32) dCls_mixedWithItems_11 (by decide) (by omega) (by omega) (fun c11 => ?_) (fun c11 => ?_)
  · have em : m = L.length := by omega
    rw [em]
    exact K _
  · refine z_lload_n dCls_mixedWithItems_14 rfl ?_
    refine z_aload_n dCls_mixedWithItems_15 rfl ?_
    refine z_iload dCls_mixedWithItems_16 rfl ?_
    refine z_callVN MV_Row_itemAt lk_Cls_70 dCls_mixedWithItems_18 (k_Row_itemAt hr (by omega)) rfl rfl (Nat.le_of_ble_eq_true rfl) rfl (by assumption) (by show _ + 1 ≤ d; omega) (by show _ * 64 + 64 ≤ d * 64; omega) (Nat.le_of_eq (Nat.zero_add _)) (Nat.le_of_eq (Nat.zero_add _)) (fun _ _ q => q.elim) ?_
    rintro _ _ ⟨rfl, rfl⟩
    refine z_i2l (by omega) dCls_mixedWithItems_21 ?_
    refine z_callS MS_Cls_mixed lk_Cls_279 dCls_mixedWithItems_22 (k_Cls_mixed) rfl rfl (Nat.le_of_ble_eq_true rfl)  (by show _ + 1 ≤ d; omega) (by show _ * 64 + 64 ≤ d * 64; omega) (Nat.le_of_eq (Nat.zero_add _)) (Nat.le_of_eq (Nat.zero_add _)) (fun _ _ q => q.elim) ?_
    rintro _ _ ⟨rfl, rfl⟩
    refine z_lstore_n dCls_mixedWithItems_25 (Nat.le_of_ble_eq_true rfl) ?_
    refine z_iinc dCls_mixedWithItems_26 rfl (Nat.le_of_ble_eq_true rfl) ?_
    refine z_goto (tgt := 5) dCls_mixedWithItems_29 (by decide) ?_
    exact ih (m + 1) (by omega) (by omega)
theorem k_Cls_mixedWithItems {r a : Nat} {L : List Int} (hr : zRow G h r a L) {x : Int} : zM G l hCls_mixedWithItems yCls_mixedWithItems 3 [zl x, .ref r] h (fun v h' => v = some (zl (zDgI x L L.length)) ∧ h = h') zNo 0 0 := by
  refine zM.of [some (zl x), none, some (.ref r), none, none, none] (by decide +kernel) rfl (by decide) rfl (Nat.le_of_ble_eq_true rfl) rfl ?_
  refine z_lload_n dCls_mixedWithItems_0 rfl ?_
  refine z_lstore_n dCls_mixedWithItems_1 (Nat.le_of_ble_eq_true rfl) ?_
  refine z_iconst dCls_mixedWithItems_2 ?_
  refine z_istore dCls_mixedWithItems_3 (Nat.le_of_ble_eq_true rfl) ?_
  refine l_Cls_mixedWithItems hr (by omega) (fun y => ?_) (L.length + 1) 0 (by omega) (by omega)
  refine z_lload_n dCls_mixedWithItems_32 rfl ?_
  refine z_lret rfl dCls_mixedWithItems_33 ?_
  exact ⟨rfl, rfl⟩
theorem k_Cls_mixedWithList {r a : Nat} {L : List Int} (hr : zRow G h r a L) {x : Int} : zM G l hCls_mixedWithList yCls_mixedWithList 4 [zl x, .ref r] h (fun v h' => v = some (zl (zDgL x L)) ∧ h = h') zNo 0 0 := by
  obtain ⟨fr, er, -⟩ := id hr
  have hl := hr.len
  have z1 := zHr_in L 2 L.length
  have z2 := zLnz_in L
  refine zM.of [some (zl x), none, some (.ref r), none, none] (by decide +kernel) rfl (by decide) rfl (Nat.le_of_ble_eq_true rfl) rfl ?_
  refine z_lload_n dCls_mixedWithList_0 rfl ?_
  refine z_aload_n dCls_mixedWithList_1 rfl ?_
  refine z_getN (k := 1) fd_Row (by decide) fl_Cls_46 dCls_mixedWithList_2 (by assumption) (by rfl) ?_
  refine z_i2l (by omega) dCls_mixedWithList_5 ?_
  refine z_callS MS_Cls_mixed lk_Cls_279 dCls_mixedWithList_6 (k_Cls_mixed) rfl rfl (Nat.le_of_ble_eq_true rfl)  (Nat.le_of_ble_eq_true rfl) (Nat.le_of_ble_eq_true rfl) (Nat.le_of_eq (Nat.zero_add _)) (Nat.le_of_eq (Nat.zero_add _)) (fun _ _ q => q.elim) ?_
  rintro _ _ ⟨rfl, rfl⟩
  refine z_aload_n dCls_mixedWithList_9 rfl ?_
  refine z_callS MS_Cls_mixedWithItems lk_Cls_293 dCls_mixedWithList_10 (k_Cls_mixedWithItems hr) rfl rfl (Nat.le_of_ble_eq_true rfl)  (Nat.le_of_ble_eq_true rfl) (Nat.le_of_ble_eq_true rfl) (Nat.le_of_eq (Nat.zero_add _)) (Nat.le_of_eq (Nat.zero_add _)) (fun _ _ q => q.elim) ?_
  rintro _ _ ⟨rfl, rfl⟩
  refine z_lstore_n dCls_mixedWithList_13 (Nat.le_of_ble_eq_true rfl) ?_
  refine z_lload_n dCls_mixedWithList_14 rfl ?_
  refine z_aload_n dCls_mixedWithList_15 rfl ?_
  refine z_iconst dCls_mixedWithList_16 ?_
  refine z_callVN MV_Row_restAt lk_Cls_212 dCls_mixedWithList_17 (k_Row_restAt hr (by omega)) rfl rfl (Nat.le_of_ble_eq_true rfl) rfl (by assumption) (Nat.le_of_ble_eq_true rfl) (Nat.le_of_ble_eq_true rfl) (Nat.le_of_eq (Nat.zero_add _)) (Nat.le_of_eq (Nat.zero_add _)) (fun _ _ q => q.elim) ?_
  rintro _ _ ⟨rfl, rfl⟩
  refine z_i2l (by omega) dCls_mixedWithList_20 ?_
  refine z_callS MS_Cls_mixed lk_Cls_279 dCls_mixedWithList_21 (k_Cls_mixed) rfl rfl (Nat.le_of_ble_eq_true rfl)  (Nat.le_of_ble_eq_true rfl) (Nat.le_of_ble_eq_true rfl) (Nat.le_of_eq (Nat.zero_add _)) (Nat.le_of_eq (Nat.zero_add _)) (fun _ _ q => q.elim) ?_
  rintro _ _ ⟨rfl, rfl⟩
  refine z_lstore_n dCls_mixedWithList_24 (Nat.le_of_ble_eq_true rfl) ?_
  refine z_lload_n dCls_mixedWithList_25 rfl ?_
  refine z_aload_n dCls_mixedWithList_26 rfl ?_
  refine z_callVN MV_Row_lastNotZero lk_Cls_206 dCls_mixedWithList_27 (k_Row_lastNotZero hr) rfl rfl (Nat.le_of_ble_eq_true rfl) rfl (by assumption) (Nat.le_of_ble_eq_true rfl) (Nat.le_of_ble_eq_true rfl) (Nat.le_of_eq (Nat.zero_add _)) (Nat.le_of_eq (Nat.zero_add _)) (fun _ _ q => q.elim) ?_
  rintro _ _ ⟨rfl, rfl⟩
  refine z_i2l (by omega) dCls_mixedWithList_30 ?_
  refine z_callS MS_Cls_mixed lk_Cls_279 dCls_mixedWithList_31 (k_Cls_mixed) rfl rfl (Nat.le_of_ble_eq_true rfl)  (Nat.le_of_ble_eq_true rfl) (Nat.le_of_ble_eq_true rfl) (Nat.le_of_eq (Nat.zero_add _)) (Nat.le_of_eq (Nat.zero_add _)) (fun _ _ q => q.elim) ?_
  rintro _ _ ⟨rfl, rfl⟩
  refine z_lret rfl dCls_mixedWithList_34 ?_
  exact ⟨rfl, rfl⟩
theorem k_Cls_mixedWithOrder {k : Nat} {x : Int} (hC : zCls G h ad S) (hk : k < 4) : zM G l hCls_mixedWithOrder yCls_mixedWithOrder 5 [.ref (ad 0), zl x, .ref (ad (8 + 2 * k))] h (fun v h' => v = some (zl (zDgO S x (S.1 k))) ∧ h = h') zNo 0 0 := by
  obtain ⟨c1, c2, ⟨g3, c3, d3⟩, ⟨g4, c4, d4⟩, c5, ⟨T6, c6, d6⟩, c7, c8, ⟨R9, c9⟩, c10⟩ := id hC
  have hrA := hC.ls hk
  obtain ⟨fA, eA, -⟩ := id hrA
  refine zM.of [some (.ref (ad 0)), some (zl x), none, some (.ref (ad (8 + 2 * k))), none, none] (by decide +kernel) rfl (by decide) rfl (Nat.le_of_ble_eq_true rfl) rfl ?_
  refine z_aload_n dCls_mixedWithOrder_0 rfl ?_
  refine z_callVN MV_Row_isOrder lk_Cls_237 dCls_mixedWithOrder_1 (k_Row_isOrder hrA) rfl rfl (Nat.le_of_ble_eq_true rfl) rfl (by assumption) (Nat.le_of_ble_eq_true rfl) (Nat.le_of_ble_eq_true rfl) (Nat.le_of_eq (Nat.zero_add _)) (Nat.le_of_eq (Nat.zero_add _)) (fun _ _ q => q.elim) ?_
  rintro _ _ ⟨b9, rfl, (⟨rfl, m9⟩ | ⟨rfl, m9⟩), rfl⟩
  · refine z_if_ne (tgt := 13) dCls_mixedWithOrder_4 (by decide) (by omega) (fun c4 => ?_) (fun c4 => ?_)
    · refine z_lload_n dCls_mixedWithOrder_13 rfl ?_
      refine z_lconst dCls_mixedWithOrder_14 (1) rfl ?_
      refine z_callS MS_Cls_mixed lk_Cls_279 dCls_mixedWithOrder_15 (k_Cls_mixed) rfl rfl (Nat.le_of_ble_eq_true rfl)  (Nat.le_of_ble_eq_true rfl) (Nat.le_of_ble_eq_true rfl) (Nat.le_of_eq (Nat.zero_add _)) (Nat.le_of_eq (Nat.zero_add _)) (fun _ _ q => q.elim) ?_
      rintro _ _ ⟨rfl, rfl⟩
      refine z_lstore dCls_mixedWithOrder_18 (Nat.le_of_ble_eq_true rfl) ?_
      refine z_lload dCls_mixedWithOrder_20 rfl ?_
      refine z_aload_n dCls_mixedWithOrder_22 rfl ?_
      refine z_get (k := 2) fd_Cls (by decide) fl_Cls_24 dCls_mixedWithOrder_23 (by assumption) (by rfl) ?_
      refine z_aload_n dCls_mixedWithOrder_26 rfl ?_
      refine z_callVN MV_Rec_costBy lk_Cls_241 dCls_mixedWithOrder_27 (k_Rec_costBy hrA c5 c6) rfl rfl (Nat.le_of_ble_eq_true rfl) rfl (by assumption) (Nat.le_of_ble_eq_true rfl) (Nat.le_of_ble_eq_true rfl) (Nat.le_of_eq (Nat.zero_add _)) (Nat.le_of_eq (Nat.zero_add _)) (fun _ _ q => q.elim) ?_
      rintro _ _ ⟨rfl, rfl⟩
      rw [zCost_cg d6]
      refine z_i2lw dCls_mixedWithOrder_30 ?_
      refine z_callS MS_Cls_mixed lk_Cls_279 dCls_mixedWithOrder_31 (k_Cls_mixed) rfl rfl (Nat.le_of_ble_eq_true rfl)  (Nat.le_of_ble_eq_true rfl) (Nat.le_of_ble_eq_true rfl) (Nat.le_of_eq (Nat.zero_add _)) (Nat.le_of_eq (Nat.zero_add _)) (fun _ _ q => q.elim) ?_
      rintro _ _ ⟨rfl, rfl⟩
      refine z_lstore dCls_mixedWithOrder_34 (Nat.le_of_ble_eq_true rfl) ?_
      refine z_lload dCls_mixedWithOrder_36 rfl ?_
      refine z_aload_n dCls_mixedWithOrder_38 rfl ?_
      refine z_callVN MV_Row_inversions lk_Cls_244 dCls_mixedWithOrder_39 (k_Row_inversions hrA) rfl rfl (Nat.le_of_ble_eq_true rfl) rfl (by assumption) (Nat.le_of_ble_eq_true rfl) (Nat.le_of_ble_eq_true rfl) (Nat.le_of_eq (Nat.zero_add _)) (Nat.le_of_eq (Nat.zero_add _)) (fun _ _ q => q.elim) ?_
      rintro _ _ ⟨rfl, rfl⟩
      refine z_i2lw dCls_mixedWithOrder_42 ?_
      refine z_callS MS_Cls_mixed lk_Cls_279 dCls_mixedWithOrder_43 (k_Cls_mixed) rfl rfl (Nat.le_of_ble_eq_true rfl)  (Nat.le_of_ble_eq_true rfl) (Nat.le_of_ble_eq_true rfl) (Nat.le_of_eq (Nat.zero_add _)) (Nat.le_of_eq (Nat.zero_add _)) (fun _ _ q => q.elim) ?_
      rintro _ _ ⟨rfl, rfl⟩
      refine z_lstore dCls_mixedWithOrder_46 (Nat.le_of_ble_eq_true rfl) ?_
      refine z_lload dCls_mixedWithOrder_48 rfl ?_
      refine z_aload_n dCls_mixedWithOrder_50 rfl ?_
      refine z_get (k := 2) fd_Cls (by decide) fl_Cls_24 dCls_mixedWithOrder_51 (by assumption) (by rfl) ?_
      refine z_aload_n dCls_mixedWithOrder_54 rfl ?_
      refine z_callVN MV_Rec_boundBy lk_Cls_247 dCls_mixedWithOrder_55 (k_Rec_boundBy hrA c5 c6) rfl rfl (Nat.le_of_ble_eq_true rfl) rfl (by assumption) (Nat.le_of_ble_eq_true rfl) (Nat.le_of_ble_eq_true rfl) (Nat.le_of_eq (Nat.zero_add _)) (Nat.le_of_eq (Nat.zero_add _)) (fun _ _ q => q.elim) ?_
      rintro _ _ ⟨rfl, rfl⟩
      rw [zCost_cg d6]
      refine z_i2lw dCls_mixedWithOrder_58 ?_
      refine z_callS MS_Cls_mixed lk_Cls_279 dCls_mixedWithOrder_59 (k_Cls_mixed) rfl rfl (Nat.le_of_ble_eq_true rfl)  (Nat.le_of_ble_eq_true rfl) (Nat.le_of_ble_eq_true rfl) (Nat.le_of_eq (Nat.zero_add _)) (Nat.le_of_eq (Nat.zero_add _)) (fun _ _ q => q.elim) ?_
      rintro _ _ ⟨rfl, rfl⟩
      refine z_lret rfl dCls_mixedWithOrder_62 ?_
      first
        | (exfalso; omega)
        | (unfold zDgO; rw [if_pos m9]; exact ⟨rfl, rfl⟩)
        | (unfold zDgO; rw [if_neg m9]; exact ⟨rfl, rfl⟩)
    · refine z_lload_n dCls_mixedWithOrder_7 rfl ?_
      refine z_lconst dCls_mixedWithOrder_8 (0) rfl ?_
      refine z_callS MS_Cls_mixed lk_Cls_279 dCls_mixedWithOrder_9 (k_Cls_mixed) rfl rfl (Nat.le_of_ble_eq_true rfl)  (Nat.le_of_ble_eq_true rfl) (Nat.le_of_ble_eq_true rfl) (Nat.le_of_eq (Nat.zero_add _)) (Nat.le_of_eq (Nat.zero_add _)) (fun _ _ q => q.elim) ?_
      rintro _ _ ⟨rfl, rfl⟩
      refine z_lret rfl dCls_mixedWithOrder_12 ?_
      first
        | (exfalso; omega)
        | (unfold zDgO; rw [if_pos m9]; exact ⟨rfl, rfl⟩)
        | (unfold zDgO; rw [if_neg m9]; exact ⟨rfl, rfl⟩)
  · refine z_if_ne (tgt := 13) dCls_mixedWithOrder_4 (by decide) (by omega) (fun c4 => ?_) (fun c4 => ?_)
    · refine z_lload_n dCls_mixedWithOrder_13 rfl ?_
      refine z_lconst dCls_mixedWithOrder_14 (1) rfl ?_
      refine z_callS MS_Cls_mixed lk_Cls_279 dCls_mixedWithOrder_15 (k_Cls_mixed) rfl rfl (Nat.le_of_ble_eq_true rfl)  (Nat.le_of_ble_eq_true rfl) (Nat.le_of_ble_eq_true rfl) (Nat.le_of_eq (Nat.zero_add _)) (Nat.le_of_eq (Nat.zero_add _)) (fun _ _ q => q.elim) ?_
      rintro _ _ ⟨rfl, rfl⟩
      refine z_lstore dCls_mixedWithOrder_18 (Nat.le_of_ble_eq_true rfl) ?_
      refine z_lload dCls_mixedWithOrder_20 rfl ?_
      refine z_aload_n dCls_mixedWithOrder_22 rfl ?_
      refine z_get (k := 2) fd_Cls (by decide) fl_Cls_24 dCls_mixedWithOrder_23 (by assumption) (by rfl) ?_
      refine z_aload_n dCls_mixedWithOrder_26 rfl ?_
      refine z_callVN MV_Rec_costBy lk_Cls_241 dCls_mixedWithOrder_27 (k_Rec_costBy hrA c5 c6) rfl rfl (Nat.le_of_ble_eq_true rfl) rfl (by assumption) (Nat.le_of_ble_eq_true rfl) (Nat.le_of_ble_eq_true rfl) (Nat.le_of_eq (Nat.zero_add _)) (Nat.le_of_eq (Nat.zero_add _)) (fun _ _ q => q.elim) ?_
      rintro _ _ ⟨rfl, rfl⟩
      rw [zCost_cg d6]
      refine z_i2lw dCls_mixedWithOrder_30 ?_
      refine z_callS MS_Cls_mixed lk_Cls_279 dCls_mixedWithOrder_31 (k_Cls_mixed) rfl rfl (Nat.le_of_ble_eq_true rfl)  (Nat.le_of_ble_eq_true rfl) (Nat.le_of_ble_eq_true rfl) (Nat.le_of_eq (Nat.zero_add _)) (Nat.le_of_eq (Nat.zero_add _)) (fun _ _ q => q.elim) ?_
      rintro _ _ ⟨rfl, rfl⟩
      refine z_lstore dCls_mixedWithOrder_34 (Nat.le_of_ble_eq_true rfl) ?_
      refine z_lload dCls_mixedWithOrder_36 rfl ?_
      refine z_aload_n dCls_mixedWithOrder_38 rfl ?_
      refine z_callVN MV_Row_inversions lk_Cls_244 dCls_mixedWithOrder_39 (k_Row_inversions hrA) rfl rfl (Nat.le_of_ble_eq_true rfl) rfl (by assumption) (Nat.le_of_ble_eq_true rfl) (Nat.le_of_ble_eq_true rfl) (Nat.le_of_eq (Nat.zero_add _)) (Nat.le_of_eq (Nat.zero_add _)) (fun _ _ q => q.elim) ?_
      rintro _ _ ⟨rfl, rfl⟩
      refine z_i2lw dCls_mixedWithOrder_42 ?_
      refine z_callS MS_Cls_mixed lk_Cls_279 dCls_mixedWithOrder_43 (k_Cls_mixed) rfl rfl (Nat.le_of_ble_eq_true rfl)  (Nat.le_of_ble_eq_true rfl) (Nat.le_of_ble_eq_true rfl) (Nat.le_of_eq (Nat.zero_add _)) (Nat.le_of_eq (Nat.zero_add _)) (fun _ _ q => q.elim) ?_
      rintro _ _ ⟨rfl, rfl⟩
      refine z_lstore dCls_mixedWithOrder_46 (Nat.le_of_ble_eq_true rfl) ?_
      refine z_lload dCls_mixedWithOrder_48 rfl ?_
      refine z_aload_n dCls_mixedWithOrder_50 rfl ?_
      refine z_get (k := 2) fd_Cls (by decide) fl_Cls_24 dCls_mixedWithOrder_51 (by assumption) (by rfl) ?_
      refine z_aload_n dCls_mixedWithOrder_54 rfl ?_
      refine z_callVN MV_Rec_boundBy lk_Cls_247 dCls_mixedWithOrder_55 (k_Rec_boundBy hrA c5 c6) rfl rfl (Nat.le_of_ble_eq_true rfl) rfl (by assumption) (Nat.le_of_ble_eq_true rfl) (Nat.le_of_ble_eq_true rfl) (Nat.le_of_eq (Nat.zero_add _)) (Nat.le_of_eq (Nat.zero_add _)) (fun _ _ q => q.elim) ?_
      rintro _ _ ⟨rfl, rfl⟩
      rw [zCost_cg d6]
      refine z_i2lw dCls_mixedWithOrder_58 ?_
      refine z_callS MS_Cls_mixed lk_Cls_279 dCls_mixedWithOrder_59 (k_Cls_mixed) rfl rfl (Nat.le_of_ble_eq_true rfl)  (Nat.le_of_ble_eq_true rfl) (Nat.le_of_ble_eq_true rfl) (Nat.le_of_eq (Nat.zero_add _)) (Nat.le_of_eq (Nat.zero_add _)) (fun _ _ q => q.elim) ?_
      rintro _ _ ⟨rfl, rfl⟩
      refine z_lret rfl dCls_mixedWithOrder_62 ?_
      first
        | (exfalso; omega)
        | (unfold zDgO; rw [if_pos m9]; exact ⟨rfl, rfl⟩)
        | (unfold zDgO; rw [if_neg m9]; exact ⟨rfl, rfl⟩)
    · refine z_lload_n dCls_mixedWithOrder_7 rfl ?_
      refine z_lconst dCls_mixedWithOrder_8 (0) rfl ?_
      refine z_callS MS_Cls_mixed lk_Cls_279 dCls_mixedWithOrder_9 (k_Cls_mixed) rfl rfl (Nat.le_of_ble_eq_true rfl)  (Nat.le_of_ble_eq_true rfl) (Nat.le_of_ble_eq_true rfl) (Nat.le_of_eq (Nat.zero_add _)) (Nat.le_of_eq (Nat.zero_add _)) (fun _ _ q => q.elim) ?_
      rintro _ _ ⟨rfl, rfl⟩
      refine z_lret rfl dCls_mixedWithOrder_12 ?_
      first
        | (exfalso; omega)
        | (unfold zDgO; rw [if_pos m9]; exact ⟨rfl, rfl⟩)
        | (unfold zDgO; rw [if_neg m9]; exact ⟨rfl, rfl⟩)
theorem l_dg1 (hC : zCls G h ad S) (hO : zOk S) (K : ∀ y z, zR G l (zMJ G hCls_digest 7 (fun v h' => ∃ b9 : Int, ((b9 = 1 ∧ zSnd S) ∨ (b9 = 0 ∧ ¬ zSnd S)) ∧ v = some (zl (zD6 S * 31 + b9)) ∧ zCls G h' ad S ∧ zFrm ad h h') zNo 0 0) 0 0 h 28 [some (.ref (ad 0)), some (zl (zD1 S)), none, y, z] []) :
    ∀ (n : Nat) (m : Nat), 5 - m < n → m ≤ 5 → ∀ z, zR G l (zMJ G hCls_digest 7 (fun v h' => ∃ b9 : Int, ((b9 = 1 ∧ zSnd S) ∨ (b9 = 0 ∧ ¬ zSnd S)) ∧ v = some (zl (zD6 S * 31 + b9)) ∧ zCls G h' ad S ∧ zFrm ad h h') zNo 0 0) 0 0 h 6 [some (.ref (ad 0)), some (zl (zFld (fun n e => e * 31 + zwd (zHv S n)) (7834) m)), none, some (zi (m : Int)), z] [] := by
  intro n
  induction n with
  | zero => intro m q1 q2 z; omega
  | succ n ih =>
  intro m q1 q2 z
  obtain ⟨c1, c2, ⟨g3, c3, d3⟩, ⟨g4, c4, d4⟩, c5, ⟨T6, c6, d6⟩, c7, c8, ⟨R9, c9⟩, c10⟩ := id hC
  refine z_iload_n dCls_digest_6 rfl ?_
  refine z_iconst dCls_digest_7 ?_
  refine z_icmp_gt (tgt := 28) dCls_digest_8 (by decide) (by omega) (by omega) (fun c8 => ?_) (fun c8 => ?_)
  · have em : m = 5 := by omega
    subst em
    exact K _ _
  · refine z_lload_n dCls_digest_11 rfl ?_
    refine z_aload_n dCls_digest_12 rfl ?_
    refine z_iload_n dCls_digest_13 rfl ?_
    refine z_callV MV_Cls_house lk_Cls_276 dCls_digest_14 (k_Cls_house0 hC (by omega)) rfl rfl (Nat.le_of_ble_eq_true rfl) rfl (by assumption) (Nat.le_of_ble_eq_true rfl) (Nat.le_of_ble_eq_true rfl) (Nat.le_of_eq (Nat.zero_add _)) (Nat.le_of_eq (Nat.zero_add _)) (fun _ _ q => q.elim) ?_
    rintro _ _ ⟨rfl, rfl⟩
    refine z_i2lw dCls_digest_17 ?_
    refine z_callS MS_Cls_mixed lk_Cls_279 dCls_digest_18 (k_Cls_mixed) rfl rfl (Nat.le_of_ble_eq_true rfl)  (Nat.le_of_ble_eq_true rfl) (Nat.le_of_ble_eq_true rfl) (Nat.le_of_eq (Nat.zero_add _)) (Nat.le_of_eq (Nat.zero_add _)) (fun _ _ q => q.elim) ?_
    rintro _ _ ⟨rfl, rfl⟩
    refine z_lstore_n dCls_digest_21 (Nat.le_of_ble_eq_true rfl) ?_
    refine z_iinc dCls_digest_22 rfl (Nat.le_of_ble_eq_true rfl) ?_
    refine z_goto (tgt := 6) dCls_digest_25 (by decide) ?_
    exact ih (m + 1) (by omega) (by omega) _
theorem l_dg2 (hC : zCls G h ad S) (hO : zOk S) (K : ∀ y z, zR G l (zMJ G hCls_digest 7 (fun v h' => ∃ b9 : Int, ((b9 = 1 ∧ zSnd S) ∨ (b9 = 0 ∧ ¬ zSnd S)) ∧ v = some (zl (zD6 S * 31 + b9)) ∧ zCls G h' ad S ∧ zFrm ad h h') zNo 0 0) 0 0 h 52 [some (.ref (ad 0)), some (zl (zD2 S)), none, y, z] []) :
    ∀ (n : Nat) (m : Nat), 4 - m < n → m ≤ 4 → ∀ z, zR G l (zMJ G hCls_digest 7 (fun v h' => ∃ b9 : Int, ((b9 = 1 ∧ zSnd S) ∨ (b9 = 0 ∧ ¬ zSnd S)) ∧ v = some (zl (zD6 S * 31 + b9)) ∧ zCls G h' ad S ∧ zFrm ad h h') zNo 0 0) 0 0 h 30 [some (.ref (ad 0)), some (zl (zFld (fun n e => zDgL e (S.1 n)) (zD1 S) m)), none, some (zi (m : Int)), z] [] := by
  intro n
  induction n with
  | zero => intro m q1 q2 z; omega
  | succ n ih =>
  intro m q1 q2 z
  obtain ⟨c1, c2, ⟨g3, c3, d3⟩, ⟨g4, c4, d4⟩, c5, ⟨T6, c6, d6⟩, c7, c8, ⟨R9, c9⟩, c10⟩ := id hC
  refine z_iload_n dCls_digest_30 rfl ?_
  refine z_iconst dCls_digest_31 ?_
  refine z_icmp_ge (tgt := 52) dCls_digest_32 (by decide) (by omega) (by omega) (fun c32 => ?_) (fun c32 => ?_)
  · have em : m = 4 := by omega
    subst em
    exact K _ _
  · have hrm := hC.ls (k := m) (by omega)
    obtain ⟨fm, em, -⟩ := id hrm
    refine z_lload_n dCls_digest_35 rfl ?_
    refine z_aload_n dCls_digest_36 rfl ?_
    refine z_get (k := 0) fd_Cls (by decide) fl_Cls_11 dCls_digest_37 (by assumption) (by rfl) ?_
    refine z_iload_n dCls_digest_40 rfl ?_
    refine z_aald (t := 5) (ty := .object "Cursorlist$Row") rfl rfl dCls_digest_41 c3 (by refine ⟨?_, ?_, ?_⟩ <;> omega) ?_
    rw [show (m : Int).toNat = m by omega, d3 m (by omega)]
    refine z_callS MS_Cls_mixedWithList lk_Cls_283 dCls_digest_42 (k_Cls_mixedWithList hrm) rfl rfl (Nat.le_of_ble_eq_true rfl)  (Nat.le_of_ble_eq_true rfl) (Nat.le_of_ble_eq_true rfl) (Nat.le_of_eq (Nat.zero_add _)) (Nat.le_of_eq (Nat.zero_add _)) (fun _ _ q => q.elim) ?_
    rintro _ _ ⟨rfl, rfl⟩
    refine z_lstore_n dCls_digest_45 (Nat.le_of_ble_eq_true rfl) ?_
    refine z_iinc dCls_digest_46 rfl (Nat.le_of_ble_eq_true rfl) ?_
    refine z_goto (tgt := 30) dCls_digest_49 (by decide) ?_
    exact ih (m + 1) (by omega) (by omega) _
theorem l_dg3a (hC : zCls G h ad S) (hO : zOk S) {c : Nat} {e : Int} (hc : c < 3) (K : ∀ y , zR G l (zMJ G hCls_digest 7 (fun v h' => ∃ b9 : Int, ((b9 = 1 ∧ zSnd S) ∨ (b9 = 0 ∧ ¬ zSnd S)) ∧ v = some (zl (zD6 S * 31 + b9)) ∧ zCls G h' ad S ∧ zFrm ad h h') zNo 0 0) 0 0 h 87 [some (.ref (ad 0)), some (zl (zDc S c e)), none, some (zi (c : Int)), y] []) :
    ∀ (n : Nat) (m : Nat), 6 - m < n → m ≤ 6 → zR G l (zMJ G hCls_digest 7 (fun v h' => ∃ b9 : Int, ((b9 = 1 ∧ zSnd S) ∨ (b9 = 0 ∧ ¬ zSnd S)) ∧ v = some (zl (zD6 S * 31 + b9)) ∧ zCls G h' ad S ∧ zFrm ad h h') zNo 0 0) 0 0 h 62 [some (.ref (ad 0)), some (zl (zFld (fun n e => e * 31 + zwd (zCuV S c n)) (e) m)), none, some (zi (c : Int)), some (zi (m : Int))] [] := by
  intro n
  induction n with
  | zero => intro m q1 q2; omega
  | succ n ih =>
  intro m q1 q2
  obtain ⟨c1, c2, ⟨g3, c3, d3⟩, ⟨g4, c4, d4⟩, c5, ⟨T6, c6, d6⟩, c7, c8, ⟨R9, c9⟩, c10⟩ := id hC
  refine z_iload dCls_digest_62 rfl ?_
  refine z_iconst dCls_digest_64 ?_
  refine z_icmp_gt (tgt := 87) dCls_digest_65 (by decide) (by omega) (by omega) (fun c65 => ?_) (fun c65 => ?_)
  · have em : m = 6 := by omega
    subst em
    exact K _
  · refine z_lload_n dCls_digest_68 rfl ?_
    refine z_aload_n dCls_digest_69 rfl ?_
    refine z_iload_n dCls_digest_70 rfl ?_
    refine z_iload dCls_digest_71 rfl ?_
    refine z_callV MV_Cls_ofCursor lk_Cls_287 dCls_digest_73 (k_Cls_ofCursor0 hC hO hc (by omega)) rfl rfl (Nat.le_of_ble_eq_true rfl) rfl (by assumption) (Nat.le_of_ble_eq_true rfl) (Nat.le_of_ble_eq_true rfl) (Nat.le_of_eq (Nat.zero_add _)) (Nat.le_of_eq (Nat.zero_add _)) (fun _ _ q => q.elim) ?_
    rintro _ _ ⟨rfl, rfl⟩
    refine z_i2lw dCls_digest_76 ?_
    refine z_callS MS_Cls_mixed lk_Cls_279 dCls_digest_77 (k_Cls_mixed) rfl rfl (Nat.le_of_ble_eq_true rfl)  (Nat.le_of_ble_eq_true rfl) (Nat.le_of_ble_eq_true rfl) (Nat.le_of_eq (Nat.zero_add _)) (Nat.le_of_eq (Nat.zero_add _)) (fun _ _ q => q.elim) ?_
    rintro _ _ ⟨rfl, rfl⟩
    refine z_lstore_n dCls_digest_80 (Nat.le_of_ble_eq_true rfl) ?_
    refine z_iinc dCls_digest_81 rfl (Nat.le_of_ble_eq_true rfl) ?_
    refine z_goto (tgt := 62) dCls_digest_84 (by decide) ?_
    exact ih (m + 1) (by omega) (by omega)
theorem l_dg3 (hC : zCls G h ad S) (hO : zOk S) (K : ∀ y z, zR G l (zMJ G hCls_digest 7 (fun v h' => ∃ b9 : Int, ((b9 = 1 ∧ zSnd S) ∨ (b9 = 0 ∧ ¬ zSnd S)) ∧ v = some (zl (zD6 S * 31 + b9)) ∧ zCls G h' ad S ∧ zFrm ad h h') zNo 0 0) 0 0 h 93 [some (.ref (ad 0)), some (zl (zD3 S)), none, y, z] []) :
    ∀ (n : Nat) (m : Nat), 3 - m < n → m ≤ 3 → ∀ z, zR G l (zMJ G hCls_digest 7 (fun v h' => ∃ b9 : Int, ((b9 = 1 ∧ zSnd S) ∨ (b9 = 0 ∧ ¬ zSnd S)) ∧ v = some (zl (zD6 S * 31 + b9)) ∧ zCls G h' ad S ∧ zFrm ad h h') zNo 0 0) 0 0 h 54 [some (.ref (ad 0)), some (zl (zFld (fun n e => zDc S n e) (zD2 S) m)), none, some (zi (m : Int)), z] [] := by
  intro n
  induction n with
  | zero => intro m q1 q2 z; omega
  | succ n ih =>
  intro m q1 q2 z
  obtain ⟨c1, c2, ⟨g3, c3, d3⟩, ⟨g4, c4, d4⟩, c5, ⟨T6, c6, d6⟩, c7, c8, ⟨R9, c9⟩, c10⟩ := id hC
  refine z_iload_n dCls_digest_54 rfl ?_
  refine z_iconst dCls_digest_55 ?_
  refine z_icmp_ge (tgt := 93) dCls_digest_56 (by decide) (by omega) (by omega) (fun c56 => ?_) (fun c56 => ?_)
  · have em : m = 3 := by omega
    subst em
    exact K _ _
  · refine z_iconst dCls_digest_59 ?_
    refine z_istore dCls_digest_60 (Nat.le_of_ble_eq_true rfl) ?_
    refine l_dg3a hC hO (by omega) (fun y => ?_) 7 0 (by omega) (by omega)
    refine z_iinc dCls_digest_87 rfl (Nat.le_of_ble_eq_true rfl) ?_
    refine z_goto (tgt := 54) dCls_digest_90 (by decide) ?_
    exact ih (m + 1) (by omega) (by omega) _
theorem l_dg4 (hC : zCls G h ad S) (hO : zOk S) (K : ∀ y z, zR G l (zMJ G hCls_digest 7 (fun v h' => ∃ b9 : Int, ((b9 = 1 ∧ zSnd S) ∨ (b9 = 0 ∧ ¬ zSnd S)) ∧ v = some (zl (zD6 S * 31 + b9)) ∧ zCls G h' ad S ∧ zFrm ad h h') zNo 0 0) 0 0 h 117 [some (.ref (ad 0)), some (zl (zD4 S)), none, y, z] []) :
    ∀ (n : Nat) (m : Nat), 4 - m < n → m ≤ 4 → ∀ z, zR G l (zMJ G hCls_digest 7 (fun v h' => ∃ b9 : Int, ((b9 = 1 ∧ zSnd S) ∨ (b9 = 0 ∧ ¬ zSnd S)) ∧ v = some (zl (zD6 S * 31 + b9)) ∧ zCls G h' ad S ∧ zFrm ad h h') zNo 0 0) 0 0 h 95 [some (.ref (ad 0)), some (zl (zFld (fun n e => e * 31 + zwd (zAkV S n)) (zD3 S) m)), none, some (zi (m : Int)), z] [] := by
  intro n
  induction n with
  | zero => intro m q1 q2 z; omega
  | succ n ih =>
  intro m q1 q2 z
  obtain ⟨c1, c2, ⟨g3, c3, d3⟩, ⟨g4, c4, d4⟩, c5, ⟨T6, c6, d6⟩, c7, c8, ⟨R9, c9⟩, c10⟩ := id hC
  refine z_iload_n dCls_digest_95 rfl ?_
  refine z_iconst dCls_digest_96 ?_
  refine z_icmp_gt (tgt := 117) dCls_digest_97 (by decide) (by omega) (by omega) (fun c97 => ?_) (fun c97 => ?_)
  · have em : m = 4 := by omega
    subst em
    exact K _ _
  · refine z_lload_n dCls_digest_100 rfl ?_
    refine z_aload_n dCls_digest_101 rfl ?_
    refine z_iload_n dCls_digest_102 rfl ?_
    refine z_callV MV_Cls_asked lk_Cls_290 dCls_digest_103 (k_Cls_asked0 hC (by omega)) rfl rfl (Nat.le_of_ble_eq_true rfl) rfl (by assumption) (Nat.le_of_ble_eq_true rfl) (Nat.le_of_ble_eq_true rfl) (Nat.le_of_eq (Nat.zero_add _)) (Nat.le_of_eq (Nat.zero_add _)) (fun _ _ q => q.elim) ?_
    rintro _ _ ⟨rfl, rfl⟩
    refine z_i2lw dCls_digest_106 ?_
    refine z_callS MS_Cls_mixed lk_Cls_279 dCls_digest_107 (k_Cls_mixed) rfl rfl (Nat.le_of_ble_eq_true rfl)  (Nat.le_of_ble_eq_true rfl) (Nat.le_of_ble_eq_true rfl) (Nat.le_of_eq (Nat.zero_add _)) (Nat.le_of_eq (Nat.zero_add _)) (fun _ _ q => q.elim) ?_
    rintro _ _ ⟨rfl, rfl⟩
    refine z_lstore_n dCls_digest_110 (Nat.le_of_ble_eq_true rfl) ?_
    refine z_iinc dCls_digest_111 rfl (Nat.le_of_ble_eq_true rfl) ?_
    refine z_goto (tgt := 95) dCls_digest_114 (by decide) ?_
    exact ih (m + 1) (by omega) (by omega) _
theorem l_dg6 (hC : zCls G h ad S) (hO : zOk S) (K : ∀ y z, zR G l (zMJ G hCls_digest 7 (fun v h' => ∃ b9 : Int, ((b9 = 1 ∧ zSnd S) ∨ (b9 = 0 ∧ ¬ zSnd S)) ∧ v = some (zl (zD6 S * 31 + b9)) ∧ zCls G h' ad S ∧ zFrm ad h h') zNo 0 0) 0 0 h 154 [some (.ref (ad 0)), some (zl (zD6 S)), none, y, z] []) :
    ∀ (n : Nat) (m : Nat), 4 - m < n → m ≤ 4 → ∀ z, zR G l (zMJ G hCls_digest 7 (fun v h' => ∃ b9 : Int, ((b9 = 1 ∧ zSnd S) ∨ (b9 = 0 ∧ ¬ zSnd S)) ∧ v = some (zl (zD6 S * 31 + b9)) ∧ zCls G h' ad S ∧ zFrm ad h h') zNo 0 0) 0 0 h 131 [some (.ref (ad 0)), some (zl (zFld (fun n e => zDgO S e (S.1 n)) (zD5 S) m)), none, some (zi (m : Int)), z] [] := by
  intro n
  induction n with
  | zero => intro m q1 q2 z; omega
  | succ n ih =>
  intro m q1 q2 z
  obtain ⟨c1, c2, ⟨g3, c3, d3⟩, ⟨g4, c4, d4⟩, c5, ⟨T6, c6, d6⟩, c7, c8, ⟨R9, c9⟩, c10⟩ := id hC
  refine z_iload_n dCls_digest_131 rfl ?_
  refine z_iconst dCls_digest_132 ?_
  refine z_icmp_ge (tgt := 154) dCls_digest_133 (by decide) (by omega) (by omega) (fun c133 => ?_) (fun c133 => ?_)
  · have em : m = 4 := by omega
    subst em
    exact K _ _
  · refine z_aload_n dCls_digest_136 rfl ?_
    refine z_lload_n dCls_digest_137 rfl ?_
    refine z_aload_n dCls_digest_138 rfl ?_
    refine z_get (k := 0) fd_Cls (by decide) fl_Cls_11 dCls_digest_139 (by assumption) (by rfl) ?_
    refine z_iload_n dCls_digest_142 rfl ?_
    refine z_aald (t := 5) (ty := .object "Cursorlist$Row") rfl rfl dCls_digest_143 c3 (by refine ⟨?_, ?_, ?_⟩ <;> omega) ?_
    rw [show (m : Int).toNat = m by omega, d3 m (by omega)]
    refine z_callV MV_Cls_mixedWithOrder lk_Cls_296 dCls_digest_144 (k_Cls_mixedWithOrder hC (by omega)) rfl rfl (Nat.le_of_ble_eq_true rfl) rfl (by assumption) (Nat.le_of_ble_eq_true rfl) (Nat.le_of_ble_eq_true rfl) (Nat.le_of_eq (Nat.zero_add _)) (Nat.le_of_eq (Nat.zero_add _)) (fun _ _ q => q.elim) ?_
    rintro _ _ ⟨rfl, rfl⟩
    refine z_lstore_n dCls_digest_147 (Nat.le_of_ble_eq_true rfl) ?_
    refine z_iinc dCls_digest_148 rfl (Nat.le_of_ble_eq_true rfl) ?_
    refine z_goto (tgt := 131) dCls_digest_151 (by decide) ?_
    exact ih (m + 1) (by omega) (by omega) _
theorem k_Cls_digest (hC : zCls G h ad S) (hO : zOk S) : zM G l hCls_digest yCls_digest 7 [.ref (ad 0)] h (fun v h' => ∃ b9 : Int, ((b9 = 1 ∧ zSnd S) ∨ (b9 = 0 ∧ ¬ zSnd S)) ∧ v = some (zl (zD6 S * 31 + b9)) ∧ zCls G h' ad S ∧ zFrm ad h h') zNo 0 0 := by
  obtain ⟨c1, c2, ⟨g3, c3, d3⟩, ⟨g4, c4, d4⟩, c5, ⟨T6, c6, d6⟩, c7, c8, ⟨R9, c9⟩, c10⟩ := id hC
  refine zM.of [some (.ref (ad 0)), none, none, none, none] (by decide +kernel) rfl (by decide) rfl (Nat.le_of_ble_eq_true rfl) rfl ?_
  refine z_ldc2 (v := (7834 : Int64)) dCls_digest_0 (7834) (by decide) ct_Cls_274 ?_
  refine z_lstore_n dCls_digest_3 (Nat.le_of_ble_eq_true rfl) ?_
  refine z_iconst dCls_digest_4 ?_
  refine z_istore_n dCls_digest_5 (Nat.le_of_ble_eq_true rfl) ?_
  refine l_dg1 hC hO (fun y z => ?_) 6 0 (by omega) (by omega) _
  refine z_iconst dCls_digest_28 ?_
  refine z_istore_n dCls_digest_29 (Nat.le_of_ble_eq_true rfl) ?_
  refine l_dg2 hC hO (fun y z => ?_) 5 0 (by omega) (by omega) _
  refine z_iconst dCls_digest_52 ?_
  refine z_istore_n dCls_digest_53 (Nat.le_of_ble_eq_true rfl) ?_
  refine l_dg3 hC hO (fun y z => ?_) 4 0 (by omega) (by omega) _
  refine z_iconst dCls_digest_93 ?_
  refine z_istore_n dCls_digest_94 (Nat.le_of_ble_eq_true rfl) ?_
  refine l_dg4 hC hO (fun y z => ?_) 5 0 (by omega) (by omega) _
  obtain ⟨f18, e18, -⟩ := id c10
  refine z_lload_n dCls_digest_117 rfl ?_
  refine z_aload_n dCls_digest_118 rfl ?_
  refine z_get (k := 2) fd_Cls (by decide) fl_Cls_24 dCls_digest_119 (by assumption) (by rfl) ?_
  refine z_getN (k := 0) fd_Rec (by decide) fl_Cls_234 dCls_digest_122 (by assumption) (by rfl) ?_
  refine z_callS MS_Cls_mixedWithItems lk_Cls_293 dCls_digest_125 (k_Cls_mixedWithItems c10) rfl rfl (Nat.le_of_ble_eq_true rfl)  (Nat.le_of_ble_eq_true rfl) (Nat.le_of_ble_eq_true rfl) (Nat.le_of_eq (Nat.zero_add _)) (Nat.le_of_eq (Nat.zero_add _)) (fun _ _ q => q.elim) ?_
  rintro _ _ ⟨rfl, rfl⟩
  refine z_lstore_n dCls_digest_128 (Nat.le_of_ble_eq_true rfl) ?_
  refine z_iconst dCls_digest_129 ?_
  refine z_istore_n dCls_digest_130 (Nat.le_of_ble_eq_true rfl) ?_
  refine l_dg6 hC hO (fun y z => ?_) 5 0 (by omega) (by omega) _
  refine z_lload_n dCls_digest_154 rfl ?_
  refine z_aload_n dCls_digest_155 rfl ?_
  refine z_callV MV_Cls_isSound lk_Cls_299 dCls_digest_156 (k_Cls_isSound hC hO) rfl rfl (Nat.le_of_ble_eq_true rfl) rfl (by assumption) (Nat.le_of_ble_eq_true rfl) (Nat.le_of_ble_eq_true rfl) (Nat.le_of_eq (Nat.zero_add _)) (Nat.le_of_eq (Nat.zero_add _)) (fun _ _ q => q.elim) ?_
  rintro _ h2 ⟨b9, rfl, hb9, hC2, fz2⟩
  refine z_callS MS_Cls_numberOf lk_Cls_192 dCls_digest_159 (k_Cls_numberOf (by omega)) rfl rfl (Nat.le_of_ble_eq_true rfl)  (Nat.le_of_ble_eq_true rfl) (Nat.le_of_ble_eq_true rfl) (Nat.le_of_eq (Nat.zero_add _)) (Nat.le_of_eq (Nat.zero_add _)) (fun _ _ q => q.elim) ?_
  rintro _ _ ⟨rfl, rfl⟩
  refine z_i2lw dCls_digest_162 ?_
  refine z_callS MS_Cls_mixed lk_Cls_279 dCls_digest_163 (k_Cls_mixed) rfl rfl (Nat.le_of_ble_eq_true rfl)  (Nat.le_of_ble_eq_true rfl) (Nat.le_of_ble_eq_true rfl) (Nat.le_of_eq (Nat.zero_add _)) (Nat.le_of_eq (Nat.zero_add _)) (fun _ _ q => q.elim) ?_
  rintro _ _ ⟨rfl, rfl⟩
  refine z_lret rfl dCls_digest_166 ?_
  first
    | (rcases hb9 with ⟨rfl, hb9⟩ | ⟨rfl, hb9⟩
       · exact ⟨1, Or.inl ⟨rfl, hb9⟩, rfl, hC2, fz2⟩
       · exact ⟨0, Or.inr ⟨rfl, hb9⟩, rfl, hC2, fz2⟩)
end CLS15
end
section
section CLS16
variable {G : zG} {l : Launch} {h h' : zHp} {ad : Nat → Nat} {S : zSt}
def zDm (h : zHp) (n : Nat) : Prop := ∀ a e, h a = some e → a < n
theorem k_Rec_init {r : Nat} (e : h r = some (.inr (zkRec, [.null, .null, zi 0, zi 0, zi 0]))) : zM G l hRec_init yRec_init 6 [.ref r] h (fun v h' => v = none ∧ ∃ q qa t, zDm h q ∧ G.2.2 ≤ q ∧ q < qa ∧ qa < t ∧ h' r = some (.inr (zkRec, [.ref q, .ref t, zi 0, zi 0, zi (-1)])) ∧ (∃ T', h' t = some (zInts G 8 T') ∧ ∀ k : Nat, k < 8 → T' k = 0) ∧ zRow G h' q qa (zPl9 8) ∧ ∀ x, x ≠ r → x ≠ q → x ≠ qa → x ≠ t → h' x = h x) zNo 3 26 := by
  refine zM.of [some (.ref r)] (by decide +kernel) rfl (by decide) rfl (Nat.le_of_ble_eq_true rfl) rfl ?_
  refine z_aload_n dRec_init_0 rfl ?_
  refine z_obj lk_Rec_3 ob_i ob_c dRec_init_1 (Nat.le_of_ble_eq_true rfl) (Nat.le_of_ble_eq_true rfl) (Nat.le_of_ble_eq_true rfl) ?_
  refine z_aload_n dRec_init_4 rfl ?_
  refine z_new (fs := [.null, zi 0]) (bc' := 2) (bs' := 24) fd_Row cl_Rec_9 im_Row in_Row (by intro j hj; match j, hj with | 0, _ => rfl | 1, _ => rfl) dRec_init_5 (by omega) (by omega) (fun q hq gq => ?_)
  refine z_hx (fun h1 p1 f1 => ?_)
  have n1 : r ≠ q := Nat.ne_of_lt (hq r _ e)
  refine z_dup rfl dRec_init_8 ?_
  refine z_callIN MI_Row_init lk_Rec_11 dRec_init_9 (k_Row_init p1) rfl rfl (Nat.le_of_ble_eq_true rfl)  (Nat.le_of_ble_eq_true rfl) (Nat.le_of_ble_eq_true rfl) (bc' := 1) (bs' := 8) (by decide) (by decide) (fun _ _ q => q.elim) ?_
  rintro _ h2 ⟨rfl, qa, hqa, gqa, hr2, f2⟩
  have n2 : q < qa := hqa q _ p1
  have n3 : r < qa := hqa r _ ((f1 r n1).trans e)
  have n4 : r < q := hq r _ e
  have e2 := (f2 r n1 (by omega)).trans ((f1 r n1).trans e)
  refine z_putF (k := 0) fd_Rec (by decide) fl_Rec_12 rfl rfl rfl dRec_init_12 (by assumption) (by simp) rfl rfl ?_
  refine z_hx (fun h3 p3 f3 => ?_)
  have hr3 := hr2.kept (f3 q (by omega)) (f3 qa (by omega))
  refine z_aload_n dRec_init_15 rfl ?_
  refine z_bipush dRec_init_16 rfl ?_
  refine z_newa (at9 := .int) (ty := .int) (bc' := 0) (bs' := 0) (t := 0) (x := .inl (fun _ => zI 0)) rfl trivial rfl ac_int (fun cA => by rw [vp_cell_i]; rfl) (by decide) dRec_init_18 (by decide) (by decide) (fun t ht gt => ?_)
  refine z_hx (fun h4 p4 f4 => ?_)
  obtain ⟨fr3, er3, er3b, -⟩ := id hr3
  have n5 : qa < t := ht qa _ er3b
  have n6 : r < t := ht r _ p3
  have n7 : q < t := ht q _ er3
  have et4 : h4 t = some (zInts G 8 (fun _ => 0)) := p4
  have hr4 := hr3.kept (f4 q (by omega)) (f4 qa (by omega))
  have e4 := (f4 r (by omega)).trans p3
  refine z_putF (k := 1) fd_Rec (by decide) fl_Rec_18 rfl rfl rfl dRec_init_20 (by assumption) (by simp) rfl rfl ?_
  refine z_hx (fun h5 p5 f5 => ?_)
  have hr5 := hr4.kept (f5 q (by omega)) (f5 qa (by omega))
  have et5 := (f5 t (by omega)).trans et4
  have e5 : h5 r = some (.inr (zkRec, [.ref q, .ref t, zi 0, zi 0, zi 0])) := p5
  refine z_aload_n dRec_init_23 rfl ?_
  refine z_callV MV_Rec_begin lk_Rec_22 dRec_init_24 (k_Rec_begin e5 et5 hr5 (by omega) (by omega) (by omega) (by omega) (by omega)) rfl rfl (Nat.le_of_ble_eq_true rfl) rfl (by assumption) (Nat.le_of_ble_eq_true rfl) (Nat.le_of_ble_eq_true rfl) (Nat.le_of_eq (Nat.zero_add _)) (Nat.le_of_eq (Nat.zero_add _)) (fun _ _ q => q.elim) ?_
  rintro _ h6 ⟨rfl, p6, q6, hr6, f6⟩
  refine z_vret rfl dRec_init_27 ?_
  refine ⟨rfl, q, qa, t, hq, gq, n2, n5, p6, q6, hr6, fun x x1 x2 x3 x4 => ?_⟩
  exact (f6 x x1 x4 x2 x3).trans ((f5 x x1).trans ((f4 x x4).trans ((f3 x x1).trans ((f2 x x2 x3).trans (f1 x x2)))))
end CLS16
end
section
section CLS17
variable {G : zG} {l : Launch} {h h' : zHp} {ad : Nat → Nat} {S : zSt}
def zIv (G : zG) (h h1 : zHp) (q1 lo m : Nat) (R A : Nat → Nat) (g : Nat → Option Nat) : Prop :=
  h1 q1 = some (zRefs G 5 4 g) ∧ (∀ k, k < m → g k = some (R k) ∧ lo < R k ∧ R k < A k ∧ G.2.2 ≤ R k ∧ zRow G h1 (R k) (A k) []) ∧ (∀ j k, j < k → k < m → A j < R k) ∧ ∀ x, x ≠ q1 → (∀ k, k < m → x ≠ R k ∧ x ≠ A k) → h1 x = h x
def zIv2 (G : zG) (h h1 : zHp) (q2 lo m : Nat) (C : Nat → Nat) (g : Nat → Option Nat) : Prop :=
  h1 q2 = some (zRefs G 6 3 g) ∧ (∀ k, k < m → g k = some (C k) ∧ lo < C k ∧ G.2.2 ≤ C k ∧ zCe h1 (C k) 0 0 0 0 (-1)) ∧ (∀ j k, j < k → k < m → C j < C k) ∧ ∀ x, x ≠ q2 → (∀ k, k < m → x ≠ C k) → h1 x = h x
theorem l_Cls_init1 {d mc ms bc bs : Nat} {Qn : Option Value → zHp → Prop} {Qx : String → zHp → Prop} {b q1 q2 q3 q4 lo : Nat} (hd : 3 ≤ d) (eb : h b = some (.inr (zkCls, [.ref q1, .ref q2, .ref q3, .ref q4, zi 0, zi 0]))) (nb : b ≠ q1) (lb : b ≤ lo) (nl : lo ≠ q1) (l1 : q1 ≤ lo) {el : va_E} (hlo : h lo = some el)
    (K : ∀ (h1 : zHp) R A g y, zIv G h h1 q1 lo 4 R A g → zR G l (zMJ G hCls_init d Qn Qx mc ms) 3 15 h1 68 [some (.ref b), y] []) :
    ∀ (n : Nat) (m : Nat) (h1 : zHp) (R A : Nat → Nat) (g : Nat → Option Nat), 4 - m < n → m ≤ 4 → zIv G h h1 q1 lo m R A g → zR G l (zMJ G hCls_init d Qn Qx mc ms) (3 + 2 * (4 - m)) (15 + 18 * (4 - m)) h1 44 [some (.ref b), some (zi (m : Int))] [] := by
  intro n
  induction n with
  | zero => intro m h1 R A g z1 z2 H; omega
  | succ n ih =>
  intro m h1 R A g z1 z2 H
  obtain ⟨i1, i2, i3, i4⟩ := id H
  have eb1 : h1 b = _ := (i4 b nb (fun k hk => by have := i2 k hk; omega)).trans eb
  have el1 := (i4 lo nl (fun k hk => by have := i2 k hk; omega)).trans hlo
  refine z_iload_n dCls_init_44 rfl ?_
  refine z_iconst dCls_init_45 ?_
  refine z_icmp_ge (tgt := 68) dCls_init_46 (by decide) (by omega) (by omega) (fun c46 => ?_) (fun c46 => ?_)
  · have em : m = 4 := by omega
    subst em
    exact K h1 R A g _ H
  · refine z_aload_n dCls_init_49 rfl ?_
    refine z_get (k := 0) fd_Cls (by decide) fl_Cls_11 dCls_init_50 (by assumption) (by rfl) ?_
    refine z_iload_n dCls_init_53 rfl ?_
    refine z_new (fs := [.null, zi 0]) (bc' := 3 + 2 * (4 - (m + 1)) + 1) (bs' := 15 + 18 * (4 - (m + 1)) + 16) fd_Row cl_Cls_9 im_Row in_Row (by intro j hj; match j, hj with | 0, _ => rfl | 1, _ => rfl) dCls_init_54 (by omega) (by omega) (fun q hq gq => ?_)
    refine z_hx (fun h2 p2 f2 => ?_)
    have n1 : q1 < q := hq q1 _ i1
    have n2 : lo < q := hq lo _ el1
    refine z_dup rfl dCls_init_57 ?_
    refine z_callIN MI_Row_init lk_Cls_28 dCls_init_58 (k_Row_init p2) rfl rfl (Nat.le_of_ble_eq_true rfl)  (by show _ + 1 ≤ d; omega) (by show _ * 64 + 64 ≤ d * 64; omega) (bc' := 3 + 2 * (4 - (m + 1))) (bs' := 15 + 18 * (4 - (m + 1))) (by omega) (by omega) (fun _ _ q => q.elim) ?_
    rintro _ h3 ⟨rfl, a, ha, ga, hr3, f3⟩
    have n3 : q < a := ha q _ p2
    have i13 := (f3 q1 (by omega) (by omega)).trans ((f2 q1 (by omega)).trans i1)
    obtain ⟨fr3, er3, -⟩ := id hr3
    refine z_aastO (t := 5) (C := "Cursorlist$Row") rfl rfl dCls_init_61 i13 er3 (by refine ⟨?_, ?_, ?_⟩ <;> omega) ?_
    refine z_hx (fun h4 p4 f4 => ?_)
    rw [show (m : Int).toNat = m by omega] at p4
    refine z_iinc dCls_init_62 rfl (Nat.le_of_ble_eq_true rfl) ?_
    refine z_goto (tgt := 44) dCls_init_65 (by decide) ?_
    refine ih (m + 1) h4 (zup R m q) (zup A m a) (zup g m (some q)) (by omega) (by omega) ⟨p4, fun k hk => ?_, fun j k hj hk => ?_, fun x x1 x2 => ?_⟩
    · by_cases e9 : k = m
      · subst e9
        rw [zup_same, zup_same, zup_same]
        exact ⟨rfl, n2, n3, gq, hr3.kept (f4 q (by omega)) (f4 a (by omega))⟩
      · rw [zup_ne e9, zup_ne e9, zup_ne e9]
        obtain ⟨j1, j2, j3, j4, j5⟩ := i2 k (by omega)
        obtain ⟨fk, ek, ek2, -⟩ := id j5
        have o1 := hq _ _ ek
        have o2 := hq _ _ ek2
        exact ⟨j1, j2, j3, j4, j5.kept ((f4 _ (by omega)).trans ((f3 _ (by omega) (by omega)).trans (f2 _ (by omega)))) ((f4 _ (by omega)).trans ((f3 _ (by omega) (by omega)).trans (f2 _ (by omega))))⟩
    · by_cases e9 : k = m
      · subst e9
        rw [zup_same, zup_ne (by omega)]
        obtain ⟨j1, j2, j3, j4, j5⟩ := i2 j (by omega)
        obtain ⟨fk, ek, ek2, -⟩ := id j5
        exact hq _ _ ek2
      · rw [zup_ne e9, zup_ne (by omega)]
        exact i3 j k hj (by omega)
    · have x3 := x2 m (by omega)
      rw [zup_same, zup_same] at x3
      refine (f4 x x1).trans ((f3 x x3.1 x3.2).trans ((f2 x x3.1).trans (i4 x x1 (fun k hk => ?_))))
      have x4 := x2 k (by omega)
      rw [zup_ne (by omega), zup_ne (by omega)] at x4
      exact x4
theorem l_Cls_init2 {d mc ms bc bs : Nat} {Qn : Option Value → zHp → Prop} {Qx : String → zHp → Prop} {b q1 q2 q3 q4 lo : Nat} (hd : 3 ≤ d) (eb : h b = some (.inr (zkCls, [.ref q1, .ref q2, .ref q3, .ref q4, zi 0, zi 0]))) (nb : b ≠ q2) (lb : b ≤ lo) (nl : lo ≠ q2) (l1 : q2 ≤ lo) {el : va_E} (hlo : h lo = some el)
    (K : ∀ (h1 : zHp) C g y, zIv2 G h h1 q2 lo 3 C g → zR G l (zMJ G hCls_init d Qn Qx mc ms) 0 0 h1 94 [some (.ref b), y] []) :
    ∀ (n : Nat) (m : Nat) (h1 : zHp) (C : Nat → Nat) (g : Nat → Option Nat), 3 - m < n → m ≤ 3 → zIv2 G h h1 q2 lo m C g → zR G l (zMJ G hCls_init d Qn Qx mc ms) (0 + 1 * (3 - m)) (0 + 5 * (3 - m)) h1 70 [some (.ref b), some (zi (m : Int))] [] := by
  intro n
  induction n with
  | zero => intro m h1 C g z1 z2 H; omega
  | succ n ih =>
  intro m h1 C g z1 z2 H
  obtain ⟨i1, i2, i3, i4⟩ := id H
  have eb1 : h1 b = _ := (i4 b nb (fun k hk => by have := i2 k hk; omega)).trans eb
  have el1 := (i4 lo nl (fun k hk => by have := i2 k hk; omega)).trans hlo
  refine z_iload_n dCls_init_70 rfl ?_
  refine z_iconst dCls_init_71 ?_
  refine z_icmp_ge (tgt := 94) dCls_init_72 (by decide) (by omega) (by omega) (fun c72 => ?_) (fun c72 => ?_)
  · have em : m = 3 := by omega
    subst em
    exact K h1 C g _ H
  · refine z_aload_n dCls_init_75 rfl ?_
    refine z_get (k := 1) fd_Cls (by decide) fl_Cls_17 dCls_init_76 (by assumption) (by rfl) ?_
    refine z_iload_n dCls_init_79 rfl ?_
    refine z_new (fs := [zi 0, zi 0, zi 0, zi 0, zi 0]) (bc' := 0 + 1 * (3 - (m + 1))) (bs' := 0 + 5 * (3 - (m + 1))) fd_Cur cl_Cls_15 im_Cur in_Cur (by intro j hj; match j, hj with | 0, _ => rfl | 1, _ => rfl | 2, _ => rfl | 3, _ => rfl | 4, _ => rfl) dCls_init_80 (by omega) (by omega) (fun q hq gq => ?_)
    refine z_hx (fun h2 p2 f2 => ?_)
    have n1 : q2 < q := hq q2 _ i1
    have n2 : lo < q := hq lo _ el1
    refine z_dup rfl dCls_init_83 ?_
    refine z_callIN MI_Cur_init lk_Cls_33 dCls_init_84 (k_Cur_init p2) rfl rfl (Nat.le_of_ble_eq_true rfl)  (by show _ + 1 ≤ d; omega) (by show _ * 64 + 64 ≤ d * 64; omega) (Nat.le_of_eq (Nat.zero_add _)) (Nat.le_of_eq (Nat.zero_add _)) (fun _ _ q => q.elim) ?_
    rintro _ h3 ⟨rfl, er3, f3⟩
    have i13 := (f3 q2 (by omega)).trans ((f2 q2 (by omega)).trans i1)
    refine z_aastO (t := 6) (C := "Cursorlist$Cursor") rfl rfl dCls_init_87 i13 er3 (by refine ⟨?_, ?_, ?_⟩ <;> omega) ?_
    refine z_hx (fun h4 p4 f4 => ?_)
    rw [show (m : Int).toNat = m by omega] at p4
    refine z_iinc dCls_init_88 rfl (Nat.le_of_ble_eq_true rfl) ?_
    refine z_goto (tgt := 70) dCls_init_91 (by decide) ?_
    refine ih (m + 1) h4 (zup C m q) (zup g m (some q)) (by omega) (by omega) ⟨p4, fun k hk => ?_, fun j k hj hk => ?_, fun x x1 x2 => ?_⟩
    · by_cases e9 : k = m
      · subst e9
        rw [zup_same, zup_same]
        exact ⟨rfl, n2, gq, (f4 q (by omega)).trans er3⟩
      · rw [zup_ne e9, zup_ne e9]
        obtain ⟨j1, j2, j4, j5⟩ := i2 k (by omega)
        have o1 := hq _ _ j5
        exact ⟨j1, j2, j4, ((f4 _ (by omega)).trans ((f3 _ (by omega)).trans (f2 _ (by omega)))).trans j5⟩
    · by_cases e9 : k = m
      · subst e9
        rw [zup_same, zup_ne (by omega)]
        obtain ⟨j1, j2, j4, j5⟩ := i2 j (by omega)
        exact hq _ _ j5
      · rw [zup_ne e9, zup_ne (by omega)]
        exact i3 j k hj (by omega)
    · have x3 := x2 m (by omega)
      rw [zup_same] at x3
      refine (f4 x x1).trans ((f3 x x3).trans ((f2 x x3).trans (i4 x x1 (fun k hk => ?_))))
      have x4 := x2 k (by omega)
      rw [zup_ne (by omega)] at x4
      exact x4
end CLS17
end
section
section CLS18
variable {G : zG} {l : Launch} {h h' : zHp} {ad : Nat → Nat} {S : zSt}
def zCh (b q1 q2 q3 y ya t q4 w : Nat) (R A C : Nat → Nat) : Nat → Nat
  | 0 => b
  | 1 => q1
  | 2 => q2
  | 3 => q3
  | 4 => y
  | 5 => ya
  | 6 => t
  | 7 => q4
  | 8 => w
  | 9 => R 0
  | 10 => A 0
  | 11 => R 1
  | 12 => A 1
  | 13 => R 2
  | 14 => A 2
  | 15 => R 3
  | 16 => A 3
  | 17 => C 0
  | 18 => C 1
  | _ => C 2
def zPo : Nat → Nat
  | 0 => 0
  | 1 => 1
  | 2 => 2
  | 3 => 3
  | 4 => 6
  | 5 => 17
  | 6 => 18
  | 7 => 19
  | 8 => 9
  | 9 => 10
  | 10 => 11
  | 11 => 12
  | 12 => 13
  | 13 => 14
  | 14 => 15
  | 15 => 16
  | 16 => 7
  | 17 => 8
  | 18 => 4
  | _ => 5
def zAdr (b q1 q2 q3 y ya t q4 w : Nat) (R A C : Nat → Nat) (i : Nat) : Nat := zCh b q1 q2 q3 y ya t q4 w R A C (zPo i)
def zS0 : zSt := (fun _ => [], fun _ => zCv 0 0 0 0 (-1), zPl9 8, [], fun _ => 0)
theorem zmono {f : Nat → Nat} {N : Nat} (H : ∀ r, r < N → f r < f (r + 1)) : ∀ s r, r < s → s ≤ N → f r < f s
  | 0, r, h1, _ => absurd h1 (by omega)
  | s + 1, r, h1, h2 => by
    have h3 := H s (by omega)
    by_cases e : r = s
    · rw [e]; exact h3
    · exact Nat.lt_trans (zmono H s r (by omega) (by omega)) h3
theorem zPo_in : ∀ i, i < 20 → zPo i < 20 := by decide
theorem zPo_inj : ∀ i, i < 20 → ∀ j, j < 20 → zPo i = zPo j → i = j := by decide
theorem zPo_1 : ∀ i, 0 < i → i < 20 → 1 ≤ zPo i := by
  have : ∀ i, i < 20 → 0 < i → 1 ≤ zPo i := by decide
  exact fun i a b => this i b a
theorem zCh_up {b q1 q2 q3 y ya t q4 w : Nat} {R A C : Nat → Nat} (o1 : b < q1) (o2 : q1 < q2) (o3 : q2 < q3) (o4 : q3 < y) (o5 : y < ya) (o6 : ya < t) (o7 : t < q4) (o8 : q4 < w) (o9 : w < R 0) (oR : ∀ k, k < 4 → R k < A k) (oA : ∀ j k, j < k → k < 4 → A j < R k) (oC : A 3 < C 0) (oCC : ∀ j k, j < k → k < 3 → C j < C k) : ∀ r, r < 19 → zCh b q1 q2 q3 y ya t q4 w R A C r < zCh b q1 q2 q3 y ya t q4 w R A C (r + 1) := fun r hr => match r, hr with
  | 0, _ => o1
  | 1, _ => o2
  | 2, _ => o3
  | 3, _ => o4
  | 4, _ => o5
  | 5, _ => o6
  | 6, _ => o7
  | 7, _ => o8
  | 8, _ => o9
  | 9, _ => oR 0 (by omega)
  | 10, _ => oA 0 1 (by omega) (by omega)
  | 11, _ => oR 1 (by omega)
  | 12, _ => oA 1 2 (by omega) (by omega)
  | 13, _ => oR 2 (by omega)
  | 14, _ => oA 2 3 (by omega) (by omega)
  | 15, _ => oR 3 (by omega)
  | 16, _ => oC
  | 17, _ => oCC 0 1 (by omega) (by omega)
  | 18, _ => oCC 1 2 (by omega) (by omega)
  | n + 19, hr => absurd hr (by omega)
theorem zCls_asm {b q1 q2 q3 y ya t q4 w : Nat} {R A C : Nat → Nat} (o1 : b < q1) (o2 : q1 < q2) (o3 : q2 < q3) (o4 : q3 < y) (o5 : y < ya) (o6 : ya < t) (o7 : t < q4) (o8 : q4 < w) (o9 : w < R 0) (oR : ∀ k, k < 4 → R k < A k) (oA : ∀ j k, j < k → k < 4 → A j < R k) (oC : A 3 < C 0) (oCC : ∀ j k, j < k → k < 3 → C j < C k) {g g2 : Nat → Option Nat} {T' : Nat → Int}
    (e0 : h b = some (.inr (zkCls, [.ref q1, .ref q2, .ref q3, .ref q4, zi 0, zi 0]))) (e1 : h q1 = some (zRefs G 5 4 g)) (gg : ∀ k, k < 4 → g k = some (R k)) (e2 : h q2 = some (zRefs G 6 3 g2)) (gg2 : ∀ k, k < 3 → g2 k = some (C k)) (e3 : h q3 = some (.inr (zkRec, [.ref y, .ref t, zi 0, zi 0, zi (-1)]))) (e4 : h t = some (zInts G 8 T')) (eT : ∀ k : Nat, k < 8 → T' k = 0) (ec : ∀ c, c < 3 → zCe h (C c) 0 0 0 0 (-1)) (er : ∀ k, k < 4 → zRow G h (R k) (A k) []) (e16 : zRow G h q4 w []) (e18 : zRow G h y ya (zPl9 8)) : zCls G h (zAdr b q1 q2 q3 y ya t q4 w R A C) zS0 := by
  have hup := zCh_up o1 o2 o3 o4 o5 o6 o7 o8 o9 oR oA oC oCC
  refine ⟨fun i j hi hj e => ?_, e0, ⟨g, e1, fun k hk => ?_⟩, ⟨g2, e2, fun c hc => ?_⟩, e3, ⟨T', e4, fun k hk => eT k hk⟩, fun c hc => ?_, fun k hk => ?_, ⟨[], e16⟩, e18⟩
  · have h1 := zPo_in i hi
    have h2 := zPo_in j hj
    have e9 : zCh b q1 q2 q3 y ya t q4 w R A C (zPo i) = zCh b q1 q2 q3 y ya t q4 w R A C (zPo j) := e
    by_cases c1 : zPo i < zPo j
    · have := zmono hup (zPo j) (zPo i) c1 (by omega)
      omega
    · by_cases c2 : zPo j < zPo i
      · have := zmono hup (zPo i) (zPo j) c2 (by omega)
        omega
      · exact zPo_inj i hi j hj (by omega)
  · rw [gg k hk]
    match k, hk with
    | 0, _ => rfl
    | 1, _ => rfl
    | 2, _ => rfl
    | 3, _ => rfl
  · rw [gg2 c hc]
    match c, hc with
    | 0, _ => rfl
    | 1, _ => rfl
    | 2, _ => rfl
  · have := ec c hc
    refine ⟨0, 0, 0, -1, ?_, Or.inl rfl, Or.inl rfl, by omega, by omega, by omega, fun q => absurd (show (0 : Int) = 1 from q) (by decide)⟩
    match c, hc with
    | 0, _ => exact this
    | 1, _ => exact this
    | 2, _ => exact this
  · have := er k hk
    match k, hk with
    | 0, _ => exact this
    | 1, _ => exact this
    | 2, _ => exact this
    | 3, _ => exact this
theorem k_Cls_init {b : Nat} (e : h b = some (.inr (zkCls, [.null, .null, .null, .null, zi 0, zi 0]))) : zM G l hCls_init yCls_init 7 [.ref b] h (fun v h' => v = none ∧ ∃ ad : Nat → Nat, ad 0 = b ∧ zCls G h' ad zS0 ∧ (∀ i, 0 < i → i < 20 → zDm h (ad i) ∧ G.2.2 ≤ ad i) ∧ ∀ q, (∀ i, i < 20 → q ≠ ad i) → h' q = h q) zNo 19 143 := by
  refine zM.of [some (.ref b), none] (by decide +kernel) rfl (by decide) rfl (Nat.le_of_ble_eq_true rfl) rfl ?_
  refine z_aload_n dCls_init_0 rfl ?_
  refine z_obj lk_Cls_1 ob_i ob_c dCls_init_1 (Nat.le_of_ble_eq_true rfl) (Nat.le_of_ble_eq_true rfl) (Nat.le_of_ble_eq_true rfl) ?_
  refine z_aload_n dCls_init_4 rfl ?_
  refine z_iconst dCls_init_5 ?_
  refine z_newq (t := 5) (C := "Cursorlist$Row") (bc' := 18) (bs' := 139) rfl (fun U H hS => hS.2.2.2.2.2.2.2.1) cl_Cls_9 (by decide) dCls_init_6 (by decide) (by decide) (fun q1 hq1 gq1 => ?_)
  refine z_hx (fun h1 p1 f1 => ?_)
  have o1 : b < q1 := hq1 b _ e
  have eb1 := (f1 b (by omega)).trans e
  refine z_putF (k := 0) fd_Cls (by decide) fl_Cls_11 rfl rfl rfl dCls_init_9 (by assumption) (by simp) rfl rfl ?_
  refine z_hx (fun h2 p2 f2 => ?_)
  refine z_aload_n dCls_init_12 rfl ?_
  refine z_iconst dCls_init_13 ?_
  refine z_newq (t := 6) (C := "Cursorlist$Cursor") (bc' := 17) (bs' := 136) rfl (fun U H hS => hS.2.2.2.2.2.2.2.2.1) cl_Cls_15 (by decide) dCls_init_14 (by decide) (by decide) (fun q2 hq2 gq2 => ?_)
  refine z_hx (fun h3 p3 f3 => ?_)
  have o2 : q1 < q2 := hq2 q1 _ ((f2 q1 (by omega)).trans p1)
  have eb3 := (f3 b (by omega)).trans p2
  refine z_putF (k := 1) fd_Cls (by decide) fl_Cls_17 rfl rfl rfl dCls_init_17 (by assumption) (by simp) rfl rfl ?_
  refine z_hx (fun h4 p4 f4 => ?_)
  refine z_aload_n dCls_init_20 rfl ?_
  refine z_new (fs := [.null, .null, zi 0, zi 0, zi 0]) (bc' := 16) (bs' := 131) fd_Rec cl_Cls_21 im_Rec in_Rec (by intro j hj; match j, hj with | 0, _ => rfl | 1, _ => rfl | 2, _ => rfl | 3, _ => rfl | 4, _ => rfl) dCls_init_21 (by omega) (by omega) (fun q3 hq3 gq3 => ?_)
  refine z_hx (fun h5 p5 f5 => ?_)
  have o3 : q2 < q3 := hq3 q2 _ ((f4 q2 (by omega)).trans p3)
  refine z_dup rfl dCls_init_24 ?_
  refine z_callIN MI_Rec_init lk_Cls_23 dCls_init_25 (k_Rec_init p5) rfl rfl (Nat.le_of_ble_eq_true rfl)  (Nat.le_of_ble_eq_true rfl) (Nat.le_of_ble_eq_true rfl) (bc' := 13) (bs' := 105) (by decide) (by decide) (fun _ _ q => q.elim) ?_
  rintro _ h6 ⟨rfl, y, ya, t, hy, gy, o5, o6, e6r, ⟨T9, e6t, eT⟩, hr6, f6⟩
  have o4 : q3 < y := hy q3 _ p5
  have eb6 := (f6 b (by omega) (by omega) (by omega) (by omega)).trans ((f5 b (by omega)).trans p4)
  refine z_putF (k := 2) fd_Cls (by decide) fl_Cls_24 rfl rfl rfl dCls_init_28 (by assumption) (by simp) rfl rfl ?_
  refine z_hx (fun h7 p7 f7 => ?_)
  refine z_aload_n dCls_init_31 rfl ?_
  refine z_new (fs := [.null, zi 0]) (bc' := 12) (bs' := 103) fd_Row cl_Cls_9 im_Row in_Row (by intro j hj; match j, hj with | 0, _ => rfl | 1, _ => rfl) dCls_init_32 (by omega) (by omega) (fun q4 hq4 gq4 => ?_)
  refine z_hx (fun h8 p8 f8 => ?_)
  have o7 : t < q4 := hq4 t _ ((f7 t (by omega)).trans e6t)
  refine z_dup rfl dCls_init_35 ?_
  refine z_callIN MI_Row_init lk_Cls_28 dCls_init_36 (k_Row_init p8) rfl rfl (Nat.le_of_ble_eq_true rfl)  (Nat.le_of_ble_eq_true rfl) (Nat.le_of_ble_eq_true rfl) (bc' := 11) (bs' := 87) (by decide) (by decide) (fun _ _ q => q.elim) ?_
  rintro _ h9 ⟨rfl, w, hw, gw, hr9, f9⟩
  have o8 : q4 < w := hw q4 _ p8
  have eb9 := (f9 b (by omega) (by omega)).trans ((f8 b (by omega)).trans p7)
  refine z_putF (k := 3) fd_Cls (by decide) fl_Cls_29 rfl rfl rfl dCls_init_39 (by assumption) (by simp) rfl rfl ?_
  refine z_hx (fun h10 p10 f10 => ?_)
  refine z_iconst dCls_init_42 ?_
  refine z_istore_n dCls_init_43 (Nat.le_of_ble_eq_true rfl) ?_
  have hr10 := hr9.kept (f10 q4 (by omega)) (f10 w (by omega))
  obtain ⟨fw, ew1, ew2, -⟩ := id hr10
  have F10 : ∀ x, x ≠ b → x < q4 → h10 x = h6 x := fun x x1 x2 => (f10 x x1).trans ((f9 x (by omega) (by omega)).trans ((f8 x (by omega)).trans (f7 x x1)))
  have F6 : ∀ x, x ≠ b → x < q3 → h10 x = h3 x := fun x x1 x2 => (F10 x x1 (by omega)).trans ((f6 x (by omega) (by omega) (by omega) (by omega)).trans ((f5 x (by omega)).trans (f4 x x1)))
  have p10' : h10 b = some (.inr (zkCls, [.ref q1, .ref q2, .ref q3, .ref q4, zi 0, zi 0])) := p10
  have c1 : h10 q1 = some (zRefs G 5 4 (fun _ => none)) := (F6 q1 (by omega) (by omega)).trans ((f3 q1 (by omega)).trans ((f2 q1 (by omega)).trans p1))
  have c2 : h10 q2 = some (zRefs G 6 3 (fun _ => none)) := (F6 q2 (by omega) (by omega)).trans p3
  refine l_Cls_init1 (bc := 0) (bs := 0) (h := h10) (lo := w) (by omega) p10' (by omega) (by omega) (by omega) (by omega) ew2 (fun h11 R A g yy H => ?_) 5 0 h10 (fun _ => 0) (fun _ => 0) (fun _ => none) (by omega) (by omega) ⟨c1, fun k hk => absurd hk (by omega), fun j k _ hk => absurd hk (by omega), fun _ _ _ => rfl⟩
  obtain ⟨i1, i2, i3, i4⟩ := id H
  have b0 := i2 0 (by omega)
  have b1 := i2 1 (by omega)
  have b2 := i2 2 (by omega)
  have b3 := i2 3 (by omega)
  have a01 := i3 0 1 (by omega) (by omega)
  have a12 := i3 1 2 (by omega) (by omega)
  have a23 := i3 2 3 (by omega) (by omega)
  have F11 : ∀ x, x ≠ q1 → x ≤ w → h11 x = h10 x := fun x x1 x2 => i4 x x1 (fun k hk => by have := i2 k hk; omega)
  refine z_iconst dCls_init_68 ?_
  refine z_istore_n dCls_init_69 (Nat.le_of_ble_eq_true rfl) ?_
  obtain ⟨fa, ea1, ea2, -⟩ := id b3.2.2.2.2
  refine l_Cls_init2 (bc := 0) (bs := 0) (h := h11) (lo := A 3) (by omega) ((F11 b (by omega) (by omega)).trans p10') (by omega) (by omega) (by omega) (by omega) ea2 (fun h12 C g2 yy2 H2 => ?_) 4 0 h11 (fun _ => 0) (fun _ => none) (by omega) (by omega) ⟨(F11 q2 (by omega) (by omega)).trans c2, fun k hk => absurd hk (by omega), fun j k _ hk => absurd hk (by omega), fun _ _ _ => rfl⟩
  refine z_vret rfl dCls_init_94 ?_
  obtain ⟨k1, k2, k3, k4⟩ := id H2
  have F12 : ∀ x, x ≠ q2 → x ≤ A 3 → h12 x = h11 x := fun x x1 x2 => k4 x x1 (fun k hk => by have := k2 k hk; omega)
  have d0 := k2 0 (by omega)
  have oRA : ∀ k, k < 4 → R k ≤ A 3 ∧ A k ≤ A 3 := fun k hk => by
    have := i2 k hk
    by_cases e9 : k = 3
    · subst e9; omega
    · have := i3 k 3 (by omega) (by omega); omega
  have hup := zCh_up (b := b) (q1 := q1) (q2 := q2) (q3 := q3) (y := y) (ya := ya) (t := t) (q4 := q4) (w := w) (R := R) (A := A) (C := C) o1 o2 o3 o4 o5 o6 o7 o8 b0.2.1 (fun k hk => (i2 k hk).2.2.1) i3 d0.2.1 k3
  refine ⟨rfl, zAdr b q1 q2 q3 y ya t q4 w R A C, rfl, ?_, fun i i1 i2 => ?_, fun x hx => ?_⟩
  · refine zCls_asm o1 o2 o3 o4 o5 o6 o7 o8 b0.2.1 (fun k hk => (i2 k hk).2.2.1) i3 d0.2.1 k3 (g := g) (g2 := g2) ?_ ?_ (fun k hk => (i2 k hk).1) k1 (fun k hk => (k2 k hk).1) ?_ ?_ eT (fun c hc => (k2 c hc).2.2.2) (fun k hk => ?_) ?_ ?_
    · exact (F12 b (by omega) (by omega)).trans ((F11 b (by omega) (by omega)).trans p10')
    · exact (F12 q1 (by omega) (by omega)).trans i1
    · exact (F12 q3 (by omega) (by omega)).trans ((F11 q3 (by omega) (by omega)).trans ((F10 q3 (by omega) (by omega)).trans e6r))
    · exact (F12 t (by omega) (by omega)).trans ((F11 t (by omega) (by omega)).trans ((F10 t (by omega) (by omega)).trans e6t))
    · have o := i2 k hk
      have o' := oRA k hk
      exact o.2.2.2.2.kept (F12 _ (by omega) (by omega)) (F12 _ (by omega) (by omega))
    · exact hr10.kept ((F12 q4 (by omega) (by omega)).trans (F11 q4 (by omega) (by omega))) ((F12 w (by omega) (by omega)).trans (F11 w (by omega) (by omega)))
    · exact hr6.kept ((F12 y (by omega) (by omega)).trans ((F11 y (by omega) (by omega)).trans (F10 y (by omega) (by omega)))) ((F12 ya (by omega) (by omega)).trans ((F11 ya (by omega) (by omega)).trans (F10 ya (by omega) (by omega))))
  · have z1 := zPo_1 i i1 i2
    have z2 := zPo_in i i2
    have z3 : q1 ≤ zAdr b q1 q2 q3 y ya t q4 w R A C i := by
      show zCh b q1 q2 q3 y ya t q4 w R A C 1 ≤ zCh b q1 q2 q3 y ya t q4 w R A C (zPo i)
      by_cases e9 : zPo i = 1
      · rw [e9]; exact Nat.le_refl _
      · exact Nat.le_of_lt (zmono hup (zPo i) 1 (by omega) (by omega))
    exact ⟨fun a9 e9 ha => Nat.lt_of_lt_of_le (hq1 a9 e9 ha) z3, Nat.le_trans gq1 z3⟩
  · have x0 : x ≠ b := hx 0 (by omega)
    have x1 : x ≠ q1 := hx 1 (by omega)
    have x2 : x ≠ q2 := hx 2 (by omega)
    have x3 : x ≠ q3 := hx 3 (by omega)
    have x4 : x ≠ t := hx 4 (by omega)
    have y0 : x ≠ C 0 := hx 5 (by omega)
    have y1 : x ≠ C 1 := hx 6 (by omega)
    have y2 : x ≠ C 2 := hx 7 (by omega)
    have r0 : x ≠ R 0 := hx 8 (by omega)
    have s0 : x ≠ A 0 := hx 9 (by omega)
    have r1 : x ≠ R 1 := hx 10 (by omega)
    have s1 : x ≠ A 1 := hx 11 (by omega)
    have r2 : x ≠ R 2 := hx 12 (by omega)
    have s2 : x ≠ A 2 := hx 13 (by omega)
    have r3 : x ≠ R 3 := hx 14 (by omega)
    have s3 : x ≠ A 3 := hx 15 (by omega)
    have x16 : x ≠ q4 := hx 16 (by omega)
    have x17 : x ≠ w := hx 17 (by omega)
    have x18 : x ≠ y := hx 18 (by omega)
    have x19 : x ≠ ya := hx 19 (by omega)
    refine (k4 x x2 (fun k hk => ?_)).trans ((i4 x x1 (fun k hk => ?_)).trans ?_)
    · match k, hk with
      | 0, _ => exact y0
      | 1, _ => exact y1
      | 2, _ => exact y2
    · match k, hk with
      | 0, _ => exact ⟨r0, s0⟩
      | 1, _ => exact ⟨r1, s1⟩
      | 2, _ => exact ⟨r2, s2⟩
      | 3, _ => exact ⟨r3, s3⟩
    · exact (f10 x x0).trans ((f9 x x16 x17).trans ((f8 x x16).trans ((f7 x x0).trans ((f6 x x3 x18 x19 x4).trans ((f5 x x3).trans ((f4 x x0).trans ((f3 x x2).trans ((f2 x x0).trans (f1 x x1)))))))))
end CLS18
end
section
section OK
variable {S : zSt}
theorem zOk.ref (hO : zOk S) : zOk (zsRef S) := hO
theorem zOk.stl {k : Nat} {L : List Int} (hO : zOk S) : zOk (zsStale (zsL S k L) k (-1)) := by
  refine ⟨fun c hc ht => ?_, hO.2⟩
  have e0 : (zsStale (zsL S k L) k (-1)).2.1 c 0 = S.2.1 c 0 := if_neg (by omega)
  have e2 : (zsStale (zsL S k L) k (-1)).2.1 c 2 = S.2.1 c 2 := if_neg (by omega)
  have e3 : (zsStale (zsL S k L) k (-1)).2.1 c 3 = S.2.1 c 3 := if_neg (by omega)
  have e4 : (zsStale (zsL S k L) k (-1)).2.1 c 4 = S.2.1 c 4 := if_neg (by omega)
  rw [e0] at ht
  obtain ⟨h1, h2, h3, h4⟩ := hO.1 c hc ht
  rw [e2, e3, e4]
  refine ⟨h1, h2, h3, fun hs => ?_⟩
  by_cases q : S.2.1 c 2 = k
  · have : (zsStale (zsL S k L) k (-1)).2.1 c 1 = 1 := if_pos ⟨hc, rfl, ht, q, by omega⟩
    omega
  · have e1 : (zsStale (zsL S k L) k (-1)).2.1 c 1 = S.2.1 c 1 := if_neg (fun z => q z.2.2.2.1)
    have e5 : (zsStale (zsL S k L) k (-1)).1 (S.2.1 c 2).toNat = S.1 (S.2.1 c 2).toNat := zup_ne (by omega)
    rw [e5]
    exact h4 (by omega)
theorem zOk.stl0 {k : Int} (hO : zOk S) : zOk (zsStale S k (-1)) := by
  refine ⟨fun c hc ht => ?_, hO.2⟩
  have e0 : (zsStale S k (-1)).2.1 c 0 = S.2.1 c 0 := if_neg (by omega)
  have e2 : (zsStale S k (-1)).2.1 c 2 = S.2.1 c 2 := if_neg (by omega)
  have e3 : (zsStale S k (-1)).2.1 c 3 = S.2.1 c 3 := if_neg (by omega)
  have e4 : (zsStale S k (-1)).2.1 c 4 = S.2.1 c 4 := if_neg (by omega)
  rw [e0] at ht
  obtain ⟨h1, h2, h3, h4⟩ := hO.1 c hc ht
  rw [e2, e3, e4]
  refine ⟨h1, h2, h3, fun hs => h4 ?_⟩
  by_cases q : S.2.1 c 2 = k
  · have : (zsStale S k (-1)).2.1 c 1 = 1 := if_pos ⟨hc, rfl, ht, q, by omega⟩
    omega
  · have e1 : (zsStale S k (-1)).2.1 c 1 = S.2.1 c 1 := if_neg (fun z => q z.2.2.2.1)
    omega
theorem zOk.lst {k : Nat} {L : List Int} (hO : zOk S) (hL : L.length = (S.1 k).length) : zOk (zsL S k L) := by
  refine ⟨fun c hc ht => ?_, hO.2⟩
  obtain ⟨h1, h2, h3, h4⟩ := hO.1 c hc ht
  refine ⟨h1, h2, h3, fun hs => ?_⟩
  have e5 : ((zsL S k L).1 (S.2.1 c 2).toNat).length = (S.1 (S.2.1 c 2).toNat).length := by
    by_cases e : (S.2.1 c 2).toNat = k
    · rw [e, zsL_l, hL]
    · rw [show (zsL S k L).1 (S.2.1 c 2).toNat = S.1 (S.2.1 c 2).toNat from zup_ne e]
  have := h4 hs
  show S.2.1 c 3 ≤ (((zsL S k L).1 (S.2.1 c 2).toNat).length : Int) ∧ S.2.1 c 4 < (((zsL S k L).1 (S.2.1 c 2).toNat).length : Int)
  rw [e5]
  exact this
theorem zOk.cur {k : Nat} {th st li ix la : Int} (hO : zOk S) (H : th = 1 → (0 ≤ li ∧ li < 4) ∧ (0 ≤ ix ∧ ix ≤ 16) ∧ (-1 ≤ la ∧ la ≤ 15) ∧ (st = 0 → ix ≤ (S.1 li.toNat).length ∧ la < (S.1 li.toNat).length)) : zOk (zsC S (zup S.2.1 k (zCv th st li ix la))) := by
  refine ⟨fun c hc ht => ?_, hO.2⟩
  by_cases e : c = k
  · subst e
    have e9 : (zsC S (zup S.2.1 c (zCv th st li ix la))).2.1 c = zCv th st li ix la := zup_same _ _ _
    rw [e9] at ht ⊢
    exact H ht
  · have e9 : (zsC S (zup S.2.1 k (zCv th st li ix la))).2.1 c = S.2.1 c := zup_ne e
    rw [e9] at ht ⊢
    exact hO.1 c hc ht
/-- the list of cursor k changes under it, and k stays upon it -/
theorem zOk.put {k : Nat} {L : List Int} {li ix la : Int} (hO : zOk S) (hli : 0 ≤ li ∧ li < 4) (hl0 : S.2.1 k 2 = li) (h1 : 0 ≤ ix ∧ ix ≤ 16) (h2 : -1 ≤ la ∧ la ≤ 15) (h3 : ix ≤ L.length ∧ la < L.length) {th st : Int} : zOk (zsStale (zsC (zsL S li.toNat L) (zup S.2.1 k (zCv th st li ix la))) li k) := by
  refine ⟨fun c hc ht => ?_, hO.2⟩
  by_cases e : c = k
  · subst e
    have e9 : (zsStale (zsC (zsL S li.toNat L) (zup S.2.1 c (zCv th st li ix la))) li c).2.1 c = zCv th st li ix la := zsSt_but.trans (zup_same _ _ _)
    have e8 : (zsStale (zsC (zsL S li.toNat L) (zup S.2.1 c (zCv th st li ix la))) li c).1 li.toNat = L := zup_same _ _ _
    rw [e9]
    refine ⟨hli, h1, h2, fun _ => ?_⟩
    show ix ≤ ((zsStale (zsC (zsL S li.toNat L) (zup S.2.1 c (zCv th st li ix la))) li c).1 li.toNat).length ∧ la < ((zsStale (zsC (zsL S li.toNat L) (zup S.2.1 c (zCv th st li ix la))) li c).1 li.toNat).length
    rw [e8]
    exact h3
  · have ec : (zup S.2.1 k (zCv th st li ix la)) c = S.2.1 c := zup_ne e
    have en : ∀ f, f ≠ 1 → (zsStale (zsC (zsL S li.toNat L) (zup S.2.1 k (zCv th st li ix la))) li k).2.1 c f = S.2.1 c f := fun f hf => (if_neg (fun z => hf z.2.1)).trans (congrFun ec f)
    rw [en 0 (by omega)] at ht
    obtain ⟨j1, j2, j3, j4⟩ := hO.1 c hc ht
    rw [en 2 (by omega), en 3 (by omega), en 4 (by omega)]
    refine ⟨j1, j2, j3, fun hs => ?_⟩
    by_cases q : S.2.1 c 2 = li
    · have : (zsStale (zsC (zsL S li.toNat L) (zup S.2.1 k (zCv th st li ix la))) li k).2.1 c 1 = 1 := if_pos ⟨hc, rfl, (congrFun ec 0).trans ht, (congrFun ec 2).trans q, by omega⟩
      omega
    · have e1 : (zsStale (zsC (zsL S li.toNat L) (zup S.2.1 k (zCv th st li ix la))) li k).2.1 c 1 = S.2.1 c 1 := (if_neg (fun z => q ((congrFun ec 2).symm.trans z.2.2.2.1))).trans (congrFun ec 1)
      have e5 : (zsStale (zsC (zsL S li.toNat L) (zup S.2.1 k (zCv th st li ix la))) li k).1 (S.2.1 c 2).toNat = S.1 (S.2.1 c 2).toNat := zup_ne (by omega)
      rw [e5]
      exact j4 (by omega)
theorem ok_put {p w x : Int} (hO : zOk S) : zOk (sp_put S p w x).2 := by
  unfold sp_put
  (try unfold spPut)
  (repeat' split)
  all_goals first
    | exact hO
    | exact hO.ref
    | exact hO.stl
    | exact hO.stl0
    | exact hO.lst rfl
theorem ok_take {p w : Int} (hO : zOk S) : zOk (sp_take S p w).2 := by
  unfold sp_take
  (try unfold spPut)
  (repeat' split)
  all_goals first
    | exact hO
    | exact hO.ref
    | exact hO.stl
    | exact hO.stl0
    | exact hO.lst rfl
theorem ok_look {p w : Int} (hO : zOk S) : zOk (sp_look S p w).2 := by
  unfold sp_look
  (try unfold spPut)
  (repeat' split)
  all_goals first
    | exact hO
    | exact hO.ref
    | exact hO.stl
    | exact hO.stl0
    | exact hO.lst rfl
theorem ok_get {p q : Int} (hO : zOk S) : zOk (sp_get S p q).2 := by
  unfold sp_get
  (try unfold spPut)
  (repeat' split)
  all_goals first
    | exact hO
    | exact hO.ref
    | exact hO.stl
    | exact hO.stl0
    | exact hO.lst rfl
theorem ok_set {p q x : Int} (hO : zOk S) : zOk (sp_set S p q x).2 := by
  unfold sp_set
  (try unfold spPut)
  (repeat' split)
  all_goals first
    | exact hO
    | exact hO.ref
    | exact hO.stl
    | exact hO.stl0
    | exact hO.lst (zSet_len _ _ _)
theorem ok_insert {p q x : Int} (hO : zOk S) : zOk (sp_insert S p q x).2 := by
  unfold sp_insert
  (try unfold spPut)
  (repeat' split)
  all_goals first
    | exact hO
    | exact hO.ref
    | exact hO.stl
    | exact hO.stl0
    | exact hO.lst rfl
theorem ok_removeAt {p q : Int} (hO : zOk S) : zOk (sp_removeAt S p q).2 := by
  unfold sp_removeAt
  (try unfold spPut)
  (repeat' split)
  all_goals first
    | exact hO
    | exact hO.ref
    | exact hO.stl
    | exact hO.stl0
    | exact hO.lst rfl
theorem ok_drop {p x b : Int} (hO : zOk S) : zOk (sp_drop S p x b).2 := by
  unfold sp_drop
  (try unfold spPut)
  (repeat' split)
  all_goals first
    | exact hO
    | exact hO.ref
    | exact hO.stl
    | exact hO.stl0
    | exact hO.lst rfl
theorem ok_thin {p x : Int} (hO : zOk S) : zOk (sp_thin S p x).2 := by
  unfold sp_thin
  (try unfold spPut)
  (repeat' split)
  all_goals first
    | exact hO
    | exact hO.ref
    | exact hO.stl
    | exact hO.stl0
    | exact hO.lst rfl
theorem ok_indexOf {p x b : Int} (hO : zOk S) : zOk (sp_indexOf S p x b).2 := by
  unfold sp_indexOf
  (try unfold spPut)
  (repeat' split)
  all_goals first
    | exact hO
    | exact hO.ref
    | exact hO.stl
    | exact hO.stl0
    | exact hO.lst rfl
theorem ok_has {p x : Int} (hO : zOk S) : zOk (sp_has S p x).2 := by
  unfold sp_has
  (try unfold spPut)
  (repeat' split)
  all_goals first
    | exact hO
    | exact hO.ref
    | exact hO.stl
    | exact hO.stl0
    | exact hO.lst rfl
theorem ok_size {p : Int} (hO : zOk S) : zOk (sp_size S p).2 := by
  unfold sp_size
  (try unfold spPut)
  (repeat' split)
  all_goals first
    | exact hO
    | exact hO.ref
    | exact hO.stl
    | exact hO.stl0
    | exact hO.lst rfl
theorem ok_clear {p : Int} (hO : zOk S) : zOk (sp_clear S p).2 := by
  unfold sp_clear
  (try unfold spPut)
  (repeat' split)
  all_goals first
    | exact hO
    | exact hO.ref
    | exact hO.stl
    | exact hO.stl0
    | exact hO.lst rfl
theorem ok_append {p f : Int} (hO : zOk S) : zOk (sp_append S p f).2 := by
  unfold sp_append
  (try unfold spPut)
  (repeat' split)
  all_goals first
    | exact hO
    | exact hO.ref
    | exact hO.stl
    | exact hO.stl0
    | exact hO.lst rfl
theorem ok_appendAt {p q f : Int} (hO : zOk S) : zOk (sp_appendAt S p q f).2 := by
  unfold sp_appendAt
  (try unfold spPut)
  (repeat' split)
  all_goals first
    | exact hO
    | exact hO.ref
    | exact hO.stl
    | exact hO.stl0
    | exact hO.lst rfl
theorem ok_copy {p i : Int} (hO : zOk S) : zOk (sp_copy S p i).2 := by
  unfold sp_copy
  (try unfold spPut)
  (repeat' split)
  all_goals first
    | exact hO
    | exact hO.ref
    | exact hO.stl
    | exact hO.stl0
    | exact hO.lst rfl
theorem ok_places {p m : Int} (hO : zOk S) : zOk (sp_places S p m).2 := by
  unfold sp_places
  (try unfold spPut)
  (repeat' split)
  all_goals first
    | exact hO
    | exact hO.ref
    | exact hO.stl
    | exact hO.stl0
    | exact hO.lst rfl
theorem ok_rotate {p b : Int} (hO : zOk S) : zOk (sp_rotate S p b).2 := by
  unfold sp_rotate
  (try unfold spPut)
  (repeat' split)
  all_goals first
    | exact hO
    | exact hO.ref
    | exact hO.stl
    | exact hO.stl0
    | exact hO.lst rfl
theorem ok_move {p f t : Int} (hO : zOk S) : zOk (sp_move S p f t).2 := by
  unfold sp_move
  (try unfold spPut)
  (repeat' split)
  all_goals first
    | exact hO
    | exact hO.ref
    | exact hO.stl
    | exact hO.stl0
    | exact hO.lst rfl
theorem ok_swap {p i j : Int} (hO : zOk S) : zOk (sp_swap S p i j).2 := by
  unfold sp_swap
  (try unfold spPut)
  (repeat' split)
  all_goals first
    | exact hO
    | exact hO.ref
    | exact hO.stl
    | exact hO.stl0
    | exact hO.lst (by unfold zSwp; rw [zSet_len, zSet_len])
theorem ok_reverse {p : Int} (hO : zOk S) : zOk (sp_reverse S p).2 := by
  unfold sp_reverse
  (try unfold spPut)
  (repeat' split)
  all_goals first
    | exact hO
    | exact hO.ref
    | exact hO.stl
    | exact hO.stl0
    | exact hO.lst (zmk_len _ _)
theorem ok_through {p m i : Int} (hO : zOk S) : zOk (sp_through S p m i).2 := by
  unfold sp_through
  (try unfold spPut)
  (repeat' split)
  all_goals first
    | exact hO
    | exact hO.ref
    | exact hO.stl
    | exact hO.stl0
    | exact hO.lst rfl
theorem ok_areSame {p o : Int} (hO : zOk S) : zOk (sp_areSame S p o).2 := by
  unfold sp_areSame
  (try unfold spPut)
  (repeat' split)
  all_goals first
    | exact hO
    | exact hO.ref
    | exact hO.stl
    | exact hO.stl0
    | exact hO.lst rfl
theorem ok_isMirror {p : Int} (hO : zOk S) : zOk (sp_isMirror S p).2 := by
  unfold sp_isMirror
  (try unfold spPut)
  (repeat' split)
  all_goals first
    | exact hO
    | exact hO.ref
    | exact hO.stl
    | exact hO.stl0
    | exact hO.lst rfl
theorem ok_plus {p o : Int} (hO : zOk S) : zOk (sp_plus S p o).2 := by
  unfold sp_plus
  (try unfold spPut)
  (repeat' split)
  all_goals first
    | exact hO
    | exact hO.ref
    | exact hO.stl
    | exact hO.stl0
    | exact hO.lst rfl
theorem ok_times {p o : Int} (hO : zOk S) : zOk (sp_times S p o).2 := by
  unfold sp_times
  (try unfold spPut)
  (repeat' split)
  all_goals first
    | exact hO
    | exact hO.ref
    | exact hO.stl
    | exact hO.stl0
    | exact hO.lst rfl
theorem ok_shift {p : Int} (hO : zOk S) : zOk (sp_shift S p).2 := by
  unfold sp_shift
  (try unfold spPut)
  (repeat' split)
  all_goals first
    | exact hO
    | exact hO.ref
    | exact hO.stl
    | exact hO.stl0
    | exact hO.lst rfl
theorem ok_trim {p : Int} (hO : zOk S) : zOk (sp_trim S p).2 := by
  unfold sp_trim
  (try unfold spPut)
  (repeat' split)
  all_goals first
    | exact hO
    | exact hO.ref
    | exact hO.stl
    | exact hO.stl0
    | exact hO.lst rfl
theorem ok_derive {p : Int} (hO : zOk S) : zOk (sp_derive S p).2 := by
  unfold sp_derive
  (try unfold spPut)
  (repeat' split)
  all_goals first
    | exact hO
    | exact hO.ref
    | exact hO.stl
    | exact hO.stl0
    | exact hO.lst rfl
theorem ok_value {p x : Int} (hO : zOk S) : zOk (sp_value S p x).2 := by
  unfold sp_value
  (try unfold spPut)
  (repeat' split)
  all_goals first
    | exact hO
    | exact hO.ref
    | exact hO.stl
    | exact hO.stl0
    | exact hO.lst rfl
theorem ok_degree {p : Int} (hO : zOk S) : zOk (sp_degree S p).2 := by
  unfold sp_degree
  (try unfold spPut)
  (repeat' split)
  all_goals first
    | exact hO
    | exact hO.ref
    | exact hO.stl
    | exact hO.stl0
    | exact hO.lst rfl
theorem ok_ofCursor {c w : Int} (hO : zOk S) : zOk (sp_ofCursor S c w).2 := by
  unfold sp_ofCursor
  (try unfold spPut)
  (repeat' split)
  all_goals first
    | exact hO
    | exact hO.ref
    | exact hO.stl
    | exact hO.stl0
    | exact hO.lst rfl
theorem ok_house {w : Int} (hO : zOk S) : zOk (sp_house S w).2 := by
  unfold sp_house
  (try unfold spPut)
  (repeat' split)
  all_goals first
    | exact hO
    | exact hO.ref
    | exact hO.stl
    | exact hO.stl0
    | exact hO.lst rfl
theorem ok_asked {w : Int} (hO : zOk S) : zOk (sp_asked S w).2 := by
  unfold sp_asked
  (try unfold spPut)
  (repeat' split)
  all_goals first
    | exact hO
    | exact hO.ref
    | exact hO.stl
    | exact hO.stl0
    | exact hO.lst rfl
theorem ok_byOrder {p w : Int} (hO : zOk S) : zOk (sp_byOrder S p w).2 := by
  unfold sp_byOrder
  (try unfold spPut)
  (repeat' split)
  all_goals first
    | exact hO
    | exact hO.ref
    | exact hO.stl
    | exact hO.stl0
    | exact hO.lst rfl
theorem ok_knock (hO : zOk S) : zOk (sp_knock S).2 := hO
end OK
end
section
section OK2
variable {S : zSt}
theorem zFd9_get (L : List Int) (x : Int) : ∀ n : Nat, 0 ≤ zFd9 L x 0 n → L.getD (zFd9 L x 0 n).toNat 0 = x
  | 0, h => absurd h (by unfold zFd9; omega)
  | n + 1, h => by
    have ih := zFd9_get L x n
    unfold zFd9 at h ⊢
    split
    · rename_i q
      rw [Int.toNat_natCast]
      exact q.1
    · rename_i q
      rw [if_neg q] at h
      exact ih h
theorem zFd9_mem (L : List Int) (x : Int) : ∀ n j : Nat, j < n → L.getD j 0 = x → 0 ≤ zFd9 L x 0 n
  | 0, j, h, _ => absurd h (by omega)
  | n + 1, j, h, e => by
    have ih := zFd9_mem L x n
    have hin := zFd9_in L x 0 n
    unfold zFd9
    split
    · omega
    · rename_i q
      by_cases c : j = n
      · subst c
        by_cases c2 : zFd9 L x 0 j = -1
        · exact absurd ⟨e, Or.inr c2⟩ q
        · omega
      · exact ih j (by omega) e
theorem zFind_get {L : List Int} {x : Int} (h : 0 ≤ zFind L x 0) : L.getD (zFind L x 0).toNat 0 = x := zFd9_get L x _ h
theorem zFind_mem {L : List Int} {x : Int} {j : Nat} (h : j < L.length) (e : L.getD j 0 = x) : 0 ≤ zFind L x 0 := zFd9_mem L x _ j h e
theorem zFront_find {K : List Int} {key k : Int} (hp : 0 ≤ zFind K key 0) (hk : 0 ≤ zFind K k 0) : 0 ≤ zFind (zIns (zDel K (zFind K key 0)) 0 key) k 0 := by
  have h1 := zFind_in K key 0
  have h2 := zFind_in K k 0
  have hl : (zIns (zDel K (zFind K key 0)) 0 key).length = K.length := by rw [zIns_len, zDel_len]; omega
  have hd := zDel_len K (zFind K key 0)
  have g1 := zFind_get hp
  have g2 := zFind_get hk
  by_cases e : k = key
  · refine zFind_mem (j := 0) (by omega) ?_
    rw [zIns_at (by omega), if_neg (by omega), if_pos (by omega), e]
  · by_cases c : zFind K k 0 < zFind K key 0
    · refine zFind_mem (j := (zFind K k 0).toNat + 1) (by omega) ?_
      rw [zIns_at (by omega), if_neg (by omega), if_neg (by omega), show (zFind K k 0).toNat + 1 - 1 = (zFind K k 0).toNat by omega, zDel_at (by omega), if_pos (by omega)]
      exact g2
    · by_cases c2 : zFind K k 0 = zFind K key 0
      · rw [c2, g1] at g2
        exact absurd g2.symm e
      · refine zFind_mem (j := (zFind K k 0).toNat) (by omega) ?_
        rw [zIns_at (by omega), if_neg (by omega), if_neg (by omega), zDel_at (by omega), if_neg (by omega), show (zFind K k 0).toNat - 1 + 1 = (zFind K k 0).toNat by omega]
        exact g2
theorem zFront_len {K : List Int} {key : Int} (hp : 0 ≤ zFind K key 0) : (zIns (zDel K (zFind K key 0)) 0 key).length = K.length := by
  have h1 := zFind_in K key 0
  rw [zIns_len, zDel_len]; omega
theorem ok_ask {key : Int} (hO : zOk S) : zOk (sp_ask S key).2 := by
  unfold sp_ask
  split
  · rename_i hk
    split
    · rename_i hA
      have hf := hO.2.1 key hk.1 (by omega)
      have h1 := zFind_in S.2.2.1 key 0
      have h8 := hO.2.2.1
      refine ⟨hO.1, fun k k1 k2 => zFront_find hf (hO.2.1 k k1 k2), (zFront_len hf).trans h8, ?_, ?_, ?_⟩
      · show (S.2.2.2.1 ++ [key]).length ≤ 60
        rw [List.length_append]
        show S.2.2.2.1.length + 1 ≤ 60
        omega
      · have := hO.2.2.2.2.1
        show 0 ≤ S.2.2.2.2 0 + (zFind S.2.2.1 key 0 + 1)
        omega
      · have := hO.2.2.2.2.2
        show S.2.2.2.2 0 + (zFind S.2.2.1 key 0 + 1) ≤ 8 * ((S.2.2.2.1 ++ [key]).length : Int)
        rw [List.length_append]
        show S.2.2.2.2 0 + (zFind S.2.2.1 key 0 + 1) ≤ 8 * ((S.2.2.2.1.length + 1 : Nat) : Int)
        omega
    · exact hO
  · exact hO
theorem ok_forget (hO : zOk S) : zOk (sp_forget S).2 := by
  refine ⟨hO.1, fun k k1 k2 => ?_, rfl, ?_, ?_, ?_⟩
  · show 0 ≤ zFind (zPl9 8) k 0
    rcases (show k = 0 ∨ k = 1 ∨ k = 2 ∨ k = 3 ∨ k = 4 ∨ k = 5 ∨ k = 6 ∨ k = 7 by omega) with rfl | rfl | rfl | rfl | rfl | rfl | rfl | rfl <;> decide
  · exact Nat.zero_le _
  · exact Int.le_refl _
  · exact Int.le_refl _
theorem ok_open {c p q : Int} (hO : zOk S) (hL : ∀ k, k < 4 → (S.1 k).length ≤ 16) : zOk (sp_open S c p q).2 := by
  unfold sp_open
  have h16 := hL p.toNat
  (repeat' split)
  all_goals first
    | exact hO
    | exact hO.cur (fun _ => by omega)
theorem ok_shut {c : Int} (hO : zOk S) : zOk (sp_shut S c).2 := by
  unfold sp_shut
  (repeat' split)
  all_goals first
    | exact hO
    | exact hO.cur (fun q => absurd q (by decide))
theorem ok_forth {c : Int} (hO : zOk S) (hL : ∀ k, k < 4 → (S.1 k).length ≤ 16) : zOk (sp_forth S c).2 := by
  unfold sp_forth
  have ho := hO.1 c.toNat
  have h16 := hL (S.2.1 c.toNat 2).toNat
  (repeat' split)
  all_goals first
    | exact hO
    | exact hO.ref
    | (have ho := hO.1 c.toNat (by omega) (by omega)
       exact hO.cur (fun _ => by omega))
theorem ok_back {c : Int} (hO : zOk S) (hL : ∀ k, k < 4 → (S.1 k).length ≤ 16) : zOk (sp_back S c).2 := by
  unfold sp_back
  have h16 := hL (S.2.1 c.toNat 2).toNat
  (repeat' split)
  all_goals first
    | exact hO
    | exact hO.ref
    | (have ho := hO.1 c.toNat (by omega) (by omega)
       exact hO.cur (fun _ => by omega))
theorem ok_changes {c x : Int} (hO : zOk S) : zOk (sp_changes S c x).2 := by
  unfold sp_changes
  (repeat' split)
  all_goals first
    | exact hO
    | exact hO.ref
    | exact hO.lst (zSet_len _ _ _)
theorem ok_puts {c x : Int} (hO : zOk S) (hL : ∀ k, k < 4 → (S.1 k).length ≤ 16) : zOk (sp_puts S c x).2 := by
  by_cases hc : 0 ≤ c ∧ c < 3
  · obtain ⟨k, rfl⟩ := Int.eq_ofNat_of_zero_le hc.1
    unfold sp_puts
    simp only [Int.toNat_natCast]
    have h16 := hL (S.2.1 k 2).toNat
    (repeat' split)
    all_goals first
      | exact hO
      | exact hO.ref
      | (have ho := hO.1 k (by omega) (by omega)
         exact hO.put ho.1 rfl (by omega) (by omega) (by rw [zIns_len]; omega))
  · unfold sp_puts
    rw [if_neg hc]
    exact hO
theorem ok_cuts {c : Int} (hO : zOk S) (hL : ∀ k, k < 4 → (S.1 k).length ≤ 16) : zOk (sp_cuts S c).2 := by
  by_cases hc : 0 ≤ c ∧ c < 3
  · obtain ⟨k, rfl⟩ := Int.eq_ofNat_of_zero_le hc.1
    unfold sp_cuts
    simp only [Int.toNat_natCast]
    have h16 := hL (S.2.1 k 2).toNat
    by_cases c1 : S.2.1 k 0 = 1
    · by_cases c2 : S.2.1 k 1 ≠ 0
      · rw [if_pos hc, if_pos c1, if_pos c2]; exact hO.ref
      · by_cases c3 : S.2.1 k 4 = -1
        · rw [if_pos hc, if_pos c1, if_neg c2, if_pos c3]; exact hO.ref
        · rw [if_pos hc, if_pos c1, if_neg c2, if_neg c3]
          have ho := hO.1 k (by omega) (by omega)
          exact hO.put ho.1 rfl (by split <;> omega) (by omega) (by rw [zDel_len]; split <;> omega)
    · rw [if_pos hc, if_neg c1]; exact hO
  · unfold sp_cuts
    rw [if_neg hc]
    exact hO
theorem zMt_la {L : List Int} {ia la ib lb N : Int} (h0 : 0 ≤ ia ∧ ia ≤ ib ∧ ib ≤ 16) (h1 : -1 ≤ la ∧ la ≤ 15) (h2 : -1 ≤ lb ∧ lb ≤ 15) (hN : ib ≤ N) (g1 : la < N) (g2 : lb < N) : ∀ m : Nat, (zMt L ia la ib lb m).2.2.1 < N ∧ (zMt L ia la ib lb m).2.2.2.2 < N
  | 0 => by unfold zMt; exact ⟨g1, g2⟩
  | m + 1 => by
    have a := zMt_in (L := L) h0 h1 h2 m
    have := zMt_la (L := L) h0 h1 h2 hN g1 g2 m
    unfold zMt
    split
    · split <;> dsimp only <;> omega
    · exact this
theorem ok_meet {c o : Int} (hO : zOk S) (hL : ∀ k, k < 4 → (S.1 k).length ≤ 16) : zOk (sp_meet S c o).2 := by
  unfold sp_meet
  have h16 := hL (S.2.1 c.toNat 2).toNat
  (repeat' split)
  all_goals first
    | exact hO
    | exact hO.ref
    | (have ho := hO.1 c.toNat (by omega) (by omega)
       have ho2 := hO.1 o.toNat (by omega) (by omega)
       have e2 : S.2.1 o.toNat 2 = S.2.1 c.toNat 2 := by omega
       rw [e2] at ho2
       have z1 := zMt_in (L := S.1 (S.2.1 c.toNat 2).toNat) (ia := S.2.1 c.toNat 3) (la := S.2.1 c.toNat 4) (ib := S.2.1 o.toNat 3) (lb := S.2.1 o.toNat 4) (by omega) (by omega) (by omega) 16
       have z2 := zMt_la (L := S.1 (S.2.1 c.toNat 2).toNat) (ia := S.2.1 c.toNat 3) (la := S.2.1 c.toNat 4) (ib := S.2.1 o.toNat 3) (lb := S.2.1 o.toNat 4) (N := ((S.1 (S.2.1 c.toNat 2).toNat).length : Int)) (by omega) (by omega) (by omega) (by omega) (by omega) (by omega) 16
       refine zOk.cur (S := zsC S _) (hO.cur (fun _ => by omega)) (fun _ => ?_)
       rw [e2]
       show (0 ≤ S.2.1 c.toNat 2 ∧ S.2.1 c.toNat 2 < 4) ∧ _ ∧ _ ∧ (_ → _ ≤ (((S.1 (S.2.1 c.toNat 2).toNat).length : Nat) : Int) ∧ _ < (((S.1 (S.2.1 c.toNat 2).toNat).length : Nat) : Int))
       omega)
end OK2
end
