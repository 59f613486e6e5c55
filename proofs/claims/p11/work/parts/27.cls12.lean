section CLS12
variable {G : zG} {l : Launch} {h h' : zHp} {ad : Nat → Nat} {S : zSt}
theorem zCnt_le (A : List Int) (k : Int) : zCnt A k ≤ A.length := List.countP_le_length
theorem zCost_in {T : Nat → Int} {L : List Int} {B : Int} (hT : ∀ k : Nat, k < 8 → 0 ≤ T k ∧ T k ≤ B) (hL : L.length ≤ 16) : ∀ n : Nat, n ≤ 8 → 0 ≤ zCost T L n ∧ zCost T L n ≤ n * (B * 16)
  | 0, _ => by unfold zCost; omega
  | n + 1, hn => by
    have h1 := zCost_in hT hL n (by omega)
    have h2 := hT n (by omega)
    have h3 := zFind_in L n 0
    unfold zCost
    have p1 : 0 ≤ T n * (zFind L n 0 + 1) := Int.mul_nonneg h2.1 (by omega)
    have p2 : T n * (zFind L n 0 + 1) ≤ B * 16 := Int.mul_le_mul h2.2 (by omega) (by omega) (by omega)
    have e : ((n + 1 : Nat) : Int) * (B * 16) = n * (B * 16) + B * 16 := by rw [Int.natCast_add, Int.add_mul]; omega
    rw [e]
    omega
/-- what the asked keys cost is no more than the bound of any order -/
def zRS (S : zSt) : Prop := zOrd S.2.2.1 ∧ ∀ k : Nat, k < 4 → zOrd (S.1 k) → S.2.2.2.2 0 ≤ 2 * zCost (zCntT S.2.2.2.1) (S.1 k) 8 - (S.2.2.2.1.length : Int) + zInv (S.1 k)
theorem k_Cls_addsUp {k j : Nat} (hC : zCls G h ad S) (hk : k < 4) (hj : j < 4) : zM G l hCls_addsUp yCls_addsUp 5 [.ref (ad 0), .ref (ad (8 + 2 * k)), .ref (ad (8 + 2 * j))] h (fun v h' => ∃ b9 : Int, v = some (zi b9) ∧ ((b9 = 1 ∧ zAU (S.1 k) (S.1 j)) ∨ (b9 = 0 ∧ ¬ zAU (S.1 k) (S.1 j))) ∧ zCls G h' ad S ∧ zFrm ad h h') zNo 0 0 := by
  obtain ⟨c1, c2, ⟨g3, c3, d3⟩, ⟨g4, c4, d4⟩, c5, ⟨T6, c6, d6⟩, c7, c8, ⟨R9, c9⟩, c10⟩ := id hC
  obtain ⟨f16, e16, -⟩ := id c9
  have hrA := hC.ls hk
  obtain ⟨fA, eA, -⟩ := id hrA
  have hrB := hC.ls hj
  obtain ⟨fB, eB, -⟩ := id hrB
  refine zM.of [some (.ref (ad 0)), some (.ref (ad (8 + 2 * k))), some (.ref (ad (8 + 2 * j)))] (by decide +kernel) rfl (by decide) rfl (Nat.le_of_ble_eq_true rfl) rfl ?_
  refine z_aload_n dCls_addsUp_0 rfl ?_
  refine z_get (k := 3) fd_Cls (by decide) fl_Cls_29 dCls_addsUp_1 (by assumption) (by rfl) ?_
  refine z_aload_n dCls_addsUp_4 rfl ?_
  refine z_aload_n dCls_addsUp_5 rfl ?_
  refine z_callVN MV_Row_becomeSum lk_Cls_200 dCls_addsUp_6 (k_Row_becomeSum c9 hrA hrB (hC.inj (by omega) (by omega) (by omega)) (hC.inj (by omega) (by omega) (by omega)) (hC.inj (by omega) (by omega) (by omega)) (hC.inj (by omega) (by omega) (by omega))) rfl rfl (Nat.le_of_ble_eq_true rfl) rfl (by assumption) (Nat.le_of_ble_eq_true rfl) (Nat.le_of_ble_eq_true rfl) (Nat.le_of_eq (Nat.zero_add _)) (Nat.le_of_eq (Nat.zero_add _)) (fun _ _ q => q.elim) ?_
  rintro _ h1 (⟨rfl, m1, hR1, f1⟩ | ⟨rfl, m1, ⟨L9, hR1⟩, f1⟩)
  · have F1 : ∀ q, q ≠ ad 16 → q ≠ ad 17 → h1 q = h q := fun q x y => f1 q x y
    have hC1 := hC.res hR1 F1
    obtain ⟨-, d1, -⟩ := id hC1
    have fz1 : zFrm ad h h1 := zFrm.of2 (i := 16) (j := 17) (by omega) (by omega) F1
    obtain ⟨fr1, er1, -⟩ := id hR1
    have hrA1 := hrA.kept (F1 _ (hC.inj (by omega) (by omega) (by omega)) (hC.inj (by omega) (by omega) (by omega))) (F1 _ (hC.inj (by omega) (by omega) (by omega)) (hC.inj (by omega) (by omega) (by omega)))
    obtain ⟨fA1, eA1, -⟩ := id hrA1
    have hrB1 := hrB.kept (F1 _ (hC.inj (by omega) (by omega) (by omega)) (hC.inj (by omega) (by omega) (by omega))) (F1 _ (hC.inj (by omega) (by omega) (by omega)) (hC.inj (by omega) (by omega) (by omega)))
    obtain ⟨fB1, eB1, -⟩ := id hrB1
    refine z_if_eq (tgt := 24) dCls_addsUp_9 (by decide) (by omega) (fun c9 => ?_) (fun c9 => ?_)
    · refine z_aload_n dCls_addsUp_24 rfl ?_
      refine z_get (k := 3) fd_Cls (by decide) fl_Cls_29 dCls_addsUp_25 (by assumption) (by rfl) ?_
      refine z_aload_n dCls_addsUp_28 rfl ?_
      refine z_aload_n dCls_addsUp_29 rfl ?_
      refine z_callVN MV_Row_becomeProduct lk_Cls_203 dCls_addsUp_30 (k_Row_becomeProduct hR1 hrA1 hrB1 (hC.inj (by omega) (by omega) (by omega)) (hC.inj (by omega) (by omega) (by omega)) (hC.inj (by omega) (by omega) (by omega)) (hC.inj (by omega) (by omega) (by omega))) rfl rfl (Nat.le_of_ble_eq_true rfl) rfl (by assumption) (Nat.le_of_ble_eq_true rfl) (Nat.le_of_ble_eq_true rfl) (Nat.le_of_eq (Nat.zero_add _)) (Nat.le_of_eq (Nat.zero_add _)) (fun _ _ q => q.elim) ?_
      rintro _ h2 (⟨rfl, m2, hR2, f2⟩ | ⟨rfl, m2, ⟨L8, hR2⟩, f2⟩)
      · have F2 : ∀ q, q ≠ ad 16 → q ≠ ad 17 → h2 q = h q := fun q x y => (f2 q x y).trans (F1 q x y)
        have hC2 := hC.res hR2 F2
        obtain ⟨-, d2, -⟩ := id hC2
        have fz2 : zFrm ad h h2 := zFrm.of2 (i := 16) (j := 17) (by omega) (by omega) F2
        obtain ⟨fr2, er2, -⟩ := id hR2
        have hrA2 := hrA.kept (F2 _ (hC.inj (by omega) (by omega) (by omega)) (hC.inj (by omega) (by omega) (by omega))) (F2 _ (hC.inj (by omega) (by omega) (by omega)) (hC.inj (by omega) (by omega) (by omega)))
        obtain ⟨fA2, eA2, -⟩ := id hrA2
        have hrB2 := hrB.kept (F2 _ (hC.inj (by omega) (by omega) (by omega)) (hC.inj (by omega) (by omega) (by omega))) (F2 _ (hC.inj (by omega) (by omega) (by omega)) (hC.inj (by omega) (by omega) (by omega)))
        obtain ⟨fB2, eB2, -⟩ := id hrB2
        refine z_if_eq (tgt := 46) dCls_addsUp_33 (by decide) (by omega) (fun c33 => ?_) (fun c33 => ?_)
        · refine z_iconst dCls_addsUp_46 ?_
          refine z_goto (tgt := 51) dCls_addsUp_47 (by decide) ?_
          refine z_iret rfl rfl dCls_addsUp_51 ?_
          first
            | (exfalso; omega)
            | exact ⟨1, rfl, Or.inl ⟨rfl, fun q => by first | exact m8 | exact absurd q m1, fun q => by first | exact m9 | exact absurd q m2⟩, by assumption, by assumption⟩
            | exact ⟨0, rfl, Or.inr ⟨rfl, fun q => m8 (q.1 m1)⟩, by assumption, by assumption⟩
            | exact ⟨0, rfl, Or.inr ⟨rfl, fun q => m9 (q.2 m2)⟩, by assumption, by assumption⟩
        · refine z_aload_n dCls_addsUp_36 rfl ?_
          refine z_aload_n dCls_addsUp_37 rfl ?_
          refine z_aload_n dCls_addsUp_38 rfl ?_
          refine z_iconst dCls_addsUp_39 ?_
          refine z_callV MV_Cls_agreesWithResult lk_Cls_325 dCls_addsUp_40 (k_Cls_agreesWithResult (x := 0) hC2 hrA2 hrB2 hR2 (by omega)) rfl rfl (Nat.le_of_ble_eq_true rfl) rfl (by assumption) (Nat.le_of_ble_eq_true rfl) (Nat.le_of_ble_eq_true rfl) (Nat.le_of_eq (Nat.zero_add _)) (Nat.le_of_eq (Nat.zero_add _)) (fun _ _ q => q.elim) ?_
          rintro _ _ ⟨b9, rfl, (⟨rfl, m9⟩ | ⟨rfl, m9⟩), rfl⟩
          · refine z_if_eq (tgt := 50) dCls_addsUp_43 (by decide) (by omega) (fun c43 => ?_) (fun c43 => ?_)
            · refine z_iconst dCls_addsUp_50 ?_
              refine z_iret rfl rfl dCls_addsUp_51 ?_
              first
                | (exfalso; omega)
                | exact ⟨1, rfl, Or.inl ⟨rfl, fun q => by first | exact m8 | exact absurd q m1, fun q => by first | exact m9 | exact absurd q m2⟩, by assumption, by assumption⟩
                | exact ⟨0, rfl, Or.inr ⟨rfl, fun q => m8 (q.1 m1)⟩, by assumption, by assumption⟩
                | exact ⟨0, rfl, Or.inr ⟨rfl, fun q => m9 (q.2 m2)⟩, by assumption, by assumption⟩
            · refine z_iconst dCls_addsUp_46 ?_
              refine z_goto (tgt := 51) dCls_addsUp_47 (by decide) ?_
              refine z_iret rfl rfl dCls_addsUp_51 ?_
              first
                | (exfalso; omega)
                | exact ⟨1, rfl, Or.inl ⟨rfl, fun q => by first | exact m8 | exact absurd q m1, fun q => by first | exact m9 | exact absurd q m2⟩, by assumption, by assumption⟩
                | exact ⟨0, rfl, Or.inr ⟨rfl, fun q => m8 (q.1 m1)⟩, by assumption, by assumption⟩
                | exact ⟨0, rfl, Or.inr ⟨rfl, fun q => m9 (q.2 m2)⟩, by assumption, by assumption⟩
          · refine z_if_eq (tgt := 50) dCls_addsUp_43 (by decide) (by omega) (fun c43 => ?_) (fun c43 => ?_)
            · refine z_iconst dCls_addsUp_50 ?_
              refine z_iret rfl rfl dCls_addsUp_51 ?_
              first
                | (exfalso; omega)
                | exact ⟨1, rfl, Or.inl ⟨rfl, fun q => by first | exact m8 | exact absurd q m1, fun q => by first | exact m9 | exact absurd q m2⟩, by assumption, by assumption⟩
                | exact ⟨0, rfl, Or.inr ⟨rfl, fun q => m8 (q.1 m1)⟩, by assumption, by assumption⟩
                | exact ⟨0, rfl, Or.inr ⟨rfl, fun q => m9 (q.2 m2)⟩, by assumption, by assumption⟩
            · refine z_iconst dCls_addsUp_46 ?_
              refine z_goto (tgt := 51) dCls_addsUp_47 (by decide) ?_
              refine z_iret rfl rfl dCls_addsUp_51 ?_
              first
                | (exfalso; omega)
                | exact ⟨1, rfl, Or.inl ⟨rfl, fun q => by first | exact m8 | exact absurd q m1, fun q => by first | exact m9 | exact absurd q m2⟩, by assumption, by assumption⟩
                | exact ⟨0, rfl, Or.inr ⟨rfl, fun q => m8 (q.1 m1)⟩, by assumption, by assumption⟩
                | exact ⟨0, rfl, Or.inr ⟨rfl, fun q => m9 (q.2 m2)⟩, by assumption, by assumption⟩
      · have F2 : ∀ q, q ≠ ad 16 → q ≠ ad 17 → h2 q = h q := fun q x y => (f2 q x y).trans (F1 q x y)
        have hC2 := hC.res hR2 F2
        obtain ⟨-, d2, -⟩ := id hC2
        have fz2 : zFrm ad h h2 := zFrm.of2 (i := 16) (j := 17) (by omega) (by omega) F2
        obtain ⟨fr2, er2, -⟩ := id hR2
        have hrA2 := hrA.kept (F2 _ (hC.inj (by omega) (by omega) (by omega)) (hC.inj (by omega) (by omega) (by omega))) (F2 _ (hC.inj (by omega) (by omega) (by omega)) (hC.inj (by omega) (by omega) (by omega)))
        obtain ⟨fA2, eA2, -⟩ := id hrA2
        have hrB2 := hrB.kept (F2 _ (hC.inj (by omega) (by omega) (by omega)) (hC.inj (by omega) (by omega) (by omega))) (F2 _ (hC.inj (by omega) (by omega) (by omega)) (hC.inj (by omega) (by omega) (by omega)))
        obtain ⟨fB2, eB2, -⟩ := id hrB2
        refine z_if_eq (tgt := 46) dCls_addsUp_33 (by decide) (by omega) (fun c33 => ?_) (fun c33 => ?_)
        · refine z_iconst dCls_addsUp_46 ?_
          refine z_goto (tgt := 51) dCls_addsUp_47 (by decide) ?_
          refine z_iret rfl rfl dCls_addsUp_51 ?_
          first
            | (exfalso; omega)
            | exact ⟨1, rfl, Or.inl ⟨rfl, fun q => by first | exact m8 | exact absurd q m1, fun q => by first | exact m9 | exact absurd q m2⟩, by assumption, by assumption⟩
            | exact ⟨0, rfl, Or.inr ⟨rfl, fun q => m8 (q.1 m1)⟩, by assumption, by assumption⟩
            | exact ⟨0, rfl, Or.inr ⟨rfl, fun q => m9 (q.2 m2)⟩, by assumption, by assumption⟩
        · refine z_aload_n dCls_addsUp_36 rfl ?_
          refine z_aload_n dCls_addsUp_37 rfl ?_
          refine z_aload_n dCls_addsUp_38 rfl ?_
          refine z_iconst dCls_addsUp_39 ?_
          refine z_callV MV_Cls_agreesWithResult lk_Cls_325 dCls_addsUp_40 (k_Cls_agreesWithResult (x := 0) hC2 hrA2 hrB2 hR2 (by omega)) rfl rfl (Nat.le_of_ble_eq_true rfl) rfl (by assumption) (Nat.le_of_ble_eq_true rfl) (Nat.le_of_ble_eq_true rfl) (Nat.le_of_eq (Nat.zero_add _)) (Nat.le_of_eq (Nat.zero_add _)) (fun _ _ q => q.elim) ?_
          rintro _ _ ⟨b9, rfl, (⟨rfl, m9⟩ | ⟨rfl, m9⟩), rfl⟩
          · refine z_if_eq (tgt := 50) dCls_addsUp_43 (by decide) (by omega) (fun c43 => ?_) (fun c43 => ?_)
            · refine z_iconst dCls_addsUp_50 ?_
              refine z_iret rfl rfl dCls_addsUp_51 ?_
              first
                | (exfalso; omega)
                | exact ⟨1, rfl, Or.inl ⟨rfl, fun q => by first | exact m8 | exact absurd q m1, fun q => by first | exact m9 | exact absurd q m2⟩, by assumption, by assumption⟩
                | exact ⟨0, rfl, Or.inr ⟨rfl, fun q => m8 (q.1 m1)⟩, by assumption, by assumption⟩
                | exact ⟨0, rfl, Or.inr ⟨rfl, fun q => m9 (q.2 m2)⟩, by assumption, by assumption⟩
            · refine z_iconst dCls_addsUp_46 ?_
              refine z_goto (tgt := 51) dCls_addsUp_47 (by decide) ?_
              refine z_iret rfl rfl dCls_addsUp_51 ?_
              first
                | (exfalso; omega)
                | exact ⟨1, rfl, Or.inl ⟨rfl, fun q => by first | exact m8 | exact absurd q m1, fun q => by first | exact m9 | exact absurd q m2⟩, by assumption, by assumption⟩
                | exact ⟨0, rfl, Or.inr ⟨rfl, fun q => m8 (q.1 m1)⟩, by assumption, by assumption⟩
                | exact ⟨0, rfl, Or.inr ⟨rfl, fun q => m9 (q.2 m2)⟩, by assumption, by assumption⟩
          · refine z_if_eq (tgt := 50) dCls_addsUp_43 (by decide) (by omega) (fun c43 => ?_) (fun c43 => ?_)
            · refine z_iconst dCls_addsUp_50 ?_
              refine z_iret rfl rfl dCls_addsUp_51 ?_
              first
                | (exfalso; omega)
                | exact ⟨1, rfl, Or.inl ⟨rfl, fun q => by first | exact m8 | exact absurd q m1, fun q => by first | exact m9 | exact absurd q m2⟩, by assumption, by assumption⟩
                | exact ⟨0, rfl, Or.inr ⟨rfl, fun q => m8 (q.1 m1)⟩, by assumption, by assumption⟩
                | exact ⟨0, rfl, Or.inr ⟨rfl, fun q => m9 (q.2 m2)⟩, by assumption, by assumption⟩
            · refine z_iconst dCls_addsUp_46 ?_
              refine z_goto (tgt := 51) dCls_addsUp_47 (by decide) ?_
              refine z_iret rfl rfl dCls_addsUp_51 ?_
              first
                | (exfalso; omega)
                | exact ⟨1, rfl, Or.inl ⟨rfl, fun q => by first | exact m8 | exact absurd q m1, fun q => by first | exact m9 | exact absurd q m2⟩, by assumption, by assumption⟩
                | exact ⟨0, rfl, Or.inr ⟨rfl, fun q => m8 (q.1 m1)⟩, by assumption, by assumption⟩
                | exact ⟨0, rfl, Or.inr ⟨rfl, fun q => m9 (q.2 m2)⟩, by assumption, by assumption⟩
    · refine z_aload_n dCls_addsUp_12 rfl ?_
      refine z_aload_n dCls_addsUp_13 rfl ?_
      refine z_aload_n dCls_addsUp_14 rfl ?_
      refine z_iconst dCls_addsUp_15 ?_
      refine z_callV MV_Cls_agreesWithResult lk_Cls_325 dCls_addsUp_16 (k_Cls_agreesWithResult (x := 0) hC1 hrA1 hrB1 hR1 (by omega)) rfl rfl (Nat.le_of_ble_eq_true rfl) rfl (by assumption) (Nat.le_of_ble_eq_true rfl) (Nat.le_of_ble_eq_true rfl) (Nat.le_of_eq (Nat.zero_add _)) (Nat.le_of_eq (Nat.zero_add _)) (fun _ _ q => q.elim) ?_
      rintro _ _ ⟨b8, rfl, (⟨rfl, m8⟩ | ⟨rfl, m8⟩), rfl⟩
      · refine z_if_ne (tgt := 24) dCls_addsUp_19 (by decide) (by omega) (fun c19 => ?_) (fun c19 => ?_)
        · refine z_aload_n dCls_addsUp_24 rfl ?_
          refine z_get (k := 3) fd_Cls (by decide) fl_Cls_29 dCls_addsUp_25 (by assumption) (by rfl) ?_
          refine z_aload_n dCls_addsUp_28 rfl ?_
          refine z_aload_n dCls_addsUp_29 rfl ?_
          refine z_callVN MV_Row_becomeProduct lk_Cls_203 dCls_addsUp_30 (k_Row_becomeProduct hR1 hrA1 hrB1 (hC.inj (by omega) (by omega) (by omega)) (hC.inj (by omega) (by omega) (by omega)) (hC.inj (by omega) (by omega) (by omega)) (hC.inj (by omega) (by omega) (by omega))) rfl rfl (Nat.le_of_ble_eq_true rfl) rfl (by assumption) (Nat.le_of_ble_eq_true rfl) (Nat.le_of_ble_eq_true rfl) (Nat.le_of_eq (Nat.zero_add _)) (Nat.le_of_eq (Nat.zero_add _)) (fun _ _ q => q.elim) ?_
          rintro _ h2 (⟨rfl, m2, hR2, f2⟩ | ⟨rfl, m2, ⟨L8, hR2⟩, f2⟩)
          · have F2 : ∀ q, q ≠ ad 16 → q ≠ ad 17 → h2 q = h q := fun q x y => (f2 q x y).trans (F1 q x y)
            have hC2 := hC.res hR2 F2
            obtain ⟨-, d2, -⟩ := id hC2
            have fz2 : zFrm ad h h2 := zFrm.of2 (i := 16) (j := 17) (by omega) (by omega) F2
            obtain ⟨fr2, er2, -⟩ := id hR2
            have hrA2 := hrA.kept (F2 _ (hC.inj (by omega) (by omega) (by omega)) (hC.inj (by omega) (by omega) (by omega))) (F2 _ (hC.inj (by omega) (by omega) (by omega)) (hC.inj (by omega) (by omega) (by omega)))
            obtain ⟨fA2, eA2, -⟩ := id hrA2
            have hrB2 := hrB.kept (F2 _ (hC.inj (by omega) (by omega) (by omega)) (hC.inj (by omega) (by omega) (by omega))) (F2 _ (hC.inj (by omega) (by omega) (by omega)) (hC.inj (by omega) (by omega) (by omega)))
            obtain ⟨fB2, eB2, -⟩ := id hrB2
            refine z_if_eq (tgt := 46) dCls_addsUp_33 (by decide) (by omega) (fun c33 => ?_) (fun c33 => ?_)
            · refine z_iconst dCls_addsUp_46 ?_
              refine z_goto (tgt := 51) dCls_addsUp_47 (by decide) ?_
              refine z_iret rfl rfl dCls_addsUp_51 ?_
              first
                | (exfalso; omega)
                | exact ⟨1, rfl, Or.inl ⟨rfl, fun q => by first | exact m8 | exact absurd q m1, fun q => by first | exact m9 | exact absurd q m2⟩, by assumption, by assumption⟩
                | exact ⟨0, rfl, Or.inr ⟨rfl, fun q => m8 (q.1 m1)⟩, by assumption, by assumption⟩
                | exact ⟨0, rfl, Or.inr ⟨rfl, fun q => m9 (q.2 m2)⟩, by assumption, by assumption⟩
            · refine z_aload_n dCls_addsUp_36 rfl ?_
              refine z_aload_n dCls_addsUp_37 rfl ?_
              refine z_aload_n dCls_addsUp_38 rfl ?_
              refine z_iconst dCls_addsUp_39 ?_
              refine z_callV MV_Cls_agreesWithResult lk_Cls_325 dCls_addsUp_40 (k_Cls_agreesWithResult (x := 0) hC2 hrA2 hrB2 hR2 (by omega)) rfl rfl (Nat.le_of_ble_eq_true rfl) rfl (by assumption) (Nat.le_of_ble_eq_true rfl) (Nat.le_of_ble_eq_true rfl) (Nat.le_of_eq (Nat.zero_add _)) (Nat.le_of_eq (Nat.zero_add _)) (fun _ _ q => q.elim) ?_
              rintro _ _ ⟨b9, rfl, (⟨rfl, m9⟩ | ⟨rfl, m9⟩), rfl⟩
              · refine z_if_eq (tgt := 50) dCls_addsUp_43 (by decide) (by omega) (fun c43 => ?_) (fun c43 => ?_)
                · refine z_iconst dCls_addsUp_50 ?_
                  refine z_iret rfl rfl dCls_addsUp_51 ?_
                  first
                    | (exfalso; omega)
                    | exact ⟨1, rfl, Or.inl ⟨rfl, fun q => by first | exact m8 | exact absurd q m1, fun q => by first | exact m9 | exact absurd q m2⟩, by assumption, by assumption⟩
                    | exact ⟨0, rfl, Or.inr ⟨rfl, fun q => m8 (q.1 m1)⟩, by assumption, by assumption⟩
                    | exact ⟨0, rfl, Or.inr ⟨rfl, fun q => m9 (q.2 m2)⟩, by assumption, by assumption⟩
                · refine z_iconst dCls_addsUp_46 ?_
                  refine z_goto (tgt := 51) dCls_addsUp_47 (by decide) ?_
                  refine z_iret rfl rfl dCls_addsUp_51 ?_
                  first
                    | (exfalso; omega)
                    | exact ⟨1, rfl, Or.inl ⟨rfl, fun q => by first | exact m8 | exact absurd q m1, fun q => by first | exact m9 | exact absurd q m2⟩, by assumption, by assumption⟩
                    | exact ⟨0, rfl, Or.inr ⟨rfl, fun q => m8 (q.1 m1)⟩, by assumption, by assumption⟩
                    | exact ⟨0, rfl, Or.inr ⟨rfl, fun q => m9 (q.2 m2)⟩, by assumption, by assumption⟩
              · refine z_if_eq (tgt := 50) dCls_addsUp_43 (by decide) (by omega) (fun c43 => ?_) (fun c43 => ?_)
                · refine z_iconst dCls_addsUp_50 ?_
                  refine z_iret rfl rfl dCls_addsUp_51 ?_
                  first
                    | (exfalso; omega)
                    | exact ⟨1, rfl, Or.inl ⟨rfl, fun q => by first | exact m8 | exact absurd q m1, fun q => by first | exact m9 | exact absurd q m2⟩, by assumption, by assumption⟩
                    | exact ⟨0, rfl, Or.inr ⟨rfl, fun q => m8 (q.1 m1)⟩, by assumption, by assumption⟩
                    | exact ⟨0, rfl, Or.inr ⟨rfl, fun q => m9 (q.2 m2)⟩, by assumption, by assumption⟩
                · refine z_iconst dCls_addsUp_46 ?_
                  refine z_goto (tgt := 51) dCls_addsUp_47 (by decide) ?_
                  refine z_iret rfl rfl dCls_addsUp_51 ?_
                  first
                    | (exfalso; omega)
                    | exact ⟨1, rfl, Or.inl ⟨rfl, fun q => by first | exact m8 | exact absurd q m1, fun q => by first | exact m9 | exact absurd q m2⟩, by assumption, by assumption⟩
                    | exact ⟨0, rfl, Or.inr ⟨rfl, fun q => m8 (q.1 m1)⟩, by assumption, by assumption⟩
                    | exact ⟨0, rfl, Or.inr ⟨rfl, fun q => m9 (q.2 m2)⟩, by assumption, by assumption⟩
          · have F2 : ∀ q, q ≠ ad 16 → q ≠ ad 17 → h2 q = h q := fun q x y => (f2 q x y).trans (F1 q x y)
            have hC2 := hC.res hR2 F2
            obtain ⟨-, d2, -⟩ := id hC2
            have fz2 : zFrm ad h h2 := zFrm.of2 (i := 16) (j := 17) (by omega) (by omega) F2
            obtain ⟨fr2, er2, -⟩ := id hR2
            have hrA2 := hrA.kept (F2 _ (hC.inj (by omega) (by omega) (by omega)) (hC.inj (by omega) (by omega) (by omega))) (F2 _ (hC.inj (by omega) (by omega) (by omega)) (hC.inj (by omega) (by omega) (by omega)))
            obtain ⟨fA2, eA2, -⟩ := id hrA2
            have hrB2 := hrB.kept (F2 _ (hC.inj (by omega) (by omega) (by omega)) (hC.inj (by omega) (by omega) (by omega))) (F2 _ (hC.inj (by omega) (by omega) (by omega)) (hC.inj (by omega) (by omega) (by omega)))
            obtain ⟨fB2, eB2, -⟩ := id hrB2
            refine z_if_eq (tgt := 46) dCls_addsUp_33 (by decide) (by omega) (fun c33 => ?_) (fun c33 => ?_)
            · refine z_iconst dCls_addsUp_46 ?_
              refine z_goto (tgt := 51) dCls_addsUp_47 (by decide) ?_
              refine z_iret rfl rfl dCls_addsUp_51 ?_
              first
                | (exfalso; omega)
                | exact ⟨1, rfl, Or.inl ⟨rfl, fun q => by first | exact m8 | exact absurd q m1, fun q => by first | exact m9 | exact absurd q m2⟩, by assumption, by assumption⟩
                | exact ⟨0, rfl, Or.inr ⟨rfl, fun q => m8 (q.1 m1)⟩, by assumption, by assumption⟩
                | exact ⟨0, rfl, Or.inr ⟨rfl, fun q => m9 (q.2 m2)⟩, by assumption, by assumption⟩
            · refine z_aload_n dCls_addsUp_36 rfl ?_
              refine z_aload_n dCls_addsUp_37 rfl ?_
              refine z_aload_n dCls_addsUp_38 rfl ?_
              refine z_iconst dCls_addsUp_39 ?_
              refine z_callV MV_Cls_agreesWithResult lk_Cls_325 dCls_addsUp_40 (k_Cls_agreesWithResult (x := 0) hC2 hrA2 hrB2 hR2 (by omega)) rfl rfl (Nat.le_of_ble_eq_true rfl) rfl (by assumption) (Nat.le_of_ble_eq_true rfl) (Nat.le_of_ble_eq_true rfl) (Nat.le_of_eq (Nat.zero_add _)) (Nat.le_of_eq (Nat.zero_add _)) (fun _ _ q => q.elim) ?_
              rintro _ _ ⟨b9, rfl, (⟨rfl, m9⟩ | ⟨rfl, m9⟩), rfl⟩
              · refine z_if_eq (tgt := 50) dCls_addsUp_43 (by decide) (by omega) (fun c43 => ?_) (fun c43 => ?_)
                · refine z_iconst dCls_addsUp_50 ?_
                  refine z_iret rfl rfl dCls_addsUp_51 ?_
                  first
                    | (exfalso; omega)
                    | exact ⟨1, rfl, Or.inl ⟨rfl, fun q => by first | exact m8 | exact absurd q m1, fun q => by first | exact m9 | exact absurd q m2⟩, by assumption, by assumption⟩
                    | exact ⟨0, rfl, Or.inr ⟨rfl, fun q => m8 (q.1 m1)⟩, by assumption, by assumption⟩
                    | exact ⟨0, rfl, Or.inr ⟨rfl, fun q => m9 (q.2 m2)⟩, by assumption, by assumption⟩
                · refine z_iconst dCls_addsUp_46 ?_
                  refine z_goto (tgt := 51) dCls_addsUp_47 (by decide) ?_
                  refine z_iret rfl rfl dCls_addsUp_51 ?_
                  first
                    | (exfalso; omega)
                    | exact ⟨1, rfl, Or.inl ⟨rfl, fun q => by first | exact m8 | exact absurd q m1, fun q => by first | exact m9 | exact absurd q m2⟩, by assumption, by assumption⟩
                    | exact ⟨0, rfl, Or.inr ⟨rfl, fun q => m8 (q.1 m1)⟩, by assumption, by assumption⟩
                    | exact ⟨0, rfl, Or.inr ⟨rfl, fun q => m9 (q.2 m2)⟩, by assumption, by assumption⟩
              · refine z_if_eq (tgt := 50) dCls_addsUp_43 (by decide) (by omega) (fun c43 => ?_) (fun c43 => ?_)
                · refine z_iconst dCls_addsUp_50 ?_
                  refine z_iret rfl rfl dCls_addsUp_51 ?_
                  first
                    | (exfalso; omega)
                    | exact ⟨1, rfl, Or.inl ⟨rfl, fun q => by first | exact m8 | exact absurd q m1, fun q => by first | exact m9 | exact absurd q m2⟩, by assumption, by assumption⟩
                    | exact ⟨0, rfl, Or.inr ⟨rfl, fun q => m8 (q.1 m1)⟩, by assumption, by assumption⟩
                    | exact ⟨0, rfl, Or.inr ⟨rfl, fun q => m9 (q.2 m2)⟩, by assumption, by assumption⟩
                · refine z_iconst dCls_addsUp_46 ?_
                  refine z_goto (tgt := 51) dCls_addsUp_47 (by decide) ?_
                  refine z_iret rfl rfl dCls_addsUp_51 ?_
                  first
                    | (exfalso; omega)
                    | exact ⟨1, rfl, Or.inl ⟨rfl, fun q => by first | exact m8 | exact absurd q m1, fun q => by first | exact m9 | exact absurd q m2⟩, by assumption, by assumption⟩
                    | exact ⟨0, rfl, Or.inr ⟨rfl, fun q => m8 (q.1 m1)⟩, by assumption, by assumption⟩
                    | exact ⟨0, rfl, Or.inr ⟨rfl, fun q => m9 (q.2 m2)⟩, by assumption, by assumption⟩
        · refine z_iconst dCls_addsUp_22 ?_
          refine z_iret rfl rfl dCls_addsUp_23 ?_
          first
            | (exfalso; omega)
            | exact ⟨1, rfl, Or.inl ⟨rfl, fun q => by first | exact m8 | exact absurd q m1, fun q => by first | exact m9 | exact absurd q m2⟩, by assumption, by assumption⟩
            | exact ⟨0, rfl, Or.inr ⟨rfl, fun q => m8 (q.1 m1)⟩, by assumption, by assumption⟩
            | exact ⟨0, rfl, Or.inr ⟨rfl, fun q => m9 (q.2 m2)⟩, by assumption, by assumption⟩
      · refine z_if_ne (tgt := 24) dCls_addsUp_19 (by decide) (by omega) (fun c19 => ?_) (fun c19 => ?_)
        · refine z_aload_n dCls_addsUp_24 rfl ?_
          refine z_get (k := 3) fd_Cls (by decide) fl_Cls_29 dCls_addsUp_25 (by assumption) (by rfl) ?_
          refine z_aload_n dCls_addsUp_28 rfl ?_
          refine z_aload_n dCls_addsUp_29 rfl ?_
          refine z_callVN MV_Row_becomeProduct lk_Cls_203 dCls_addsUp_30 (k_Row_becomeProduct hR1 hrA1 hrB1 (hC.inj (by omega) (by omega) (by omega)) (hC.inj (by omega) (by omega) (by omega)) (hC.inj (by omega) (by omega) (by omega)) (hC.inj (by omega) (by omega) (by omega))) rfl rfl (Nat.le_of_ble_eq_true rfl) rfl (by assumption) (Nat.le_of_ble_eq_true rfl) (Nat.le_of_ble_eq_true rfl) (Nat.le_of_eq (Nat.zero_add _)) (Nat.le_of_eq (Nat.zero_add _)) (fun _ _ q => q.elim) ?_
          rintro _ h2 (⟨rfl, m2, hR2, f2⟩ | ⟨rfl, m2, ⟨L8, hR2⟩, f2⟩)
          · have F2 : ∀ q, q ≠ ad 16 → q ≠ ad 17 → h2 q = h q := fun q x y => (f2 q x y).trans (F1 q x y)
            have hC2 := hC.res hR2 F2
            obtain ⟨-, d2, -⟩ := id hC2
            have fz2 : zFrm ad h h2 := zFrm.of2 (i := 16) (j := 17) (by omega) (by omega) F2
            obtain ⟨fr2, er2, -⟩ := id hR2
            have hrA2 := hrA.kept (F2 _ (hC.inj (by omega) (by omega) (by omega)) (hC.inj (by omega) (by omega) (by omega))) (F2 _ (hC.inj (by omega) (by omega) (by omega)) (hC.inj (by omega) (by omega) (by omega)))
            obtain ⟨fA2, eA2, -⟩ := id hrA2
            have hrB2 := hrB.kept (F2 _ (hC.inj (by omega) (by omega) (by omega)) (hC.inj (by omega) (by omega) (by omega))) (F2 _ (hC.inj (by omega) (by omega) (by omega)) (hC.inj (by omega) (by omega) (by omega)))
            obtain ⟨fB2, eB2, -⟩ := id hrB2
            refine z_if_eq (tgt := 46) dCls_addsUp_33 (by decide) (by omega) (fun c33 => ?_) (fun c33 => ?_)
            · refine z_iconst dCls_addsUp_46 ?_
              refine z_goto (tgt := 51) dCls_addsUp_47 (by decide) ?_
              refine z_iret rfl rfl dCls_addsUp_51 ?_
              first
                | (exfalso; omega)
                | exact ⟨1, rfl, Or.inl ⟨rfl, fun q => by first | exact m8 | exact absurd q m1, fun q => by first | exact m9 | exact absurd q m2⟩, by assumption, by assumption⟩
                | exact ⟨0, rfl, Or.inr ⟨rfl, fun q => m8 (q.1 m1)⟩, by assumption, by assumption⟩
                | exact ⟨0, rfl, Or.inr ⟨rfl, fun q => m9 (q.2 m2)⟩, by assumption, by assumption⟩
            · refine z_aload_n dCls_addsUp_36 rfl ?_
              refine z_aload_n dCls_addsUp_37 rfl ?_
              refine z_aload_n dCls_addsUp_38 rfl ?_
              refine z_iconst dCls_addsUp_39 ?_
              refine z_callV MV_Cls_agreesWithResult lk_Cls_325 dCls_addsUp_40 (k_Cls_agreesWithResult (x := 0) hC2 hrA2 hrB2 hR2 (by omega)) rfl rfl (Nat.le_of_ble_eq_true rfl) rfl (by assumption) (Nat.le_of_ble_eq_true rfl) (Nat.le_of_ble_eq_true rfl) (Nat.le_of_eq (Nat.zero_add _)) (Nat.le_of_eq (Nat.zero_add _)) (fun _ _ q => q.elim) ?_
              rintro _ _ ⟨b9, rfl, (⟨rfl, m9⟩ | ⟨rfl, m9⟩), rfl⟩
              · refine z_if_eq (tgt := 50) dCls_addsUp_43 (by decide) (by omega) (fun c43 => ?_) (fun c43 => ?_)
                · refine z_iconst dCls_addsUp_50 ?_
                  refine z_iret rfl rfl dCls_addsUp_51 ?_
                  first
                    | (exfalso; omega)
                    | exact ⟨1, rfl, Or.inl ⟨rfl, fun q => by first | exact m8 | exact absurd q m1, fun q => by first | exact m9 | exact absurd q m2⟩, by assumption, by assumption⟩
                    | exact ⟨0, rfl, Or.inr ⟨rfl, fun q => m8 (q.1 m1)⟩, by assumption, by assumption⟩
                    | exact ⟨0, rfl, Or.inr ⟨rfl, fun q => m9 (q.2 m2)⟩, by assumption, by assumption⟩
                · refine z_iconst dCls_addsUp_46 ?_
                  refine z_goto (tgt := 51) dCls_addsUp_47 (by decide) ?_
                  refine z_iret rfl rfl dCls_addsUp_51 ?_
                  first
                    | (exfalso; omega)
                    | exact ⟨1, rfl, Or.inl ⟨rfl, fun q => by first | exact m8 | exact absurd q m1, fun q => by first | exact m9 | exact absurd q m2⟩, by assumption, by assumption⟩
                    | exact ⟨0, rfl, Or.inr ⟨rfl, fun q => m8 (q.1 m1)⟩, by assumption, by assumption⟩
                    | exact ⟨0, rfl, Or.inr ⟨rfl, fun q => m9 (q.2 m2)⟩, by assumption, by assumption⟩
              · refine z_if_eq (tgt := 50) dCls_addsUp_43 (by decide) (by omega) (fun c43 => ?_) (fun c43 => ?_)
                · refine z_iconst dCls_addsUp_50 ?_
                  refine z_iret rfl rfl dCls_addsUp_51 ?_
                  first
                    | (exfalso; omega)
                    | exact ⟨1, rfl, Or.inl ⟨rfl, fun q => by first | exact m8 | exact absurd q m1, fun q => by first | exact m9 | exact absurd q m2⟩, by assumption, by assumption⟩
                    | exact ⟨0, rfl, Or.inr ⟨rfl, fun q => m8 (q.1 m1)⟩, by assumption, by assumption⟩
                    | exact ⟨0, rfl, Or.inr ⟨rfl, fun q => m9 (q.2 m2)⟩, by assumption, by assumption⟩
                · refine z_iconst dCls_addsUp_46 ?_
                  refine z_goto (tgt := 51) dCls_addsUp_47 (by decide) ?_
                  refine z_iret rfl rfl dCls_addsUp_51 ?_
                  first
                    | (exfalso; omega)
                    | exact ⟨1, rfl, Or.inl ⟨rfl, fun q => by first | exact m8 | exact absurd q m1, fun q => by first | exact m9 | exact absurd q m2⟩, by assumption, by assumption⟩
                    | exact ⟨0, rfl, Or.inr ⟨rfl, fun q => m8 (q.1 m1)⟩, by assumption, by assumption⟩
                    | exact ⟨0, rfl, Or.inr ⟨rfl, fun q => m9 (q.2 m2)⟩, by assumption, by assumption⟩
          · have F2 : ∀ q, q ≠ ad 16 → q ≠ ad 17 → h2 q = h q := fun q x y => (f2 q x y).trans (F1 q x y)
            have hC2 := hC.res hR2 F2
            obtain ⟨-, d2, -⟩ := id hC2
            have fz2 : zFrm ad h h2 := zFrm.of2 (i := 16) (j := 17) (by omega) (by omega) F2
            obtain ⟨fr2, er2, -⟩ := id hR2
            have hrA2 := hrA.kept (F2 _ (hC.inj (by omega) (by omega) (by omega)) (hC.inj (by omega) (by omega) (by omega))) (F2 _ (hC.inj (by omega) (by omega) (by omega)) (hC.inj (by omega) (by omega) (by omega)))
            obtain ⟨fA2, eA2, -⟩ := id hrA2
            have hrB2 := hrB.kept (F2 _ (hC.inj (by omega) (by omega) (by omega)) (hC.inj (by omega) (by omega) (by omega))) (F2 _ (hC.inj (by omega) (by omega) (by omega)) (hC.inj (by omega) (by omega) (by omega)))
            obtain ⟨fB2, eB2, -⟩ := id hrB2
            refine z_if_eq (tgt := 46) dCls_addsUp_33 (by decide) (by omega) (fun c33 => ?_) (fun c33 => ?_)
            · refine z_iconst dCls_addsUp_46 ?_
              refine z_goto (tgt := 51) dCls_addsUp_47 (by decide) ?_
              refine z_iret rfl rfl dCls_addsUp_51 ?_
              first
                | (exfalso; omega)
                | exact ⟨1, rfl, Or.inl ⟨rfl, fun q => by first | exact m8 | exact absurd q m1, fun q => by first | exact m9 | exact absurd q m2⟩, by assumption, by assumption⟩
                | exact ⟨0, rfl, Or.inr ⟨rfl, fun q => m8 (q.1 m1)⟩, by assumption, by assumption⟩
                | exact ⟨0, rfl, Or.inr ⟨rfl, fun q => m9 (q.2 m2)⟩, by assumption, by assumption⟩
            · refine z_aload_n dCls_addsUp_36 rfl ?_
              refine z_aload_n dCls_addsUp_37 rfl ?_
              refine z_aload_n dCls_addsUp_38 rfl ?_
              refine z_iconst dCls_addsUp_39 ?_
              refine z_callV MV_Cls_agreesWithResult lk_Cls_325 dCls_addsUp_40 (k_Cls_agreesWithResult (x := 0) hC2 hrA2 hrB2 hR2 (by omega)) rfl rfl (Nat.le_of_ble_eq_true rfl) rfl (by assumption) (Nat.le_of_ble_eq_true rfl) (Nat.le_of_ble_eq_true rfl) (Nat.le_of_eq (Nat.zero_add _)) (Nat.le_of_eq (Nat.zero_add _)) (fun _ _ q => q.elim) ?_
              rintro _ _ ⟨b9, rfl, (⟨rfl, m9⟩ | ⟨rfl, m9⟩), rfl⟩
              · refine z_if_eq (tgt := 50) dCls_addsUp_43 (by decide) (by omega) (fun c43 => ?_) (fun c43 => ?_)
                · refine z_iconst dCls_addsUp_50 ?_
                  refine z_iret rfl rfl dCls_addsUp_51 ?_
                  first
                    | (exfalso; omega)
                    | exact ⟨1, rfl, Or.inl ⟨rfl, fun q => by first | exact m8 | exact absurd q m1, fun q => by first | exact m9 | exact absurd q m2⟩, by assumption, by assumption⟩
                    | exact ⟨0, rfl, Or.inr ⟨rfl, fun q => m8 (q.1 m1)⟩, by assumption, by assumption⟩
                    | exact ⟨0, rfl, Or.inr ⟨rfl, fun q => m9 (q.2 m2)⟩, by assumption, by assumption⟩
                · refine z_iconst dCls_addsUp_46 ?_
                  refine z_goto (tgt := 51) dCls_addsUp_47 (by decide) ?_
                  refine z_iret rfl rfl dCls_addsUp_51 ?_
                  first
                    | (exfalso; omega)
                    | exact ⟨1, rfl, Or.inl ⟨rfl, fun q => by first | exact m8 | exact absurd q m1, fun q => by first | exact m9 | exact absurd q m2⟩, by assumption, by assumption⟩
                    | exact ⟨0, rfl, Or.inr ⟨rfl, fun q => m8 (q.1 m1)⟩, by assumption, by assumption⟩
                    | exact ⟨0, rfl, Or.inr ⟨rfl, fun q => m9 (q.2 m2)⟩, by assumption, by assumption⟩
              · refine z_if_eq (tgt := 50) dCls_addsUp_43 (by decide) (by omega) (fun c43 => ?_) (fun c43 => ?_)
                · refine z_iconst dCls_addsUp_50 ?_
                  refine z_iret rfl rfl dCls_addsUp_51 ?_
                  first
                    | (exfalso; omega)
                    | exact ⟨1, rfl, Or.inl ⟨rfl, fun q => by first | exact m8 | exact absurd q m1, fun q => by first | exact m9 | exact absurd q m2⟩, by assumption, by assumption⟩
                    | exact ⟨0, rfl, Or.inr ⟨rfl, fun q => m8 (q.1 m1)⟩, by assumption, by assumption⟩
                    | exact ⟨0, rfl, Or.inr ⟨rfl, fun q => m9 (q.2 m2)⟩, by assumption, by assumption⟩
                · refine z_iconst dCls_addsUp_46 ?_
                  refine z_goto (tgt := 51) dCls_addsUp_47 (by decide) ?_
                  refine z_iret rfl rfl dCls_addsUp_51 ?_
                  first
                    | (exfalso; omega)
                    | exact ⟨1, rfl, Or.inl ⟨rfl, fun q => by first | exact m8 | exact absurd q m1, fun q => by first | exact m9 | exact absurd q m2⟩, by assumption, by assumption⟩
                    | exact ⟨0, rfl, Or.inr ⟨rfl, fun q => m8 (q.1 m1)⟩, by assumption, by assumption⟩
                    | exact ⟨0, rfl, Or.inr ⟨rfl, fun q => m9 (q.2 m2)⟩, by assumption, by assumption⟩
        · refine z_iconst dCls_addsUp_22 ?_
          refine z_iret rfl rfl dCls_addsUp_23 ?_
          first
            | (exfalso; omega)
            | exact ⟨1, rfl, Or.inl ⟨rfl, fun q => by first | exact m8 | exact absurd q m1, fun q => by first | exact m9 | exact absurd q m2⟩, by assumption, by assumption⟩
            | exact ⟨0, rfl, Or.inr ⟨rfl, fun q => m8 (q.1 m1)⟩, by assumption, by assumption⟩
            | exact ⟨0, rfl, Or.inr ⟨rfl, fun q => m9 (q.2 m2)⟩, by assumption, by assumption⟩
  · have F1 : ∀ q, q ≠ ad 16 → q ≠ ad 17 → h1 q = h q := fun q x y => f1 q x y
    have hC1 := hC.res hR1 F1
    obtain ⟨-, d1, -⟩ := id hC1
    have fz1 : zFrm ad h h1 := zFrm.of2 (i := 16) (j := 17) (by omega) (by omega) F1
    obtain ⟨fr1, er1, -⟩ := id hR1
    have hrA1 := hrA.kept (F1 _ (hC.inj (by omega) (by omega) (by omega)) (hC.inj (by omega) (by omega) (by omega))) (F1 _ (hC.inj (by omega) (by omega) (by omega)) (hC.inj (by omega) (by omega) (by omega)))
    obtain ⟨fA1, eA1, -⟩ := id hrA1
    have hrB1 := hrB.kept (F1 _ (hC.inj (by omega) (by omega) (by omega)) (hC.inj (by omega) (by omega) (by omega))) (F1 _ (hC.inj (by omega) (by omega) (by omega)) (hC.inj (by omega) (by omega) (by omega)))
    obtain ⟨fB1, eB1, -⟩ := id hrB1
    refine z_if_eq (tgt := 24) dCls_addsUp_9 (by decide) (by omega) (fun c9 => ?_) (fun c9 => ?_)
    · refine z_aload_n dCls_addsUp_24 rfl ?_
      refine z_get (k := 3) fd_Cls (by decide) fl_Cls_29 dCls_addsUp_25 (by assumption) (by rfl) ?_
      refine z_aload_n dCls_addsUp_28 rfl ?_
      refine z_aload_n dCls_addsUp_29 rfl ?_
      refine z_callVN MV_Row_becomeProduct lk_Cls_203 dCls_addsUp_30 (k_Row_becomeProduct hR1 hrA1 hrB1 (hC.inj (by omega) (by omega) (by omega)) (hC.inj (by omega) (by omega) (by omega)) (hC.inj (by omega) (by omega) (by omega)) (hC.inj (by omega) (by omega) (by omega))) rfl rfl (Nat.le_of_ble_eq_true rfl) rfl (by assumption) (Nat.le_of_ble_eq_true rfl) (Nat.le_of_ble_eq_true rfl) (Nat.le_of_eq (Nat.zero_add _)) (Nat.le_of_eq (Nat.zero_add _)) (fun _ _ q => q.elim) ?_
      rintro _ h2 (⟨rfl, m2, hR2, f2⟩ | ⟨rfl, m2, ⟨L8, hR2⟩, f2⟩)
      · have F2 : ∀ q, q ≠ ad 16 → q ≠ ad 17 → h2 q = h q := fun q x y => (f2 q x y).trans (F1 q x y)
        have hC2 := hC.res hR2 F2
        obtain ⟨-, d2, -⟩ := id hC2
        have fz2 : zFrm ad h h2 := zFrm.of2 (i := 16) (j := 17) (by omega) (by omega) F2
        obtain ⟨fr2, er2, -⟩ := id hR2
        have hrA2 := hrA.kept (F2 _ (hC.inj (by omega) (by omega) (by omega)) (hC.inj (by omega) (by omega) (by omega))) (F2 _ (hC.inj (by omega) (by omega) (by omega)) (hC.inj (by omega) (by omega) (by omega)))
        obtain ⟨fA2, eA2, -⟩ := id hrA2
        have hrB2 := hrB.kept (F2 _ (hC.inj (by omega) (by omega) (by omega)) (hC.inj (by omega) (by omega) (by omega))) (F2 _ (hC.inj (by omega) (by omega) (by omega)) (hC.inj (by omega) (by omega) (by omega)))
        obtain ⟨fB2, eB2, -⟩ := id hrB2
        refine z_if_eq (tgt := 46) dCls_addsUp_33 (by decide) (by omega) (fun c33 => ?_) (fun c33 => ?_)
        · refine z_iconst dCls_addsUp_46 ?_
          refine z_goto (tgt := 51) dCls_addsUp_47 (by decide) ?_
          refine z_iret rfl rfl dCls_addsUp_51 ?_
          first
            | (exfalso; omega)
            | exact ⟨1, rfl, Or.inl ⟨rfl, fun q => by first | exact m8 | exact absurd q m1, fun q => by first | exact m9 | exact absurd q m2⟩, by assumption, by assumption⟩
            | exact ⟨0, rfl, Or.inr ⟨rfl, fun q => m8 (q.1 m1)⟩, by assumption, by assumption⟩
            | exact ⟨0, rfl, Or.inr ⟨rfl, fun q => m9 (q.2 m2)⟩, by assumption, by assumption⟩
        · refine z_aload_n dCls_addsUp_36 rfl ?_
          refine z_aload_n dCls_addsUp_37 rfl ?_
          refine z_aload_n dCls_addsUp_38 rfl ?_
          refine z_iconst dCls_addsUp_39 ?_
          refine z_callV MV_Cls_agreesWithResult lk_Cls_325 dCls_addsUp_40 (k_Cls_agreesWithResult (x := 0) hC2 hrA2 hrB2 hR2 (by omega)) rfl rfl (Nat.le_of_ble_eq_true rfl) rfl (by assumption) (Nat.le_of_ble_eq_true rfl) (Nat.le_of_ble_eq_true rfl) (Nat.le_of_eq (Nat.zero_add _)) (Nat.le_of_eq (Nat.zero_add _)) (fun _ _ q => q.elim) ?_
          rintro _ _ ⟨b9, rfl, (⟨rfl, m9⟩ | ⟨rfl, m9⟩), rfl⟩
          · refine z_if_eq (tgt := 50) dCls_addsUp_43 (by decide) (by omega) (fun c43 => ?_) (fun c43 => ?_)
            · refine z_iconst dCls_addsUp_50 ?_
              refine z_iret rfl rfl dCls_addsUp_51 ?_
              first
                | (exfalso; omega)
                | exact ⟨1, rfl, Or.inl ⟨rfl, fun q => by first | exact m8 | exact absurd q m1, fun q => by first | exact m9 | exact absurd q m2⟩, by assumption, by assumption⟩
                | exact ⟨0, rfl, Or.inr ⟨rfl, fun q => m8 (q.1 m1)⟩, by assumption, by assumption⟩
                | exact ⟨0, rfl, Or.inr ⟨rfl, fun q => m9 (q.2 m2)⟩, by assumption, by assumption⟩
            · refine z_iconst dCls_addsUp_46 ?_
              refine z_goto (tgt := 51) dCls_addsUp_47 (by decide) ?_
              refine z_iret rfl rfl dCls_addsUp_51 ?_
              first
                | (exfalso; omega)
                | exact ⟨1, rfl, Or.inl ⟨rfl, fun q => by first | exact m8 | exact absurd q m1, fun q => by first | exact m9 | exact absurd q m2⟩, by assumption, by assumption⟩
                | exact ⟨0, rfl, Or.inr ⟨rfl, fun q => m8 (q.1 m1)⟩, by assumption, by assumption⟩
                | exact ⟨0, rfl, Or.inr ⟨rfl, fun q => m9 (q.2 m2)⟩, by assumption, by assumption⟩
          · refine z_if_eq (tgt := 50) dCls_addsUp_43 (by decide) (by omega) (fun c43 => ?_) (fun c43 => ?_)
            · refine z_iconst dCls_addsUp_50 ?_
              refine z_iret rfl rfl dCls_addsUp_51 ?_
              first
                | (exfalso; omega)
                | exact ⟨1, rfl, Or.inl ⟨rfl, fun q => by first | exact m8 | exact absurd q m1, fun q => by first | exact m9 | exact absurd q m2⟩, by assumption, by assumption⟩
                | exact ⟨0, rfl, Or.inr ⟨rfl, fun q => m8 (q.1 m1)⟩, by assumption, by assumption⟩
                | exact ⟨0, rfl, Or.inr ⟨rfl, fun q => m9 (q.2 m2)⟩, by assumption, by assumption⟩
            · refine z_iconst dCls_addsUp_46 ?_
              refine z_goto (tgt := 51) dCls_addsUp_47 (by decide) ?_
              refine z_iret rfl rfl dCls_addsUp_51 ?_
              first
                | (exfalso; omega)
                | exact ⟨1, rfl, Or.inl ⟨rfl, fun q => by first | exact m8 | exact absurd q m1, fun q => by first | exact m9 | exact absurd q m2⟩, by assumption, by assumption⟩
                | exact ⟨0, rfl, Or.inr ⟨rfl, fun q => m8 (q.1 m1)⟩, by assumption, by assumption⟩
                | exact ⟨0, rfl, Or.inr ⟨rfl, fun q => m9 (q.2 m2)⟩, by assumption, by assumption⟩
      · have F2 : ∀ q, q ≠ ad 16 → q ≠ ad 17 → h2 q = h q := fun q x y => (f2 q x y).trans (F1 q x y)
        have hC2 := hC.res hR2 F2
        obtain ⟨-, d2, -⟩ := id hC2
        have fz2 : zFrm ad h h2 := zFrm.of2 (i := 16) (j := 17) (by omega) (by omega) F2
        obtain ⟨fr2, er2, -⟩ := id hR2
        have hrA2 := hrA.kept (F2 _ (hC.inj (by omega) (by omega) (by omega)) (hC.inj (by omega) (by omega) (by omega))) (F2 _ (hC.inj (by omega) (by omega) (by omega)) (hC.inj (by omega) (by omega) (by omega)))
        obtain ⟨fA2, eA2, -⟩ := id hrA2
        have hrB2 := hrB.kept (F2 _ (hC.inj (by omega) (by omega) (by omega)) (hC.inj (by omega) (by omega) (by omega))) (F2 _ (hC.inj (by omega) (by omega) (by omega)) (hC.inj (by omega) (by omega) (by omega)))
        obtain ⟨fB2, eB2, -⟩ := id hrB2
        refine z_if_eq (tgt := 46) dCls_addsUp_33 (by decide) (by omega) (fun c33 => ?_) (fun c33 => ?_)
        · refine z_iconst dCls_addsUp_46 ?_
          refine z_goto (tgt := 51) dCls_addsUp_47 (by decide) ?_
          refine z_iret rfl rfl dCls_addsUp_51 ?_
          first
            | (exfalso; omega)
            | exact ⟨1, rfl, Or.inl ⟨rfl, fun q => by first | exact m8 | exact absurd q m1, fun q => by first | exact m9 | exact absurd q m2⟩, by assumption, by assumption⟩
            | exact ⟨0, rfl, Or.inr ⟨rfl, fun q => m8 (q.1 m1)⟩, by assumption, by assumption⟩
            | exact ⟨0, rfl, Or.inr ⟨rfl, fun q => m9 (q.2 m2)⟩, by assumption, by assumption⟩
        · refine z_aload_n dCls_addsUp_36 rfl ?_
          refine z_aload_n dCls_addsUp_37 rfl ?_
          refine z_aload_n dCls_addsUp_38 rfl ?_
          refine z_iconst dCls_addsUp_39 ?_
          refine z_callV MV_Cls_agreesWithResult lk_Cls_325 dCls_addsUp_40 (k_Cls_agreesWithResult (x := 0) hC2 hrA2 hrB2 hR2 (by omega)) rfl rfl (Nat.le_of_ble_eq_true rfl) rfl (by assumption) (Nat.le_of_ble_eq_true rfl) (Nat.le_of_ble_eq_true rfl) (Nat.le_of_eq (Nat.zero_add _)) (Nat.le_of_eq (Nat.zero_add _)) (fun _ _ q => q.elim) ?_
          rintro _ _ ⟨b9, rfl, (⟨rfl, m9⟩ | ⟨rfl, m9⟩), rfl⟩
          · refine z_if_eq (tgt := 50) dCls_addsUp_43 (by decide) (by omega) (fun c43 => ?_) (fun c43 => ?_)
            · refine z_iconst dCls_addsUp_50 ?_
              refine z_iret rfl rfl dCls_addsUp_51 ?_
              first
                | (exfalso; omega)
                | exact ⟨1, rfl, Or.inl ⟨rfl, fun q => by first | exact m8 | exact absurd q m1, fun q => by first | exact m9 | exact absurd q m2⟩, by assumption, by assumption⟩
                | exact ⟨0, rfl, Or.inr ⟨rfl, fun q => m8 (q.1 m1)⟩, by assumption, by assumption⟩
                | exact ⟨0, rfl, Or.inr ⟨rfl, fun q => m9 (q.2 m2)⟩, by assumption, by assumption⟩
            · refine z_iconst dCls_addsUp_46 ?_
              refine z_goto (tgt := 51) dCls_addsUp_47 (by decide) ?_
              refine z_iret rfl rfl dCls_addsUp_51 ?_
              first
                | (exfalso; omega)
                | exact ⟨1, rfl, Or.inl ⟨rfl, fun q => by first | exact m8 | exact absurd q m1, fun q => by first | exact m9 | exact absurd q m2⟩, by assumption, by assumption⟩
                | exact ⟨0, rfl, Or.inr ⟨rfl, fun q => m8 (q.1 m1)⟩, by assumption, by assumption⟩
                | exact ⟨0, rfl, Or.inr ⟨rfl, fun q => m9 (q.2 m2)⟩, by assumption, by assumption⟩
          · refine z_if_eq (tgt := 50) dCls_addsUp_43 (by decide) (by omega) (fun c43 => ?_) (fun c43 => ?_)
            · refine z_iconst dCls_addsUp_50 ?_
              refine z_iret rfl rfl dCls_addsUp_51 ?_
              first
                | (exfalso; omega)
                | exact ⟨1, rfl, Or.inl ⟨rfl, fun q => by first | exact m8 | exact absurd q m1, fun q => by first | exact m9 | exact absurd q m2⟩, by assumption, by assumption⟩
                | exact ⟨0, rfl, Or.inr ⟨rfl, fun q => m8 (q.1 m1)⟩, by assumption, by assumption⟩
                | exact ⟨0, rfl, Or.inr ⟨rfl, fun q => m9 (q.2 m2)⟩, by assumption, by assumption⟩
            · refine z_iconst dCls_addsUp_46 ?_
              refine z_goto (tgt := 51) dCls_addsUp_47 (by decide) ?_
              refine z_iret rfl rfl dCls_addsUp_51 ?_
              first
                | (exfalso; omega)
                | exact ⟨1, rfl, Or.inl ⟨rfl, fun q => by first | exact m8 | exact absurd q m1, fun q => by first | exact m9 | exact absurd q m2⟩, by assumption, by assumption⟩
                | exact ⟨0, rfl, Or.inr ⟨rfl, fun q => m8 (q.1 m1)⟩, by assumption, by assumption⟩
                | exact ⟨0, rfl, Or.inr ⟨rfl, fun q => m9 (q.2 m2)⟩, by assumption, by assumption⟩
    · refine z_aload_n dCls_addsUp_12 rfl ?_
      refine z_aload_n dCls_addsUp_13 rfl ?_
      refine z_aload_n dCls_addsUp_14 rfl ?_
      refine z_iconst dCls_addsUp_15 ?_
      refine z_callV MV_Cls_agreesWithResult lk_Cls_325 dCls_addsUp_16 (k_Cls_agreesWithResult (x := 0) hC1 hrA1 hrB1 hR1 (by omega)) rfl rfl (Nat.le_of_ble_eq_true rfl) rfl (by assumption) (Nat.le_of_ble_eq_true rfl) (Nat.le_of_ble_eq_true rfl) (Nat.le_of_eq (Nat.zero_add _)) (Nat.le_of_eq (Nat.zero_add _)) (fun _ _ q => q.elim) ?_
      rintro _ _ ⟨b8, rfl, (⟨rfl, m8⟩ | ⟨rfl, m8⟩), rfl⟩
      · refine z_if_ne (tgt := 24) dCls_addsUp_19 (by decide) (by omega) (fun c19 => ?_) (fun c19 => ?_)
        · refine z_aload_n dCls_addsUp_24 rfl ?_
          refine z_get (k := 3) fd_Cls (by decide) fl_Cls_29 dCls_addsUp_25 (by assumption) (by rfl) ?_
          refine z_aload_n dCls_addsUp_28 rfl ?_
          refine z_aload_n dCls_addsUp_29 rfl ?_
          refine z_callVN MV_Row_becomeProduct lk_Cls_203 dCls_addsUp_30 (k_Row_becomeProduct hR1 hrA1 hrB1 (hC.inj (by omega) (by omega) (by omega)) (hC.inj (by omega) (by omega) (by omega)) (hC.inj (by omega) (by omega) (by omega)) (hC.inj (by omega) (by omega) (by omega))) rfl rfl (Nat.le_of_ble_eq_true rfl) rfl (by assumption) (Nat.le_of_ble_eq_true rfl) (Nat.le_of_ble_eq_true rfl) (Nat.le_of_eq (Nat.zero_add _)) (Nat.le_of_eq (Nat.zero_add _)) (fun _ _ q => q.elim) ?_
          rintro _ h2 (⟨rfl, m2, hR2, f2⟩ | ⟨rfl, m2, ⟨L8, hR2⟩, f2⟩)
          · have F2 : ∀ q, q ≠ ad 16 → q ≠ ad 17 → h2 q = h q := fun q x y => (f2 q x y).trans (F1 q x y)
            have hC2 := hC.res hR2 F2
            obtain ⟨-, d2, -⟩ := id hC2
            have fz2 : zFrm ad h h2 := zFrm.of2 (i := 16) (j := 17) (by omega) (by omega) F2
            obtain ⟨fr2, er2, -⟩ := id hR2
            have hrA2 := hrA.kept (F2 _ (hC.inj (by omega) (by omega) (by omega)) (hC.inj (by omega) (by omega) (by omega))) (F2 _ (hC.inj (by omega) (by omega) (by omega)) (hC.inj (by omega) (by omega) (by omega)))
            obtain ⟨fA2, eA2, -⟩ := id hrA2
            have hrB2 := hrB.kept (F2 _ (hC.inj (by omega) (by omega) (by omega)) (hC.inj (by omega) (by omega) (by omega))) (F2 _ (hC.inj (by omega) (by omega) (by omega)) (hC.inj (by omega) (by omega) (by omega)))
            obtain ⟨fB2, eB2, -⟩ := id hrB2
            refine z_if_eq (tgt := 46) dCls_addsUp_33 (by decide) (by omega) (fun c33 => ?_) (fun c33 => ?_)
            · refine z_iconst dCls_addsUp_46 ?_
              refine z_goto (tgt := 51) dCls_addsUp_47 (by decide) ?_
              refine z_iret rfl rfl dCls_addsUp_51 ?_
              first
                | (exfalso; omega)
                | exact ⟨1, rfl, Or.inl ⟨rfl, fun q => by first | exact m8 | exact absurd q m1, fun q => by first | exact m9 | exact absurd q m2⟩, by assumption, by assumption⟩
                | exact ⟨0, rfl, Or.inr ⟨rfl, fun q => m8 (q.1 m1)⟩, by assumption, by assumption⟩
                | exact ⟨0, rfl, Or.inr ⟨rfl, fun q => m9 (q.2 m2)⟩, by assumption, by assumption⟩
            · refine z_aload_n dCls_addsUp_36 rfl ?_
              refine z_aload_n dCls_addsUp_37 rfl ?_
              refine z_aload_n dCls_addsUp_38 rfl ?_
              refine z_iconst dCls_addsUp_39 ?_
              refine z_callV MV_Cls_agreesWithResult lk_Cls_325 dCls_addsUp_40 (k_Cls_agreesWithResult (x := 0) hC2 hrA2 hrB2 hR2 (by omega)) rfl rfl (Nat.le_of_ble_eq_true rfl) rfl (by assumption) (Nat.le_of_ble_eq_true rfl) (Nat.le_of_ble_eq_true rfl) (Nat.le_of_eq (Nat.zero_add _)) (Nat.le_of_eq (Nat.zero_add _)) (fun _ _ q => q.elim) ?_
              rintro _ _ ⟨b9, rfl, (⟨rfl, m9⟩ | ⟨rfl, m9⟩), rfl⟩
              · refine z_if_eq (tgt := 50) dCls_addsUp_43 (by decide) (by omega) (fun c43 => ?_) (fun c43 => ?_)
                · refine z_iconst dCls_addsUp_50 ?_
                  refine z_iret rfl rfl dCls_addsUp_51 ?_
                  first
                    | (exfalso; omega)
                    | exact ⟨1, rfl, Or.inl ⟨rfl, fun q => by first | exact m8 | exact absurd q m1, fun q => by first | exact m9 | exact absurd q m2⟩, by assumption, by assumption⟩
                    | exact ⟨0, rfl, Or.inr ⟨rfl, fun q => m8 (q.1 m1)⟩, by assumption, by assumption⟩
                    | exact ⟨0, rfl, Or.inr ⟨rfl, fun q => m9 (q.2 m2)⟩, by assumption, by assumption⟩
                · refine z_iconst dCls_addsUp_46 ?_
                  refine z_goto (tgt := 51) dCls_addsUp_47 (by decide) ?_
                  refine z_iret rfl rfl dCls_addsUp_51 ?_
                  first
                    | (exfalso; omega)
                    | exact ⟨1, rfl, Or.inl ⟨rfl, fun q => by first | exact m8 | exact absurd q m1, fun q => by first | exact m9 | exact absurd q m2⟩, by assumption, by assumption⟩
                    | exact ⟨0, rfl, Or.inr ⟨rfl, fun q => m8 (q.1 m1)⟩, by assumption, by assumption⟩
                    | exact ⟨0, rfl, Or.inr ⟨rfl, fun q => m9 (q.2 m2)⟩, by assumption, by assumption⟩
              · refine z_if_eq (tgt := 50) dCls_addsUp_43 (by decide) (by omega) (fun c43 => ?_) (fun c43 => ?_)
                · refine z_iconst dCls_addsUp_50 ?_
                  refine z_iret rfl rfl dCls_addsUp_51 ?_
                  first
                    | (exfalso; omega)
                    | exact ⟨1, rfl, Or.inl ⟨rfl, fun q => by first | exact m8 | exact absurd q m1, fun q => by first | exact m9 | exact absurd q m2⟩, by assumption, by assumption⟩
                    | exact ⟨0, rfl, Or.inr ⟨rfl, fun q => m8 (q.1 m1)⟩, by assumption, by assumption⟩
                    | exact ⟨0, rfl, Or.inr ⟨rfl, fun q => m9 (q.2 m2)⟩, by assumption, by assumption⟩
                · refine z_iconst dCls_addsUp_46 ?_
                  refine z_goto (tgt := 51) dCls_addsUp_47 (by decide) ?_
                  refine z_iret rfl rfl dCls_addsUp_51 ?_
                  first
                    | (exfalso; omega)
                    | exact ⟨1, rfl, Or.inl ⟨rfl, fun q => by first | exact m8 | exact absurd q m1, fun q => by first | exact m9 | exact absurd q m2⟩, by assumption, by assumption⟩
                    | exact ⟨0, rfl, Or.inr ⟨rfl, fun q => m8 (q.1 m1)⟩, by assumption, by assumption⟩
                    | exact ⟨0, rfl, Or.inr ⟨rfl, fun q => m9 (q.2 m2)⟩, by assumption, by assumption⟩
          · have F2 : ∀ q, q ≠ ad 16 → q ≠ ad 17 → h2 q = h q := fun q x y => (f2 q x y).trans (F1 q x y)
            have hC2 := hC.res hR2 F2
            obtain ⟨-, d2, -⟩ := id hC2
            have fz2 : zFrm ad h h2 := zFrm.of2 (i := 16) (j := 17) (by omega) (by omega) F2
            obtain ⟨fr2, er2, -⟩ := id hR2
            have hrA2 := hrA.kept (F2 _ (hC.inj (by omega) (by omega) (by omega)) (hC.inj (by omega) (by omega) (by omega))) (F2 _ (hC.inj (by omega) (by omega) (by omega)) (hC.inj (by omega) (by omega) (by omega)))
            obtain ⟨fA2, eA2, -⟩ := id hrA2
            have hrB2 := hrB.kept (F2 _ (hC.inj (by omega) (by omega) (by omega)) (hC.inj (by omega) (by omega) (by omega))) (F2 _ (hC.inj (by omega) (by omega) (by omega)) (hC.inj (by omega) (by omega) (by omega)))
            obtain ⟨fB2, eB2, -⟩ := id hrB2
            refine z_if_eq (tgt := 46) dCls_addsUp_33 (by decide) (by omega) (fun c33 => ?_) (fun c33 => ?_)
            · refine z_iconst dCls_addsUp_46 ?_
              refine z_goto (tgt := 51) dCls_addsUp_47 (by decide) ?_
              refine z_iret rfl rfl dCls_addsUp_51 ?_
              first
                | (exfalso; omega)
                | exact ⟨1, rfl, Or.inl ⟨rfl, fun q => by first | exact m8 | exact absurd q m1, fun q => by first | exact m9 | exact absurd q m2⟩, by assumption, by assumption⟩
                | exact ⟨0, rfl, Or.inr ⟨rfl, fun q => m8 (q.1 m1)⟩, by assumption, by assumption⟩
                | exact ⟨0, rfl, Or.inr ⟨rfl, fun q => m9 (q.2 m2)⟩, by assumption, by assumption⟩
            · refine z_aload_n dCls_addsUp_36 rfl ?_
              refine z_aload_n dCls_addsUp_37 rfl ?_
              refine z_aload_n dCls_addsUp_38 rfl ?_
              refine z_iconst dCls_addsUp_39 ?_
              refine z_callV MV_Cls_agreesWithResult lk_Cls_325 dCls_addsUp_40 (k_Cls_agreesWithResult (x := 0) hC2 hrA2 hrB2 hR2 (by omega)) rfl rfl (Nat.le_of_ble_eq_true rfl) rfl (by assumption) (Nat.le_of_ble_eq_true rfl) (Nat.le_of_ble_eq_true rfl) (Nat.le_of_eq (Nat.zero_add _)) (Nat.le_of_eq (Nat.zero_add _)) (fun _ _ q => q.elim) ?_
              rintro _ _ ⟨b9, rfl, (⟨rfl, m9⟩ | ⟨rfl, m9⟩), rfl⟩
              · refine z_if_eq (tgt := 50) dCls_addsUp_43 (by decide) (by omega) (fun c43 => ?_) (fun c43 => ?_)
                · refine z_iconst dCls_addsUp_50 ?_
                  refine z_iret rfl rfl dCls_addsUp_51 ?_
                  first
                    | (exfalso; omega)
                    | exact ⟨1, rfl, Or.inl ⟨rfl, fun q => by first | exact m8 | exact absurd q m1, fun q => by first | exact m9 | exact absurd q m2⟩, by assumption, by assumption⟩
                    | exact ⟨0, rfl, Or.inr ⟨rfl, fun q => m8 (q.1 m1)⟩, by assumption, by assumption⟩
                    | exact ⟨0, rfl, Or.inr ⟨rfl, fun q => m9 (q.2 m2)⟩, by assumption, by assumption⟩
                · refine z_iconst dCls_addsUp_46 ?_
                  refine z_goto (tgt := 51) dCls_addsUp_47 (by decide) ?_
                  refine z_iret rfl rfl dCls_addsUp_51 ?_
                  first
                    | (exfalso; omega)
                    | exact ⟨1, rfl, Or.inl ⟨rfl, fun q => by first | exact m8 | exact absurd q m1, fun q => by first | exact m9 | exact absurd q m2⟩, by assumption, by assumption⟩
                    | exact ⟨0, rfl, Or.inr ⟨rfl, fun q => m8 (q.1 m1)⟩, by assumption, by assumption⟩
                    | exact ⟨0, rfl, Or.inr ⟨rfl, fun q => m9 (q.2 m2)⟩, by assumption, by assumption⟩
              · refine z_if_eq (tgt := 50) dCls_addsUp_43 (by decide) (by omega) (fun c43 => ?_) (fun c43 => ?_)
                · refine z_iconst dCls_addsUp_50 ?_
                  refine z_iret rfl rfl dCls_addsUp_51 ?_
                  first
                    | (exfalso; omega)
                    | exact ⟨1, rfl, Or.inl ⟨rfl, fun q => by first | exact m8 | exact absurd q m1, fun q => by first | exact m9 | exact absurd q m2⟩, by assumption, by assumption⟩
                    | exact ⟨0, rfl, Or.inr ⟨rfl, fun q => m8 (q.1 m1)⟩, by assumption, by assumption⟩
                    | exact ⟨0, rfl, Or.inr ⟨rfl, fun q => m9 (q.2 m2)⟩, by assumption, by assumption⟩
                · refine z_iconst dCls_addsUp_46 ?_
                  refine z_goto (tgt := 51) dCls_addsUp_47 (by decide) ?_
                  refine z_iret rfl rfl dCls_addsUp_51 ?_
                  first
                    | (exfalso; omega)
                    | exact ⟨1, rfl, Or.inl ⟨rfl, fun q => by first | exact m8 | exact absurd q m1, fun q => by first | exact m9 | exact absurd q m2⟩, by assumption, by assumption⟩
                    | exact ⟨0, rfl, Or.inr ⟨rfl, fun q => m8 (q.1 m1)⟩, by assumption, by assumption⟩
                    | exact ⟨0, rfl, Or.inr ⟨rfl, fun q => m9 (q.2 m2)⟩, by assumption, by assumption⟩
        · refine z_iconst dCls_addsUp_22 ?_
          refine z_iret rfl rfl dCls_addsUp_23 ?_
          first
            | (exfalso; omega)
            | exact ⟨1, rfl, Or.inl ⟨rfl, fun q => by first | exact m8 | exact absurd q m1, fun q => by first | exact m9 | exact absurd q m2⟩, by assumption, by assumption⟩
            | exact ⟨0, rfl, Or.inr ⟨rfl, fun q => m8 (q.1 m1)⟩, by assumption, by assumption⟩
            | exact ⟨0, rfl, Or.inr ⟨rfl, fun q => m9 (q.2 m2)⟩, by assumption, by assumption⟩
      · refine z_if_ne (tgt := 24) dCls_addsUp_19 (by decide) (by omega) (fun c19 => ?_) (fun c19 => ?_)
        · refine z_aload_n dCls_addsUp_24 rfl ?_
          refine z_get (k := 3) fd_Cls (by decide) fl_Cls_29 dCls_addsUp_25 (by assumption) (by rfl) ?_
          refine z_aload_n dCls_addsUp_28 rfl ?_
          refine z_aload_n dCls_addsUp_29 rfl ?_
          refine z_callVN MV_Row_becomeProduct lk_Cls_203 dCls_addsUp_30 (k_Row_becomeProduct hR1 hrA1 hrB1 (hC.inj (by omega) (by omega) (by omega)) (hC.inj (by omega) (by omega) (by omega)) (hC.inj (by omega) (by omega) (by omega)) (hC.inj (by omega) (by omega) (by omega))) rfl rfl (Nat.le_of_ble_eq_true rfl) rfl (by assumption) (Nat.le_of_ble_eq_true rfl) (Nat.le_of_ble_eq_true rfl) (Nat.le_of_eq (Nat.zero_add _)) (Nat.le_of_eq (Nat.zero_add _)) (fun _ _ q => q.elim) ?_
          rintro _ h2 (⟨rfl, m2, hR2, f2⟩ | ⟨rfl, m2, ⟨L8, hR2⟩, f2⟩)
          · have F2 : ∀ q, q ≠ ad 16 → q ≠ ad 17 → h2 q = h q := fun q x y => (f2 q x y).trans (F1 q x y)
            have hC2 := hC.res hR2 F2
            obtain ⟨-, d2, -⟩ := id hC2
            have fz2 : zFrm ad h h2 := zFrm.of2 (i := 16) (j := 17) (by omega) (by omega) F2
            obtain ⟨fr2, er2, -⟩ := id hR2
            have hrA2 := hrA.kept (F2 _ (hC.inj (by omega) (by omega) (by omega)) (hC.inj (by omega) (by omega) (by omega))) (F2 _ (hC.inj (by omega) (by omega) (by omega)) (hC.inj (by omega) (by omega) (by omega)))
            obtain ⟨fA2, eA2, -⟩ := id hrA2
            have hrB2 := hrB.kept (F2 _ (hC.inj (by omega) (by omega) (by omega)) (hC.inj (by omega) (by omega) (by omega))) (F2 _ (hC.inj (by omega) (by omega) (by omega)) (hC.inj (by omega) (by omega) (by omega)))
            obtain ⟨fB2, eB2, -⟩ := id hrB2
            refine z_if_eq (tgt := 46) dCls_addsUp_33 (by decide) (by omega) (fun c33 => ?_) (fun c33 => ?_)
            · refine z_iconst dCls_addsUp_46 ?_
              refine z_goto (tgt := 51) dCls_addsUp_47 (by decide) ?_
              refine z_iret rfl rfl dCls_addsUp_51 ?_
              first
                | (exfalso; omega)
                | exact ⟨1, rfl, Or.inl ⟨rfl, fun q => by first | exact m8 | exact absurd q m1, fun q => by first | exact m9 | exact absurd q m2⟩, by assumption, by assumption⟩
                | exact ⟨0, rfl, Or.inr ⟨rfl, fun q => m8 (q.1 m1)⟩, by assumption, by assumption⟩
                | exact ⟨0, rfl, Or.inr ⟨rfl, fun q => m9 (q.2 m2)⟩, by assumption, by assumption⟩
            · refine z_aload_n dCls_addsUp_36 rfl ?_
              refine z_aload_n dCls_addsUp_37 rfl ?_
              refine z_aload_n dCls_addsUp_38 rfl ?_
              refine z_iconst dCls_addsUp_39 ?_
              refine z_callV MV_Cls_agreesWithResult lk_Cls_325 dCls_addsUp_40 (k_Cls_agreesWithResult (x := 0) hC2 hrA2 hrB2 hR2 (by omega)) rfl rfl (Nat.le_of_ble_eq_true rfl) rfl (by assumption) (Nat.le_of_ble_eq_true rfl) (Nat.le_of_ble_eq_true rfl) (Nat.le_of_eq (Nat.zero_add _)) (Nat.le_of_eq (Nat.zero_add _)) (fun _ _ q => q.elim) ?_
              rintro _ _ ⟨b9, rfl, (⟨rfl, m9⟩ | ⟨rfl, m9⟩), rfl⟩
              · refine z_if_eq (tgt := 50) dCls_addsUp_43 (by decide) (by omega) (fun c43 => ?_) (fun c43 => ?_)
                · refine z_iconst dCls_addsUp_50 ?_
                  refine z_iret rfl rfl dCls_addsUp_51 ?_
                  first
                    | (exfalso; omega)
                    | exact ⟨1, rfl, Or.inl ⟨rfl, fun q => by first | exact m8 | exact absurd q m1, fun q => by first | exact m9 | exact absurd q m2⟩, by assumption, by assumption⟩
                    | exact ⟨0, rfl, Or.inr ⟨rfl, fun q => m8 (q.1 m1)⟩, by assumption, by assumption⟩
                    | exact ⟨0, rfl, Or.inr ⟨rfl, fun q => m9 (q.2 m2)⟩, by assumption, by assumption⟩
                · refine z_iconst dCls_addsUp_46 ?_
                  refine z_goto (tgt := 51) dCls_addsUp_47 (by decide) ?_
                  refine z_iret rfl rfl dCls_addsUp_51 ?_
                  first
                    | (exfalso; omega)
                    | exact ⟨1, rfl, Or.inl ⟨rfl, fun q => by first | exact m8 | exact absurd q m1, fun q => by first | exact m9 | exact absurd q m2⟩, by assumption, by assumption⟩
                    | exact ⟨0, rfl, Or.inr ⟨rfl, fun q => m8 (q.1 m1)⟩, by assumption, by assumption⟩
                    | exact ⟨0, rfl, Or.inr ⟨rfl, fun q => m9 (q.2 m2)⟩, by assumption, by assumption⟩
              · refine z_if_eq (tgt := 50) dCls_addsUp_43 (by decide) (by omega) (fun c43 => ?_) (fun c43 => ?_)
                · refine z_iconst dCls_addsUp_50 ?_
                  refine z_iret rfl rfl dCls_addsUp_51 ?_
                  first
                    | (exfalso; omega)
                    | exact ⟨1, rfl, Or.inl ⟨rfl, fun q => by first | exact m8 | exact absurd q m1, fun q => by first | exact m9 | exact absurd q m2⟩, by assumption, by assumption⟩
                    | exact ⟨0, rfl, Or.inr ⟨rfl, fun q => m8 (q.1 m1)⟩, by assumption, by assumption⟩
                    | exact ⟨0, rfl, Or.inr ⟨rfl, fun q => m9 (q.2 m2)⟩, by assumption, by assumption⟩
                · refine z_iconst dCls_addsUp_46 ?_
                  refine z_goto (tgt := 51) dCls_addsUp_47 (by decide) ?_
                  refine z_iret rfl rfl dCls_addsUp_51 ?_
                  first
                    | (exfalso; omega)
                    | exact ⟨1, rfl, Or.inl ⟨rfl, fun q => by first | exact m8 | exact absurd q m1, fun q => by first | exact m9 | exact absurd q m2⟩, by assumption, by assumption⟩
                    | exact ⟨0, rfl, Or.inr ⟨rfl, fun q => m8 (q.1 m1)⟩, by assumption, by assumption⟩
                    | exact ⟨0, rfl, Or.inr ⟨rfl, fun q => m9 (q.2 m2)⟩, by assumption, by assumption⟩
          · have F2 : ∀ q, q ≠ ad 16 → q ≠ ad 17 → h2 q = h q := fun q x y => (f2 q x y).trans (F1 q x y)
            have hC2 := hC.res hR2 F2
            obtain ⟨-, d2, -⟩ := id hC2
            have fz2 : zFrm ad h h2 := zFrm.of2 (i := 16) (j := 17) (by omega) (by omega) F2
            obtain ⟨fr2, er2, -⟩ := id hR2
            have hrA2 := hrA.kept (F2 _ (hC.inj (by omega) (by omega) (by omega)) (hC.inj (by omega) (by omega) (by omega))) (F2 _ (hC.inj (by omega) (by omega) (by omega)) (hC.inj (by omega) (by omega) (by omega)))
            obtain ⟨fA2, eA2, -⟩ := id hrA2
            have hrB2 := hrB.kept (F2 _ (hC.inj (by omega) (by omega) (by omega)) (hC.inj (by omega) (by omega) (by omega))) (F2 _ (hC.inj (by omega) (by omega) (by omega)) (hC.inj (by omega) (by omega) (by omega)))
            obtain ⟨fB2, eB2, -⟩ := id hrB2
            refine z_if_eq (tgt := 46) dCls_addsUp_33 (by decide) (by omega) (fun c33 => ?_) (fun c33 => ?_)
            · refine z_iconst dCls_addsUp_46 ?_
              refine z_goto (tgt := 51) dCls_addsUp_47 (by decide) ?_
              refine z_iret rfl rfl dCls_addsUp_51 ?_
              first
                | (exfalso; omega)
                | exact ⟨1, rfl, Or.inl ⟨rfl, fun q => by first | exact m8 | exact absurd q m1, fun q => by first | exact m9 | exact absurd q m2⟩, by assumption, by assumption⟩
                | exact ⟨0, rfl, Or.inr ⟨rfl, fun q => m8 (q.1 m1)⟩, by assumption, by assumption⟩
                | exact ⟨0, rfl, Or.inr ⟨rfl, fun q => m9 (q.2 m2)⟩, by assumption, by assumption⟩
            · refine z_aload_n dCls_addsUp_36 rfl ?_
              refine z_aload_n dCls_addsUp_37 rfl ?_
              refine z_aload_n dCls_addsUp_38 rfl ?_
              refine z_iconst dCls_addsUp_39 ?_
              refine z_callV MV_Cls_agreesWithResult lk_Cls_325 dCls_addsUp_40 (k_Cls_agreesWithResult (x := 0) hC2 hrA2 hrB2 hR2 (by omega)) rfl rfl (Nat.le_of_ble_eq_true rfl) rfl (by assumption) (Nat.le_of_ble_eq_true rfl) (Nat.le_of_ble_eq_true rfl) (Nat.le_of_eq (Nat.zero_add _)) (Nat.le_of_eq (Nat.zero_add _)) (fun _ _ q => q.elim) ?_
              rintro _ _ ⟨b9, rfl, (⟨rfl, m9⟩ | ⟨rfl, m9⟩), rfl⟩
              · refine z_if_eq (tgt := 50) dCls_addsUp_43 (by decide) (by omega) (fun c43 => ?_) (fun c43 => ?_)
                · refine z_iconst dCls_addsUp_50 ?_
                  refine z_iret rfl rfl dCls_addsUp_51 ?_
                  first
                    | (exfalso; omega)
                    | exact ⟨1, rfl, Or.inl ⟨rfl, fun q => by first | exact m8 | exact absurd q m1, fun q => by first | exact m9 | exact absurd q m2⟩, by assumption, by assumption⟩
                    | exact ⟨0, rfl, Or.inr ⟨rfl, fun q => m8 (q.1 m1)⟩, by assumption, by assumption⟩
                    | exact ⟨0, rfl, Or.inr ⟨rfl, fun q => m9 (q.2 m2)⟩, by assumption, by assumption⟩
                · refine z_iconst dCls_addsUp_46 ?_
                  refine z_goto (tgt := 51) dCls_addsUp_47 (by decide) ?_
                  refine z_iret rfl rfl dCls_addsUp_51 ?_
                  first
                    | (exfalso; omega)
                    | exact ⟨1, rfl, Or.inl ⟨rfl, fun q => by first | exact m8 | exact absurd q m1, fun q => by first | exact m9 | exact absurd q m2⟩, by assumption, by assumption⟩
                    | exact ⟨0, rfl, Or.inr ⟨rfl, fun q => m8 (q.1 m1)⟩, by assumption, by assumption⟩
                    | exact ⟨0, rfl, Or.inr ⟨rfl, fun q => m9 (q.2 m2)⟩, by assumption, by assumption⟩
              · refine z_if_eq (tgt := 50) dCls_addsUp_43 (by decide) (by omega) (fun c43 => ?_) (fun c43 => ?_)
                · refine z_iconst dCls_addsUp_50 ?_
                  refine z_iret rfl rfl dCls_addsUp_51 ?_
                  first
                    | (exfalso; omega)
                    | exact ⟨1, rfl, Or.inl ⟨rfl, fun q => by first | exact m8 | exact absurd q m1, fun q => by first | exact m9 | exact absurd q m2⟩, by assumption, by assumption⟩
                    | exact ⟨0, rfl, Or.inr ⟨rfl, fun q => m8 (q.1 m1)⟩, by assumption, by assumption⟩
                    | exact ⟨0, rfl, Or.inr ⟨rfl, fun q => m9 (q.2 m2)⟩, by assumption, by assumption⟩
                · refine z_iconst dCls_addsUp_46 ?_
                  refine z_goto (tgt := 51) dCls_addsUp_47 (by decide) ?_
                  refine z_iret rfl rfl dCls_addsUp_51 ?_
                  first
                    | (exfalso; omega)
                    | exact ⟨1, rfl, Or.inl ⟨rfl, fun q => by first | exact m8 | exact absurd q m1, fun q => by first | exact m9 | exact absurd q m2⟩, by assumption, by assumption⟩
                    | exact ⟨0, rfl, Or.inr ⟨rfl, fun q => m8 (q.1 m1)⟩, by assumption, by assumption⟩
                    | exact ⟨0, rfl, Or.inr ⟨rfl, fun q => m9 (q.2 m2)⟩, by assumption, by assumption⟩
        · refine z_iconst dCls_addsUp_22 ?_
          refine z_iret rfl rfl dCls_addsUp_23 ?_
          first
            | (exfalso; omega)
            | exact ⟨1, rfl, Or.inl ⟨rfl, fun q => by first | exact m8 | exact absurd q m1, fun q => by first | exact m9 | exact absurd q m2⟩, by assumption, by assumption⟩
            | exact ⟨0, rfl, Or.inr ⟨rfl, fun q => m8 (q.1 m1)⟩, by assumption, by assumption⟩
            | exact ⟨0, rfl, Or.inr ⟨rfl, fun q => m9 (q.2 m2)⟩, by assumption, by assumption⟩
theorem l_Cls_isRecencySound (hC : zCls G h ad S) (hO : zOk S) (hk0 : zOrd S.2.2.1) : ∀ (n : Nat) (m : Nat), 4 - m < n → m ≤ 4 → (∀ k : Nat, k < m → zOrd (S.1 k) → S.2.2.2.2 0 ≤ 2 * zCost (zCntT S.2.2.2.1) (S.1 k) 8 - (S.2.2.2.1.length : Int) + zInv (S.1 k)) → zR G l (zMJ G hCls_isRecencySound 5 (fun v h' => ∃ b9 : Int, v = some (zi b9) ∧ ((b9 = 1 ∧ zRS S) ∨ (b9 = 0 ∧ ¬ zRS S)) ∧ h = h') zNo 0 0) 0 0 h 17 [some (.ref (ad 0)), some (zi (m : Int))] [] := by
  intro n
  induction n with
  | zero => intro m q1 q2 q3; omega
  | succ n ih =>
  intro m q1 q2 q3
  obtain ⟨c1, c2, ⟨g3, c3, d3⟩, ⟨g4, hc4, d4⟩, c5, -⟩ := id hC
  obtain ⟨-, -, -, -, -, ⟨T6, c6, d6⟩, -⟩ := id hC
  refine z_iload_n dCls_isRecencySound_17 rfl ?_
  refine z_iconst dCls_isRecencySound_18 ?_
  refine z_icmp_ge (tgt := 65) dCls_isRecencySound_19 (by decide) (by omega) (by omega) (fun c19 => ?_) (fun c19 => ?_)
  · refine z_iconst dCls_isRecencySound_65 ?_
    refine z_iret rfl rfl dCls_isRecencySound_66 ?_
    exact ⟨1, rfl, Or.inl ⟨rfl, hk0, fun k hk => q3 k (by omega)⟩, rfl⟩
  · have hrm := hC.ls (k := m) (by omega)
    obtain ⟨fm, em, -⟩ := id hrm
    have hlm := hrm.len
    refine z_aload_n dCls_isRecencySound_22 rfl ?_
    refine z_get (k := 0) fd_Cls (by decide) fl_Cls_11 dCls_isRecencySound_23 (by assumption) (by rfl) ?_
    refine z_iload_n dCls_isRecencySound_26 rfl ?_
    refine z_aald (t := 5) (ty := .object "Cursorlist$Row") rfl rfl dCls_isRecencySound_27 c3 (by refine ⟨?_, ?_, ?_⟩ <;> omega) ?_
    rw [show (m : Int).toNat = m by omega, d3 m (by omega)]
    refine z_callVN MV_Row_isOrder lk_Cls_237 dCls_isRecencySound_28 (k_Row_isOrder hrm) rfl rfl (Nat.le_of_ble_eq_true rfl) rfl (by assumption) (Nat.le_of_ble_eq_true rfl) (Nat.le_of_ble_eq_true rfl) (Nat.le_of_eq (Nat.zero_add _)) (Nat.le_of_eq (Nat.zero_add _)) (fun _ _ q => q.elim) ?_
    rintro _ _ ⟨b7, rfl, (⟨rfl, m7⟩ | ⟨rfl, m7⟩), rfl⟩
    · refine z_if_eq (tgt := 59) dCls_isRecencySound_31 (by decide) (by omega) (fun c31 => ?_) (fun c31 => ?_)
      · refine z_iinc dCls_isRecencySound_59 rfl (Nat.le_of_ble_eq_true rfl) ?_
        refine z_goto (tgt := 17) dCls_isRecencySound_62 (by decide) ?_
        refine ih (m + 1) (by omega) (by omega) (fun k hk hz => ?_)
        by_cases e9 : k = m
        · subst e9
          first
            | exact absurd hz m7
            | omega
        · exact q3 k (by omega) hz
      · refine z_aload_n dCls_isRecencySound_34 rfl ?_
        refine z_get (k := 2) fd_Cls (by decide) fl_Cls_24 dCls_isRecencySound_35 (by assumption) (by rfl) ?_
        refine z_getN (k := 3) fd_Rec (by decide) fl_Cls_228 dCls_isRecencySound_38 (by assumption) (by rfl) ?_
        refine z_aload_n dCls_isRecencySound_41 rfl ?_
        refine z_get (k := 2) fd_Cls (by decide) fl_Cls_24 dCls_isRecencySound_42 (by assumption) (by rfl) ?_
        refine z_aload_n dCls_isRecencySound_45 rfl ?_
        refine z_get (k := 0) fd_Cls (by decide) fl_Cls_11 dCls_isRecencySound_46 (by assumption) (by rfl) ?_
        refine z_iload_n dCls_isRecencySound_49 rfl ?_
        refine z_aald (t := 5) (ty := .object "Cursorlist$Row") rfl rfl dCls_isRecencySound_50 c3 (by refine ⟨?_, ?_, ?_⟩ <;> omega) ?_
        rw [show (m : Int).toNat = m by omega, d3 m (by omega)]
        refine z_callVN MV_Rec_boundBy lk_Cls_247 dCls_isRecencySound_51 (k_Rec_boundBy hrm c5 c6) rfl rfl (Nat.le_of_ble_eq_true rfl) rfl (by assumption) (Nat.le_of_ble_eq_true rfl) (Nat.le_of_ble_eq_true rfl) (Nat.le_of_eq (Nat.zero_add _)) (Nat.le_of_eq (Nat.zero_add _)) (fun _ _ q => q.elim) ?_
        rintro _ _ ⟨rfl, rfl⟩
        rw [zCost_cg d6]
        refine z_icmp_le (tgt := 59) dCls_isRecencySound_54 (by decide) (by have ho2 := hO.2.2.2.1; have hi := zC2_in (S.1 m) (S.1 m).length; have hi2 : ((S.1 m).length : Int) * ((S.1 m).length : Int) ≤ 16 * 16 := Int.mul_le_mul (by omega) (by omega) (by omega) (by omega); have hc := zCost_in (L := S.1 m) (T := zCntT S.2.2.2.1) (B := 60) (fun k _ => ⟨Int.natCast_nonneg _, by have := zCnt_le S.2.2.2.1 k; show (zCnt S.2.2.2.1 k : Int) ≤ 60; omega⟩) hlm 8 (by omega); have ho1 := hO.2.2.2.2; (try unfold zInv); omega) (by have ho2 := hO.2.2.2.1; have hi := zC2_in (S.1 m) (S.1 m).length; have hi2 : ((S.1 m).length : Int) * ((S.1 m).length : Int) ≤ 16 * 16 := Int.mul_le_mul (by omega) (by omega) (by omega) (by omega); have hc := zCost_in (L := S.1 m) (T := zCntT S.2.2.2.1) (B := 60) (fun k _ => ⟨Int.natCast_nonneg _, by have := zCnt_le S.2.2.2.1 k; show (zCnt S.2.2.2.1 k : Int) ≤ 60; omega⟩) hlm 8 (by omega); have ho1 := hO.2.2.2.2; (try unfold zInv); omega) (fun c54 => ?_) (fun c54 => ?_)
        · refine z_iinc dCls_isRecencySound_59 rfl (Nat.le_of_ble_eq_true rfl) ?_
          refine z_goto (tgt := 17) dCls_isRecencySound_62 (by decide) ?_
          refine ih (m + 1) (by omega) (by omega) (fun k hk hz => ?_)
          by_cases e9 : k = m
          · subst e9
            first
              | exact absurd hz m7
              | omega
          · exact q3 k (by omega) hz
        · refine z_iconst dCls_isRecencySound_57 ?_
          refine z_iret rfl rfl dCls_isRecencySound_58 ?_
          first
            | (exfalso; omega)
            | exact ⟨0, rfl, Or.inr ⟨rfl, fun q => absurd (q.2 m (by omega) m7) (by omega)⟩, rfl⟩
    · refine z_if_eq (tgt := 59) dCls_isRecencySound_31 (by decide) (by omega) (fun c31 => ?_) (fun c31 => ?_)
      · refine z_iinc dCls_isRecencySound_59 rfl (Nat.le_of_ble_eq_true rfl) ?_
        refine z_goto (tgt := 17) dCls_isRecencySound_62 (by decide) ?_
        refine ih (m + 1) (by omega) (by omega) (fun k hk hz => ?_)
        by_cases e9 : k = m
        · subst e9
          first
            | exact absurd hz m7
            | omega
        · exact q3 k (by omega) hz
      · refine z_aload_n dCls_isRecencySound_34 rfl ?_
        refine z_get (k := 2) fd_Cls (by decide) fl_Cls_24 dCls_isRecencySound_35 (by assumption) (by rfl) ?_
        refine z_getN (k := 3) fd_Rec (by decide) fl_Cls_228 dCls_isRecencySound_38 (by assumption) (by rfl) ?_
        refine z_aload_n dCls_isRecencySound_41 rfl ?_
        refine z_get (k := 2) fd_Cls (by decide) fl_Cls_24 dCls_isRecencySound_42 (by assumption) (by rfl) ?_
        refine z_aload_n dCls_isRecencySound_45 rfl ?_
        refine z_get (k := 0) fd_Cls (by decide) fl_Cls_11 dCls_isRecencySound_46 (by assumption) (by rfl) ?_
        refine z_iload_n dCls_isRecencySound_49 rfl ?_
        refine z_aald (t := 5) (ty := .object "Cursorlist$Row") rfl rfl dCls_isRecencySound_50 c3 (by refine ⟨?_, ?_, ?_⟩ <;> omega) ?_
        rw [show (m : Int).toNat = m by omega, d3 m (by omega)]
        refine z_callVN MV_Rec_boundBy lk_Cls_247 dCls_isRecencySound_51 (k_Rec_boundBy hrm c5 c6) rfl rfl (Nat.le_of_ble_eq_true rfl) rfl (by assumption) (Nat.le_of_ble_eq_true rfl) (Nat.le_of_ble_eq_true rfl) (Nat.le_of_eq (Nat.zero_add _)) (Nat.le_of_eq (Nat.zero_add _)) (fun _ _ q => q.elim) ?_
        rintro _ _ ⟨rfl, rfl⟩
        rw [zCost_cg d6]
        refine z_icmp_le (tgt := 59) dCls_isRecencySound_54 (by decide) (by have ho2 := hO.2.2.2.1; have hi := zC2_in (S.1 m) (S.1 m).length; have hi2 : ((S.1 m).length : Int) * ((S.1 m).length : Int) ≤ 16 * 16 := Int.mul_le_mul (by omega) (by omega) (by omega) (by omega); have hc := zCost_in (L := S.1 m) (T := zCntT S.2.2.2.1) (B := 60) (fun k _ => ⟨Int.natCast_nonneg _, by have := zCnt_le S.2.2.2.1 k; show (zCnt S.2.2.2.1 k : Int) ≤ 60; omega⟩) hlm 8 (by omega); have ho1 := hO.2.2.2.2; (try unfold zInv); omega) (by have ho2 := hO.2.2.2.1; have hi := zC2_in (S.1 m) (S.1 m).length; have hi2 : ((S.1 m).length : Int) * ((S.1 m).length : Int) ≤ 16 * 16 := Int.mul_le_mul (by omega) (by omega) (by omega) (by omega); have hc := zCost_in (L := S.1 m) (T := zCntT S.2.2.2.1) (B := 60) (fun k _ => ⟨Int.natCast_nonneg _, by have := zCnt_le S.2.2.2.1 k; show (zCnt S.2.2.2.1 k : Int) ≤ 60; omega⟩) hlm 8 (by omega); have ho1 := hO.2.2.2.2; (try unfold zInv); omega) (fun c54 => ?_) (fun c54 => ?_)
        · refine z_iinc dCls_isRecencySound_59 rfl (Nat.le_of_ble_eq_true rfl) ?_
          refine z_goto (tgt := 17) dCls_isRecencySound_62 (by decide) ?_
          refine ih (m + 1) (by omega) (by omega) (fun k hk hz => ?_)
          by_cases e9 : k = m
          · subst e9
            first
              | exact absurd hz m7
              | omega
          · exact q3 k (by omega) hz
        · refine z_iconst dCls_isRecencySound_57 ?_
          refine z_iret rfl rfl dCls_isRecencySound_58 ?_
          first
            | (exfalso; omega)
            | exact ⟨0, rfl, Or.inr ⟨rfl, fun q => absurd (q.2 m (by omega) m7) (by omega)⟩, rfl⟩
theorem k_Cls_isRecencySound (hC : zCls G h ad S) (hO : zOk S) : zM G l hCls_isRecencySound yCls_isRecencySound 5 [.ref (ad 0)] h (fun v h' => ∃ b9 : Int, v = some (zi b9) ∧ ((b9 = 1 ∧ zRS S) ∨ (b9 = 0 ∧ ¬ zRS S)) ∧ h = h') zNo 0 0 := by
  obtain ⟨c1, c2, ⟨g3, c3, d3⟩, ⟨g4, c4, d4⟩, c5, ⟨T6, c6, d6⟩, c7, c8, ⟨R9, c9⟩, c10⟩ := id hC
  obtain ⟨f18, e18, -⟩ := id c10
  refine zM.of [some (.ref (ad 0)), none] (by decide +kernel) rfl (by decide) rfl (Nat.le_of_ble_eq_true rfl) rfl ?_
  refine z_aload_n dCls_isRecencySound_0 rfl ?_
  refine z_get (k := 2) fd_Cls (by decide) fl_Cls_24 dCls_isRecencySound_1 (by assumption) (by rfl) ?_
  refine z_getN (k := 0) fd_Rec (by decide) fl_Cls_234 dCls_isRecencySound_4 (by assumption) (by rfl) ?_
  refine z_callVN MV_Row_isOrder lk_Cls_237 dCls_isRecencySound_7 (k_Row_isOrder c10) rfl rfl (Nat.le_of_ble_eq_true rfl) rfl (by assumption) (Nat.le_of_ble_eq_true rfl) (Nat.le_of_ble_eq_true rfl) (Nat.le_of_eq (Nat.zero_add _)) (Nat.le_of_eq (Nat.zero_add _)) (fun _ _ q => q.elim) ?_
  rintro _ _ ⟨b7, rfl, (⟨rfl, m7⟩ | ⟨rfl, m7⟩), rfl⟩
  · refine z_if_ne (tgt := 15) dCls_isRecencySound_10 (by decide) (by omega) (fun c10 => ?_) (fun c10 => ?_)
    · refine z_iconst dCls_isRecencySound_15 ?_
      refine z_istore_n dCls_isRecencySound_16 (Nat.le_of_ble_eq_true rfl) ?_
      first
        | (exfalso; omega)
        | exact l_Cls_isRecencySound hC hO m7 5 0 (by omega) (by omega) (fun k hk => absurd hk (by omega))
    · refine z_iconst dCls_isRecencySound_13 ?_
      refine z_iret rfl rfl dCls_isRecencySound_14 ?_
      first
        | (exfalso; omega)
        | exact ⟨0, rfl, Or.inr ⟨rfl, fun q => m7 q.1⟩, rfl⟩
  · refine z_if_ne (tgt := 15) dCls_isRecencySound_10 (by decide) (by omega) (fun c10 => ?_) (fun c10 => ?_)
    · refine z_iconst dCls_isRecencySound_15 ?_
      refine z_istore_n dCls_isRecencySound_16 (Nat.le_of_ble_eq_true rfl) ?_
      first
        | (exfalso; omega)
        | exact l_Cls_isRecencySound hC hO m7 5 0 (by omega) (by omega) (fun k hk => absurd hk (by omega))
    · refine z_iconst dCls_isRecencySound_13 ?_
      refine z_iret rfl rfl dCls_isRecencySound_14 ?_
      first
        | (exfalso; omega)
        | exact ⟨0, rfl, Or.inr ⟨rfl, fun q => m7 q.1⟩, rfl⟩
end CLS12
