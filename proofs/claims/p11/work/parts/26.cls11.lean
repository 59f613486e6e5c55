section CLS11
variable {G : zG} {l : Launch} {h h' : zHp} {ad : Nat → Nat} {S : zSt}
def zTB (L : List Int) : Prop := zRev (zRev L) = L ∧ zRot (zRot (zRev (zRev L)) 1) (-1) = L
/-- the rest of the result at x is the rest of the sum or of the product -/
def zRA (L M R : List Int) (b x : Int) : Prop := zHr R x R.length = (if b = 0 then zHr L x L.length + zHr M x M.length else zHr L x L.length * zHr M x M.length) % 9973
def zAg (L M R : List Int) (b : Int) : Prop := zRA L M R b 2 ∧ zRA L M R b 3 ∧ zRA L M R b (-1)
def zAU (L M : List Int) : Prop := ((∀ j : Nat, j < (if (L.length : Int) < M.length then M.length else L.length) → zIn (zAt L j + zAt M j)) → zAg L M (zmk (if (L.length : Int) < M.length then M.length else L.length) (fun j => zAt L j + zAt M j)) 0) ∧ ((zPn L M ≤ 16 ∧ ∀ j : Nat, j < zPn L M → zIn (zCf L M j (j + 1))) → zAg L M (zmk (zPn L M) (fun j => zCf L M j (j + 1))) 1)
theorem k_Cls_turnsBack {k : Nat} (hC : zCls G h ad S) (hk : k < 4) : zM G l hCls_turnsBack yCls_turnsBack 5 [.ref (ad 0), .ref (ad (8 + 2 * k))] h (fun v h' => ∃ b9 : Int, v = some (zi b9) ∧ ((b9 = 1 ∧ zTB (S.1 k)) ∨ (b9 = 0 ∧ ¬ zTB (S.1 k))) ∧ zCls G h' ad S ∧ zFrm ad h h') zNo 0 0 := by
  obtain ⟨c1, c2, ⟨g3, c3, d3⟩, ⟨g4, c4, d4⟩, c5, ⟨T6, c6, d6⟩, c7, c8, ⟨R9, c9⟩, c10⟩ := id hC
  obtain ⟨f16, e16, -⟩ := id c9
  have hrA := hC.ls hk
  obtain ⟨fA, eA, -⟩ := id hrA
  refine zM.of [some (.ref (ad 0)), some (.ref (ad (8 + 2 * k)))] (by decide +kernel) rfl (by decide) rfl (Nat.le_of_ble_eq_true rfl) rfl ?_
  refine z_aload_n dCls_turnsBack_0 rfl ?_
  refine z_get (k := 3) fd_Cls (by decide) fl_Cls_29 dCls_turnsBack_1 (by assumption) (by rfl) ?_
  refine z_aload_n dCls_turnsBack_4 rfl ?_
  refine z_callVN MV_Row_become lk_Cls_105 dCls_turnsBack_5 (k_Row_become c9 hrA (hC.inj (by omega) (by omega) (by omega)) (hC.inj (by omega) (by omega) (by omega))) rfl rfl (Nat.le_of_ble_eq_true rfl) rfl (by assumption) (Nat.le_of_ble_eq_true rfl) (Nat.le_of_ble_eq_true rfl) (Nat.le_of_eq (Nat.zero_add _)) (Nat.le_of_eq (Nat.zero_add _)) (fun _ _ q => q.elim) ?_
  rintro _ h1 ⟨rfl, hR1, f1⟩
  have F1 : ∀ q, q ≠ ad 16 → q ≠ ad 17 → h1 q = h q := fun q x y => f1 q x y
  have hC1 := hC.res hR1 F1
  obtain ⟨-, d1, -⟩ := id hC1
  have fz1 : zFrm ad h h1 := zFrm.of2 (i := 16) (j := 17) (by omega) (by omega) F1
  obtain ⟨fr1, er1, -⟩ := id hR1
  have hrA1 := hrA.kept (F1 _ (hC.inj (by omega) (by omega) (by omega)) (hC.inj (by omega) (by omega) (by omega))) (F1 _ (hC.inj (by omega) (by omega) (by omega)) (hC.inj (by omega) (by omega) (by omega)))
  obtain ⟨fA1, eA1, -⟩ := id hrA1
  refine z_aload_n dCls_turnsBack_8 rfl ?_
  refine z_get (k := 3) fd_Cls (by decide) fl_Cls_29 dCls_turnsBack_9 (by assumption) (by rfl) ?_
  refine z_callVN MV_Row_turnRound lk_Cls_126 dCls_turnsBack_12 (k_Row_turnRound hR1) rfl rfl (Nat.le_of_ble_eq_true rfl) rfl (by assumption) (Nat.le_of_ble_eq_true rfl) (Nat.le_of_ble_eq_true rfl) (Nat.le_of_eq (Nat.zero_add _)) (Nat.le_of_eq (Nat.zero_add _)) (fun _ _ q => q.elim) ?_
  rintro _ h2 ⟨rfl, hR2, f2⟩
  have F2 : ∀ q, q ≠ ad 16 → q ≠ ad 17 → h2 q = h q := fun q x y => (f2 q x y).trans (F1 q x y)
  have hC2 := hC.res hR2 F2
  obtain ⟨-, d2, -⟩ := id hC2
  have fz2 : zFrm ad h h2 := zFrm.of2 (i := 16) (j := 17) (by omega) (by omega) F2
  obtain ⟨fr2, er2, -⟩ := id hR2
  have hrA2 := hrA.kept (F2 _ (hC.inj (by omega) (by omega) (by omega)) (hC.inj (by omega) (by omega) (by omega))) (F2 _ (hC.inj (by omega) (by omega) (by omega)) (hC.inj (by omega) (by omega) (by omega)))
  obtain ⟨fA2, eA2, -⟩ := id hrA2
  refine z_aload_n dCls_turnsBack_15 rfl ?_
  refine z_get (k := 3) fd_Cls (by decide) fl_Cls_29 dCls_turnsBack_16 (by assumption) (by rfl) ?_
  refine z_callVN MV_Row_turnRound lk_Cls_126 dCls_turnsBack_19 (k_Row_turnRound hR2) rfl rfl (Nat.le_of_ble_eq_true rfl) rfl (by assumption) (Nat.le_of_ble_eq_true rfl) (Nat.le_of_ble_eq_true rfl) (Nat.le_of_eq (Nat.zero_add _)) (Nat.le_of_eq (Nat.zero_add _)) (fun _ _ q => q.elim) ?_
  rintro _ h3 ⟨rfl, hR3, f3⟩
  have F3 : ∀ q, q ≠ ad 16 → q ≠ ad 17 → h3 q = h q := fun q x y => (f3 q x y).trans (F2 q x y)
  have hC3 := hC.res hR3 F3
  obtain ⟨-, d3, -⟩ := id hC3
  have fz3 : zFrm ad h h3 := zFrm.of2 (i := 16) (j := 17) (by omega) (by omega) F3
  obtain ⟨fr3, er3, -⟩ := id hR3
  have hrA3 := hrA.kept (F3 _ (hC.inj (by omega) (by omega) (by omega)) (hC.inj (by omega) (by omega) (by omega))) (F3 _ (hC.inj (by omega) (by omega) (by omega)) (hC.inj (by omega) (by omega) (by omega)))
  obtain ⟨fA3, eA3, -⟩ := id hrA3
  refine z_aload_n dCls_turnsBack_22 rfl ?_
  refine z_get (k := 3) fd_Cls (by decide) fl_Cls_29 dCls_turnsBack_23 (by assumption) (by rfl) ?_
  refine z_aload_n dCls_turnsBack_26 rfl ?_
  refine z_callVN MV_Row_isAs lk_Cls_133 dCls_turnsBack_27 (k_Row_isAs hR3 hrA3) rfl rfl (Nat.le_of_ble_eq_true rfl) rfl (by assumption) (Nat.le_of_ble_eq_true rfl) (Nat.le_of_ble_eq_true rfl) (Nat.le_of_eq (Nat.zero_add _)) (Nat.le_of_eq (Nat.zero_add _)) (fun _ _ q => q.elim) ?_
  rintro _ _ ⟨b8, rfl, (⟨rfl, m8⟩ | ⟨rfl, m8⟩), rfl⟩
  · refine z_if_ne (tgt := 35) dCls_turnsBack_30 (by decide) (by omega) (fun c30 => ?_) (fun c30 => ?_)
    · refine z_aload_n dCls_turnsBack_35 rfl ?_
      refine z_get (k := 3) fd_Cls (by decide) fl_Cls_29 dCls_turnsBack_36 (by assumption) (by rfl) ?_
      refine z_iconst dCls_turnsBack_39 ?_
      refine z_callVN MV_Row_turnBy lk_Cls_112 dCls_turnsBack_40 (k_Row_turnBy hR3 (by omega)) rfl rfl (Nat.le_of_ble_eq_true rfl) rfl (by assumption) (Nat.le_of_ble_eq_true rfl) (Nat.le_of_ble_eq_true rfl) (Nat.le_of_eq (Nat.zero_add _)) (Nat.le_of_eq (Nat.zero_add _)) (fun _ _ q => q.elim) ?_
      rintro _ h4 ⟨rfl, hR4, f4⟩
      have F4 : ∀ q, q ≠ ad 16 → q ≠ ad 17 → h4 q = h q := fun q x y => (f4 q x y).trans (F3 q x y)
      have hC4 := hC.res hR4 F4
      obtain ⟨-, d4, -⟩ := id hC4
      have fz4 : zFrm ad h h4 := zFrm.of2 (i := 16) (j := 17) (by omega) (by omega) F4
      obtain ⟨fr4, er4, -⟩ := id hR4
      have hrA4 := hrA.kept (F4 _ (hC.inj (by omega) (by omega) (by omega)) (hC.inj (by omega) (by omega) (by omega))) (F4 _ (hC.inj (by omega) (by omega) (by omega)) (hC.inj (by omega) (by omega) (by omega)))
      obtain ⟨fA4, eA4, -⟩ := id hrA4
      refine z_aload_n dCls_turnsBack_43 rfl ?_
      refine z_get (k := 3) fd_Cls (by decide) fl_Cls_29 dCls_turnsBack_44 (by assumption) (by rfl) ?_
      refine z_iconst dCls_turnsBack_47 ?_
      refine z_callVN MV_Row_turnBy lk_Cls_112 dCls_turnsBack_48 (k_Row_turnBy hR4 (by omega)) rfl rfl (Nat.le_of_ble_eq_true rfl) rfl (by assumption) (Nat.le_of_ble_eq_true rfl) (Nat.le_of_ble_eq_true rfl) (Nat.le_of_eq (Nat.zero_add _)) (Nat.le_of_eq (Nat.zero_add _)) (fun _ _ q => q.elim) ?_
      rintro _ h5 ⟨rfl, hR5, f5⟩
      have F5 : ∀ q, q ≠ ad 16 → q ≠ ad 17 → h5 q = h q := fun q x y => (f5 q x y).trans (F4 q x y)
      have hC5 := hC.res hR5 F5
      obtain ⟨-, d5, -⟩ := id hC5
      have fz5 : zFrm ad h h5 := zFrm.of2 (i := 16) (j := 17) (by omega) (by omega) F5
      obtain ⟨fr5, er5, -⟩ := id hR5
      have hrA5 := hrA.kept (F5 _ (hC.inj (by omega) (by omega) (by omega)) (hC.inj (by omega) (by omega) (by omega))) (F5 _ (hC.inj (by omega) (by omega) (by omega)) (hC.inj (by omega) (by omega) (by omega)))
      obtain ⟨fA5, eA5, -⟩ := id hrA5
      refine z_aload_n dCls_turnsBack_51 rfl ?_
      refine z_get (k := 3) fd_Cls (by decide) fl_Cls_29 dCls_turnsBack_52 (by assumption) (by rfl) ?_
      refine z_aload_n dCls_turnsBack_55 rfl ?_
      refine z_callVN MV_Row_isAs lk_Cls_133 dCls_turnsBack_56 (k_Row_isAs hR5 hrA5) rfl rfl (Nat.le_of_ble_eq_true rfl) rfl (by assumption) (Nat.le_of_ble_eq_true rfl) (Nat.le_of_ble_eq_true rfl) (Nat.le_of_eq (Nat.zero_add _)) (Nat.le_of_eq (Nat.zero_add _)) (fun _ _ q => q.elim) ?_
      rintro _ _ ⟨b9, rfl, (⟨rfl, m9⟩ | ⟨rfl, m9⟩), rfl⟩
      · refine z_iret rfl rfl dCls_turnsBack_59 ?_
        first
          | (exfalso; omega)
          | exact ⟨1, rfl, Or.inl ⟨rfl, m8, m9⟩, by assumption, by assumption⟩
          | exact ⟨0, rfl, Or.inr ⟨rfl, fun q => m9 q.2⟩, by assumption, by assumption⟩
          | exact ⟨0, rfl, Or.inr ⟨rfl, fun q => m8 q.1⟩, by assumption, by assumption⟩
      · refine z_iret rfl rfl dCls_turnsBack_59 ?_
        first
          | (exfalso; omega)
          | exact ⟨1, rfl, Or.inl ⟨rfl, m8, m9⟩, by assumption, by assumption⟩
          | exact ⟨0, rfl, Or.inr ⟨rfl, fun q => m9 q.2⟩, by assumption, by assumption⟩
          | exact ⟨0, rfl, Or.inr ⟨rfl, fun q => m8 q.1⟩, by assumption, by assumption⟩
    · refine z_iconst dCls_turnsBack_33 ?_
      refine z_iret rfl rfl dCls_turnsBack_34 ?_
      first
        | (exfalso; omega)
        | exact ⟨1, rfl, Or.inl ⟨rfl, m8, m9⟩, by assumption, by assumption⟩
        | exact ⟨0, rfl, Or.inr ⟨rfl, fun q => m9 q.2⟩, by assumption, by assumption⟩
        | exact ⟨0, rfl, Or.inr ⟨rfl, fun q => m8 q.1⟩, by assumption, by assumption⟩
  · refine z_if_ne (tgt := 35) dCls_turnsBack_30 (by decide) (by omega) (fun c30 => ?_) (fun c30 => ?_)
    · refine z_aload_n dCls_turnsBack_35 rfl ?_
      refine z_get (k := 3) fd_Cls (by decide) fl_Cls_29 dCls_turnsBack_36 (by assumption) (by rfl) ?_
      refine z_iconst dCls_turnsBack_39 ?_
      refine z_callVN MV_Row_turnBy lk_Cls_112 dCls_turnsBack_40 (k_Row_turnBy hR3 (by omega)) rfl rfl (Nat.le_of_ble_eq_true rfl) rfl (by assumption) (Nat.le_of_ble_eq_true rfl) (Nat.le_of_ble_eq_true rfl) (Nat.le_of_eq (Nat.zero_add _)) (Nat.le_of_eq (Nat.zero_add _)) (fun _ _ q => q.elim) ?_
      rintro _ h4 ⟨rfl, hR4, f4⟩
      have F4 : ∀ q, q ≠ ad 16 → q ≠ ad 17 → h4 q = h q := fun q x y => (f4 q x y).trans (F3 q x y)
      have hC4 := hC.res hR4 F4
      obtain ⟨-, d4, -⟩ := id hC4
      have fz4 : zFrm ad h h4 := zFrm.of2 (i := 16) (j := 17) (by omega) (by omega) F4
      obtain ⟨fr4, er4, -⟩ := id hR4
      have hrA4 := hrA.kept (F4 _ (hC.inj (by omega) (by omega) (by omega)) (hC.inj (by omega) (by omega) (by omega))) (F4 _ (hC.inj (by omega) (by omega) (by omega)) (hC.inj (by omega) (by omega) (by omega)))
      obtain ⟨fA4, eA4, -⟩ := id hrA4
      refine z_aload_n dCls_turnsBack_43 rfl ?_
      refine z_get (k := 3) fd_Cls (by decide) fl_Cls_29 dCls_turnsBack_44 (by assumption) (by rfl) ?_
      refine z_iconst dCls_turnsBack_47 ?_
      refine z_callVN MV_Row_turnBy lk_Cls_112 dCls_turnsBack_48 (k_Row_turnBy hR4 (by omega)) rfl rfl (Nat.le_of_ble_eq_true rfl) rfl (by assumption) (Nat.le_of_ble_eq_true rfl) (Nat.le_of_ble_eq_true rfl) (Nat.le_of_eq (Nat.zero_add _)) (Nat.le_of_eq (Nat.zero_add _)) (fun _ _ q => q.elim) ?_
      rintro _ h5 ⟨rfl, hR5, f5⟩
      have F5 : ∀ q, q ≠ ad 16 → q ≠ ad 17 → h5 q = h q := fun q x y => (f5 q x y).trans (F4 q x y)
      have hC5 := hC.res hR5 F5
      obtain ⟨-, d5, -⟩ := id hC5
      have fz5 : zFrm ad h h5 := zFrm.of2 (i := 16) (j := 17) (by omega) (by omega) F5
      obtain ⟨fr5, er5, -⟩ := id hR5
      have hrA5 := hrA.kept (F5 _ (hC.inj (by omega) (by omega) (by omega)) (hC.inj (by omega) (by omega) (by omega))) (F5 _ (hC.inj (by omega) (by omega) (by omega)) (hC.inj (by omega) (by omega) (by omega)))
      obtain ⟨fA5, eA5, -⟩ := id hrA5
      refine z_aload_n dCls_turnsBack_51 rfl ?_
      refine z_get (k := 3) fd_Cls (by decide) fl_Cls_29 dCls_turnsBack_52 (by assumption) (by rfl) ?_
      refine z_aload_n dCls_turnsBack_55 rfl ?_
      refine z_callVN MV_Row_isAs lk_Cls_133 dCls_turnsBack_56 (k_Row_isAs hR5 hrA5) rfl rfl (Nat.le_of_ble_eq_true rfl) rfl (by assumption) (Nat.le_of_ble_eq_true rfl) (Nat.le_of_ble_eq_true rfl) (Nat.le_of_eq (Nat.zero_add _)) (Nat.le_of_eq (Nat.zero_add _)) (fun _ _ q => q.elim) ?_
      rintro _ _ ⟨b9, rfl, (⟨rfl, m9⟩ | ⟨rfl, m9⟩), rfl⟩
      · refine z_iret rfl rfl dCls_turnsBack_59 ?_
        first
          | (exfalso; omega)
          | exact ⟨1, rfl, Or.inl ⟨rfl, m8, m9⟩, by assumption, by assumption⟩
          | exact ⟨0, rfl, Or.inr ⟨rfl, fun q => m9 q.2⟩, by assumption, by assumption⟩
          | exact ⟨0, rfl, Or.inr ⟨rfl, fun q => m8 q.1⟩, by assumption, by assumption⟩
      · refine z_iret rfl rfl dCls_turnsBack_59 ?_
        first
          | (exfalso; omega)
          | exact ⟨1, rfl, Or.inl ⟨rfl, m8, m9⟩, by assumption, by assumption⟩
          | exact ⟨0, rfl, Or.inr ⟨rfl, fun q => m9 q.2⟩, by assumption, by assumption⟩
          | exact ⟨0, rfl, Or.inr ⟨rfl, fun q => m8 q.1⟩, by assumption, by assumption⟩
    · refine z_iconst dCls_turnsBack_33 ?_
      refine z_iret rfl rfl dCls_turnsBack_34 ?_
      first
        | (exfalso; omega)
        | exact ⟨1, rfl, Or.inl ⟨rfl, m8, m9⟩, by assumption, by assumption⟩
        | exact ⟨0, rfl, Or.inr ⟨rfl, fun q => m9 q.2⟩, by assumption, by assumption⟩
        | exact ⟨0, rfl, Or.inr ⟨rfl, fun q => m8 q.1⟩, by assumption, by assumption⟩
theorem k_Cls_isResultAt {ro ra r2 a2 : Nat} {L M R : List Int} {b x : Int} (hC : zCls G h ad S) (hL : zRow G h ro ra L) (hM : zRow G h r2 a2 M) (hR : zRow G h (ad 16) (ad 17) R) (hb : b = 0 ∨ b = 1) (hx : -99 ≤ x ∧ x ≤ 99) : zM G l hCls_isResultAt yCls_isResultAt 3 [.ref (ad 0), .ref ro, .ref r2, zi b, zi x] h (fun v h' => ∃ b9 : Int, v = some (zi b9) ∧ ((b9 = 1 ∧ zRA L M R b x) ∨ (b9 = 0 ∧ ¬ zRA L M R b x)) ∧ h = h') zNo 0 0 := by
  obtain ⟨c1, c2, ⟨g3, c3, d3⟩, ⟨g4, c4, d4⟩, c5, ⟨T6, c6, d6⟩, c7, c8, ⟨R9, c9⟩, c10⟩ := id hC
  obtain ⟨f16, e16, -⟩ := id hR
  obtain ⟨f1, e1, -⟩ := id hL
  obtain ⟨f2, e2, -⟩ := id hM
  have z1 := zHr_in L x L.length
  have z2 := zHr_in M x M.length
  have z3 := zHr_in R x R.length
  have hpr : -2147483648 ≤ zHr L x L.length * zHr M x M.length ∧ zHr L x L.length * zHr M x M.length ≤ 2147483647 := by
    have p1 : 0 ≤ zHr L x L.length * zHr M x M.length := Int.mul_nonneg z1.1 z2.1
    have p2 : zHr L x L.length * zHr M x M.length ≤ 9972 * 9972 := Int.mul_le_mul (by omega) (by omega) z2.1 (by omega)
    omega
  refine zM.of [some (.ref (ad 0)), some (.ref ro), some (.ref r2), some (zi b), some (zi x), none, none] (by decide +kernel) rfl (by decide) rfl (Nat.le_of_ble_eq_true rfl) rfl ?_
  refine z_aload_n dCls_isResultAt_0 rfl ?_
  refine z_iload dCls_isResultAt_1 rfl ?_
  refine z_callVN MV_Row_restAt lk_Cls_212 dCls_isResultAt_3 (k_Row_restAt hL hx) rfl rfl (Nat.le_of_ble_eq_true rfl) rfl (by assumption) (Nat.le_of_ble_eq_true rfl) (Nat.le_of_ble_eq_true rfl) (Nat.le_of_eq (Nat.zero_add _)) (Nat.le_of_eq (Nat.zero_add _)) (fun _ _ q => q.elim) ?_
  rintro _ _ ⟨rfl, rfl⟩
  refine z_istore dCls_isResultAt_6 (Nat.le_of_ble_eq_true rfl) ?_
  refine z_aload_n dCls_isResultAt_8 rfl ?_
  refine z_iload dCls_isResultAt_9 rfl ?_
  refine z_callVN MV_Row_restAt lk_Cls_212 dCls_isResultAt_11 (k_Row_restAt hM hx) rfl rfl (Nat.le_of_ble_eq_true rfl) rfl (by assumption) (Nat.le_of_ble_eq_true rfl) (Nat.le_of_ble_eq_true rfl) (Nat.le_of_eq (Nat.zero_add _)) (Nat.le_of_eq (Nat.zero_add _)) (fun _ _ q => q.elim) ?_
  rintro _ _ ⟨rfl, rfl⟩
  refine z_istore dCls_isResultAt_14 (Nat.le_of_ble_eq_true rfl) ?_
  refine z_aload_n dCls_isResultAt_16 rfl ?_
  refine z_get (k := 3) fd_Cls (by decide) fl_Cls_29 dCls_isResultAt_17 (by assumption) (by rfl) ?_
  refine z_iload dCls_isResultAt_20 rfl ?_
  refine z_callVN MV_Row_restAt lk_Cls_212 dCls_isResultAt_22 (k_Row_restAt hR hx) rfl rfl (Nat.le_of_ble_eq_true rfl) rfl (by assumption) (Nat.le_of_ble_eq_true rfl) (Nat.le_of_ble_eq_true rfl) (Nat.le_of_eq (Nat.zero_add _)) (Nat.le_of_eq (Nat.zero_add _)) (fun _ _ q => q.elim) ?_
  rintro _ _ ⟨rfl, rfl⟩
  refine z_iload_n dCls_isResultAt_25 rfl ?_
  refine z_if_eq (tgt := 37) dCls_isResultAt_26 (by decide) (by omega) (fun c26 => ?_) (fun c26 => ?_)
  · refine z_iload dCls_isResultAt_37 rfl ?_
    refine z_iload dCls_isResultAt_39 rfl ?_
    refine z_iadd dCls_isResultAt_41 ?_
    refine z_sipush dCls_isResultAt_42 rfl ?_
    refine z_callS MS_Mth_floorMod_7cf53 lk_Cls_333 dCls_isResultAt_45 (k_Mth_floorMod (by first | omega | exact hpr) (by omega)) rfl rfl (Nat.le_of_ble_eq_true rfl)  (Nat.le_of_ble_eq_true rfl) (Nat.le_of_ble_eq_true rfl) (Nat.le_of_eq (Nat.zero_add _)) (Nat.le_of_eq (Nat.zero_add _)) (fun _ _ q => q.elim) ?_
    rintro _ _ ⟨rfl, rfl⟩
    refine z_icmp_ne (tgt := 55) dCls_isResultAt_48 (by decide) (by omega) (by omega) (fun c48 => ?_) (fun c48 => ?_)
    · refine z_iconst dCls_isResultAt_55 ?_
      refine z_iret rfl rfl dCls_isResultAt_56 ?_
      refine ⟨_, rfl, ?_, rfl⟩
      unfold zRA
      first
        | exact Or.inl ⟨rfl, by rw [if_pos (by omega)]; omega⟩
        | exact Or.inl ⟨rfl, by rw [if_neg (by omega)]; omega⟩
        | exact Or.inr ⟨rfl, by rw [if_pos (by omega)]; omega⟩
        | exact Or.inr ⟨rfl, by rw [if_neg (by omega)]; omega⟩
    · refine z_iconst dCls_isResultAt_51 ?_
      refine z_goto (tgt := 56) dCls_isResultAt_52 (by decide) ?_
      refine z_iret rfl rfl dCls_isResultAt_56 ?_
      refine ⟨_, rfl, ?_, rfl⟩
      unfold zRA
      first
        | exact Or.inl ⟨rfl, by rw [if_pos (by omega)]; omega⟩
        | exact Or.inl ⟨rfl, by rw [if_neg (by omega)]; omega⟩
        | exact Or.inr ⟨rfl, by rw [if_pos (by omega)]; omega⟩
        | exact Or.inr ⟨rfl, by rw [if_neg (by omega)]; omega⟩
  · refine z_iload dCls_isResultAt_29 rfl ?_
    refine z_iload dCls_isResultAt_31 rfl ?_
    refine z_imul dCls_isResultAt_33 ?_
    refine z_goto (tgt := 42) dCls_isResultAt_34 (by decide) ?_
    refine z_sipush dCls_isResultAt_42 rfl ?_
    refine z_callS MS_Mth_floorMod_7cf53 lk_Cls_333 dCls_isResultAt_45 (k_Mth_floorMod (by first | omega | exact hpr) (by omega)) rfl rfl (Nat.le_of_ble_eq_true rfl)  (Nat.le_of_ble_eq_true rfl) (Nat.le_of_ble_eq_true rfl) (Nat.le_of_eq (Nat.zero_add _)) (Nat.le_of_eq (Nat.zero_add _)) (fun _ _ q => q.elim) ?_
    rintro _ _ ⟨rfl, rfl⟩
    refine z_icmp_ne (tgt := 55) dCls_isResultAt_48 (by decide) (by omega) (by omega) (fun c48 => ?_) (fun c48 => ?_)
    · refine z_iconst dCls_isResultAt_55 ?_
      refine z_iret rfl rfl dCls_isResultAt_56 ?_
      refine ⟨_, rfl, ?_, rfl⟩
      unfold zRA
      first
        | exact Or.inl ⟨rfl, by rw [if_pos (by omega)]; omega⟩
        | exact Or.inl ⟨rfl, by rw [if_neg (by omega)]; omega⟩
        | exact Or.inr ⟨rfl, by rw [if_pos (by omega)]; omega⟩
        | exact Or.inr ⟨rfl, by rw [if_neg (by omega)]; omega⟩
    · refine z_iconst dCls_isResultAt_51 ?_
      refine z_goto (tgt := 56) dCls_isResultAt_52 (by decide) ?_
      refine z_iret rfl rfl dCls_isResultAt_56 ?_
      refine ⟨_, rfl, ?_, rfl⟩
      unfold zRA
      first
        | exact Or.inl ⟨rfl, by rw [if_pos (by omega)]; omega⟩
        | exact Or.inl ⟨rfl, by rw [if_neg (by omega)]; omega⟩
        | exact Or.inr ⟨rfl, by rw [if_pos (by omega)]; omega⟩
        | exact Or.inr ⟨rfl, by rw [if_neg (by omega)]; omega⟩
theorem k_Cls_agreesWithResult {ro ra r2 a2 : Nat} {L M R : List Int} {b x : Int} (hC : zCls G h ad S) (hL : zRow G h ro ra L) (hM : zRow G h r2 a2 M) (hR : zRow G h (ad 16) (ad 17) R) (hb : b = 0 ∨ b = 1) : zM G l hCls_agreesWithResult yCls_agreesWithResult 4 [.ref (ad 0), .ref ro, .ref r2, zi b] h (fun v h' => ∃ b9 : Int, v = some (zi b9) ∧ ((b9 = 1 ∧ zAg L M R b) ∨ (b9 = 0 ∧ ¬ zAg L M R b)) ∧ h = h') zNo 0 0 := by
  obtain ⟨c1, c2, ⟨g3, c3, d3⟩, ⟨g4, c4, d4⟩, c5, ⟨T6, c6, d6⟩, c7, c8, ⟨R9, c9⟩, c10⟩ := id hC
  obtain ⟨f16, e16, -⟩ := id hR
  obtain ⟨f1, e1, -⟩ := id hL
  obtain ⟨f2, e2, -⟩ := id hM
  refine zM.of [some (.ref (ad 0)), some (.ref ro), some (.ref r2), some (zi b)] (by decide +kernel) rfl (by decide) rfl (Nat.le_of_ble_eq_true rfl) rfl ?_
  refine z_aload_n dCls_agreesWithResult_0 rfl ?_
  refine z_aload_n dCls_agreesWithResult_1 rfl ?_
  refine z_aload_n dCls_agreesWithResult_2 rfl ?_
  refine z_iload_n dCls_agreesWithResult_3 rfl ?_
  refine z_iconst dCls_agreesWithResult_4 ?_
  refine z_callV MV_Cls_isResultAt lk_Cls_329 dCls_agreesWithResult_5 (k_Cls_isResultAt hC hL hM hR hb (by omega)) rfl rfl (Nat.le_of_ble_eq_true rfl) rfl (by assumption) (Nat.le_of_ble_eq_true rfl) (Nat.le_of_ble_eq_true rfl) (Nat.le_of_eq (Nat.zero_add _)) (Nat.le_of_eq (Nat.zero_add _)) (fun _ _ q => q.elim) ?_
  rintro _ _ ⟨b7, rfl, (⟨rfl, m7⟩ | ⟨rfl, m7⟩), rfl⟩
  · refine z_if_eq (tgt := 37) dCls_agreesWithResult_8 (by decide) (by omega) (fun c8 => ?_) (fun c8 => ?_)
    · refine z_iconst dCls_agreesWithResult_37 ?_
      refine z_iret rfl rfl dCls_agreesWithResult_38 ?_
      first
        | (exfalso; omega)
        | exact ⟨1, rfl, Or.inl ⟨rfl, m7, m8, m9⟩, rfl⟩
        | exact ⟨0, rfl, Or.inr ⟨rfl, fun q => m9 q.2.2⟩, rfl⟩
        | exact ⟨0, rfl, Or.inr ⟨rfl, fun q => m8 q.2.1⟩, rfl⟩
        | exact ⟨0, rfl, Or.inr ⟨rfl, fun q => m7 q.1⟩, rfl⟩
    · refine z_aload_n dCls_agreesWithResult_11 rfl ?_
      refine z_aload_n dCls_agreesWithResult_12 rfl ?_
      refine z_aload_n dCls_agreesWithResult_13 rfl ?_
      refine z_iload_n dCls_agreesWithResult_14 rfl ?_
      refine z_iconst dCls_agreesWithResult_15 ?_
      refine z_callV MV_Cls_isResultAt lk_Cls_329 dCls_agreesWithResult_16 (k_Cls_isResultAt hC hL hM hR hb (by omega)) rfl rfl (Nat.le_of_ble_eq_true rfl) rfl (by assumption) (Nat.le_of_ble_eq_true rfl) (Nat.le_of_ble_eq_true rfl) (Nat.le_of_eq (Nat.zero_add _)) (Nat.le_of_eq (Nat.zero_add _)) (fun _ _ q => q.elim) ?_
      rintro _ _ ⟨b8, rfl, (⟨rfl, m8⟩ | ⟨rfl, m8⟩), rfl⟩
      · refine z_if_eq (tgt := 37) dCls_agreesWithResult_19 (by decide) (by omega) (fun c19 => ?_) (fun c19 => ?_)
        · refine z_iconst dCls_agreesWithResult_37 ?_
          refine z_iret rfl rfl dCls_agreesWithResult_38 ?_
          first
            | (exfalso; omega)
            | exact ⟨1, rfl, Or.inl ⟨rfl, m7, m8, m9⟩, rfl⟩
            | exact ⟨0, rfl, Or.inr ⟨rfl, fun q => m9 q.2.2⟩, rfl⟩
            | exact ⟨0, rfl, Or.inr ⟨rfl, fun q => m8 q.2.1⟩, rfl⟩
            | exact ⟨0, rfl, Or.inr ⟨rfl, fun q => m7 q.1⟩, rfl⟩
        · refine z_aload_n dCls_agreesWithResult_22 rfl ?_
          refine z_aload_n dCls_agreesWithResult_23 rfl ?_
          refine z_aload_n dCls_agreesWithResult_24 rfl ?_
          refine z_iload_n dCls_agreesWithResult_25 rfl ?_
          refine z_iconst dCls_agreesWithResult_26 ?_
          refine z_callV MV_Cls_isResultAt lk_Cls_329 dCls_agreesWithResult_27 (k_Cls_isResultAt hC hL hM hR hb (by omega)) rfl rfl (Nat.le_of_ble_eq_true rfl) rfl (by assumption) (Nat.le_of_ble_eq_true rfl) (Nat.le_of_ble_eq_true rfl) (Nat.le_of_eq (Nat.zero_add _)) (Nat.le_of_eq (Nat.zero_add _)) (fun _ _ q => q.elim) ?_
          rintro _ _ ⟨b9, rfl, (⟨rfl, m9⟩ | ⟨rfl, m9⟩), rfl⟩
          · refine z_if_eq (tgt := 37) dCls_agreesWithResult_30 (by decide) (by omega) (fun c30 => ?_) (fun c30 => ?_)
            · refine z_iconst dCls_agreesWithResult_37 ?_
              refine z_iret rfl rfl dCls_agreesWithResult_38 ?_
              first
                | (exfalso; omega)
                | exact ⟨1, rfl, Or.inl ⟨rfl, m7, m8, m9⟩, rfl⟩
                | exact ⟨0, rfl, Or.inr ⟨rfl, fun q => m9 q.2.2⟩, rfl⟩
                | exact ⟨0, rfl, Or.inr ⟨rfl, fun q => m8 q.2.1⟩, rfl⟩
                | exact ⟨0, rfl, Or.inr ⟨rfl, fun q => m7 q.1⟩, rfl⟩
            · refine z_iconst dCls_agreesWithResult_33 ?_
              refine z_goto (tgt := 38) dCls_agreesWithResult_34 (by decide) ?_
              refine z_iret rfl rfl dCls_agreesWithResult_38 ?_
              first
                | (exfalso; omega)
                | exact ⟨1, rfl, Or.inl ⟨rfl, m7, m8, m9⟩, rfl⟩
                | exact ⟨0, rfl, Or.inr ⟨rfl, fun q => m9 q.2.2⟩, rfl⟩
                | exact ⟨0, rfl, Or.inr ⟨rfl, fun q => m8 q.2.1⟩, rfl⟩
                | exact ⟨0, rfl, Or.inr ⟨rfl, fun q => m7 q.1⟩, rfl⟩
          · refine z_if_eq (tgt := 37) dCls_agreesWithResult_30 (by decide) (by omega) (fun c30 => ?_) (fun c30 => ?_)
            · refine z_iconst dCls_agreesWithResult_37 ?_
              refine z_iret rfl rfl dCls_agreesWithResult_38 ?_
              first
                | (exfalso; omega)
                | exact ⟨1, rfl, Or.inl ⟨rfl, m7, m8, m9⟩, rfl⟩
                | exact ⟨0, rfl, Or.inr ⟨rfl, fun q => m9 q.2.2⟩, rfl⟩
                | exact ⟨0, rfl, Or.inr ⟨rfl, fun q => m8 q.2.1⟩, rfl⟩
                | exact ⟨0, rfl, Or.inr ⟨rfl, fun q => m7 q.1⟩, rfl⟩
            · refine z_iconst dCls_agreesWithResult_33 ?_
              refine z_goto (tgt := 38) dCls_agreesWithResult_34 (by decide) ?_
              refine z_iret rfl rfl dCls_agreesWithResult_38 ?_
              first
                | (exfalso; omega)
                | exact ⟨1, rfl, Or.inl ⟨rfl, m7, m8, m9⟩, rfl⟩
                | exact ⟨0, rfl, Or.inr ⟨rfl, fun q => m9 q.2.2⟩, rfl⟩
                | exact ⟨0, rfl, Or.inr ⟨rfl, fun q => m8 q.2.1⟩, rfl⟩
                | exact ⟨0, rfl, Or.inr ⟨rfl, fun q => m7 q.1⟩, rfl⟩
      · refine z_if_eq (tgt := 37) dCls_agreesWithResult_19 (by decide) (by omega) (fun c19 => ?_) (fun c19 => ?_)
        · refine z_iconst dCls_agreesWithResult_37 ?_
          refine z_iret rfl rfl dCls_agreesWithResult_38 ?_
          first
            | (exfalso; omega)
            | exact ⟨1, rfl, Or.inl ⟨rfl, m7, m8, m9⟩, rfl⟩
            | exact ⟨0, rfl, Or.inr ⟨rfl, fun q => m9 q.2.2⟩, rfl⟩
            | exact ⟨0, rfl, Or.inr ⟨rfl, fun q => m8 q.2.1⟩, rfl⟩
            | exact ⟨0, rfl, Or.inr ⟨rfl, fun q => m7 q.1⟩, rfl⟩
        · refine z_aload_n dCls_agreesWithResult_22 rfl ?_
          refine z_aload_n dCls_agreesWithResult_23 rfl ?_
          refine z_aload_n dCls_agreesWithResult_24 rfl ?_
          refine z_iload_n dCls_agreesWithResult_25 rfl ?_
          refine z_iconst dCls_agreesWithResult_26 ?_
          refine z_callV MV_Cls_isResultAt lk_Cls_329 dCls_agreesWithResult_27 (k_Cls_isResultAt hC hL hM hR hb (by omega)) rfl rfl (Nat.le_of_ble_eq_true rfl) rfl (by assumption) (Nat.le_of_ble_eq_true rfl) (Nat.le_of_ble_eq_true rfl) (Nat.le_of_eq (Nat.zero_add _)) (Nat.le_of_eq (Nat.zero_add _)) (fun _ _ q => q.elim) ?_
          rintro _ _ ⟨b9, rfl, (⟨rfl, m9⟩ | ⟨rfl, m9⟩), rfl⟩
          · refine z_if_eq (tgt := 37) dCls_agreesWithResult_30 (by decide) (by omega) (fun c30 => ?_) (fun c30 => ?_)
            · refine z_iconst dCls_agreesWithResult_37 ?_
              refine z_iret rfl rfl dCls_agreesWithResult_38 ?_
              first
                | (exfalso; omega)
                | exact ⟨1, rfl, Or.inl ⟨rfl, m7, m8, m9⟩, rfl⟩
                | exact ⟨0, rfl, Or.inr ⟨rfl, fun q => m9 q.2.2⟩, rfl⟩
                | exact ⟨0, rfl, Or.inr ⟨rfl, fun q => m8 q.2.1⟩, rfl⟩
                | exact ⟨0, rfl, Or.inr ⟨rfl, fun q => m7 q.1⟩, rfl⟩
            · refine z_iconst dCls_agreesWithResult_33 ?_
              refine z_goto (tgt := 38) dCls_agreesWithResult_34 (by decide) ?_
              refine z_iret rfl rfl dCls_agreesWithResult_38 ?_
              first
                | (exfalso; omega)
                | exact ⟨1, rfl, Or.inl ⟨rfl, m7, m8, m9⟩, rfl⟩
                | exact ⟨0, rfl, Or.inr ⟨rfl, fun q => m9 q.2.2⟩, rfl⟩
                | exact ⟨0, rfl, Or.inr ⟨rfl, fun q => m8 q.2.1⟩, rfl⟩
                | exact ⟨0, rfl, Or.inr ⟨rfl, fun q => m7 q.1⟩, rfl⟩
          · refine z_if_eq (tgt := 37) dCls_agreesWithResult_30 (by decide) (by omega) (fun c30 => ?_) (fun c30 => ?_)
            · refine z_iconst dCls_agreesWithResult_37 ?_
              refine z_iret rfl rfl dCls_agreesWithResult_38 ?_
              first
                | (exfalso; omega)
                | exact ⟨1, rfl, Or.inl ⟨rfl, m7, m8, m9⟩, rfl⟩
                | exact ⟨0, rfl, Or.inr ⟨rfl, fun q => m9 q.2.2⟩, rfl⟩
                | exact ⟨0, rfl, Or.inr ⟨rfl, fun q => m8 q.2.1⟩, rfl⟩
                | exact ⟨0, rfl, Or.inr ⟨rfl, fun q => m7 q.1⟩, rfl⟩
            · refine z_iconst dCls_agreesWithResult_33 ?_
              refine z_goto (tgt := 38) dCls_agreesWithResult_34 (by decide) ?_
              refine z_iret rfl rfl dCls_agreesWithResult_38 ?_
              first
                | (exfalso; omega)
                | exact ⟨1, rfl, Or.inl ⟨rfl, m7, m8, m9⟩, rfl⟩
                | exact ⟨0, rfl, Or.inr ⟨rfl, fun q => m9 q.2.2⟩, rfl⟩
                | exact ⟨0, rfl, Or.inr ⟨rfl, fun q => m8 q.2.1⟩, rfl⟩
                | exact ⟨0, rfl, Or.inr ⟨rfl, fun q => m7 q.1⟩, rfl⟩
  · refine z_if_eq (tgt := 37) dCls_agreesWithResult_8 (by decide) (by omega) (fun c8 => ?_) (fun c8 => ?_)
    · refine z_iconst dCls_agreesWithResult_37 ?_
      refine z_iret rfl rfl dCls_agreesWithResult_38 ?_
      first
        | (exfalso; omega)
        | exact ⟨1, rfl, Or.inl ⟨rfl, m7, m8, m9⟩, rfl⟩
        | exact ⟨0, rfl, Or.inr ⟨rfl, fun q => m9 q.2.2⟩, rfl⟩
        | exact ⟨0, rfl, Or.inr ⟨rfl, fun q => m8 q.2.1⟩, rfl⟩
        | exact ⟨0, rfl, Or.inr ⟨rfl, fun q => m7 q.1⟩, rfl⟩
    · refine z_aload_n dCls_agreesWithResult_11 rfl ?_
      refine z_aload_n dCls_agreesWithResult_12 rfl ?_
      refine z_aload_n dCls_agreesWithResult_13 rfl ?_
      refine z_iload_n dCls_agreesWithResult_14 rfl ?_
      refine z_iconst dCls_agreesWithResult_15 ?_
      refine z_callV MV_Cls_isResultAt lk_Cls_329 dCls_agreesWithResult_16 (k_Cls_isResultAt hC hL hM hR hb (by omega)) rfl rfl (Nat.le_of_ble_eq_true rfl) rfl (by assumption) (Nat.le_of_ble_eq_true rfl) (Nat.le_of_ble_eq_true rfl) (Nat.le_of_eq (Nat.zero_add _)) (Nat.le_of_eq (Nat.zero_add _)) (fun _ _ q => q.elim) ?_
      rintro _ _ ⟨b8, rfl, (⟨rfl, m8⟩ | ⟨rfl, m8⟩), rfl⟩
      · refine z_if_eq (tgt := 37) dCls_agreesWithResult_19 (by decide) (by omega) (fun c19 => ?_) (fun c19 => ?_)
        · refine z_iconst dCls_agreesWithResult_37 ?_
          refine z_iret rfl rfl dCls_agreesWithResult_38 ?_
          first
            | (exfalso; omega)
            | exact ⟨1, rfl, Or.inl ⟨rfl, m7, m8, m9⟩, rfl⟩
            | exact ⟨0, rfl, Or.inr ⟨rfl, fun q => m9 q.2.2⟩, rfl⟩
            | exact ⟨0, rfl, Or.inr ⟨rfl, fun q => m8 q.2.1⟩, rfl⟩
            | exact ⟨0, rfl, Or.inr ⟨rfl, fun q => m7 q.1⟩, rfl⟩
        · refine z_aload_n dCls_agreesWithResult_22 rfl ?_
          refine z_aload_n dCls_agreesWithResult_23 rfl ?_
          refine z_aload_n dCls_agreesWithResult_24 rfl ?_
          refine z_iload_n dCls_agreesWithResult_25 rfl ?_
          refine z_iconst dCls_agreesWithResult_26 ?_
          refine z_callV MV_Cls_isResultAt lk_Cls_329 dCls_agreesWithResult_27 (k_Cls_isResultAt hC hL hM hR hb (by omega)) rfl rfl (Nat.le_of_ble_eq_true rfl) rfl (by assumption) (Nat.le_of_ble_eq_true rfl) (Nat.le_of_ble_eq_true rfl) (Nat.le_of_eq (Nat.zero_add _)) (Nat.le_of_eq (Nat.zero_add _)) (fun _ _ q => q.elim) ?_
          rintro _ _ ⟨b9, rfl, (⟨rfl, m9⟩ | ⟨rfl, m9⟩), rfl⟩
          · refine z_if_eq (tgt := 37) dCls_agreesWithResult_30 (by decide) (by omega) (fun c30 => ?_) (fun c30 => ?_)
            · refine z_iconst dCls_agreesWithResult_37 ?_
              refine z_iret rfl rfl dCls_agreesWithResult_38 ?_
              first
                | (exfalso; omega)
                | exact ⟨1, rfl, Or.inl ⟨rfl, m7, m8, m9⟩, rfl⟩
                | exact ⟨0, rfl, Or.inr ⟨rfl, fun q => m9 q.2.2⟩, rfl⟩
                | exact ⟨0, rfl, Or.inr ⟨rfl, fun q => m8 q.2.1⟩, rfl⟩
                | exact ⟨0, rfl, Or.inr ⟨rfl, fun q => m7 q.1⟩, rfl⟩
            · refine z_iconst dCls_agreesWithResult_33 ?_
              refine z_goto (tgt := 38) dCls_agreesWithResult_34 (by decide) ?_
              refine z_iret rfl rfl dCls_agreesWithResult_38 ?_
              first
                | (exfalso; omega)
                | exact ⟨1, rfl, Or.inl ⟨rfl, m7, m8, m9⟩, rfl⟩
                | exact ⟨0, rfl, Or.inr ⟨rfl, fun q => m9 q.2.2⟩, rfl⟩
                | exact ⟨0, rfl, Or.inr ⟨rfl, fun q => m8 q.2.1⟩, rfl⟩
                | exact ⟨0, rfl, Or.inr ⟨rfl, fun q => m7 q.1⟩, rfl⟩
          · refine z_if_eq (tgt := 37) dCls_agreesWithResult_30 (by decide) (by omega) (fun c30 => ?_) (fun c30 => ?_)
            · refine z_iconst dCls_agreesWithResult_37 ?_
              refine z_iret rfl rfl dCls_agreesWithResult_38 ?_
              first
                | (exfalso; omega)
                | exact ⟨1, rfl, Or.inl ⟨rfl, m7, m8, m9⟩, rfl⟩
                | exact ⟨0, rfl, Or.inr ⟨rfl, fun q => m9 q.2.2⟩, rfl⟩
                | exact ⟨0, rfl, Or.inr ⟨rfl, fun q => m8 q.2.1⟩, rfl⟩
                | exact ⟨0, rfl, Or.inr ⟨rfl, fun q => m7 q.1⟩, rfl⟩
            · refine z_iconst dCls_agreesWithResult_33 ?_
              refine z_goto (tgt := 38) dCls_agreesWithResult_34 (by decide) ?_
              refine z_iret rfl rfl dCls_agreesWithResult_38 ?_
              first
                | (exfalso; omega)
                | exact ⟨1, rfl, Or.inl ⟨rfl, m7, m8, m9⟩, rfl⟩
                | exact ⟨0, rfl, Or.inr ⟨rfl, fun q => m9 q.2.2⟩, rfl⟩
                | exact ⟨0, rfl, Or.inr ⟨rfl, fun q => m8 q.2.1⟩, rfl⟩
                | exact ⟨0, rfl, Or.inr ⟨rfl, fun q => m7 q.1⟩, rfl⟩
      · refine z_if_eq (tgt := 37) dCls_agreesWithResult_19 (by decide) (by omega) (fun c19 => ?_) (fun c19 => ?_)
        · refine z_iconst dCls_agreesWithResult_37 ?_
          refine z_iret rfl rfl dCls_agreesWithResult_38 ?_
          first
            | (exfalso; omega)
            | exact ⟨1, rfl, Or.inl ⟨rfl, m7, m8, m9⟩, rfl⟩
            | exact ⟨0, rfl, Or.inr ⟨rfl, fun q => m9 q.2.2⟩, rfl⟩
            | exact ⟨0, rfl, Or.inr ⟨rfl, fun q => m8 q.2.1⟩, rfl⟩
            | exact ⟨0, rfl, Or.inr ⟨rfl, fun q => m7 q.1⟩, rfl⟩
        · refine z_aload_n dCls_agreesWithResult_22 rfl ?_
          refine z_aload_n dCls_agreesWithResult_23 rfl ?_
          refine z_aload_n dCls_agreesWithResult_24 rfl ?_
          refine z_iload_n dCls_agreesWithResult_25 rfl ?_
          refine z_iconst dCls_agreesWithResult_26 ?_
          refine z_callV MV_Cls_isResultAt lk_Cls_329 dCls_agreesWithResult_27 (k_Cls_isResultAt hC hL hM hR hb (by omega)) rfl rfl (Nat.le_of_ble_eq_true rfl) rfl (by assumption) (Nat.le_of_ble_eq_true rfl) (Nat.le_of_ble_eq_true rfl) (Nat.le_of_eq (Nat.zero_add _)) (Nat.le_of_eq (Nat.zero_add _)) (fun _ _ q => q.elim) ?_
          rintro _ _ ⟨b9, rfl, (⟨rfl, m9⟩ | ⟨rfl, m9⟩), rfl⟩
          · refine z_if_eq (tgt := 37) dCls_agreesWithResult_30 (by decide) (by omega) (fun c30 => ?_) (fun c30 => ?_)
            · refine z_iconst dCls_agreesWithResult_37 ?_
              refine z_iret rfl rfl dCls_agreesWithResult_38 ?_
              first
                | (exfalso; omega)
                | exact ⟨1, rfl, Or.inl ⟨rfl, m7, m8, m9⟩, rfl⟩
                | exact ⟨0, rfl, Or.inr ⟨rfl, fun q => m9 q.2.2⟩, rfl⟩
                | exact ⟨0, rfl, Or.inr ⟨rfl, fun q => m8 q.2.1⟩, rfl⟩
                | exact ⟨0, rfl, Or.inr ⟨rfl, fun q => m7 q.1⟩, rfl⟩
            · refine z_iconst dCls_agreesWithResult_33 ?_
              refine z_goto (tgt := 38) dCls_agreesWithResult_34 (by decide) ?_
              refine z_iret rfl rfl dCls_agreesWithResult_38 ?_
              first
                | (exfalso; omega)
                | exact ⟨1, rfl, Or.inl ⟨rfl, m7, m8, m9⟩, rfl⟩
                | exact ⟨0, rfl, Or.inr ⟨rfl, fun q => m9 q.2.2⟩, rfl⟩
                | exact ⟨0, rfl, Or.inr ⟨rfl, fun q => m8 q.2.1⟩, rfl⟩
                | exact ⟨0, rfl, Or.inr ⟨rfl, fun q => m7 q.1⟩, rfl⟩
          · refine z_if_eq (tgt := 37) dCls_agreesWithResult_30 (by decide) (by omega) (fun c30 => ?_) (fun c30 => ?_)
            · refine z_iconst dCls_agreesWithResult_37 ?_
              refine z_iret rfl rfl dCls_agreesWithResult_38 ?_
              first
                | (exfalso; omega)
                | exact ⟨1, rfl, Or.inl ⟨rfl, m7, m8, m9⟩, rfl⟩
                | exact ⟨0, rfl, Or.inr ⟨rfl, fun q => m9 q.2.2⟩, rfl⟩
                | exact ⟨0, rfl, Or.inr ⟨rfl, fun q => m8 q.2.1⟩, rfl⟩
                | exact ⟨0, rfl, Or.inr ⟨rfl, fun q => m7 q.1⟩, rfl⟩
            · refine z_iconst dCls_agreesWithResult_33 ?_
              refine z_goto (tgt := 38) dCls_agreesWithResult_34 (by decide) ?_
              refine z_iret rfl rfl dCls_agreesWithResult_38 ?_
              first
                | (exfalso; omega)
                | exact ⟨1, rfl, Or.inl ⟨rfl, m7, m8, m9⟩, rfl⟩
                | exact ⟨0, rfl, Or.inr ⟨rfl, fun q => m9 q.2.2⟩, rfl⟩
                | exact ⟨0, rfl, Or.inr ⟨rfl, fun q => m8 q.2.1⟩, rfl⟩
                | exact ⟨0, rfl, Or.inr ⟨rfl, fun q => m7 q.1⟩, rfl⟩
end CLS11
