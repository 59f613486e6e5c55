section CLS14
variable {G : zG} {l : Launch} {h h' : zHp} {ad : Nat → Nat} {S : zSt}
def zwd (x : Int) : Int := (zI x).toInt
theorem zwd_in (x : Int) : -2147483648 ≤ zwd x ∧ zwd x ≤ 2147483647 := ⟨Int32.le_toInt _, by have := Int32.toInt_lt (zI x); unfold zwd; omega⟩
theorem zi_zwd (x : Int) : zi x = zi (zwd x) := congrArg Value.int (Int32.ofInt_toInt (zI x)).symm
theorem z_i2lw {J : zJ} {bc bs pc : Nat} {ls : List (Option Value)} {st : List Value} {a : Int} (hd : decode J.1.2.1 pc = .ok (.i2l, 1)) (k : zR G l J bc bs h (pc + 1) ls (zl (zwd a) :: st)) : zR G l J bc bs h pc ls (zi a :: st) := by
  rw [zi_zwd]
  exact z_i2l (zwd_in a) hd k
def zHv (S : zSt) (w : Int) : Int := if w = 0 then zItems S else if w = 1 then zThere S else if w = 2 then zStl S else if w = 3 then S.2.2.2.2 1 else S.2.2.2.2 2
def zWv (S : zSt) (c : Nat) (w : Int) : Int := if w = 1 then S.2.1 c 3 else if w = 2 then S.2.1 c 3 - 1 else if w = 3 then (if S.2.1 c 3 < ((S.1 (S.2.1 c 2).toNat).length : Int) then 1 else 0) else (if 0 < S.2.1 c 3 then 1 else 0)
def zCuV (S : zSt) (c : Nat) (w : Int) : Int := if S.2.1 c 0 ≠ 1 then -1 else if w = 0 then S.2.1 c 2 else if w = 5 then S.2.1 c 1 else if S.2.1 c 1 ≠ 0 then -1 else zWv S c w
def zAkV (S : zSt) (w : Int) : Int := if w = 0 then (S.2.2.2.1.length : Int) else if w = 1 then S.2.2.2.2 0 else if w = 2 then zLastOf S.2.2.2.1 else zAt S.2.2.1 7
def zFld (f : Nat → Int → Int) (d : Int) : Nat → Int
  | 0 => d
  | n + 1 => f n (zFld f d n)
def zDgI (d : Int) (L : List Int) : Nat → Int := zFld (fun n e => e * 31 + zAt L n) d
def zDgL (d : Int) (L : List Int) : Int := ((zDgI (d * 31 + (L.length : Int)) L L.length) * 31 + zHr L 2 L.length) * 31 + zLnz L
def zBd (S : zSt) (L : List Int) : Int := 2 * zCost (zCntT S.2.2.2.1) L 8 - (S.2.2.2.1.length : Int) + zInv L
theorem k_Cls_demandWithin0 {p lo hi : Int} (h1 : zI32 lo) (h2 : zI32 hi) (hp : lo ≤ p ∧ p ≤ hi) : zM G l hCls_demandWithin yCls_demandWithin 1 [zi p, zi lo, zi hi] h (fun v h' => v = none ∧ h = h') zNo 0 0 := by
  refine zM.of [some (zi p), some (zi lo), some (zi hi)] (by decide +kernel) rfl (by decide) rfl (Nat.le_of_ble_eq_true rfl) rfl ?_
  refine z_iload_n dCls_demandWithin_0 rfl ?_
  refine z_iload_n dCls_demandWithin_1 rfl ?_
  refine z_icmp_lt (tgt := 10) dCls_demandWithin_2 (by decide) (by omega) (by omega) (fun c2 => ?_) (fun c2 => ?_)
  · exfalso; omega
  · refine z_iload_n dCls_demandWithin_5 rfl ?_
    refine z_iload_n dCls_demandWithin_6 rfl ?_
    refine z_icmp_le (tgt := 21) dCls_demandWithin_7 (by decide) (by omega) (by omega) (fun c7 => ?_) (fun c7 => ?_)
    · refine z_vret rfl dCls_demandWithin_21 ?_
      exact ⟨rfl, rfl⟩
    · exfalso; omega
theorem k_Cls_listAt0 {k : Nat} (hC : zCls G h ad S) (hk : k < 4) : zM G l hCls_listAt yCls_listAt 1 [.ref (ad 0), zi (k : Int)] h (fun v h' => v = some (.ref (ad (8 + 2 * k))) ∧ h = h') zNo 0 0 := by
  obtain ⟨c1, c2, ⟨g3, c3, d3⟩, ⟨g4, hc4, d4⟩, c5, -⟩ := id hC
  refine zM.of [some (.ref (ad 0)), some (zi (k : Int))] (by decide +kernel) rfl (by decide) rfl (Nat.le_of_ble_eq_true rfl) rfl ?_
  refine z_iload_n dCls_listAt_0 rfl ?_
  refine z_if_lt (tgt := 9) dCls_listAt_1 (by decide) (by omega) (fun c1 => ?_) (fun c1 => ?_)
  · exfalso; omega
  · refine z_iload_n dCls_listAt_4 rfl ?_
    refine z_iconst dCls_listAt_5 ?_
    refine z_icmp_lt (tgt := 20) dCls_listAt_6 (by decide) (by omega) (by omega) (fun c6 => ?_) (fun c6 => ?_)
    · refine z_aload_n dCls_listAt_20 rfl ?_
      refine z_get (k := 0) fd_Cls (by decide) fl_Cls_11 dCls_listAt_21 (by assumption) (by rfl) ?_
      refine z_iload_n dCls_listAt_24 rfl ?_
      refine z_aald (t := 5) (ty := .object "Cursorlist$Row") rfl rfl dCls_listAt_25 c3 (by refine ⟨?_, ?_, ?_⟩ <;> omega) ?_
      rw [show (k : Int).toNat = k by omega, d3 k (by omega)]
      refine z_aret (v := .ref (ad (8 + 2 * k))) rfl (Or.inl ⟨_, rfl⟩) (Or.inr ⟨_, rfl⟩) dCls_listAt_26 ?_
      exact ⟨rfl, rfl⟩
    · exfalso; omega
theorem k_Cls_cursorAt0 {k : Nat} (hC : zCls G h ad S) (hk : k < 3) : zM G l hCls_cursorAt yCls_cursorAt 1 [.ref (ad 0), zi (k : Int)] h (fun v h' => v = some (.ref (ad (5 + k))) ∧ h = h') zNo 0 0 := by
  obtain ⟨c1, c2, ⟨g3, c3, d3⟩, ⟨g4, hc4, d4⟩, c5, -⟩ := id hC
  refine zM.of [some (.ref (ad 0)), some (zi (k : Int))] (by decide +kernel) rfl (by decide) rfl (Nat.le_of_ble_eq_true rfl) rfl ?_
  refine z_iload_n dCls_cursorAt_0 rfl ?_
  refine z_if_lt (tgt := 9) dCls_cursorAt_1 (by decide) (by omega) (fun c1 => ?_) (fun c1 => ?_)
  · exfalso; omega
  · refine z_iload_n dCls_cursorAt_4 rfl ?_
    refine z_iconst dCls_cursorAt_5 ?_
    refine z_icmp_lt (tgt := 20) dCls_cursorAt_6 (by decide) (by omega) (by omega) (fun c6 => ?_) (fun c6 => ?_)
    · refine z_aload_n dCls_cursorAt_20 rfl ?_
      refine z_get (k := 1) fd_Cls (by decide) fl_Cls_17 dCls_cursorAt_21 (by assumption) (by rfl) ?_
      refine z_iload_n dCls_cursorAt_24 rfl ?_
      refine z_aald (t := 6) (ty := .object "Cursorlist$Cursor") rfl rfl dCls_cursorAt_25 hc4 (by refine ⟨?_, ?_, ?_⟩ <;> omega) ?_
      rw [show (k : Int).toNat = k by omega, d4 k (by omega)]
      refine z_aret (v := .ref (ad (5 + k))) rfl (Or.inl ⟨_, rfl⟩) (Or.inr ⟨_, rfl⟩) dCls_cursorAt_26 ?_
      exact ⟨rfl, rfl⟩
    · exfalso; omega
theorem k_Cls_rowUnder0 {c : Nat} {k : Nat} (hC : zCls G h ad S) (hc : c < 3) (ht : S.2.1 c 0 = 1) (hl : S.2.1 c 2 = k ∧ k < 4) : zM G l hCls_rowUnder yCls_rowUnder 2 [.ref (ad 0), .ref (ad (5 + c))] h (fun v h' => v = some (.ref (ad (8 + 2 * k))) ∧ h = h') zNo 0 0 := by
  obtain ⟨c1, c2, ⟨g3, c3, d3⟩, ⟨g4, hc4, d4⟩, c5, -⟩ := id hC
  obtain ⟨st, li, ix, la, e1, e2, e3, e4, e5, e6, e7⟩ := id (hC.cs hc)
  obtain ⟨rfl, rfl, rfl, rfl⟩ := e7 ht
  rw [hl.1] at e1
  refine zM.of [some (.ref (ad 0)), some (.ref (ad (5 + c)))] (by decide +kernel) rfl (by decide) rfl (Nat.le_of_ble_eq_true rfl) rfl ?_
  refine z_aload_n dCls_rowUnder_0 rfl ?_
  refine z_aload_n dCls_rowUnder_1 rfl ?_
  refine z_getN (k := 2) fd_Cur (by decide) fl_Cls_169 dCls_rowUnder_2 (by assumption) (by rfl) ?_
  refine z_callV MV_Cls_listAt lk_Cls_34 dCls_rowUnder_5 (k_Cls_listAt0 hC hl.2) rfl rfl (Nat.le_of_ble_eq_true rfl) rfl (by assumption) (Nat.le_of_ble_eq_true rfl) (Nat.le_of_ble_eq_true rfl) (Nat.le_of_eq (Nat.zero_add _)) (Nat.le_of_eq (Nat.zero_add _)) (fun _ _ q => q.elim) ?_
  rintro _ _ ⟨rfl, rfl⟩
  refine z_aret (v := .ref (ad (8 + 2 * k))) rfl (Or.inl ⟨_, rfl⟩) (Or.inr ⟨_, rfl⟩) dCls_rowUnder_8 ?_
  exact ⟨rfl, rfl⟩
theorem k_Cls_whereIs0 {c : Nat} {w : Int} (hC : zCls G h ad S) (hc : c < 3) (ht : S.2.1 c 0 = 1) (hl : 0 ≤ S.2.1 c 2 ∧ S.2.1 c 2 < 4) (hw : 1 ≤ w ∧ w ≤ 4) : zM G l hCls_whereIs yCls_whereIs 3 [.ref (ad 0), .ref (ad (5 + c)), zi w] h (fun v h' => v = some (zi (zWv S c w)) ∧ h = h') zNo 0 0 := by
  obtain ⟨c1, c2, ⟨g3, c3, d3⟩, ⟨g4, hc4, d4⟩, c5, -⟩ := id hC
  have hcA := hC.cs hc
  obtain ⟨st, li, ix, la, e1, e2, e3, e4, e5, e6, e7⟩ := id hcA
  obtain ⟨rfl, rfl, rfl, rfl⟩ := e7 ht
  have hrU := hC.ls (k := (S.2.1 c 2).toNat) (by omega)
  obtain ⟨fU, eU, -⟩ := id hrU
  have hlU := hrU.len
  refine zM.of [some (.ref (ad 0)), some (.ref (ad (5 + c))), some (zi w)] (by decide +kernel) rfl (by decide) rfl (Nat.le_of_ble_eq_true rfl) rfl ?_
  refine z_iload_n dCls_whereIs_0 rfl ?_
  rcases (show w = 1 ∨ w = 2 ∨ w = 3 ∨ w = 4 by omega) with rfl | rfl | rfl | rfl
  · refine z_tableIn (tgt := 28) dCls_whereIs_1 (by omega) (by omega) (by omega) rfl (by decide) ?_
    refine z_aload_n dCls_whereIs_28 rfl ?_
    refine z_getN (k := 3) fd_Cur (by decide) fl_Cls_172 dCls_whereIs_29 (by assumption) (by rfl) ?_
    refine z_iret rfl rfl dCls_whereIs_32 ?_
    refine ⟨?_, rfl⟩
    unfold zWv
    repeat (first | rw [if_pos (by omega)] | rw [if_neg (by omega)])
  · refine z_tableIn (tgt := 33) dCls_whereIs_1 (by omega) (by omega) (by omega) rfl (by decide) ?_
    refine z_aload_n dCls_whereIs_33 rfl ?_
    refine z_getN (k := 3) fd_Cur (by decide) fl_Cls_172 dCls_whereIs_34 (by assumption) (by rfl) ?_
    refine z_iconst dCls_whereIs_37 ?_
    refine z_isub dCls_whereIs_38 ?_
    refine z_iret rfl rfl dCls_whereIs_39 ?_
    refine ⟨?_, rfl⟩
    unfold zWv
    repeat (first | rw [if_pos (by omega)] | rw [if_neg (by omega)])
  · refine z_tableIn (tgt := 40) dCls_whereIs_1 (by omega) (by omega) (by omega) rfl (by decide) ?_
    refine z_aload_n dCls_whereIs_40 rfl ?_
    refine z_getN (k := 3) fd_Cur (by decide) fl_Cls_172 dCls_whereIs_41 (by assumption) (by rfl) ?_
    refine z_aload_n dCls_whereIs_44 rfl ?_
    refine z_aload_n dCls_whereIs_45 rfl ?_
    refine z_callV MV_Cls_rowUnder lk_Cls_155 dCls_whereIs_46 (k_Cls_rowUnder0 hC hc ht ⟨(Int.toNat_of_nonneg hl.1).symm, by omega⟩) rfl rfl (Nat.le_of_ble_eq_true rfl) rfl (by assumption) (Nat.le_of_ble_eq_true rfl) (Nat.le_of_ble_eq_true rfl) (Nat.le_of_eq (Nat.zero_add _)) (Nat.le_of_eq (Nat.zero_add _)) (fun _ _ q => q.elim) ?_
    rintro _ _ ⟨rfl, rfl⟩
    refine z_getN (k := 1) fd_Row (by decide) fl_Cls_46 dCls_whereIs_49 (by assumption) (by rfl) ?_
    refine z_icmp_ge (tgt := 59) dCls_whereIs_52 (by decide) (by omega) (by omega) (fun c52 => ?_) (fun c52 => ?_)
    · refine z_iconst dCls_whereIs_59 ?_
      refine z_callS MS_Cls_numberOf lk_Cls_192 dCls_whereIs_60 (k_Cls_numberOf (by omega)) rfl rfl (Nat.le_of_ble_eq_true rfl)  (Nat.le_of_ble_eq_true rfl) (Nat.le_of_ble_eq_true rfl) (Nat.le_of_eq (Nat.zero_add _)) (Nat.le_of_eq (Nat.zero_add _)) (fun _ _ q => q.elim) ?_
      rintro _ _ ⟨rfl, rfl⟩
      refine z_iret rfl rfl dCls_whereIs_63 ?_
      refine ⟨?_, rfl⟩
      unfold zWv
      repeat (first | rw [if_pos (by omega)] | rw [if_neg (by omega)])
    · refine z_iconst dCls_whereIs_55 ?_
      refine z_goto (tgt := 60) dCls_whereIs_56 (by decide) ?_
      refine z_callS MS_Cls_numberOf lk_Cls_192 dCls_whereIs_60 (k_Cls_numberOf (by omega)) rfl rfl (Nat.le_of_ble_eq_true rfl)  (Nat.le_of_ble_eq_true rfl) (Nat.le_of_ble_eq_true rfl) (Nat.le_of_eq (Nat.zero_add _)) (Nat.le_of_eq (Nat.zero_add _)) (fun _ _ q => q.elim) ?_
      rintro _ _ ⟨rfl, rfl⟩
      refine z_iret rfl rfl dCls_whereIs_63 ?_
      refine ⟨?_, rfl⟩
      unfold zWv
      repeat (first | rw [if_pos (by omega)] | rw [if_neg (by omega)])
  · refine z_tableOut (tgt := 64) dCls_whereIs_1 (by omega) (by omega) (by decide) ?_
    refine z_aload_n dCls_whereIs_64 rfl ?_
    refine z_getN (k := 3) fd_Cur (by decide) fl_Cls_172 dCls_whereIs_65 (by assumption) (by rfl) ?_
    refine z_if_le (tgt := 75) dCls_whereIs_68 (by decide) (by omega) (fun c68 => ?_) (fun c68 => ?_)
    · refine z_iconst dCls_whereIs_75 ?_
      refine z_callS MS_Cls_numberOf lk_Cls_192 dCls_whereIs_76 (k_Cls_numberOf (by omega)) rfl rfl (Nat.le_of_ble_eq_true rfl)  (Nat.le_of_ble_eq_true rfl) (Nat.le_of_ble_eq_true rfl) (Nat.le_of_eq (Nat.zero_add _)) (Nat.le_of_eq (Nat.zero_add _)) (fun _ _ q => q.elim) ?_
      rintro _ _ ⟨rfl, rfl⟩
      refine z_iret rfl rfl dCls_whereIs_79 ?_
      refine ⟨?_, rfl⟩
      unfold zWv
      repeat (first | rw [if_pos (by omega)] | rw [if_neg (by omega)])
    · refine z_iconst dCls_whereIs_71 ?_
      refine z_goto (tgt := 76) dCls_whereIs_72 (by decide) ?_
      refine z_callS MS_Cls_numberOf lk_Cls_192 dCls_whereIs_76 (k_Cls_numberOf (by omega)) rfl rfl (Nat.le_of_ble_eq_true rfl)  (Nat.le_of_ble_eq_true rfl) (Nat.le_of_ble_eq_true rfl) (Nat.le_of_eq (Nat.zero_add _)) (Nat.le_of_eq (Nat.zero_add _)) (fun _ _ q => q.elim) ?_
      rintro _ _ ⟨rfl, rfl⟩
      refine z_iret rfl rfl dCls_whereIs_79 ?_
      refine ⟨?_, rfl⟩
      unfold zWv
      repeat (first | rw [if_pos (by omega)] | rw [if_neg (by omega)])
theorem k_Cls_ofCursor0 {k : Nat} {w : Int} (hC : zCls G h ad S) (hO : zOk S) (hk : k < 3) (hw : 0 ≤ w ∧ w ≤ 5) : zM G l hCls_ofCursor yCls_ofCursor 4 [.ref (ad 0), zi (k : Int), zi w] h (fun v h' => v = some (zi (zCuV S k w)) ∧ h = h') zNo 0 0 := by
  obtain ⟨c1, c2, ⟨g3, c3, d3⟩, ⟨g4, hc4, d4⟩, c5, -⟩ := id hC
  obtain ⟨stA, liA, ixA, laA, eA, bA0, bA1, iA2, iA3, iA4, eA7⟩ := id (hC.cs hk)
  refine zM.of [some (.ref (ad 0)), some (zi (k : Int)), some (zi w), none] (by decide +kernel) rfl (by decide) rfl (Nat.le_of_ble_eq_true rfl) rfl ?_
  refine z_aload_n dCls_ofCursor_0 rfl ?_
  refine z_iload_n dCls_ofCursor_1 rfl ?_
  refine z_callV MV_Cls_cursorAt lk_Cls_137 dCls_ofCursor_2 (k_Cls_cursorAt0 hC hk) rfl rfl (Nat.le_of_ble_eq_true rfl) rfl (by assumption) (Nat.le_of_ble_eq_true rfl) (Nat.le_of_ble_eq_true rfl) (Nat.le_of_eq (Nat.zero_add _)) (Nat.le_of_eq (Nat.zero_add _)) (fun _ _ q => q.elim) ?_
  rintro _ _ ⟨rfl, rfl⟩
  refine z_astore_n dCls_ofCursor_5 (Nat.le_of_ble_eq_true rfl) ?_
  refine z_iload_n dCls_ofCursor_6 rfl ?_
  refine z_iconst dCls_ofCursor_7 ?_
  refine z_iconst dCls_ofCursor_8 ?_
  refine z_callS MS_Cls_demandWithin lk_Cls_38 dCls_ofCursor_9 (k_Cls_demandWithin0 (by omega) (by omega) (by omega)) rfl rfl (Nat.le_of_ble_eq_true rfl)  (Nat.le_of_ble_eq_true rfl) (Nat.le_of_ble_eq_true rfl) (Nat.le_of_eq (Nat.zero_add _)) (Nat.le_of_eq (Nat.zero_add _)) (fun _ _ q => q.elim) ?_
  rintro _ _ ⟨rfl, rfl⟩
  refine z_aload_n dCls_ofCursor_12 rfl ?_
  refine z_getN (k := 0) fd_Cur (by decide) fl_Cls_144 dCls_ofCursor_13 (by assumption) (by rfl) ?_
  refine z_if_ne (tgt := 21) dCls_ofCursor_16 (by decide) (by omega) (fun c16 => ?_) (fun c16 => ?_)
  · refine z_iload_n dCls_ofCursor_21 rfl ?_
    refine z_if_ne (tgt := 30) dCls_ofCursor_22 (by decide) (by omega) (fun c22 => ?_) (fun c22 => ?_)
    · refine z_iload_n dCls_ofCursor_30 rfl ?_
      refine z_iconst dCls_ofCursor_31 ?_
      refine z_icmp_ne (tgt := 43) dCls_ofCursor_32 (by decide) (by omega) (by omega) (fun c32 => ?_) (fun c32 => ?_)
      · refine z_aload_n dCls_ofCursor_43 rfl ?_
        refine z_getN (k := 1) fd_Cur (by decide) fl_Cls_152 dCls_ofCursor_44 (by assumption) (by rfl) ?_
        refine z_if_eq (tgt := 54) dCls_ofCursor_47 (by decide) (by omega) (fun c47 => ?_) (fun c47 => ?_)
        · refine z_aload_n dCls_ofCursor_54 rfl ?_
          refine z_aload_n dCls_ofCursor_55 rfl ?_
          refine z_iload_n dCls_ofCursor_56 rfl ?_
          refine z_callV MV_Cls_whereIs lk_Cls_196 dCls_ofCursor_57 (k_Cls_whereIs0 hC hk (by omega) (hO.1 k hk (by omega)).1 (by omega)) rfl rfl (Nat.le_of_ble_eq_true rfl) rfl (by assumption) (Nat.le_of_ble_eq_true rfl) (Nat.le_of_ble_eq_true rfl) (Nat.le_of_eq (Nat.zero_add _)) (Nat.le_of_eq (Nat.zero_add _)) (fun _ _ q => q.elim) ?_
          rintro _ _ ⟨rfl, rfl⟩
          refine z_iret rfl rfl dCls_ofCursor_60 ?_
          first
            | (refine ⟨?_, rfl⟩; unfold zCuV; rw [if_pos (by omega)])
            | (obtain ⟨rfl, rfl, rfl, rfl⟩ := eA7 (by omega)
               refine ⟨?_, rfl⟩
               unfold zCuV
               (repeat (first | rw [if_pos (by omega)] | rw [if_neg (by omega)])))
        · refine z_iconst dCls_ofCursor_50 ?_
          refine z_goto (tgt := 60) dCls_ofCursor_51 (by decide) ?_
          refine z_iret rfl rfl dCls_ofCursor_60 ?_
          first
            | (refine ⟨?_, rfl⟩; unfold zCuV; rw [if_pos (by omega)])
            | (obtain ⟨rfl, rfl, rfl, rfl⟩ := eA7 (by omega)
               refine ⟨?_, rfl⟩
               unfold zCuV
               (repeat (first | rw [if_pos (by omega)] | rw [if_neg (by omega)])))
      · refine z_aload_n dCls_ofCursor_35 rfl ?_
        refine z_getN (k := 1) fd_Cur (by decide) fl_Cls_152 dCls_ofCursor_36 (by assumption) (by rfl) ?_
        refine z_callS MS_Cls_numberOf lk_Cls_192 dCls_ofCursor_39 (k_Cls_numberOf bA1) rfl rfl (Nat.le_of_ble_eq_true rfl)  (Nat.le_of_ble_eq_true rfl) (Nat.le_of_ble_eq_true rfl) (Nat.le_of_eq (Nat.zero_add _)) (Nat.le_of_eq (Nat.zero_add _)) (fun _ _ q => q.elim) ?_
        rintro _ _ ⟨rfl, rfl⟩
        refine z_iret rfl rfl dCls_ofCursor_42 ?_
        first
          | (refine ⟨?_, rfl⟩; unfold zCuV; rw [if_pos (by omega)])
          | (obtain ⟨rfl, rfl, rfl, rfl⟩ := eA7 (by omega)
             refine ⟨?_, rfl⟩
             unfold zCuV
             (repeat (first | rw [if_pos (by omega)] | rw [if_neg (by omega)])))
    · refine z_aload_n dCls_ofCursor_25 rfl ?_
      refine z_getN (k := 2) fd_Cur (by decide) fl_Cls_169 dCls_ofCursor_26 (by assumption) (by rfl) ?_
      refine z_iret rfl rfl dCls_ofCursor_29 ?_
      first
        | (refine ⟨?_, rfl⟩; unfold zCuV; rw [if_pos (by omega)])
        | (obtain ⟨rfl, rfl, rfl, rfl⟩ := eA7 (by omega)
           refine ⟨?_, rfl⟩
           unfold zCuV
           (repeat (first | rw [if_pos (by omega)] | rw [if_neg (by omega)])))
  · refine z_iconst dCls_ofCursor_19 ?_
    refine z_iret rfl rfl dCls_ofCursor_20 ?_
    first
      | (refine ⟨?_, rfl⟩; unfold zCuV; rw [if_pos (by omega)])
      | (obtain ⟨rfl, rfl, rfl, rfl⟩ := eA7 (by omega)
         refine ⟨?_, rfl⟩
         unfold zCuV
         (repeat (first | rw [if_pos (by omega)] | rw [if_neg (by omega)])))
theorem k_Cls_house0 {w : Int} (hC : zCls G h ad S) (hw : 0 ≤ w ∧ w ≤ 4) : zM G l hCls_house yCls_house 3 [.ref (ad 0), zi w] h (fun v h' => v = some (zi (zHv S w)) ∧ h = h') zNo 0 0 := by
  obtain ⟨c1, c2, ⟨g3, c3, d3⟩, ⟨g4, hc4, d4⟩, c5, -⟩ := id hC
  refine zM.of [some (.ref (ad 0)), some (zi w)] (by decide +kernel) rfl (by decide) rfl (Nat.le_of_ble_eq_true rfl) rfl ?_
  refine z_iload_n dCls_house_0 rfl ?_
  refine z_iconst dCls_house_1 ?_
  refine z_iconst dCls_house_2 ?_
  refine z_callS MS_Cls_demandWithin lk_Cls_38 dCls_house_3 (k_Cls_demandWithin0 (by omega) (by omega) (by omega)) rfl rfl (Nat.le_of_ble_eq_true rfl)  (Nat.le_of_ble_eq_true rfl) (Nat.le_of_ble_eq_true rfl) (Nat.le_of_eq (Nat.zero_add _)) (Nat.le_of_eq (Nat.zero_add _)) (fun _ _ q => q.elim) ?_
  rintro _ _ ⟨rfl, rfl⟩
  refine z_iload_n dCls_house_6 rfl ?_
  rcases (show w = 0 ∨ w = 1 ∨ w = 2 ∨ w = 3 ∨ w = 4 by omega) with rfl | rfl | rfl | rfl | rfl
  · refine z_tableIn (tgt := 36) dCls_house_7 (by omega) (by omega) (by omega) rfl (by decide) ?_
    refine z_aload_n dCls_house_36 rfl ?_
    refine z_callV MV_Cls_itemsOfAll lk_Cls_250 dCls_house_37 (k_Cls_itemsOfAll hC) rfl rfl (Nat.le_of_ble_eq_true rfl) rfl (by assumption) (Nat.le_of_ble_eq_true rfl) (Nat.le_of_ble_eq_true rfl) (Nat.le_of_eq (Nat.zero_add _)) (Nat.le_of_eq (Nat.zero_add _)) (fun _ _ q => q.elim) ?_
    rintro _ _ ⟨rfl, rfl⟩
    refine z_iret rfl rfl dCls_house_40 ?_
    exact ⟨rfl, rfl⟩
  · refine z_tableIn (tgt := 41) dCls_house_7 (by omega) (by omega) (by omega) rfl (by decide) ?_
    refine z_aload_n dCls_house_41 rfl ?_
    refine z_callV MV_Cls_cursorsThere lk_Cls_253 dCls_house_42 (k_Cls_cursorsThere hC) rfl rfl (Nat.le_of_ble_eq_true rfl) rfl (by assumption) (Nat.le_of_ble_eq_true rfl) (Nat.le_of_ble_eq_true rfl) (Nat.le_of_eq (Nat.zero_add _)) (Nat.le_of_eq (Nat.zero_add _)) (fun _ _ q => q.elim) ?_
    rintro _ _ ⟨rfl, rfl⟩
    refine z_iret rfl rfl dCls_house_45 ?_
    exact ⟨rfl, rfl⟩
  · refine z_tableIn (tgt := 46) dCls_house_7 (by omega) (by omega) (by omega) rfl (by decide) ?_
    refine z_aload_n dCls_house_46 rfl ?_
    refine z_callV MV_Cls_cursorsStale lk_Cls_256 dCls_house_47 (k_Cls_cursorsStale hC) rfl rfl (Nat.le_of_ble_eq_true rfl) rfl (by assumption) (Nat.le_of_ble_eq_true rfl) (Nat.le_of_ble_eq_true rfl) (Nat.le_of_eq (Nat.zero_add _)) (Nat.le_of_eq (Nat.zero_add _)) (fun _ _ q => q.elim) ?_
    rintro _ _ ⟨rfl, rfl⟩
    refine z_iret rfl rfl dCls_house_50 ?_
    exact ⟨rfl, rfl⟩
  · refine z_tableIn (tgt := 51) dCls_house_7 (by omega) (by omega) (by omega) rfl (by decide) ?_
    refine z_aload_n dCls_house_51 rfl ?_
    refine z_get (k := 4) fd_Cls (by decide) fl_Cls_259 dCls_house_52 (by assumption) (by rfl) ?_
    refine z_iret rfl rfl dCls_house_55 ?_
    exact ⟨rfl, rfl⟩
  · refine z_tableOut (tgt := 56) dCls_house_7 (by omega) (by omega) (by decide) ?_
    refine z_aload_n dCls_house_56 rfl ?_
    refine z_get (k := 5) fd_Cls (by decide) fl_Cls_262 dCls_house_57 (by assumption) (by rfl) ?_
    refine z_iret rfl rfl dCls_house_60 ?_
    exact ⟨rfl, rfl⟩
theorem k_Cls_asked0 {w : Int} (hC : zCls G h ad S) (hw : 0 ≤ w ∧ w ≤ 3) : zM G l hCls_asked yCls_asked 3 [.ref (ad 0), zi w] h (fun v h' => v = some (zi (zAkV S w)) ∧ h = h') zNo 0 0 := by
  obtain ⟨c1, c2, ⟨g3, c3, d3⟩, ⟨g4, c4, d4⟩, c5, ⟨T6, c6, d6⟩, c7, c8, ⟨R9, c9⟩, c10⟩ := id hC
  obtain ⟨f18, e18, -⟩ := id c10
  refine zM.of [some (.ref (ad 0)), some (zi w)] (by decide +kernel) rfl (by decide) rfl (Nat.le_of_ble_eq_true rfl) rfl ?_
  refine z_iload_n dCls_asked_0 rfl ?_
  refine z_iconst dCls_asked_1 ?_
  refine z_iconst dCls_asked_2 ?_
  refine z_callS MS_Cls_demandWithin lk_Cls_38 dCls_asked_3 (k_Cls_demandWithin0 (by omega) (by omega) (by omega)) rfl rfl (Nat.le_of_ble_eq_true rfl)  (Nat.le_of_ble_eq_true rfl) (Nat.le_of_ble_eq_true rfl) (Nat.le_of_eq (Nat.zero_add _)) (Nat.le_of_eq (Nat.zero_add _)) (fun _ _ q => q.elim) ?_
  rintro _ _ ⟨rfl, rfl⟩
  refine z_iload_n dCls_asked_6 rfl ?_
  rcases (show w = 0 ∨ w = 1 ∨ w = 2 ∨ w = 3 by omega) with rfl | rfl | rfl | rfl
  · refine z_tableIn (tgt := 32) dCls_asked_7 (by omega) (by omega) (by omega) rfl (by decide) ?_
    refine z_aload_n dCls_asked_32 rfl ?_
    refine z_get (k := 2) fd_Cls (by decide) fl_Cls_24 dCls_asked_33 (by assumption) (by rfl) ?_
    refine z_getN (k := 2) fd_Rec (by decide) fl_Cls_215 dCls_asked_36 (by assumption) (by rfl) ?_
    refine z_iret rfl rfl dCls_asked_39 ?_
    exact ⟨rfl, rfl⟩
  · refine z_tableIn (tgt := 40) dCls_asked_7 (by omega) (by omega) (by omega) rfl (by decide) ?_
    refine z_aload_n dCls_asked_40 rfl ?_
    refine z_get (k := 2) fd_Cls (by decide) fl_Cls_24 dCls_asked_41 (by assumption) (by rfl) ?_
    refine z_getN (k := 3) fd_Rec (by decide) fl_Cls_228 dCls_asked_44 (by assumption) (by rfl) ?_
    refine z_iret rfl rfl dCls_asked_47 ?_
    exact ⟨rfl, rfl⟩
  · refine z_tableIn (tgt := 48) dCls_asked_7 (by omega) (by omega) (by omega) rfl (by decide) ?_
    refine z_aload_n dCls_asked_48 rfl ?_
    refine z_get (k := 2) fd_Cls (by decide) fl_Cls_24 dCls_asked_49 (by assumption) (by rfl) ?_
    refine z_getN (k := 4) fd_Rec (by decide) fl_Cls_231 dCls_asked_52 (by assumption) (by rfl) ?_
    refine z_iret rfl rfl dCls_asked_55 ?_
    exact ⟨rfl, rfl⟩
  · refine z_tableOut (tgt := 56) dCls_asked_7 (by omega) (by omega) (by decide) ?_
    refine z_aload_n dCls_asked_56 rfl ?_
    refine z_get (k := 2) fd_Cls (by decide) fl_Cls_24 dCls_asked_57 (by assumption) (by rfl) ?_
    refine z_getN (k := 0) fd_Rec (by decide) fl_Cls_234 dCls_asked_60 (by assumption) (by rfl) ?_
    refine z_bipush dCls_asked_63 rfl ?_
    refine z_callVN MV_Row_itemAt lk_Cls_70 dCls_asked_65 (k_Row_itemAt c10 (by omega)) rfl rfl (Nat.le_of_ble_eq_true rfl) rfl (by assumption) (Nat.le_of_ble_eq_true rfl) (Nat.le_of_ble_eq_true rfl) (Nat.le_of_eq (Nat.zero_add _)) (Nat.le_of_eq (Nat.zero_add _)) (fun _ _ q => q.elim) ?_
    rintro _ _ ⟨rfl, rfl⟩
    refine z_iret rfl rfl dCls_asked_68 ?_
    exact ⟨rfl, rfl⟩
end CLS14
