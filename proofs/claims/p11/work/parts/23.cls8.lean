section SPEC8
def zSumN (g : Nat → Int) : Nat → Int
  | 0 => 0
  | n + 1 => zSumN g n + g n
def zItems (S : zSt) : Int := zSumN (fun k => ((S.1 k).length : Int)) 4
def zThere (S : zSt) : Int := zSumN (fun c => S.2.1 c 0) 3
def zStl (S : zSt) : Int := zSumN (fun c => if S.2.1 c 0 = 1 ∧ S.2.1 c 1 ≠ 0 then 1 else 0) 3
def zMt (L : List Int) (ia la ib lb : Int) : Nat → Int × Int × Int × Int × Int
  | 0 => (0, ia, la, ib, lb)
  | n + 1 => if (zMt L ia la ib lb n).2.1 < (zMt L ia la ib lb n).2.2.2.1 then (if n % 2 = 0 then ((zMt L ia la ib lb n).1 + zAt L (zMt L ia la ib lb n).2.1, (zMt L ia la ib lb n).2.1 + 1, (zMt L ia la ib lb n).2.1, (zMt L ia la ib lb n).2.2.2.1, (zMt L ia la ib lb n).2.2.2.2) else ((zMt L ia la ib lb n).1 + zAt L ((zMt L ia la ib lb n).2.2.2.1 - 1), (zMt L ia la ib lb n).2.1, (zMt L ia la ib lb n).2.2.1, (zMt L ia la ib lb n).2.2.2.1 - 1, (zMt L ia la ib lb n).2.2.2.1 - 1)) else zMt L ia la ib lb n
def zCntT (A : List Int) : Nat → Int := fun k => (zCnt A k : Int)
def sp_ofCursor (S : zSt) (c w : Int) : zRes := if 0 ≤ c ∧ c < 3 then (if 0 ≤ w ∧ w ≤ 5 then (if S.2.1 c.toNat 0 ≠ 1 then (.inl (-1), S) else if w = 0 then (.inl (S.2.1 c.toNat 2), S) else if w = 5 then (.inl (S.2.1 c.toNat 1), S) else if S.2.1 c.toNat 1 ≠ 0 then (.inl (-1), S) else if w = 1 then (.inl (S.2.1 c.toNat 3), S) else if w = 2 then (.inl (S.2.1 c.toNat 3 - 1), S) else if w = 3 then (if S.2.1 c.toNat 3 < ((S.1 (S.2.1 c.toNat 2).toNat).length : Int) then (.inl 1, S) else (.inl 0, S)) else (if 0 < S.2.1 c.toNat 3 then (.inl 1, S) else (.inl 0, S))) else (.inr zE2, S)) else (.inr zE1, S)
def sp_house (S : zSt) (w : Int) : zRes := if 0 ≤ w ∧ w ≤ 4 then (if w = 0 then (.inl (zItems S), S) else if w = 1 then (.inl (zThere S), S) else if w = 2 then (.inl (zStl S), S) else if w = 3 then (.inl (S.2.2.2.2 1), S) else (.inl (S.2.2.2.2 2), S)) else (.inr zE2, S)
def sp_knock (S : zSt) : zRes := (.inl (S.2.2.2.2 2 + 1), zsN S 2 (S.2.2.2.2 2 + 1))
def zMeet (S : zSt) (c o : Nat) (M : Int × Int × Int × Int × Int) : zSt := zsC (zsC S (zup S.2.1 c (zCv (S.2.1 c 0) (S.2.1 c 1) (S.2.1 c 2) M.2.1 M.2.2.1))) (zup (zup S.2.1 c (zCv (S.2.1 c 0) (S.2.1 c 1) (S.2.1 c 2) M.2.1 M.2.2.1)) o (zCv (S.2.1 o 0) (S.2.1 o 1) (S.2.1 o 2) M.2.2.2.1 M.2.2.2.2))
def sp_meet (S : zSt) (c o : Int) : zRes := if 0 ≤ c ∧ c < 3 then (if 0 ≤ o ∧ o < 3 then (if c = o then (.inr zE2, S) else if S.2.1 c.toNat 0 = 1 then (if S.2.1 o.toNat 0 = 1 then (if S.2.1 c.toNat 1 ≠ 0 then spRef S else if S.2.1 o.toNat 1 ≠ 0 then spRef S else if S.2.1 c.toNat 2 ≠ S.2.1 o.toNat 2 then spRef S else if S.2.1 o.toNat 3 < S.2.1 c.toNat 3 then spRef S else (.inl (zMt (S.1 (S.2.1 c.toNat 2).toNat) (S.2.1 c.toNat 3) (S.2.1 c.toNat 4) (S.2.1 o.toNat 3) (S.2.1 o.toNat 4) 16).1, zMeet S c.toNat o.toNat (zMt (S.1 (S.2.1 c.toNat 2).toNat) (S.2.1 c.toNat 3) (S.2.1 c.toNat 4) (S.2.1 o.toNat 3) (S.2.1 o.toNat 4) 16))) else (.inr zE3, S)) else (.inr zE3, S)) else (.inr zE1, S)) else (.inr zE1, S)
def zsAsk (S : zSt) (key : Int) : zSt := (S.1, S.2.1, zIns (zDel S.2.2.1 (zFind S.2.2.1 key 0)) 0 key, S.2.2.2.1 ++ [key], zup S.2.2.2.2 0 (S.2.2.2.2 0 + (zFind S.2.2.1 key 0 + 1)))
def zsForget (S : zSt) : zSt := (S.1, S.2.1, zPl9 8, [], zup S.2.2.2.2 0 0)
def sp_ask (S : zSt) (key : Int) : zRes := if 0 ≤ key ∧ key ≤ 7 then (if S.2.2.2.1.length < 60 then (.inl (zFind S.2.2.1 key 0 + 1), zsAsk S key) else (.inr zE3, S)) else (.inr zE2, S)
def sp_forget (S : zSt) : zRes := (.inl (S.2.2.2.1.length : Int), zsForget S)
def sp_asked (S : zSt) (w : Int) : zRes := if 0 ≤ w ∧ w ≤ 3 then (if w = 0 then (.inl (S.2.2.2.1.length : Int), S) else if w = 1 then (.inl (S.2.2.2.2 0), S) else if w = 2 then (.inl (zLastOf S.2.2.2.1), S) else (.inl (zAt S.2.2.1 7), S)) else (.inr zE2, S)
def sp_byOrder (S : zSt) (p w : Int) : zRes := if 0 ≤ p ∧ p < 4 then (if 0 ≤ w ∧ w ≤ 2 then (if ((S.1 p.toNat).length = 8 ∧ ∀ k : Nat, k < 8 → zFind (S.1 p.toNat) k 0 ≠ -1) then (if w = 0 then (.inl (zCost (zCntT S.2.2.2.1) (S.1 p.toNat) 8), S) else if w = 1 then (.inl (zInv (S.1 p.toNat)), S) else (.inl (2 * zCost (zCntT S.2.2.2.1) (S.1 p.toNat) 8 - (S.2.2.2.1.length : Int) + zInv (S.1 p.toNat)), S)) else spRef S) else (.inr zE2, S)) else (.inr zE1, S)
end SPEC8
section CLS8
variable {G : zG} {l : Launch} {h h' : zHp} {ad : Nat → Nat} {S : zSt}
theorem l_Cls_itemsOfAll {d mc ms bc bs : Nat} {Qn : Option Value → zHp → Prop} {Qx : String → zHp → Prop} (hC : zCls G h ad S)  (K : ∀ y, zR G l (zMJ G hCls_itemsOfAll d Qn Qx mc ms) bc bs h 27 [some (.ref (ad 0)), some (zi (zItems S)), y] []) :
    ∀ (n : Nat) (m : Nat), 4 - m < n → m ≤ 4 →
      zR G l (zMJ G hCls_itemsOfAll d Qn Qx mc ms) bc bs h 4 [some (.ref (ad 0)), some (zi (zSumN (fun k => ((S.1 k).length : Int)) m)), some (zi (m : Int))] [] := by
  intro n
  induction n with
  | zero => intro m q1 q2; omega
  | succ n ih =>
  intro m q1 q2
  obtain ⟨c1, c2, ⟨g3, c3, d3⟩, ⟨g4, hc4, d4⟩, c5, -⟩ := id hC
  refine z_iload_n dCls_itemsOfAll_4 rfl ?_
  refine z_iconst dCls_itemsOfAll_5 ?_
  refine z_icmp_ge (tgt := 27) dCls_itemsOfAll_6 (by decide) (by omega) (by omega) (fun c6 => ?_) (fun c6 => ?_)
  · have em9 : m = 4 := by omega
    subst em9
    exact K _
  · obtain ⟨fm, em, -⟩ := id (hC.ls (k := m) (by omega))
    refine z_iload_n dCls_itemsOfAll_9 rfl ?_
    refine z_aload_n dCls_itemsOfAll_10 rfl ?_
    refine z_get (k := 0) fd_Cls (by decide) fl_Cls_11 dCls_itemsOfAll_11 (by assumption) (by rfl) ?_
    refine z_iload_n dCls_itemsOfAll_14 rfl ?_
    refine z_aald (t := 5) (ty := .object "Cursorlist$Row") rfl rfl dCls_itemsOfAll_15 c3 (by refine ⟨?_, ?_, ?_⟩ <;> omega) ?_
    rw [show (m : Int).toNat = m by omega, d3 m (by omega)]
    refine z_getN (k := 1) fd_Row (by decide) fl_Cls_46 dCls_itemsOfAll_16 (by assumption) (by rfl) ?_
    refine z_iadd dCls_itemsOfAll_19 ?_
    refine z_istore_n dCls_itemsOfAll_20 (Nat.le_of_ble_eq_true rfl) ?_
    refine z_iinc dCls_itemsOfAll_21 rfl (Nat.le_of_ble_eq_true rfl) ?_
    refine z_goto (tgt := 4) dCls_itemsOfAll_24 (by decide) ?_
    exact ih (m + 1) (by omega) (by omega)
theorem k_Cls_itemsOfAll (hC : zCls G h ad S) : zM G l hCls_itemsOfAll yCls_itemsOfAll 1 [.ref (ad 0)] h (fun v h' => v = some (zi (zItems S)) ∧ h = h') zNo 0 0 := by
  refine zM.of [some (.ref (ad 0)), none, none] (by decide +kernel) rfl (by decide) rfl (Nat.le_of_ble_eq_true rfl) rfl ?_
  refine z_iconst dCls_itemsOfAll_0 ?_
  refine z_istore_n dCls_itemsOfAll_1 (Nat.le_of_ble_eq_true rfl) ?_
  refine z_iconst dCls_itemsOfAll_2 ?_
  refine z_istore_n dCls_itemsOfAll_3 (Nat.le_of_ble_eq_true rfl) ?_
  refine l_Cls_itemsOfAll hC (fun y => ?_) 5 0 (by omega) (by omega)
  refine z_iload_n dCls_itemsOfAll_27 rfl ?_
  refine z_iret rfl rfl dCls_itemsOfAll_28 ?_
  exact ⟨rfl, rfl⟩
theorem l_Cls_cursorsThere {d mc ms bc bs : Nat} {Qn : Option Value → zHp → Prop} {Qx : String → zHp → Prop} (hC : zCls G h ad S) (hd : 2 ≤ d) (K : ∀ y, zR G l (zMJ G hCls_cursorsThere d Qn Qx mc ms) bc bs h 30 [some (.ref (ad 0)), some (zi (zThere S)), y] []) :
    ∀ (n : Nat) (m : Nat), 3 - m < n → m ≤ 3 →
      zR G l (zMJ G hCls_cursorsThere d Qn Qx mc ms) bc bs h 4 [some (.ref (ad 0)), some (zi (zSumN (fun c => S.2.1 c 0) m)), some (zi (m : Int))] [] := by
  intro n
  induction n with
  | zero => intro m q1 q2; omega
  | succ n ih =>
  intro m q1 q2
  obtain ⟨c1, c2, ⟨g3, c3, d3⟩, ⟨g4, hc4, d4⟩, c5, -⟩ := id hC
  refine z_iload_n dCls_cursorsThere_4 rfl ?_
  refine z_iconst dCls_cursorsThere_5 ?_
  refine z_icmp_ge (tgt := 30) dCls_cursorsThere_6 (by decide) (by omega) (by omega) (fun c6 => ?_) (fun c6 => ?_)
  · have em9 : m = 3 := by omega
    subst em9
    exact K _
  · obtain ⟨stm, lim, ixm, lam, em, bm0, bm1, -, -, -, em7⟩ := id (hC.cs (c := m) (by omega))
    refine z_iload_n dCls_cursorsThere_9 rfl ?_
    refine z_aload_n dCls_cursorsThere_10 rfl ?_
    refine z_get (k := 1) fd_Cls (by decide) fl_Cls_17 dCls_cursorsThere_11 (by assumption) (by rfl) ?_
    refine z_iload_n dCls_cursorsThere_14 rfl ?_
    refine z_aald (t := 6) (ty := .object "Cursorlist$Cursor") rfl rfl dCls_cursorsThere_15 hc4 (by refine ⟨?_, ?_, ?_⟩ <;> omega) ?_
    rw [show (m : Int).toNat = m by omega, d4 m (by omega)]
    refine z_getN (k := 0) fd_Cur (by decide) fl_Cls_144 dCls_cursorsThere_16 (by assumption) (by rfl) ?_
    refine z_callS MS_Cls_numberOf lk_Cls_192 dCls_cursorsThere_19 (k_Cls_numberOf (by omega)) rfl rfl (Nat.le_of_ble_eq_true rfl)  (by show 1 + 1 ≤ d; omega) (by show 1 * 64 + 64 ≤ d * 64; omega) (Nat.le_of_eq (Nat.zero_add _)) (Nat.le_of_eq (Nat.zero_add _)) (fun _ _ q => q.elim) ?_
    rintro _ _ ⟨rfl, rfl⟩
    refine z_iadd dCls_cursorsThere_22 ?_
    refine z_istore_n dCls_cursorsThere_23 (Nat.le_of_ble_eq_true rfl) ?_
    refine z_iinc dCls_cursorsThere_24 rfl (Nat.le_of_ble_eq_true rfl) ?_
    refine z_goto (tgt := 4) dCls_cursorsThere_27 (by decide) ?_
    exact ih (m + 1) (by omega) (by omega)
theorem k_Cls_cursorsThere (hC : zCls G h ad S) : zM G l hCls_cursorsThere yCls_cursorsThere 2 [.ref (ad 0)] h (fun v h' => v = some (zi (zThere S)) ∧ h = h') zNo 0 0 := by
  refine zM.of [some (.ref (ad 0)), none, none] (by decide +kernel) rfl (by decide) rfl (Nat.le_of_ble_eq_true rfl) rfl ?_
  refine z_iconst dCls_cursorsThere_0 ?_
  refine z_istore_n dCls_cursorsThere_1 (Nat.le_of_ble_eq_true rfl) ?_
  refine z_iconst dCls_cursorsThere_2 ?_
  refine z_istore_n dCls_cursorsThere_3 (Nat.le_of_ble_eq_true rfl) ?_
  refine l_Cls_cursorsThere hC (by omega) (fun y => ?_) 4 0 (by omega) (by omega)
  refine z_iload_n dCls_cursorsThere_30 rfl ?_
  refine z_iret rfl rfl dCls_cursorsThere_31 ?_
  exact ⟨rfl, rfl⟩
theorem l_Cls_cursorsStale {d mc ms bc bs : Nat} {Qn : Option Value → zHp → Prop} {Qx : String → zHp → Prop} (hC : zCls G h ad S) (hd : 2 ≤ d) (K : ∀ y, zR G l (zMJ G hCls_cursorsStale d Qn Qx mc ms) bc bs h 50 [some (.ref (ad 0)), some (zi (zStl S)), y] []) :
    ∀ (n : Nat) (m : Nat), 3 - m < n → m ≤ 3 →
      zR G l (zMJ G hCls_cursorsStale d Qn Qx mc ms) bc bs h 4 [some (.ref (ad 0)), some (zi (zSumN (fun c => if S.2.1 c 0 = 1 ∧ S.2.1 c 1 ≠ 0 then 1 else 0) m)), some (zi (m : Int))] [] := by
  intro n
  induction n with
  | zero => intro m q1 q2; omega
  | succ n ih =>
  intro m q1 q2
  obtain ⟨c1, c2, ⟨g3, c3, d3⟩, ⟨g4, hc4, d4⟩, c5, -⟩ := id hC
  refine z_iload_n dCls_cursorsStale_4 rfl ?_
  refine z_iconst dCls_cursorsStale_5 ?_
  refine z_icmp_ge (tgt := 50) dCls_cursorsStale_6 (by decide) (by omega) (by omega) (fun c6 => ?_) (fun c6 => ?_)
  · have em9 : m = 3 := by omega
    subst em9
    exact K _
  · obtain ⟨stm, lim, ixm, lam, em, bm0, bm1, -, -, -, em7⟩ := id (hC.cs (c := m) (by omega))
    refine z_iload_n dCls_cursorsStale_9 rfl ?_
    refine z_aload_n dCls_cursorsStale_10 rfl ?_
    refine z_get (k := 1) fd_Cls (by decide) fl_Cls_17 dCls_cursorsStale_11 (by assumption) (by rfl) ?_
    refine z_iload_n dCls_cursorsStale_14 rfl ?_
    refine z_aald (t := 6) (ty := .object "Cursorlist$Cursor") rfl rfl dCls_cursorsStale_15 hc4 (by refine ⟨?_, ?_, ?_⟩ <;> omega) ?_
    rw [show (m : Int).toNat = m by omega, d4 m (by omega)]
    refine z_getN (k := 0) fd_Cur (by decide) fl_Cls_144 dCls_cursorsStale_16 (by assumption) (by rfl) ?_
    refine z_if_eq (tgt := 38) dCls_cursorsStale_19 (by decide) (by omega) (fun c19 => ?_) (fun c19 => ?_)
    · refine z_iconst dCls_cursorsStale_38 ?_
      refine z_callS MS_Cls_numberOf lk_Cls_192 dCls_cursorsStale_39 (k_Cls_numberOf (by omega)) rfl rfl (Nat.le_of_ble_eq_true rfl)  (by show 1 + 1 ≤ d; omega) (by show 1 * 64 + 64 ≤ d * 64; omega) (Nat.le_of_eq (Nat.zero_add _)) (Nat.le_of_eq (Nat.zero_add _)) (fun _ _ q => q.elim) ?_
      rintro _ _ ⟨rfl, rfl⟩
      refine z_iadd dCls_cursorsStale_42 ?_
      refine z_istore_n dCls_cursorsStale_43 (Nat.le_of_ble_eq_true rfl) ?_
      refine z_iinc dCls_cursorsStale_44 rfl (Nat.le_of_ble_eq_true rfl) ?_
      refine z_goto (tgt := 4) dCls_cursorsStale_47 (by decide) ?_
      refine cast (congrArg (fun x => zR G l (zMJ G hCls_cursorsStale d Qn Qx mc ms) bc bs h 4 [some (.ref (ad 0)), some (zi x), some (zi ((m + 1 : Nat) : Int))] []) ?_) (ih (m + 1) (by omega) (by omega))
      show zSumN (fun c => if S.2.1 c 0 = 1 ∧ S.2.1 c 1 ≠ 0 then 1 else 0) m + (if S.2.1 m 0 = 1 ∧ S.2.1 m 1 ≠ 0 then 1 else 0) = _
      first
        | (rw [if_pos (by omega)])
        | (rw [if_neg (by omega)])
    · refine z_aload_n dCls_cursorsStale_22 rfl ?_
      refine z_get (k := 1) fd_Cls (by decide) fl_Cls_17 dCls_cursorsStale_23 (by assumption) (by rfl) ?_
      refine z_iload_n dCls_cursorsStale_26 rfl ?_
      refine z_aald (t := 6) (ty := .object "Cursorlist$Cursor") rfl rfl dCls_cursorsStale_27 hc4 (by refine ⟨?_, ?_, ?_⟩ <;> omega) ?_
      rw [show (m : Int).toNat = m by omega, d4 m (by omega)]
      refine z_getN (k := 1) fd_Cur (by decide) fl_Cls_152 dCls_cursorsStale_28 (by assumption) (by rfl) ?_
      refine z_if_eq (tgt := 38) dCls_cursorsStale_31 (by decide) (by omega) (fun c31 => ?_) (fun c31 => ?_)
      · refine z_iconst dCls_cursorsStale_38 ?_
        refine z_callS MS_Cls_numberOf lk_Cls_192 dCls_cursorsStale_39 (k_Cls_numberOf (by omega)) rfl rfl (Nat.le_of_ble_eq_true rfl)  (by show 1 + 1 ≤ d; omega) (by show 1 * 64 + 64 ≤ d * 64; omega) (Nat.le_of_eq (Nat.zero_add _)) (Nat.le_of_eq (Nat.zero_add _)) (fun _ _ q => q.elim) ?_
        rintro _ _ ⟨rfl, rfl⟩
        refine z_iadd dCls_cursorsStale_42 ?_
        refine z_istore_n dCls_cursorsStale_43 (Nat.le_of_ble_eq_true rfl) ?_
        refine z_iinc dCls_cursorsStale_44 rfl (Nat.le_of_ble_eq_true rfl) ?_
        refine z_goto (tgt := 4) dCls_cursorsStale_47 (by decide) ?_
        refine cast (congrArg (fun x => zR G l (zMJ G hCls_cursorsStale d Qn Qx mc ms) bc bs h 4 [some (.ref (ad 0)), some (zi x), some (zi ((m + 1 : Nat) : Int))] []) ?_) (ih (m + 1) (by omega) (by omega))
        show zSumN (fun c => if S.2.1 c 0 = 1 ∧ S.2.1 c 1 ≠ 0 then 1 else 0) m + (if S.2.1 m 0 = 1 ∧ S.2.1 m 1 ≠ 0 then 1 else 0) = _
        first
          | (rw [if_pos (by omega)])
          | (rw [if_neg (by omega)])
      · refine z_iconst dCls_cursorsStale_34 ?_
        refine z_goto (tgt := 39) dCls_cursorsStale_35 (by decide) ?_
        refine z_callS MS_Cls_numberOf lk_Cls_192 dCls_cursorsStale_39 (k_Cls_numberOf (by omega)) rfl rfl (Nat.le_of_ble_eq_true rfl)  (by show 1 + 1 ≤ d; omega) (by show 1 * 64 + 64 ≤ d * 64; omega) (Nat.le_of_eq (Nat.zero_add _)) (Nat.le_of_eq (Nat.zero_add _)) (fun _ _ q => q.elim) ?_
        rintro _ _ ⟨rfl, rfl⟩
        refine z_iadd dCls_cursorsStale_42 ?_
        refine z_istore_n dCls_cursorsStale_43 (Nat.le_of_ble_eq_true rfl) ?_
        refine z_iinc dCls_cursorsStale_44 rfl (Nat.le_of_ble_eq_true rfl) ?_
        refine z_goto (tgt := 4) dCls_cursorsStale_47 (by decide) ?_
        refine cast (congrArg (fun x => zR G l (zMJ G hCls_cursorsStale d Qn Qx mc ms) bc bs h 4 [some (.ref (ad 0)), some (zi x), some (zi ((m + 1 : Nat) : Int))] []) ?_) (ih (m + 1) (by omega) (by omega))
        show zSumN (fun c => if S.2.1 c 0 = 1 ∧ S.2.1 c 1 ≠ 0 then 1 else 0) m + (if S.2.1 m 0 = 1 ∧ S.2.1 m 1 ≠ 0 then 1 else 0) = _
        first
          | (rw [if_pos (by omega)])
          | (rw [if_neg (by omega)])
theorem k_Cls_cursorsStale (hC : zCls G h ad S) : zM G l hCls_cursorsStale yCls_cursorsStale 2 [.ref (ad 0)] h (fun v h' => v = some (zi (zStl S)) ∧ h = h') zNo 0 0 := by
  refine zM.of [some (.ref (ad 0)), none, none] (by decide +kernel) rfl (by decide) rfl (Nat.le_of_ble_eq_true rfl) rfl ?_
  refine z_iconst dCls_cursorsStale_0 ?_
  refine z_istore_n dCls_cursorsStale_1 (Nat.le_of_ble_eq_true rfl) ?_
  refine z_iconst dCls_cursorsStale_2 ?_
  refine z_istore_n dCls_cursorsStale_3 (Nat.le_of_ble_eq_true rfl) ?_
  refine l_Cls_cursorsStale hC (by omega) (fun y => ?_) 4 0 (by omega) (by omega)
  refine z_iload_n dCls_cursorsStale_50 rfl ?_
  refine z_iret rfl rfl dCls_cursorsStale_51 ?_
  exact ⟨rfl, rfl⟩
theorem k_Cls_house {w : Int}  (hC : zCls G h ad S) (z_w : zI32 w) : zM G l hCls_house yCls_house 9 [.ref (ad 0), zi w] h (zQc G ad h (sp_house S w)) (zXc G ad h (sp_house S w)) 6 36 := by
  obtain ⟨c1, c2, ⟨g3, c3, d3⟩, ⟨g4, c4, d4⟩, c5, ⟨T6, c6, d6⟩, c7, c8, ⟨R9, c9⟩, c10⟩ := id hC
  obtain ⟨f16, e16, -⟩ := id c9
  refine zM.of [some (.ref (ad 0)), some (zi w)] (by decide +kernel) rfl (by decide) rfl (Nat.le_of_ble_eq_true rfl) rfl ?_
  refine z_iload_n dCls_house_0 rfl ?_
  refine z_iconst dCls_house_1 ?_
  refine z_iconst dCls_house_2 ?_
  refine z_callS (bc' := 5) (bs' := 30) MS_Cls_demandWithin lk_Cls_38 dCls_house_3 (k_Cls_demandWithin (by omega) (by omega) (by omega)) rfl rfl (Nat.le_of_ble_eq_true rfl)  (Nat.le_of_ble_eq_true rfl) (Nat.le_of_ble_eq_true rfl) (by decide) (by decide) (fun E h9 q9 => z_out rfl (by obtain ⟨rfl, q1, rfl⟩ := q9; exact zXc.mk (by assumption) (by first | exact zFrm.rf | assumption) (by unfold sp_house; (try unfold spPut); (try simp only [Int.toNat_natCast]); (repeat (first | rw [if_pos (by omega)] | rw [if_neg (by omega)] | rw [if_pos (by assumption)] | rw [if_neg (by assumption)] | rw [if_pos (True.intro : True)])); all_goals (first | rfl | (congr 2; omega) | (congr 1; congr 1; omega))))) ?_
  rintro _ _ ⟨rfl, w1, w2, rfl⟩
  refine z_iload_n dCls_house_6 rfl ?_
  rcases (show w = 0 ∨ w = 1 ∨ w = 2 ∨ w = 3 ∨ w = 4 by omega) with rfl | rfl | rfl | rfl | rfl
  · refine z_tableIn (tgt := 36) dCls_house_7 (by omega) (by omega) (by omega) rfl (by decide) ?_
    refine z_aload_n dCls_house_36 rfl ?_
    refine z_callV MV_Cls_itemsOfAll lk_Cls_250 dCls_house_37 (k_Cls_itemsOfAll hC) rfl rfl (Nat.le_of_ble_eq_true rfl) rfl (by assumption) (Nat.le_of_ble_eq_true rfl) (Nat.le_of_ble_eq_true rfl) (Nat.le_of_eq (Nat.zero_add _)) (Nat.le_of_eq (Nat.zero_add _)) (fun _ _ q => q.elim) ?_
    rintro _ _ ⟨rfl, rfl⟩
    refine z_iret rfl rfl dCls_house_40 ?_
    first
      | (exfalso; omega)
      | exact zQc.mk (by assumption) (by first | exact zFrm.rf | assumption) (by unfold sp_house; (try unfold spPut); (try simp only [Int.toNat_natCast]); (repeat (first | rw [if_pos (by omega)] | rw [if_neg (by omega)] | rw [if_pos (by assumption)] | rw [if_neg (by assumption)] | rw [if_pos (True.intro : True)])); all_goals (first | rfl | (congr 2; omega) | (congr 1; congr 1; omega)))
  · refine z_tableIn (tgt := 41) dCls_house_7 (by omega) (by omega) (by omega) rfl (by decide) ?_
    refine z_aload_n dCls_house_41 rfl ?_
    refine z_callV MV_Cls_cursorsThere lk_Cls_253 dCls_house_42 (k_Cls_cursorsThere hC) rfl rfl (Nat.le_of_ble_eq_true rfl) rfl (by assumption) (Nat.le_of_ble_eq_true rfl) (Nat.le_of_ble_eq_true rfl) (Nat.le_of_eq (Nat.zero_add _)) (Nat.le_of_eq (Nat.zero_add _)) (fun _ _ q => q.elim) ?_
    rintro _ _ ⟨rfl, rfl⟩
    refine z_iret rfl rfl dCls_house_45 ?_
    first
      | (exfalso; omega)
      | exact zQc.mk (by assumption) (by first | exact zFrm.rf | assumption) (by unfold sp_house; (try unfold spPut); (try simp only [Int.toNat_natCast]); (repeat (first | rw [if_pos (by omega)] | rw [if_neg (by omega)] | rw [if_pos (by assumption)] | rw [if_neg (by assumption)] | rw [if_pos (True.intro : True)])); all_goals (first | rfl | (congr 2; omega) | (congr 1; congr 1; omega)))
  · refine z_tableIn (tgt := 46) dCls_house_7 (by omega) (by omega) (by omega) rfl (by decide) ?_
    refine z_aload_n dCls_house_46 rfl ?_
    refine z_callV MV_Cls_cursorsStale lk_Cls_256 dCls_house_47 (k_Cls_cursorsStale hC) rfl rfl (Nat.le_of_ble_eq_true rfl) rfl (by assumption) (Nat.le_of_ble_eq_true rfl) (Nat.le_of_ble_eq_true rfl) (Nat.le_of_eq (Nat.zero_add _)) (Nat.le_of_eq (Nat.zero_add _)) (fun _ _ q => q.elim) ?_
    rintro _ _ ⟨rfl, rfl⟩
    refine z_iret rfl rfl dCls_house_50 ?_
    first
      | (exfalso; omega)
      | exact zQc.mk (by assumption) (by first | exact zFrm.rf | assumption) (by unfold sp_house; (try unfold spPut); (try simp only [Int.toNat_natCast]); (repeat (first | rw [if_pos (by omega)] | rw [if_neg (by omega)] | rw [if_pos (by assumption)] | rw [if_neg (by assumption)] | rw [if_pos (True.intro : True)])); all_goals (first | rfl | (congr 2; omega) | (congr 1; congr 1; omega)))
  · refine z_tableIn (tgt := 51) dCls_house_7 (by omega) (by omega) (by omega) rfl (by decide) ?_
    refine z_aload_n dCls_house_51 rfl ?_
    refine z_get (k := 4) fd_Cls (by decide) fl_Cls_259 dCls_house_52 (by assumption) (by rfl) ?_
    refine z_iret rfl rfl dCls_house_55 ?_
    first
      | (exfalso; omega)
      | exact zQc.mk (by assumption) (by first | exact zFrm.rf | assumption) (by unfold sp_house; (try unfold spPut); (try simp only [Int.toNat_natCast]); (repeat (first | rw [if_pos (by omega)] | rw [if_neg (by omega)] | rw [if_pos (by assumption)] | rw [if_neg (by assumption)] | rw [if_pos (True.intro : True)])); all_goals (first | rfl | (congr 2; omega) | (congr 1; congr 1; omega)))
  · refine z_tableOut (tgt := 56) dCls_house_7 (by omega) (by omega) (by decide) ?_
    refine z_aload_n dCls_house_56 rfl ?_
    refine z_get (k := 5) fd_Cls (by decide) fl_Cls_262 dCls_house_57 (by assumption) (by rfl) ?_
    refine z_iret rfl rfl dCls_house_60 ?_
    first
      | (exfalso; omega)
      | exact zQc.mk (by assumption) (by first | exact zFrm.rf | assumption) (by unfold sp_house; (try unfold spPut); (try simp only [Int.toNat_natCast]); (repeat (first | rw [if_pos (by omega)] | rw [if_neg (by omega)] | rw [if_pos (by assumption)] | rw [if_neg (by assumption)] | rw [if_pos (True.intro : True)])); all_goals (first | rfl | (congr 2; omega) | (congr 1; congr 1; omega)))
theorem k_Cls_whereIs {c : Nat} {w : Int} (hC : zCls G h ad S) (hc : c < 3) (ht : S.2.1 c 0 = 1) (hl : 0 ≤ S.2.1 c 2 ∧ S.2.1 c 2 < 4) (hw : 1 ≤ w ∧ w ≤ 4) : zM G l hCls_whereIs yCls_whereIs 9 [.ref (ad 0), .ref (ad (5 + c)), zi w] h (fun v h' => v = some (zi (if w = 1 then S.2.1 c 3 else if w = 2 then S.2.1 c 3 - 1 else if w = 3 then (if S.2.1 c 3 < ((S.1 (S.2.1 c 2).toNat).length : Int) then 1 else 0) else (if 0 < S.2.1 c 3 then 1 else 0))) ∧ h = h') zNo 1 6 := by
  obtain ⟨c1, c2, ⟨g3, c3, d3⟩, ⟨g4, hc4, d4⟩, c5, -⟩ := id hC
  have hcA := hC.cs hc
  obtain ⟨st, li, ix, la, e1, e2, e3, e4, e5, e6, e7⟩ := id hcA
  obtain ⟨rfl, rfl, rfl, rfl⟩ := e7 ht
  have hrU := hC.ls (k := (S.2.1 c 2).toNat) (by omega)
  obtain ⟨fU, eU, -⟩ := id hrU
  have hlU := hrU.len
  refine zM.of [some (.ref (ad 0)), some (.ref (ad (5 + c))), some (zi w)] (by decide +kernel) rfl (by decide) rfl (Nat.le_of_ble_eq_true rfl) rfl ?_
  refine z_iload_n dCls_whereIs_0 rfl ?_
  rcases (show w = 1 ∨ w = 2 ∨ w = 3 ∨ w = 4 by omega) with rfl | rfl | rfl | rfl
  · refine z_tableIn (tgt := 28) dCls_whereIs_1 (by omega) (by omega) (by omega) rfl (by decide) ?_
    refine z_aload_n dCls_whereIs_28 rfl ?_
    refine z_getN (k := 3) fd_Cur (by decide) fl_Cls_172 dCls_whereIs_29 (by assumption) (by rfl) ?_
    refine z_iret rfl rfl dCls_whereIs_32 ?_
    refine ⟨?_, rfl⟩
    repeat (first | rw [if_pos (by omega)] | rw [if_neg (by omega)])
  · refine z_tableIn (tgt := 33) dCls_whereIs_1 (by omega) (by omega) (by omega) rfl (by decide) ?_
    refine z_aload_n dCls_whereIs_33 rfl ?_
    refine z_getN (k := 3) fd_Cur (by decide) fl_Cls_172 dCls_whereIs_34 (by assumption) (by rfl) ?_
    refine z_iconst dCls_whereIs_37 ?_
    refine z_isub dCls_whereIs_38 ?_
    refine z_iret rfl rfl dCls_whereIs_39 ?_
    refine ⟨?_, rfl⟩
    repeat (first | rw [if_pos (by omega)] | rw [if_neg (by omega)])
  · refine z_tableIn (tgt := 40) dCls_whereIs_1 (by omega) (by omega) (by omega) rfl (by decide) ?_
    refine z_aload_n dCls_whereIs_40 rfl ?_
    refine z_getN (k := 3) fd_Cur (by decide) fl_Cls_172 dCls_whereIs_41 (by assumption) (by rfl) ?_
    refine z_aload_n dCls_whereIs_44 rfl ?_
    refine z_aload_n dCls_whereIs_45 rfl ?_
    refine z_callV (bc' := 0) (bs' := 0) MV_Cls_rowUnder lk_Cls_155 dCls_whereIs_46 (k_Cls_rowUnder (c := 0) hC hcA ht hl) rfl rfl (Nat.le_of_ble_eq_true rfl) rfl (by assumption) (Nat.le_of_ble_eq_true rfl) (Nat.le_of_ble_eq_true rfl) (by decide) (by decide) (fun _ _ q => q.elim) ?_
    rintro _ _ ⟨rfl, rfl⟩
    refine z_getN (k := 1) fd_Row (by decide) fl_Cls_46 dCls_whereIs_49 (by assumption) (by rfl) ?_
    refine z_icmp_ge (tgt := 59) dCls_whereIs_52 (by decide) (by omega) (by omega) (fun c52 => ?_) (fun c52 => ?_)
    · refine z_iconst dCls_whereIs_59 ?_
      refine z_callS MS_Cls_numberOf lk_Cls_192 dCls_whereIs_60 (k_Cls_numberOf (by omega)) rfl rfl (Nat.le_of_ble_eq_true rfl)  (Nat.le_of_ble_eq_true rfl) (Nat.le_of_ble_eq_true rfl) (Nat.le_of_eq (Nat.zero_add _)) (Nat.le_of_eq (Nat.zero_add _)) (fun _ _ q => q.elim) ?_
      rintro _ _ ⟨rfl, rfl⟩
      refine z_iret rfl rfl dCls_whereIs_63 ?_
      refine ⟨?_, rfl⟩
      repeat (first | rw [if_pos (by omega)] | rw [if_neg (by omega)])
    · refine z_iconst dCls_whereIs_55 ?_
      refine z_goto (tgt := 60) dCls_whereIs_56 (by decide) ?_
      refine z_callS MS_Cls_numberOf lk_Cls_192 dCls_whereIs_60 (k_Cls_numberOf (by omega)) rfl rfl (Nat.le_of_ble_eq_true rfl)  (Nat.le_of_ble_eq_true rfl) (Nat.le_of_ble_eq_true rfl) (Nat.le_of_eq (Nat.zero_add _)) (Nat.le_of_eq (Nat.zero_add _)) (fun _ _ q => q.elim) ?_
      rintro _ _ ⟨rfl, rfl⟩
      refine z_iret rfl rfl dCls_whereIs_63 ?_
      refine ⟨?_, rfl⟩
      repeat (first | rw [if_pos (by omega)] | rw [if_neg (by omega)])
  · refine z_tableOut (tgt := 64) dCls_whereIs_1 (by omega) (by omega) (by decide) ?_
    refine z_aload_n dCls_whereIs_64 rfl ?_
    refine z_getN (k := 3) fd_Cur (by decide) fl_Cls_172 dCls_whereIs_65 (by assumption) (by rfl) ?_
    refine z_if_le (tgt := 75) dCls_whereIs_68 (by decide) (by omega) (fun c68 => ?_) (fun c68 => ?_)
    · refine z_iconst dCls_whereIs_75 ?_
      refine z_callS MS_Cls_numberOf lk_Cls_192 dCls_whereIs_76 (k_Cls_numberOf (by omega)) rfl rfl (Nat.le_of_ble_eq_true rfl)  (Nat.le_of_ble_eq_true rfl) (Nat.le_of_ble_eq_true rfl) (Nat.le_of_eq (Nat.zero_add _)) (Nat.le_of_eq (Nat.zero_add _)) (fun _ _ q => q.elim) ?_
      rintro _ _ ⟨rfl, rfl⟩
      refine z_iret rfl rfl dCls_whereIs_79 ?_
      refine ⟨?_, rfl⟩
      repeat (first | rw [if_pos (by omega)] | rw [if_neg (by omega)])
    · refine z_iconst dCls_whereIs_71 ?_
      refine z_goto (tgt := 76) dCls_whereIs_72 (by decide) ?_
      refine z_callS MS_Cls_numberOf lk_Cls_192 dCls_whereIs_76 (k_Cls_numberOf (by omega)) rfl rfl (Nat.le_of_ble_eq_true rfl)  (Nat.le_of_ble_eq_true rfl) (Nat.le_of_ble_eq_true rfl) (Nat.le_of_eq (Nat.zero_add _)) (Nat.le_of_eq (Nat.zero_add _)) (fun _ _ q => q.elim) ?_
      rintro _ _ ⟨rfl, rfl⟩
      refine z_iret rfl rfl dCls_whereIs_79 ?_
      refine ⟨?_, rfl⟩
      repeat (first | rw [if_pos (by omega)] | rw [if_neg (by omega)])
theorem k_Cls_ofCursor {c w : Int} (hO : zOk S) (hC : zCls G h ad S) (z_c : zI32 c) (z_w : zI32 w) : zM G l hCls_ofCursor yCls_ofCursor 10 [.ref (ad 0), zi c, zi w] h (zQc G ad h (sp_ofCursor S c w)) (zXc G ad h (sp_ofCursor S c w)) 6 36 := by
  obtain ⟨c1, c2, ⟨g3, c3, d3⟩, ⟨g4, c4, d4⟩, c5, ⟨T6, c6, d6⟩, c7, c8, ⟨R9, c9⟩, c10⟩ := id hC
  obtain ⟨f16, e16, -⟩ := id c9
  refine zM.of [some (.ref (ad 0)), some (zi c), some (zi w), none] (by decide +kernel) rfl (by decide) rfl (Nat.le_of_ble_eq_true rfl) rfl ?_
  refine z_aload_n dCls_ofCursor_0 rfl ?_
  refine z_iload_n dCls_ofCursor_1 rfl ?_
  refine z_callV (bc' := 5) (bs' := 30) MV_Cls_cursorAt lk_Cls_137 dCls_ofCursor_2 (k_Cls_cursorAt (by assumption) (by omega)) rfl rfl (Nat.le_of_ble_eq_true rfl) rfl (by assumption) (Nat.le_of_ble_eq_true rfl) (Nat.le_of_ble_eq_true rfl) (by decide) (by decide) (fun E h9 q9 => z_out rfl (by obtain ⟨rfl, q1, rfl⟩ := q9; exact zXc.mk (by assumption) (by first | exact zFrm.rf | assumption) (by unfold sp_ofCursor; (try unfold spPut); (try simp only [Int.toNat_natCast]); (repeat (first | rw [if_pos (by omega)] | rw [if_neg (by omega)] | rw [if_pos (by assumption)] | rw [if_neg (by assumption)] | rw [if_pos (True.intro : True)])); all_goals (first | rfl | (congr 2; omega) | (congr 1; congr 1; omega))))) ?_
  rintro _ _ ⟨rfl, aA1, aA2, rfl⟩
  obtain ⟨kA, rfl⟩ := Int.eq_ofNat_of_zero_le aA1
  simp only [Int.toNat_natCast]
  have hkA : kA < 3 := by omega
  have hcA := hC.cs hkA
  obtain ⟨stA, liA, ixA, laA, eA, bA0, bA1, iA2, iA3, iA4, eA7⟩ := id hcA
  refine z_astore_n dCls_ofCursor_5 (Nat.le_of_ble_eq_true rfl) ?_
  refine z_iload_n dCls_ofCursor_6 rfl ?_
  refine z_iconst dCls_ofCursor_7 ?_
  refine z_iconst dCls_ofCursor_8 ?_
  refine z_callS (bc' := 4) (bs' := 24) MS_Cls_demandWithin lk_Cls_38 dCls_ofCursor_9 (k_Cls_demandWithin (by omega) (by omega) (by omega)) rfl rfl (Nat.le_of_ble_eq_true rfl)  (Nat.le_of_ble_eq_true rfl) (Nat.le_of_ble_eq_true rfl) (by decide) (by decide) (fun E h9 q9 => z_out rfl (by obtain ⟨rfl, q1, rfl⟩ := q9; exact zXc.mk (by assumption) (by first | exact zFrm.rf | assumption) (by unfold sp_ofCursor; (try unfold spPut); (try simp only [Int.toNat_natCast]); (repeat (first | rw [if_pos (by omega)] | rw [if_neg (by omega)] | rw [if_pos (by assumption)] | rw [if_neg (by assumption)] | rw [if_pos (True.intro : True)])); all_goals (first | rfl | (congr 2; omega) | (congr 1; congr 1; omega))))) ?_
  rintro _ _ ⟨rfl, w1, w2, rfl⟩
  refine z_aload_n dCls_ofCursor_12 rfl ?_
  refine z_getN (k := 0) fd_Cur (by decide) fl_Cls_144 dCls_ofCursor_13 (by assumption) (by rfl) ?_
  refine z_if_ne (tgt := 21) dCls_ofCursor_16 (by decide) (by omega) (fun c16 => ?_) (fun c16 => ?_)
  · refine z_iload_n dCls_ofCursor_21 rfl ?_
    refine z_if_ne (tgt := 30) dCls_ofCursor_22 (by decide) (by omega) (fun c22 => ?_) (fun c22 => ?_)
    · refine z_iload_n dCls_ofCursor_30 rfl ?_
      refine z_iconst dCls_ofCursor_31 ?_
      refine z_icmp_ne (tgt := 43) dCls_ofCursor_32 (by decide) (by omega) (by omega) (fun c32 => ?_) (fun c32 => ?_)
      · refine z_aload_n dCls_ofCursor_43 rfl ?_
        refine z_getN (k := 1) fd_Cur (by decide) fl_Cls_152 dCls_ofCursor_44 (by assumption) (by rfl) ?_
        refine z_if_eq (tgt := 54) dCls_ofCursor_47 (by decide) (by omega) (fun c47 => ?_) (fun c47 => ?_)
        · refine z_aload_n dCls_ofCursor_54 rfl ?_
          refine z_aload_n dCls_ofCursor_55 rfl ?_
          refine z_iload_n dCls_ofCursor_56 rfl ?_
          refine z_callV (bc' := 3) (bs' := 18) MV_Cls_whereIs lk_Cls_196 dCls_ofCursor_57 (k_Cls_whereIs hC hkA (by omega) (hO.1 kA hkA (by omega)).1 (by omega)) rfl rfl (Nat.le_of_ble_eq_true rfl) rfl (by assumption) (Nat.le_of_ble_eq_true rfl) (Nat.le_of_ble_eq_true rfl) (by decide) (by decide) (fun _ _ q => q.elim) ?_
          rintro _ _ ⟨rfl, rfl⟩
          rcases (show w = 1 ∨ w = 2 ∨ (w = 3 ∧ S.2.1 kA 3 < ((S.1 (S.2.1 kA 2).toNat).length : Int)) ∨ (w = 3 ∧ ¬ S.2.1 kA 3 < ((S.1 (S.2.1 kA 2).toNat).length : Int)) ∨ (w = 4 ∧ 0 < S.2.1 kA 3) ∨ (w = 4 ∧ ¬ 0 < S.2.1 kA 3) by omega) with rfl | rfl | ⟨rfl, c99⟩ | ⟨rfl, c99⟩ | ⟨rfl, c99⟩ | ⟨rfl, c99⟩
          · refine z_iret rfl rfl dCls_ofCursor_60 ?_
            first
              | (exfalso; omega)
              | exact zQc.mk (by assumption) zFrm.rf (by unfold sp_ofCursor; (try unfold spPut); (try simp only [Int.toNat_natCast]); (repeat (first | rw [if_pos (by omega)] | rw [if_neg (by omega)] | rw [if_pos (by assumption)] | rw [if_neg (by assumption)] | rw [if_pos (True.intro : True)])); all_goals (first | rfl | (congr 2; omega) | (congr 1; congr 1; omega)))
              | (have tA : S.2.1 kA 0 = 1 := by omega
                 obtain ⟨rfl, rfl, rfl, rfl⟩ := eA7 tA
                 exact zQc.mk (by assumption) zFrm.rf (by unfold sp_ofCursor; (try unfold spPut); (try simp only [Int.toNat_natCast]); (repeat (first | rw [if_pos (by omega)] | rw [if_neg (by omega)] | rw [if_pos (by assumption)] | rw [if_neg (by assumption)] | rw [if_pos (True.intro : True)])); all_goals (first | rfl | (congr 2; omega) | (congr 1; congr 1; omega))))
              | (have tA : S.2.1 kA 0 = 1 := by omega
                 obtain ⟨rfl, rfl, rfl, rfl⟩ := eA7 tA
                 refine zQc.mk (by assumption) zFrm.rf ?_
                 unfold sp_ofCursor
                 (try simp only [Int.toNat_natCast])
                 (repeat (first | rw [if_pos (by omega)] | rw [if_neg (by omega)]))
                 split <;> rfl)
          · refine z_iret rfl rfl dCls_ofCursor_60 ?_
            first
              | (exfalso; omega)
              | exact zQc.mk (by assumption) zFrm.rf (by unfold sp_ofCursor; (try unfold spPut); (try simp only [Int.toNat_natCast]); (repeat (first | rw [if_pos (by omega)] | rw [if_neg (by omega)] | rw [if_pos (by assumption)] | rw [if_neg (by assumption)] | rw [if_pos (True.intro : True)])); all_goals (first | rfl | (congr 2; omega) | (congr 1; congr 1; omega)))
              | (have tA : S.2.1 kA 0 = 1 := by omega
                 obtain ⟨rfl, rfl, rfl, rfl⟩ := eA7 tA
                 exact zQc.mk (by assumption) zFrm.rf (by unfold sp_ofCursor; (try unfold spPut); (try simp only [Int.toNat_natCast]); (repeat (first | rw [if_pos (by omega)] | rw [if_neg (by omega)] | rw [if_pos (by assumption)] | rw [if_neg (by assumption)] | rw [if_pos (True.intro : True)])); all_goals (first | rfl | (congr 2; omega) | (congr 1; congr 1; omega))))
              | (have tA : S.2.1 kA 0 = 1 := by omega
                 obtain ⟨rfl, rfl, rfl, rfl⟩ := eA7 tA
                 refine zQc.mk (by assumption) zFrm.rf ?_
                 unfold sp_ofCursor
                 (try simp only [Int.toNat_natCast])
                 (repeat (first | rw [if_pos (by omega)] | rw [if_neg (by omega)]))
                 split <;> rfl)
          · refine z_iret rfl rfl dCls_ofCursor_60 ?_
            first
              | (exfalso; omega)
              | exact zQc.mk (by assumption) zFrm.rf (by unfold sp_ofCursor; (try unfold spPut); (try simp only [Int.toNat_natCast]); (repeat (first | rw [if_pos (by omega)] | rw [if_neg (by omega)] | rw [if_pos (by assumption)] | rw [if_neg (by assumption)] | rw [if_pos (True.intro : True)])); all_goals (first | rfl | (congr 2; omega) | (congr 1; congr 1; omega)))
              | (have tA : S.2.1 kA 0 = 1 := by omega
                 obtain ⟨rfl, rfl, rfl, rfl⟩ := eA7 tA
                 exact zQc.mk (by assumption) zFrm.rf (by unfold sp_ofCursor; (try unfold spPut); (try simp only [Int.toNat_natCast]); (repeat (first | rw [if_pos (by omega)] | rw [if_neg (by omega)] | rw [if_pos (by assumption)] | rw [if_neg (by assumption)] | rw [if_pos (True.intro : True)])); all_goals (first | rfl | (congr 2; omega) | (congr 1; congr 1; omega))))
              | (have tA : S.2.1 kA 0 = 1 := by omega
                 obtain ⟨rfl, rfl, rfl, rfl⟩ := eA7 tA
                 refine zQc.mk (by assumption) zFrm.rf ?_
                 unfold sp_ofCursor
                 (try simp only [Int.toNat_natCast])
                 (repeat (first | rw [if_pos (by omega)] | rw [if_neg (by omega)]))
                 split <;> rfl)
          · refine z_iret rfl rfl dCls_ofCursor_60 ?_
            first
              | (exfalso; omega)
              | exact zQc.mk (by assumption) zFrm.rf (by unfold sp_ofCursor; (try unfold spPut); (try simp only [Int.toNat_natCast]); (repeat (first | rw [if_pos (by omega)] | rw [if_neg (by omega)] | rw [if_pos (by assumption)] | rw [if_neg (by assumption)] | rw [if_pos (True.intro : True)])); all_goals (first | rfl | (congr 2; omega) | (congr 1; congr 1; omega)))
              | (have tA : S.2.1 kA 0 = 1 := by omega
                 obtain ⟨rfl, rfl, rfl, rfl⟩ := eA7 tA
                 exact zQc.mk (by assumption) zFrm.rf (by unfold sp_ofCursor; (try unfold spPut); (try simp only [Int.toNat_natCast]); (repeat (first | rw [if_pos (by omega)] | rw [if_neg (by omega)] | rw [if_pos (by assumption)] | rw [if_neg (by assumption)] | rw [if_pos (True.intro : True)])); all_goals (first | rfl | (congr 2; omega) | (congr 1; congr 1; omega))))
              | (have tA : S.2.1 kA 0 = 1 := by omega
                 obtain ⟨rfl, rfl, rfl, rfl⟩ := eA7 tA
                 refine zQc.mk (by assumption) zFrm.rf ?_
                 unfold sp_ofCursor
                 (try simp only [Int.toNat_natCast])
                 (repeat (first | rw [if_pos (by omega)] | rw [if_neg (by omega)]))
                 split <;> rfl)
          · refine z_iret rfl rfl dCls_ofCursor_60 ?_
            first
              | (exfalso; omega)
              | exact zQc.mk (by assumption) zFrm.rf (by unfold sp_ofCursor; (try unfold spPut); (try simp only [Int.toNat_natCast]); (repeat (first | rw [if_pos (by omega)] | rw [if_neg (by omega)] | rw [if_pos (by assumption)] | rw [if_neg (by assumption)] | rw [if_pos (True.intro : True)])); all_goals (first | rfl | (congr 2; omega) | (congr 1; congr 1; omega)))
              | (have tA : S.2.1 kA 0 = 1 := by omega
                 obtain ⟨rfl, rfl, rfl, rfl⟩ := eA7 tA
                 exact zQc.mk (by assumption) zFrm.rf (by unfold sp_ofCursor; (try unfold spPut); (try simp only [Int.toNat_natCast]); (repeat (first | rw [if_pos (by omega)] | rw [if_neg (by omega)] | rw [if_pos (by assumption)] | rw [if_neg (by assumption)] | rw [if_pos (True.intro : True)])); all_goals (first | rfl | (congr 2; omega) | (congr 1; congr 1; omega))))
              | (have tA : S.2.1 kA 0 = 1 := by omega
                 obtain ⟨rfl, rfl, rfl, rfl⟩ := eA7 tA
                 refine zQc.mk (by assumption) zFrm.rf ?_
                 unfold sp_ofCursor
                 (try simp only [Int.toNat_natCast])
                 (repeat (first | rw [if_pos (by omega)] | rw [if_neg (by omega)]))
                 split <;> rfl)
          · refine z_iret rfl rfl dCls_ofCursor_60 ?_
            first
              | (exfalso; omega)
              | exact zQc.mk (by assumption) zFrm.rf (by unfold sp_ofCursor; (try unfold spPut); (try simp only [Int.toNat_natCast]); (repeat (first | rw [if_pos (by omega)] | rw [if_neg (by omega)] | rw [if_pos (by assumption)] | rw [if_neg (by assumption)] | rw [if_pos (True.intro : True)])); all_goals (first | rfl | (congr 2; omega) | (congr 1; congr 1; omega)))
              | (have tA : S.2.1 kA 0 = 1 := by omega
                 obtain ⟨rfl, rfl, rfl, rfl⟩ := eA7 tA
                 exact zQc.mk (by assumption) zFrm.rf (by unfold sp_ofCursor; (try unfold spPut); (try simp only [Int.toNat_natCast]); (repeat (first | rw [if_pos (by omega)] | rw [if_neg (by omega)] | rw [if_pos (by assumption)] | rw [if_neg (by assumption)] | rw [if_pos (True.intro : True)])); all_goals (first | rfl | (congr 2; omega) | (congr 1; congr 1; omega))))
              | (have tA : S.2.1 kA 0 = 1 := by omega
                 obtain ⟨rfl, rfl, rfl, rfl⟩ := eA7 tA
                 refine zQc.mk (by assumption) zFrm.rf ?_
                 unfold sp_ofCursor
                 (try simp only [Int.toNat_natCast])
                 (repeat (first | rw [if_pos (by omega)] | rw [if_neg (by omega)]))
                 split <;> rfl)
        · refine z_iconst dCls_ofCursor_50 ?_
          refine z_goto (tgt := 60) dCls_ofCursor_51 (by decide) ?_
          refine z_iret rfl rfl dCls_ofCursor_60 ?_
          first
            | (exfalso; omega)
            | exact zQc.mk (by assumption) zFrm.rf (by unfold sp_ofCursor; (try unfold spPut); (try simp only [Int.toNat_natCast]); (repeat (first | rw [if_pos (by omega)] | rw [if_neg (by omega)] | rw [if_pos (by assumption)] | rw [if_neg (by assumption)] | rw [if_pos (True.intro : True)])); all_goals (first | rfl | (congr 2; omega) | (congr 1; congr 1; omega)))
            | (have tA : S.2.1 kA 0 = 1 := by omega
               obtain ⟨rfl, rfl, rfl, rfl⟩ := eA7 tA
               exact zQc.mk (by assumption) zFrm.rf (by unfold sp_ofCursor; (try unfold spPut); (try simp only [Int.toNat_natCast]); (repeat (first | rw [if_pos (by omega)] | rw [if_neg (by omega)] | rw [if_pos (by assumption)] | rw [if_neg (by assumption)] | rw [if_pos (True.intro : True)])); all_goals (first | rfl | (congr 2; omega) | (congr 1; congr 1; omega))))
            | (have tA : S.2.1 kA 0 = 1 := by omega
               obtain ⟨rfl, rfl, rfl, rfl⟩ := eA7 tA
               refine zQc.mk (by assumption) zFrm.rf ?_
               unfold sp_ofCursor
               (try simp only [Int.toNat_natCast])
               (repeat (first | rw [if_pos (by omega)] | rw [if_neg (by omega)]))
               split <;> rfl)
      · refine z_aload_n dCls_ofCursor_35 rfl ?_
        refine z_getN (k := 1) fd_Cur (by decide) fl_Cls_152 dCls_ofCursor_36 (by assumption) (by rfl) ?_
        refine z_callS MS_Cls_numberOf lk_Cls_192 dCls_ofCursor_39 (k_Cls_numberOf bA1) rfl rfl (Nat.le_of_ble_eq_true rfl)  (Nat.le_of_ble_eq_true rfl) (Nat.le_of_ble_eq_true rfl) (Nat.le_of_eq (Nat.zero_add _)) (Nat.le_of_eq (Nat.zero_add _)) (fun _ _ q => q.elim) ?_
        rintro _ _ ⟨rfl, rfl⟩
        have tA : S.2.1 kA 0 = 1 := by omega
        obtain ⟨rfl, rfl, rfl, rfl⟩ := eA7 tA
        refine z_iret rfl rfl dCls_ofCursor_42 ?_
        first
          | (exfalso; omega)
          | exact zQc.mk (by assumption) zFrm.rf (by unfold sp_ofCursor; (try unfold spPut); (try simp only [Int.toNat_natCast]); (repeat (first | rw [if_pos (by omega)] | rw [if_neg (by omega)] | rw [if_pos (by assumption)] | rw [if_neg (by assumption)] | rw [if_pos (True.intro : True)])); all_goals (first | rfl | (congr 2; omega) | (congr 1; congr 1; omega)))
          | (have tA : S.2.1 kA 0 = 1 := by omega
             obtain ⟨rfl, rfl, rfl, rfl⟩ := eA7 tA
             exact zQc.mk (by assumption) zFrm.rf (by unfold sp_ofCursor; (try unfold spPut); (try simp only [Int.toNat_natCast]); (repeat (first | rw [if_pos (by omega)] | rw [if_neg (by omega)] | rw [if_pos (by assumption)] | rw [if_neg (by assumption)] | rw [if_pos (True.intro : True)])); all_goals (first | rfl | (congr 2; omega) | (congr 1; congr 1; omega))))
          | (have tA : S.2.1 kA 0 = 1 := by omega
             obtain ⟨rfl, rfl, rfl, rfl⟩ := eA7 tA
             refine zQc.mk (by assumption) zFrm.rf ?_
             unfold sp_ofCursor
             (try simp only [Int.toNat_natCast])
             (repeat (first | rw [if_pos (by omega)] | rw [if_neg (by omega)]))
             split <;> rfl)
    · refine z_aload_n dCls_ofCursor_25 rfl ?_
      refine z_getN (k := 2) fd_Cur (by decide) fl_Cls_169 dCls_ofCursor_26 (by assumption) (by rfl) ?_
      refine z_iret rfl rfl dCls_ofCursor_29 ?_
      first
        | (exfalso; omega)
        | exact zQc.mk (by assumption) zFrm.rf (by unfold sp_ofCursor; (try unfold spPut); (try simp only [Int.toNat_natCast]); (repeat (first | rw [if_pos (by omega)] | rw [if_neg (by omega)] | rw [if_pos (by assumption)] | rw [if_neg (by assumption)] | rw [if_pos (True.intro : True)])); all_goals (first | rfl | (congr 2; omega) | (congr 1; congr 1; omega)))
        | (have tA : S.2.1 kA 0 = 1 := by omega
           obtain ⟨rfl, rfl, rfl, rfl⟩ := eA7 tA
           exact zQc.mk (by assumption) zFrm.rf (by unfold sp_ofCursor; (try unfold spPut); (try simp only [Int.toNat_natCast]); (repeat (first | rw [if_pos (by omega)] | rw [if_neg (by omega)] | rw [if_pos (by assumption)] | rw [if_neg (by assumption)] | rw [if_pos (True.intro : True)])); all_goals (first | rfl | (congr 2; omega) | (congr 1; congr 1; omega))))
        | (have tA : S.2.1 kA 0 = 1 := by omega
           obtain ⟨rfl, rfl, rfl, rfl⟩ := eA7 tA
           refine zQc.mk (by assumption) zFrm.rf ?_
           unfold sp_ofCursor
           (try simp only [Int.toNat_natCast])
           (repeat (first | rw [if_pos (by omega)] | rw [if_neg (by omega)]))
           split <;> rfl)
  · refine z_iconst dCls_ofCursor_19 ?_
    refine z_iret rfl rfl dCls_ofCursor_20 ?_
    first
      | (exfalso; omega)
      | exact zQc.mk (by assumption) zFrm.rf (by unfold sp_ofCursor; (try unfold spPut); (try simp only [Int.toNat_natCast]); (repeat (first | rw [if_pos (by omega)] | rw [if_neg (by omega)] | rw [if_pos (by assumption)] | rw [if_neg (by assumption)] | rw [if_pos (True.intro : True)])); all_goals (first | rfl | (congr 2; omega) | (congr 1; congr 1; omega)))
      | (have tA : S.2.1 kA 0 = 1 := by omega
         obtain ⟨rfl, rfl, rfl, rfl⟩ := eA7 tA
         exact zQc.mk (by assumption) zFrm.rf (by unfold sp_ofCursor; (try unfold spPut); (try simp only [Int.toNat_natCast]); (repeat (first | rw [if_pos (by omega)] | rw [if_neg (by omega)] | rw [if_pos (by assumption)] | rw [if_neg (by assumption)] | rw [if_pos (True.intro : True)])); all_goals (first | rfl | (congr 2; omega) | (congr 1; congr 1; omega))))
      | (have tA : S.2.1 kA 0 = 1 := by omega
         obtain ⟨rfl, rfl, rfl, rfl⟩ := eA7 tA
         refine zQc.mk (by assumption) zFrm.rf ?_
         unfold sp_ofCursor
         (try simp only [Int.toNat_natCast])
         (repeat (first | rw [if_pos (by omega)] | rw [if_neg (by omega)]))
         split <;> rfl)
theorem k_Cls_knock  (hC : zCls G h ad S)  : zM G l hCls_knock yCls_knock 9 [.ref (ad 0)] h (zQc G ad h (sp_knock S)) (zXc G ad h (sp_knock S)) 6 36 := by
  obtain ⟨c1, c2, ⟨g3, c3, d3⟩, ⟨g4, c4, d4⟩, c5, ⟨T6, c6, d6⟩, c7, c8, ⟨R9, c9⟩, c10⟩ := id hC
  obtain ⟨f16, e16, -⟩ := id c9
  refine zM.of [some (.ref (ad 0))] (by decide +kernel) rfl (by decide) rfl (Nat.le_of_ble_eq_true rfl) rfl ?_
  refine z_aload_n dCls_knock_0 rfl ?_
  refine z_dup rfl dCls_knock_1 ?_
  refine z_get (k := 5) fd_Cls (by decide) fl_Cls_262 dCls_knock_2 (by assumption) (by rfl) ?_
  refine z_iconst dCls_knock_5 ?_
  refine z_iadd dCls_knock_6 ?_
  refine z_put (k := 5) fd_Cls (by decide) fl_Cls_262 rfl dCls_knock_7 (by assumption) (by simp) rfl rfl ?_
  refine z_hx (fun h1 p1 f1 => ?_)
  have hC1 := hC.obj (h' := h1) p1 f1
  have fz1 : zFrm ad h h1 := zFrm.of1 (i := 0) (by omega) f1
  refine z_aload_n dCls_knock_10 rfl ?_
  refine z_get (k := 5) fd_Cls (by decide) fl_Cls_262 dCls_knock_11 (by assumption) (by rfl) ?_
  refine z_iret rfl rfl dCls_knock_14 ?_
  refine zQc.mk hC1 fz1 ?_
  unfold sp_knock zsN
  refine congrArg (fun x => (Sum.inl (S.2.2.2.2 2 + 1), (S.1, S.2.1, S.2.2.1, S.2.2.2.1, x))) ?_
  funext j
  show zup S.2.2.2.2 2 (S.2.2.2.2 2 + 1) j = zup (zup S.2.2.2.2 1 (S.2.2.2.2 1)) 2 (S.2.2.2.2 2 + 1) j
  unfold zup
  by_cases e1 : j = 2
  · rw [if_pos e1, if_pos e1]
  · rw [if_neg e1, if_neg e1]
    by_cases e2 : j = 1
    · rw [if_pos e2, e2]
    · rw [if_neg e2]
end CLS8
