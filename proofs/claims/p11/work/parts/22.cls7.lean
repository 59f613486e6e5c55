section SPEC7
def zCv (th st li ix la : Int) : Nat → Int
  | 0 => th
  | 1 => st
  | 2 => li
  | 3 => ix
  | _ => la
/-- what holds of every state that is reached -/
def zOk (S : zSt) : Prop := (∀ c, c < 3 → S.2.1 c 0 = 1 → (0 ≤ S.2.1 c 2 ∧ S.2.1 c 2 < 4) ∧ (0 ≤ S.2.1 c 3 ∧ S.2.1 c 3 ≤ 16) ∧ (-1 ≤ S.2.1 c 4 ∧ S.2.1 c 4 ≤ 15) ∧ (S.2.1 c 1 = 0 → S.2.1 c 3 ≤ (S.1 (S.2.1 c 2).toNat).length ∧ S.2.1 c 4 < (S.1 (S.2.1 c 2).toNat).length)) ∧
  (∀ key : Int, 0 ≤ key → key < 8 → 0 ≤ zFind S.2.2.1 key 0) ∧ S.2.2.1.length = 8 ∧ S.2.2.2.1.length ≤ 60 ∧ 0 ≤ S.2.2.2.2 0 ∧ S.2.2.2.2 0 ≤ 8 * (S.2.2.2.1.length : Int)
def sp_open (S : zSt) (c p q : Int) : zRes := if 0 ≤ c ∧ c < 3 then (if 0 ≤ p ∧ p < 4 then (if 0 ≤ q ∧ q ≤ ((S.1 p.toNat).length : Int) then (.inl ((S.1 p.toNat).length - q), zsC S (zup S.2.1 c.toNat (zCv 1 0 p q (-1)))) else (.inr zE1, S)) else (.inr zE1, S)) else (.inr zE1, S)
def sp_shut (S : zSt) (c : Int) : zRes := if 0 ≤ c ∧ c < 3 then (.inl (S.2.1 c.toNat 0), zsC S (zup S.2.1 c.toNat (zCv 0 0 0 0 0))) else (.inr zE1, S)
def sp_forth (S : zSt) (c : Int) : zRes := if 0 ≤ c ∧ c < 3 then (if S.2.1 c.toNat 0 = 1 then (if S.2.1 c.toNat 1 ≠ 0 then spRef S else if 0 ≤ S.2.1 c.toNat 3 ∧ S.2.1 c.toNat 3 < ((S.1 (S.2.1 c.toNat 2).toNat).length : Int) then (.inl (zAt (S.1 (S.2.1 c.toNat 2).toNat) (S.2.1 c.toNat 3)), zsC S (zup S.2.1 c.toNat (zCv (S.2.1 c.toNat 0) (S.2.1 c.toNat 1) (S.2.1 c.toNat 2) (S.2.1 c.toNat 3 + 1) (S.2.1 c.toNat 3)))) else (.inl 10000, S)) else (.inr zE3, S)) else (.inr zE1, S)
def sp_back (S : zSt) (c : Int) : zRes := if 0 ≤ c ∧ c < 3 then (if S.2.1 c.toNat 0 = 1 then (if S.2.1 c.toNat 1 ≠ 0 then spRef S else if 0 ≤ S.2.1 c.toNat 3 - 1 ∧ S.2.1 c.toNat 3 - 1 < ((S.1 (S.2.1 c.toNat 2).toNat).length : Int) then (.inl (zAt (S.1 (S.2.1 c.toNat 2).toNat) (S.2.1 c.toNat 3 - 1)), zsC S (zup S.2.1 c.toNat (zCv (S.2.1 c.toNat 0) (S.2.1 c.toNat 1) (S.2.1 c.toNat 2) (S.2.1 c.toNat 3 - 1) (S.2.1 c.toNat 3 - 1)))) else (.inl 10000, S)) else (.inr zE3, S)) else (.inr zE1, S)
def sp_puts (S : zSt) (c x : Int) : zRes := if 0 ≤ c ∧ c < 3 then (if zIn x then (if S.2.1 c.toNat 0 = 1 then (if S.2.1 c.toNat 1 ≠ 0 then spRef S else if (S.1 (S.2.1 c.toNat 2).toNat).length < 16 ∧ 0 ≤ S.2.1 c.toNat 3 ∧ S.2.1 c.toNat 3 ≤ ((S.1 (S.2.1 c.toNat 2).toNat).length : Int) then (.inl (S.2.1 c.toNat 3 + 1), zsStale (zsC (zsL S (S.2.1 c.toNat 2).toNat (zIns (S.1 (S.2.1 c.toNat 2).toNat) (S.2.1 c.toNat 3) x)) (zup S.2.1 c.toNat (zCv (S.2.1 c.toNat 0) (S.2.1 c.toNat 1) (S.2.1 c.toNat 2) (S.2.1 c.toNat 3 + 1) (-1)))) (S.2.1 c.toNat 2) c) else spRef S) else (.inr zE3, S)) else (.inr zE2, S)) else (.inr zE1, S)
def sp_cuts (S : zSt) (c : Int) : zRes := if 0 ≤ c ∧ c < 3 then (if S.2.1 c.toNat 0 = 1 then (if S.2.1 c.toNat 1 ≠ 0 then spRef S else if S.2.1 c.toNat 4 = -1 then spRef S else (.inl (if S.2.1 c.toNat 4 < S.2.1 c.toNat 3 then S.2.1 c.toNat 3 - 1 else S.2.1 c.toNat 3), zsStale (zsC (zsL S (S.2.1 c.toNat 2).toNat (zDel (S.1 (S.2.1 c.toNat 2).toNat) (S.2.1 c.toNat 4))) (zup S.2.1 c.toNat (zCv (S.2.1 c.toNat 0) (S.2.1 c.toNat 1) (S.2.1 c.toNat 2) (if S.2.1 c.toNat 4 < S.2.1 c.toNat 3 then S.2.1 c.toNat 3 - 1 else S.2.1 c.toNat 3) (-1)))) (S.2.1 c.toNat 2) c)) else (.inr zE3, S)) else (.inr zE1, S)
def sp_changes (S : zSt) (c x : Int) : zRes := if 0 ≤ c ∧ c < 3 then (if zIn x then (if S.2.1 c.toNat 0 = 1 then (if S.2.1 c.toNat 1 ≠ 0 then spRef S else if S.2.1 c.toNat 4 = -1 then spRef S else (.inl (S.2.1 c.toNat 3), zsL S (S.2.1 c.toNat 2).toNat (zSet (S.1 (S.2.1 c.toNat 2).toNat) (S.2.1 c.toNat 4) x))) else (.inr zE3, S)) else (.inr zE2, S)) else (.inr zE1, S)
end SPEC7
section CLS7
variable {G : zG} {l : Launch} {h h' : zHp} {ad : Nat → Nat} {S : zSt}
theorem zCls.cu {c : Nat} {th st li ix la : Int} (hC : zCls G h ad S) (hc : c < 3) (p1 : zCe h' (ad (5 + c)) th st li ix la) (h0 : th = 0 ∨ th = 1) (h1 : st = 0 ∨ st = 1) (h2 : zI32 li) (h3 : zI32 ix) (h4 : zI32 la) (hf : ∀ q, q ≠ ad (5 + c) → h' q = h q) : zCls G h' ad (zsC S (zup S.2.1 c (zCv th st li ix la))) := by
  refine hC.cur hc ⟨st, li, ix, la, ?_, ?_, h1, h2, h3, h4, fun _ => ?_⟩ (fun j hj => zup_ne hj) hf
  · rw [zup_same]; exact p1
  · rw [zup_same]; exact h0
  · rw [zup_same]; exact ⟨rfl, rfl, rfl, rfl⟩
theorem zCls.cu0 {c : Nat} {st li ix la : Int} (hC : zCls G h ad S) (hc : c < 3) (p1 : zCe h' (ad (5 + c)) 0 st li ix la) (h1 : st = 0 ∨ st = 1) (h2 : zI32 li) (h3 : zI32 ix) (h4 : zI32 la) (hf : ∀ q, q ≠ ad (5 + c) → h' q = h q) : zCls G h' ad (zsC S (zup S.2.1 c (zCv 0 0 0 0 0))) := by
  refine hC.cur hc ⟨st, li, ix, la, ?_, ?_, h1, h2, h3, h4, fun e => ?_⟩ (fun j hj => zup_ne hj) hf
  · rw [zup_same]; exact p1
  · rw [zup_same]; exact Or.inl rfl
  · rw [zup_same] at e; exact absurd e (by decide)
theorem zCls.rowcu {k c : Nat} {L : List Int} {th st li ix la : Int} (hC : zCls G h ad S) (hk : k < 4) (hc : c < 3) (hr : zRow G h' (ad (8 + 2 * k)) (ad (9 + 2 * k)) L) (p1 : zCe h' (ad (5 + c)) th st li ix la) (h0 : th = 0 ∨ th = 1) (h1 : st = 0 ∨ st = 1) (h2 : zI32 li) (h3 : zI32 ix) (h4 : zI32 la) (hf : ∀ q, q ≠ ad (5 + c) → q ≠ ad (8 + 2 * k) → q ≠ ad (9 + 2 * k) → h' q = h q) : zCls G h' ad (zsC (zsL S k L) (zup S.2.1 c (zCv th st li ix la))) := by
  have hm : zCls G (zup h' (ad (5 + c)) (h (ad (5 + c)))) ad (zsL S k L) := hC.row hk (hr.kept (zup_ne (hC.inj (by omega) (by omega) (by omega))) (zup_ne (hC.inj (by omega) (by omega) (by omega)))) (fun q a b => by
    by_cases e : q = ad (5 + c)
    · subst e; exact zup_same _ _ _
    · exact (zup_ne e).trans (hf q e a b))
  exact hm.cu hc p1 h0 h1 h2 h3 h4 (fun q hq => (zup_ne hq).symm)
theorem zsSt_but {i : Int} {k : Nat} : (zsStale S i k).2.1 k = S.2.1 k := by
  funext f
  show (if k < 3 ∧ _ then _ else _) = _
  rw [if_neg (fun q => q.2.2.2.2 rfl)]
theorem zsC_at {cu : Nat → Int} {k : Nat} {f : Nat → Nat → Int} : (zsC S (zup f k cu)).2.1 k = cu := zup_same _ _ _
theorem k_Cls_open {c p q : Int}  (hC : zCls G h ad S) (z_c : zI32 c) (z_p : zI32 p) (z_q : zI32 q) : zM G l hCls_open yCls_open 9 [.ref (ad 0), zi c, zi p, zi q] h (zQc G ad h (sp_open S c p q)) (zXc G ad h (sp_open S c p q)) 6 36 := by
  obtain ⟨c1, c2, ⟨g3, c3, d3⟩, ⟨g4, c4, d4⟩, c5, ⟨T6, c6, d6⟩, c7, c8, ⟨R9, c9⟩, c10⟩ := id hC
  obtain ⟨f16, e16, -⟩ := id c9
  refine zM.of [some (.ref (ad 0)), some (zi c), some (zi p), some (zi q), none, none] (by decide +kernel) rfl (by decide) rfl (Nat.le_of_ble_eq_true rfl) rfl ?_
  refine z_aload_n dCls_open_0 rfl ?_
  refine z_iload_n dCls_open_1 rfl ?_
  refine z_callV (bc' := 5) (bs' := 30) MV_Cls_cursorAt lk_Cls_137 dCls_open_2 (k_Cls_cursorAt (by assumption) (by omega)) rfl rfl (Nat.le_of_ble_eq_true rfl) rfl (by assumption) (Nat.le_of_ble_eq_true rfl) (Nat.le_of_ble_eq_true rfl) (by decide) (by decide) (fun E h9 q9 => z_out rfl (by obtain ⟨rfl, q1, rfl⟩ := q9; exact zXc.mk (by assumption) (by first | exact zFrm.rf | assumption) (by unfold sp_open; (try unfold spPut); (try simp only [Int.toNat_natCast]); (repeat (first | rw [if_pos (by omega)] | rw [if_neg (by omega)] | rw [if_pos (by assumption)] | rw [if_neg (by assumption)] | rw [if_pos (True.intro : True)])); all_goals (first | rfl | (congr 2; omega) | (congr 1; congr 1; omega))))) ?_
  rintro _ _ ⟨rfl, aA1, aA2, rfl⟩
  obtain ⟨kA, rfl⟩ := Int.eq_ofNat_of_zero_le aA1
  simp only [Int.toNat_natCast]
  have hkA : kA < 3 := by omega
  have hcA := hC.cs hkA
  obtain ⟨stA, liA, ixA, laA, eA, bA0, bA1, iA2, iA3, iA4, eA7⟩ := id hcA
  refine z_astore dCls_open_5 (Nat.le_of_ble_eq_true rfl) ?_
  refine z_aload_n dCls_open_7 rfl ?_
  refine z_iload_n dCls_open_8 rfl ?_
  refine z_callV (bc' := 4) (bs' := 24) MV_Cls_listAt lk_Cls_34 dCls_open_9 (k_Cls_listAt (by assumption) (by omega)) rfl rfl (Nat.le_of_ble_eq_true rfl) rfl (by assumption) (Nat.le_of_ble_eq_true rfl) (Nat.le_of_ble_eq_true rfl) (by decide) (by decide) (fun E h9 q9 => z_out rfl (by obtain ⟨rfl, q1, rfl⟩ := q9; exact zXc.mk (by assumption) (by first | exact zFrm.rf | assumption) (by unfold sp_open; (try unfold spPut); (try simp only [Int.toNat_natCast]); (repeat (first | rw [if_pos (by omega)] | rw [if_neg (by omega)] | rw [if_pos (by assumption)] | rw [if_neg (by assumption)] | rw [if_pos (True.intro : True)])); all_goals (first | rfl | (congr 2; omega) | (congr 1; congr 1; omega))))) ?_
  rintro _ _ ⟨rfl, aB1, aB2, rfl⟩
  obtain ⟨kB, rfl⟩ := Int.eq_ofNat_of_zero_le aB1
  simp only [Int.toNat_natCast]
  have hkB : kB < 4 := by omega
  have hrB := hC.ls hkB
  obtain ⟨fB, eB, -⟩ := id hrB
  have hlB := hrB.len
  refine z_astore dCls_open_12 (Nat.le_of_ble_eq_true rfl) ?_
  refine z_aload dCls_open_14 rfl ?_
  refine z_iload_n dCls_open_16 rfl ?_
  refine z_callS (bc' := 3) (bs' := 18) MS_Cls_demandGap lk_Cls_81 dCls_open_17 (k_Cls_demandGap hrB (by omega)) rfl rfl (Nat.le_of_ble_eq_true rfl)  (Nat.le_of_ble_eq_true rfl) (Nat.le_of_ble_eq_true rfl) (by decide) (by decide) (fun E h9 q9 => z_out rfl (by obtain ⟨rfl, q1, rfl⟩ := q9; exact zXc.mk (by assumption) (by first | exact zFrm.rf | assumption) (by unfold sp_open; (try unfold spPut); (try simp only [Int.toNat_natCast]); (repeat (first | rw [if_pos (by omega)] | rw [if_neg (by omega)] | rw [if_pos (by assumption)] | rw [if_neg (by assumption)] | rw [if_pos (True.intro : True)])); all_goals (first | rfl | (congr 2; omega) | (congr 1; congr 1; omega))))) ?_
  rintro _ _ ⟨rfl, v1, v2, rfl⟩
  refine z_aload dCls_open_20 rfl ?_
  refine z_iload_n dCls_open_22 rfl ?_
  refine z_iload_n dCls_open_23 rfl ?_
  refine z_callVN MV_Cur_begin lk_Cls_141 dCls_open_24 (k_Cur_begin (show zCe _ _ _ _ _ _ _ from eA)) rfl rfl (Nat.le_of_ble_eq_true rfl) rfl (by assumption) (Nat.le_of_ble_eq_true rfl) (Nat.le_of_ble_eq_true rfl) (Nat.le_of_eq (Nat.zero_add _)) (Nat.le_of_eq (Nat.zero_add _)) (fun _ _ q => q.elim) ?_
  rintro _ h1 ⟨rfl, p1, f1⟩
  have hC1 := hC.cu hkA p1 (Or.inr rfl) (Or.inl rfl) (by omega) (by omega) (by omega) f1
  obtain ⟨-, d1, -⟩ := id hC1
  have fz1 : zFrm ad h h1 := zFrm.of1 (i := 5 + kA) (by omega) f1
  have eB1 := (f1 _ (hC.inj (i := 8 + 2 * kB) (j := 5 + kA) (by omega) (by omega) (by omega))).trans eB
  refine z_aload dCls_open_27 rfl ?_
  refine z_getN (k := 1) fd_Row (by decide) fl_Cls_46 dCls_open_29 (by assumption) (by rfl) ?_
  refine z_iload_n dCls_open_32 rfl ?_
  refine z_isub dCls_open_33 ?_
  refine z_iret rfl rfl dCls_open_34 ?_
  first
    | (exfalso; omega)
    | exact zQc.mk (by assumption) (by first | exact zFrm.rf | assumption) (by unfold sp_open; (try unfold spPut); (try simp only [Int.toNat_natCast]); (repeat (first | rw [if_pos (by omega)] | rw [if_neg (by omega)] | rw [if_pos (by assumption)] | rw [if_neg (by assumption)] | rw [if_pos (True.intro : True)])); all_goals (first | rfl | (congr 2; omega) | (congr 1; congr 1; omega)))
theorem k_Cls_shut {c : Int}  (hC : zCls G h ad S) (z_c : zI32 c) : zM G l hCls_shut yCls_shut 9 [.ref (ad 0), zi c] h (zQc G ad h (sp_shut S c)) (zXc G ad h (sp_shut S c)) 6 36 := by
  obtain ⟨c1, c2, ⟨g3, c3, d3⟩, ⟨g4, c4, d4⟩, c5, ⟨T6, c6, d6⟩, c7, c8, ⟨R9, c9⟩, c10⟩ := id hC
  obtain ⟨f16, e16, -⟩ := id c9
  refine zM.of [some (.ref (ad 0)), some (zi c), none, none] (by decide +kernel) rfl (by decide) rfl (Nat.le_of_ble_eq_true rfl) rfl ?_
  refine z_aload_n dCls_shut_0 rfl ?_
  refine z_iload_n dCls_shut_1 rfl ?_
  refine z_callV (bc' := 5) (bs' := 30) MV_Cls_cursorAt lk_Cls_137 dCls_shut_2 (k_Cls_cursorAt (by assumption) (by omega)) rfl rfl (Nat.le_of_ble_eq_true rfl) rfl (by assumption) (Nat.le_of_ble_eq_true rfl) (Nat.le_of_ble_eq_true rfl) (by decide) (by decide) (fun E h9 q9 => z_out rfl (by obtain ⟨rfl, q1, rfl⟩ := q9; exact zXc.mk (by assumption) (by first | exact zFrm.rf | assumption) (by unfold sp_shut; (try unfold spPut); (try simp only [Int.toNat_natCast]); (repeat (first | rw [if_pos (by omega)] | rw [if_neg (by omega)] | rw [if_pos (by assumption)] | rw [if_neg (by assumption)] | rw [if_pos (True.intro : True)])); all_goals (first | rfl | (congr 2; omega) | (congr 1; congr 1; omega))))) ?_
  rintro _ _ ⟨rfl, aA1, aA2, rfl⟩
  obtain ⟨kA, rfl⟩ := Int.eq_ofNat_of_zero_le aA1
  simp only [Int.toNat_natCast]
  have hkA : kA < 3 := by omega
  have hcA := hC.cs hkA
  obtain ⟨stA, liA, ixA, laA, eA, bA0, bA1, iA2, iA3, iA4, eA7⟩ := id hcA
  refine z_astore_n dCls_shut_5 (Nat.le_of_ble_eq_true rfl) ?_
  refine z_aload_n dCls_shut_6 rfl ?_
  refine z_getN (k := 0) fd_Cur (by decide) fl_Cls_144 dCls_shut_7 (by assumption) (by rfl) ?_
  refine z_istore_n dCls_shut_10 (Nat.le_of_ble_eq_true rfl) ?_
  refine z_aload_n dCls_shut_11 rfl ?_
  refine z_iconst dCls_shut_12 ?_
  refine z_putN (k := 0) fd_Cur (by decide) fl_Cls_144 rfl dCls_shut_13 (by assumption) (by simp) rfl rfl ?_
  refine z_hx (fun h1 p1 f1 => ?_)
  have hC1 := hC.cu0 hkA (show zCe _ _ _ _ _ _ _ from p1) bA1 (by omega) (by omega) (by omega) f1
  have fz1 : zFrm ad h h1 := zFrm.of1 (i := 5 + kA) (by omega) f1
  refine z_iload_n dCls_shut_16 rfl ?_
  refine z_iret rfl (by rcases bA0 with e9 | e9 <;> rw [e9] <;> rfl) dCls_shut_17 ?_
  first
    | (exfalso; omega)
    | exact zQc.mk (by assumption) (by first | exact zFrm.rf | assumption) (by unfold sp_shut; (try unfold spPut); (try simp only [Int.toNat_natCast]); (repeat (first | rw [if_pos (by omega)] | rw [if_neg (by omega)] | rw [if_pos (by assumption)] | rw [if_neg (by assumption)] | rw [if_pos (True.intro : True)])); all_goals (first | rfl | (congr 2; omega) | (congr 1; congr 1; omega)))
theorem k_Cls_forth {c : Int} (hO : zOk S) (hC : zCls G h ad S) (z_c : zI32 c) : zM G l hCls_forth yCls_forth 9 [.ref (ad 0), zi c] h (zQc G ad h (sp_forth S c)) (zXc G ad h (sp_forth S c)) 6 36 := by
  obtain ⟨c1, c2, ⟨g3, c3, d3⟩, ⟨g4, c4, d4⟩, c5, ⟨T6, c6, d6⟩, c7, c8, ⟨R9, c9⟩, c10⟩ := id hC
  obtain ⟨f16, e16, -⟩ := id c9
  refine zM.of [some (.ref (ad 0)), some (zi c), none] (by decide +kernel) rfl (by decide) rfl (Nat.le_of_ble_eq_true rfl) rfl ?_
  refine z_aload_n dCls_forth_0 rfl ?_
  refine z_iload_n dCls_forth_1 rfl ?_
  refine z_callV (bc' := 5) (bs' := 30) MV_Cls_cursorAt lk_Cls_137 dCls_forth_2 (k_Cls_cursorAt (by assumption) (by omega)) rfl rfl (Nat.le_of_ble_eq_true rfl) rfl (by assumption) (Nat.le_of_ble_eq_true rfl) (Nat.le_of_ble_eq_true rfl) (by decide) (by decide) (fun E h9 q9 => z_out rfl (by obtain ⟨rfl, q1, rfl⟩ := q9; exact zXc.mk (by assumption) (by first | exact zFrm.rf | assumption) (by unfold sp_forth; (try unfold spPut); (try simp only [Int.toNat_natCast]); (repeat (first | rw [if_pos (by omega)] | rw [if_neg (by omega)] | rw [if_pos (by assumption)] | rw [if_neg (by assumption)] | rw [if_pos (True.intro : True)])); all_goals (first | rfl | (congr 2; omega) | (congr 1; congr 1; omega))))) ?_
  rintro _ _ ⟨rfl, aA1, aA2, rfl⟩
  obtain ⟨kA, rfl⟩ := Int.eq_ofNat_of_zero_le aA1
  simp only [Int.toNat_natCast]
  have hkA : kA < 3 := by omega
  have hcA := hC.cs hkA
  obtain ⟨stA, liA, ixA, laA, eA, bA0, bA1, iA2, iA3, iA4, eA7⟩ := id hcA
  refine z_astore_n dCls_forth_5 (Nat.le_of_ble_eq_true rfl) ?_
  refine z_aload_n dCls_forth_6 rfl ?_
  refine z_callS (bc' := 4) (bs' := 24) MS_Cls_demandThere lk_Cls_148 dCls_forth_7 (k_Cls_demandThere hcA) rfl rfl (Nat.le_of_ble_eq_true rfl)  (Nat.le_of_ble_eq_true rfl) (Nat.le_of_ble_eq_true rfl) (by decide) (by decide) (fun E h9 q9 => z_out rfl (by obtain ⟨rfl, q1, rfl⟩ := q9; exact zXc.mk (by assumption) (by first | exact zFrm.rf | assumption) (by unfold sp_forth; (try unfold spPut); (try simp only [Int.toNat_natCast]); (repeat (first | rw [if_pos (by omega)] | rw [if_neg (by omega)] | rw [if_pos (by assumption)] | rw [if_neg (by assumption)] | rw [if_pos (True.intro : True)])); all_goals (first | rfl | (congr 2; omega) | (congr 1; congr 1; omega))))) ?_
  rintro _ _ ⟨rfl, tA, rfl⟩
  obtain ⟨rfl, rfl, rfl, rfl⟩ := eA7 tA
  obtain ⟨oA2, oA3, oA4, oA5⟩ := hO.1 kA hkA tA
  refine z_aload_n dCls_forth_10 rfl ?_
  refine z_getN (k := 1) fd_Cur (by decide) fl_Cls_152 dCls_forth_11 (by assumption) (by rfl) ?_
  refine z_if_eq (tgt := 24) dCls_forth_14 (by decide) (by omega) (fun c14 => ?_) (fun c14 => ?_)
  · refine z_aload_n dCls_forth_24 rfl ?_
    refine z_aload_n dCls_forth_25 rfl ?_
    refine z_aload_n dCls_forth_26 rfl ?_
    refine z_callV (bc' := 3) (bs' := 18) MV_Cls_rowUnder lk_Cls_155 dCls_forth_27 (k_Cls_rowUnder (c := 0) (by assumption) hcA tA (by omega)) rfl rfl (Nat.le_of_ble_eq_true rfl) rfl (by assumption) (Nat.le_of_ble_eq_true rfl) (Nat.le_of_ble_eq_true rfl) (by decide) (by decide) (fun _ _ q => q.elim) ?_
    rintro _ _ ⟨rfl, rfl⟩
    have hkU : (S.2.1 kA 2).toNat < 4 := by omega
    have hrU := hC.ls hkU
    obtain ⟨fU, eU, -⟩ := id hrU
    have hlU := hrU.len
    refine z_callVN MV_Cur_stepForth lk_Cls_159 dCls_forth_30 (k_Cur_stepForth (show zCe _ _ _ _ _ _ _ from eA) hrU (hC.inj (by omega) (by omega) (by omega)) (hC.inj (by omega) (by omega) (by omega)) (by omega)) rfl rfl (Nat.le_of_ble_eq_true rfl) rfl (by assumption) (Nat.le_of_ble_eq_true rfl) (Nat.le_of_ble_eq_true rfl) (Nat.le_of_eq (Nat.zero_add _)) (Nat.le_of_eq (Nat.zero_add _)) (fun _ _ q => q.elim) ?_
    rintro _ h1 ⟨(⟨rfl, m1, p1⟩ | ⟨rfl, m1, rfl⟩), f1⟩
    · have hC1 := hC.cu hkA p1 bA0 bA1 (by omega) (by omega) (by omega) f1
      obtain ⟨-, d1, -⟩ := id hC1
      have fz1 : zFrm ad h h1 := zFrm.of1 (i := 5 + kA) (by omega) f1
      refine z_iret rfl rfl dCls_forth_33 ?_
      first
        | (exfalso; omega)
        | exact zQc.mk (by assumption) (by first | exact zFrm.rf | assumption) (by unfold sp_forth; (try unfold spPut); (try simp only [Int.toNat_natCast]); (repeat (first | rw [if_pos (by omega)] | rw [if_neg (by omega)] | rw [if_pos (by assumption)] | rw [if_neg (by assumption)] | rw [if_pos (True.intro : True)])); all_goals (first | rfl | (congr 2; omega) | (congr 1; congr 1; omega)))
    · refine z_iret rfl rfl dCls_forth_33 ?_
      first
        | (exfalso; omega)
        | exact zQc.mk (by assumption) (by first | exact zFrm.rf | assumption) (by unfold sp_forth; (try unfold spPut); (try simp only [Int.toNat_natCast]); (repeat (first | rw [if_pos (by omega)] | rw [if_neg (by omega)] | rw [if_pos (by assumption)] | rw [if_neg (by assumption)] | rw [if_pos (True.intro : True)])); all_goals (first | rfl | (congr 2; omega) | (congr 1; congr 1; omega)))
  · refine z_aload_n dCls_forth_17 rfl ?_
    refine z_callV MV_Cls_refuse lk_Cls_54 dCls_forth_18 (k_Cls_refuse (by assumption)) rfl rfl (Nat.le_of_ble_eq_true rfl) rfl (by assumption) (Nat.le_of_ble_eq_true rfl) (Nat.le_of_ble_eq_true rfl) (Nat.le_of_eq (Nat.zero_add _)) (Nat.le_of_eq (Nat.zero_add _)) (fun _ _ q => q.elim) ?_
    rintro _ h9 ⟨rfl, hC9, fz9⟩
    refine z_goto (tgt := 33) dCls_forth_21 (by decide) ?_
    refine z_iret rfl rfl dCls_forth_33 ?_
    first
      | (exfalso; omega)
      | exact zQc.mk (by assumption) (by first | exact zFrm.rf | assumption) (by unfold sp_forth; (try unfold spPut); (try simp only [Int.toNat_natCast]); (repeat (first | rw [if_pos (by omega)] | rw [if_neg (by omega)] | rw [if_pos (by assumption)] | rw [if_neg (by assumption)] | rw [if_pos (True.intro : True)])); all_goals (first | rfl | (congr 2; omega) | (congr 1; congr 1; omega)))
theorem k_Cls_back {c : Int} (hO : zOk S) (hC : zCls G h ad S) (z_c : zI32 c) : zM G l hCls_back yCls_back 9 [.ref (ad 0), zi c] h (zQc G ad h (sp_back S c)) (zXc G ad h (sp_back S c)) 6 36 := by
  obtain ⟨c1, c2, ⟨g3, c3, d3⟩, ⟨g4, c4, d4⟩, c5, ⟨T6, c6, d6⟩, c7, c8, ⟨R9, c9⟩, c10⟩ := id hC
  obtain ⟨f16, e16, -⟩ := id c9
  refine zM.of [some (.ref (ad 0)), some (zi c), none] (by decide +kernel) rfl (by decide) rfl (Nat.le_of_ble_eq_true rfl) rfl ?_
  refine z_aload_n dCls_back_0 rfl ?_
  refine z_iload_n dCls_back_1 rfl ?_
  refine z_callV (bc' := 5) (bs' := 30) MV_Cls_cursorAt lk_Cls_137 dCls_back_2 (k_Cls_cursorAt (by assumption) (by omega)) rfl rfl (Nat.le_of_ble_eq_true rfl) rfl (by assumption) (Nat.le_of_ble_eq_true rfl) (Nat.le_of_ble_eq_true rfl) (by decide) (by decide) (fun E h9 q9 => z_out rfl (by obtain ⟨rfl, q1, rfl⟩ := q9; exact zXc.mk (by assumption) (by first | exact zFrm.rf | assumption) (by unfold sp_back; (try unfold spPut); (try simp only [Int.toNat_natCast]); (repeat (first | rw [if_pos (by omega)] | rw [if_neg (by omega)] | rw [if_pos (by assumption)] | rw [if_neg (by assumption)] | rw [if_pos (True.intro : True)])); all_goals (first | rfl | (congr 2; omega) | (congr 1; congr 1; omega))))) ?_
  rintro _ _ ⟨rfl, aA1, aA2, rfl⟩
  obtain ⟨kA, rfl⟩ := Int.eq_ofNat_of_zero_le aA1
  simp only [Int.toNat_natCast]
  have hkA : kA < 3 := by omega
  have hcA := hC.cs hkA
  obtain ⟨stA, liA, ixA, laA, eA, bA0, bA1, iA2, iA3, iA4, eA7⟩ := id hcA
  refine z_astore_n dCls_back_5 (Nat.le_of_ble_eq_true rfl) ?_
  refine z_aload_n dCls_back_6 rfl ?_
  refine z_callS (bc' := 4) (bs' := 24) MS_Cls_demandThere lk_Cls_148 dCls_back_7 (k_Cls_demandThere hcA) rfl rfl (Nat.le_of_ble_eq_true rfl)  (Nat.le_of_ble_eq_true rfl) (Nat.le_of_ble_eq_true rfl) (by decide) (by decide) (fun E h9 q9 => z_out rfl (by obtain ⟨rfl, q1, rfl⟩ := q9; exact zXc.mk (by assumption) (by first | exact zFrm.rf | assumption) (by unfold sp_back; (try unfold spPut); (try simp only [Int.toNat_natCast]); (repeat (first | rw [if_pos (by omega)] | rw [if_neg (by omega)] | rw [if_pos (by assumption)] | rw [if_neg (by assumption)] | rw [if_pos (True.intro : True)])); all_goals (first | rfl | (congr 2; omega) | (congr 1; congr 1; omega))))) ?_
  rintro _ _ ⟨rfl, tA, rfl⟩
  obtain ⟨rfl, rfl, rfl, rfl⟩ := eA7 tA
  obtain ⟨oA2, oA3, oA4, oA5⟩ := hO.1 kA hkA tA
  refine z_aload_n dCls_back_10 rfl ?_
  refine z_getN (k := 1) fd_Cur (by decide) fl_Cls_152 dCls_back_11 (by assumption) (by rfl) ?_
  refine z_if_eq (tgt := 24) dCls_back_14 (by decide) (by omega) (fun c14 => ?_) (fun c14 => ?_)
  · refine z_aload_n dCls_back_24 rfl ?_
    refine z_aload_n dCls_back_25 rfl ?_
    refine z_aload_n dCls_back_26 rfl ?_
    refine z_callV (bc' := 3) (bs' := 18) MV_Cls_rowUnder lk_Cls_155 dCls_back_27 (k_Cls_rowUnder (c := 0) (by assumption) hcA tA (by omega)) rfl rfl (Nat.le_of_ble_eq_true rfl) rfl (by assumption) (Nat.le_of_ble_eq_true rfl) (Nat.le_of_ble_eq_true rfl) (by decide) (by decide) (fun _ _ q => q.elim) ?_
    rintro _ _ ⟨rfl, rfl⟩
    have hkU : (S.2.1 kA 2).toNat < 4 := by omega
    have hrU := hC.ls hkU
    obtain ⟨fU, eU, -⟩ := id hrU
    have hlU := hrU.len
    refine z_callVN MV_Cur_stepBack lk_Cls_162 dCls_back_30 (k_Cur_stepBack (show zCe _ _ _ _ _ _ _ from eA) hrU (hC.inj (by omega) (by omega) (by omega)) (hC.inj (by omega) (by omega) (by omega)) (by omega)) rfl rfl (Nat.le_of_ble_eq_true rfl) rfl (by assumption) (Nat.le_of_ble_eq_true rfl) (Nat.le_of_ble_eq_true rfl) (Nat.le_of_eq (Nat.zero_add _)) (Nat.le_of_eq (Nat.zero_add _)) (fun _ _ q => q.elim) ?_
    rintro _ h1 ⟨(⟨rfl, m1, p1⟩ | ⟨rfl, m1, rfl⟩), f1⟩
    · have hC1 := hC.cu hkA p1 bA0 bA1 (by omega) (by omega) (by omega) f1
      obtain ⟨-, d1, -⟩ := id hC1
      have fz1 : zFrm ad h h1 := zFrm.of1 (i := 5 + kA) (by omega) f1
      refine z_iret rfl rfl dCls_back_33 ?_
      first
        | (exfalso; omega)
        | exact zQc.mk (by assumption) (by first | exact zFrm.rf | assumption) (by unfold sp_back; (try unfold spPut); (try simp only [Int.toNat_natCast]); (repeat (first | rw [if_pos (by omega)] | rw [if_neg (by omega)] | rw [if_pos (by assumption)] | rw [if_neg (by assumption)] | rw [if_pos (True.intro : True)])); all_goals (first | rfl | (congr 2; omega) | (congr 1; congr 1; omega)))
    · refine z_iret rfl rfl dCls_back_33 ?_
      first
        | (exfalso; omega)
        | exact zQc.mk (by assumption) (by first | exact zFrm.rf | assumption) (by unfold sp_back; (try unfold spPut); (try simp only [Int.toNat_natCast]); (repeat (first | rw [if_pos (by omega)] | rw [if_neg (by omega)] | rw [if_pos (by assumption)] | rw [if_neg (by assumption)] | rw [if_pos (True.intro : True)])); all_goals (first | rfl | (congr 2; omega) | (congr 1; congr 1; omega)))
  · refine z_aload_n dCls_back_17 rfl ?_
    refine z_callV MV_Cls_refuse lk_Cls_54 dCls_back_18 (k_Cls_refuse (by assumption)) rfl rfl (Nat.le_of_ble_eq_true rfl) rfl (by assumption) (Nat.le_of_ble_eq_true rfl) (Nat.le_of_ble_eq_true rfl) (Nat.le_of_eq (Nat.zero_add _)) (Nat.le_of_eq (Nat.zero_add _)) (fun _ _ q => q.elim) ?_
    rintro _ h9 ⟨rfl, hC9, fz9⟩
    refine z_goto (tgt := 33) dCls_back_21 (by decide) ?_
    refine z_iret rfl rfl dCls_back_33 ?_
    first
      | (exfalso; omega)
      | exact zQc.mk (by assumption) (by first | exact zFrm.rf | assumption) (by unfold sp_back; (try unfold spPut); (try simp only [Int.toNat_natCast]); (repeat (first | rw [if_pos (by omega)] | rw [if_neg (by omega)] | rw [if_pos (by assumption)] | rw [if_neg (by assumption)] | rw [if_pos (True.intro : True)])); all_goals (first | rfl | (congr 2; omega) | (congr 1; congr 1; omega)))
theorem zFrm.of3 {i j k : Nat} (hi : i < 20) (hj : j < 20) (hk : k < 20) (H : ∀ q, q ≠ ad i → q ≠ ad j → q ≠ ad k → h' q = h q) : zFrm ad h h' := fun q hq => H q (hq i hi) (hq j hj) (hq k hk)
theorem k_Cls_puts {c x : Int} (hO : zOk S) (hC : zCls G h ad S) (z_c : zI32 c) (z_x : zI32 x) : zM G l hCls_puts yCls_puts 9 [.ref (ad 0), zi c, zi x] h (zQc G ad h (sp_puts S c x)) (zXc G ad h (sp_puts S c x)) 6 36 := by
  obtain ⟨c1, c2, ⟨g3, c3, d3⟩, ⟨g4, c4, d4⟩, c5, ⟨T6, c6, d6⟩, c7, c8, ⟨R9, c9⟩, c10⟩ := id hC
  obtain ⟨f16, e16, -⟩ := id c9
  refine zM.of [some (.ref (ad 0)), some (zi c), some (zi x), none] (by decide +kernel) rfl (by decide) rfl (Nat.le_of_ble_eq_true rfl) rfl ?_
  refine z_aload_n dCls_puts_0 rfl ?_
  refine z_iload_n dCls_puts_1 rfl ?_
  refine z_callV (bc' := 5) (bs' := 30) MV_Cls_cursorAt lk_Cls_137 dCls_puts_2 (k_Cls_cursorAt (by assumption) (by omega)) rfl rfl (Nat.le_of_ble_eq_true rfl) rfl (by assumption) (Nat.le_of_ble_eq_true rfl) (Nat.le_of_ble_eq_true rfl) (by decide) (by decide) (fun E h9 q9 => z_out rfl (by obtain ⟨rfl, q1, rfl⟩ := q9; exact zXc.mk (by assumption) (by first | exact zFrm.rf | assumption) (by unfold sp_puts; (try unfold spPut); (try simp only [Int.toNat_natCast]); (repeat (first | rw [if_pos (by omega)] | rw [if_neg (by omega)] | rw [if_pos (by assumption)] | rw [if_neg (by assumption)] | rw [if_pos (True.intro : True)])); all_goals (first | rfl | (congr 2; omega) | (congr 1; congr 1; omega))))) ?_
  rintro _ _ ⟨rfl, aA1, aA2, rfl⟩
  obtain ⟨kA, rfl⟩ := Int.eq_ofNat_of_zero_le aA1
  simp only [Int.toNat_natCast]
  have hkA : kA < 3 := by omega
  have hcA := hC.cs hkA
  obtain ⟨stA, liA, ixA, laA, eA, bA0, bA1, iA2, iA3, iA4, eA7⟩ := id hcA
  refine z_astore_n dCls_puts_5 (Nat.le_of_ble_eq_true rfl) ?_
  refine z_iload_n dCls_puts_6 rfl ?_
  refine z_callS (bc' := 4) (bs' := 24) MS_Cls_demandItem lk_Cls_42 dCls_puts_7 (k_Cls_demandItem (by omega)) rfl rfl (Nat.le_of_ble_eq_true rfl)  (Nat.le_of_ble_eq_true rfl) (Nat.le_of_ble_eq_true rfl) (by decide) (by decide) (fun E h9 q9 => z_out rfl (by obtain ⟨rfl, q1, rfl⟩ := q9; exact zXc.mk (by assumption) (by first | exact zFrm.rf | assumption) (by unfold sp_puts; (try unfold spPut); (try simp only [Int.toNat_natCast]); (repeat (first | rw [if_pos (by omega)] | rw [if_neg (by omega)] | rw [if_pos (by assumption)] | rw [if_neg (by assumption)] | rw [if_pos (True.intro : True)])); all_goals (first | rfl | (congr 2; omega) | (congr 1; congr 1; omega))))) ?_
  rintro _ _ ⟨rfl, hx9, rfl⟩
  refine z_aload_n dCls_puts_10 rfl ?_
  refine z_callS (bc' := 3) (bs' := 18) MS_Cls_demandThere lk_Cls_148 dCls_puts_11 (k_Cls_demandThere hcA) rfl rfl (Nat.le_of_ble_eq_true rfl)  (Nat.le_of_ble_eq_true rfl) (Nat.le_of_ble_eq_true rfl) (by decide) (by decide) (fun E h9 q9 => z_out rfl (by obtain ⟨rfl, q1, rfl⟩ := q9; exact zXc.mk (by assumption) (by first | exact zFrm.rf | assumption) (by unfold sp_puts; (try unfold spPut); (try simp only [Int.toNat_natCast]); (repeat (first | rw [if_pos (by omega)] | rw [if_neg (by omega)] | rw [if_pos (by assumption)] | rw [if_neg (by assumption)] | rw [if_pos (True.intro : True)])); all_goals (first | rfl | (congr 2; omega) | (congr 1; congr 1; omega))))) ?_
  rintro _ _ ⟨rfl, tA, rfl⟩
  obtain ⟨rfl, rfl, rfl, rfl⟩ := eA7 tA
  obtain ⟨oA2, oA3, oA4, oA5⟩ := hO.1 kA hkA tA
  refine z_aload_n dCls_puts_14 rfl ?_
  refine z_getN (k := 1) fd_Cur (by decide) fl_Cls_152 dCls_puts_15 (by assumption) (by rfl) ?_
  refine z_if_ne (tgt := 34) dCls_puts_18 (by decide) (by omega) (fun c18 => ?_) (fun c18 => ?_)
  · refine z_aload_n dCls_puts_34 rfl ?_
    refine z_callV MV_Cls_refuse lk_Cls_54 dCls_puts_35 (k_Cls_refuse (by assumption)) rfl rfl (Nat.le_of_ble_eq_true rfl) rfl (by assumption) (Nat.le_of_ble_eq_true rfl) (Nat.le_of_ble_eq_true rfl) (Nat.le_of_eq (Nat.zero_add _)) (Nat.le_of_eq (Nat.zero_add _)) (fun _ _ q => q.elim) ?_
    rintro _ h9 ⟨rfl, hC9, fz9⟩
    refine z_iret rfl rfl dCls_puts_38 ?_
    first
      | (exfalso; omega)
      | exact zQc.mk (by assumption) (by first | exact zFrm.rf | assumption) (by unfold sp_puts; (try unfold spPut); (try simp only [Int.toNat_natCast]); (repeat (first | rw [if_pos (by omega)] | rw [if_neg (by omega)] | rw [if_pos (by assumption)] | rw [if_neg (by assumption)] | rw [if_pos (True.intro : True)])); all_goals (first | rfl | (congr 2; omega) | (congr 1; congr 1; omega)))
  · refine z_aload_n dCls_puts_21 rfl ?_
    refine z_aload_n dCls_puts_22 rfl ?_
    refine z_aload_n dCls_puts_23 rfl ?_
    refine z_callV (bc' := 2) (bs' := 12) MV_Cls_rowUnder lk_Cls_155 dCls_puts_24 (k_Cls_rowUnder (c := 0) (by assumption) hcA tA (by omega)) rfl rfl (Nat.le_of_ble_eq_true rfl) rfl (by assumption) (Nat.le_of_ble_eq_true rfl) (Nat.le_of_ble_eq_true rfl) (by decide) (by decide) (fun _ _ q => q.elim) ?_
    rintro _ _ ⟨rfl, rfl⟩
    have hkU : (S.2.1 kA 2).toNat < 4 := by omega
    have hrU := hC.ls hkU
    obtain ⟨fU, eU, -⟩ := id hrU
    have hlU := hrU.len
    refine z_iload_n dCls_puts_27 rfl ?_
    refine z_callVN MV_Cur_putHere lk_Cls_165 dCls_puts_28 (k_Cur_putHere (show zCe _ _ _ _ _ _ _ from eA) hrU (hC.inj (by omega) (by omega) (by omega)) (hC.inj (by omega) (by omega) (by omega)) (by omega) hx9) rfl rfl (Nat.le_of_ble_eq_true rfl) rfl (by assumption) (Nat.le_of_ble_eq_true rfl) (Nat.le_of_ble_eq_true rfl) (Nat.le_of_eq (Nat.zero_add _)) (Nat.le_of_eq (Nat.zero_add _)) (fun _ _ q => q.elim) ?_
    rintro _ h1 ⟨(⟨rfl, m1, hr1, p1⟩ | ⟨rfl, m1, rfl⟩), f1⟩
    · have hC1 := hC.rowcu hkU hkA hr1 p1 bA0 bA1 (by omega) (by omega) (by omega) f1
      obtain ⟨-, d1, -⟩ := id hC1
      have fz1 : zFrm ad h h1 := zFrm.of3 (i := 5 + kA) (j := 8 + 2 * (S.2.1 kA 2).toNat) (k := 9 + 2 * (S.2.1 kA 2).toNat) (by omega) (by omega) (by omega) f1
      refine z_if_ne (tgt := 39) dCls_puts_31 (by decide) (by omega) (fun c31 => ?_) (fun c31 => ?_)
      · refine z_aload_n dCls_puts_39 rfl ?_
        refine z_aload_n dCls_puts_40 rfl ?_
        refine z_getN (k := 2) fd_Cur (by decide) fl_Cls_169 dCls_puts_41 (by assumption) (by rfl) ?_
        refine z_iload_n dCls_puts_44 rfl ?_
        refine z_callV MV_Cls_makeStale lk_Cls_58 dCls_puts_45 (k_Cls_makeStale (by assumption) (by omega) (by omega)) rfl rfl (Nat.le_of_ble_eq_true rfl) rfl (by assumption) (Nat.le_of_ble_eq_true rfl) (Nat.le_of_ble_eq_true rfl) (Nat.le_of_eq (Nat.zero_add _)) (Nat.le_of_eq (Nat.zero_add _)) (fun _ _ q => q.elim) ?_
        rintro _ h2 ⟨rfl, hC2, gz2⟩
        have fz2 : zFrm ad h h2 := fz1.tr gz2
        have hcM := hC2.cs hkA
        rw [zsSt_but, zsC_at] at hcM
        obtain ⟨stM, liM, ixM, laM, eM, -, -, -, -, -, eM7⟩ := id hcM
        obtain ⟨rfl, rfl, rfl, rfl⟩ := eM7 tA
        refine z_aload_n dCls_puts_48 rfl ?_
        refine z_getN (k := 3) fd_Cur (by decide) fl_Cls_172 dCls_puts_49 (by assumption) (by rfl) ?_
        refine z_iret rfl rfl dCls_puts_52 ?_
        first
          | (exfalso; omega)
          | exact zQc.mk (by assumption) (by first | exact zFrm.rf | assumption) (by unfold sp_puts; (try unfold spPut); (try simp only [Int.toNat_natCast]); (repeat (first | rw [if_pos (by omega)] | rw [if_neg (by omega)] | rw [if_pos (by assumption)] | rw [if_neg (by assumption)] | rw [if_pos (True.intro : True)])); all_goals (first | rfl | (congr 2; omega) | (congr 1; congr 1; omega)))
      · refine z_aload_n dCls_puts_34 rfl ?_
        refine z_callV MV_Cls_refuse lk_Cls_54 dCls_puts_35 (k_Cls_refuse (by assumption)) rfl rfl (Nat.le_of_ble_eq_true rfl) rfl (by assumption) (Nat.le_of_ble_eq_true rfl) (Nat.le_of_ble_eq_true rfl) (Nat.le_of_eq (Nat.zero_add _)) (Nat.le_of_eq (Nat.zero_add _)) (fun _ _ q => q.elim) ?_
        rintro _ h9 ⟨rfl, hC9, fz9⟩
        refine z_iret rfl rfl dCls_puts_38 ?_
        first
          | (exfalso; omega)
          | exact zQc.mk (by assumption) (by first | exact zFrm.rf | assumption) (by unfold sp_puts; (try unfold spPut); (try simp only [Int.toNat_natCast]); (repeat (first | rw [if_pos (by omega)] | rw [if_neg (by omega)] | rw [if_pos (by assumption)] | rw [if_neg (by assumption)] | rw [if_pos (True.intro : True)])); all_goals (first | rfl | (congr 2; omega) | (congr 1; congr 1; omega)))
    · refine z_if_ne (tgt := 39) dCls_puts_31 (by decide) (by omega) (fun c31 => ?_) (fun c31 => ?_)
      · exact absurd rfl c31
      · refine z_aload_n dCls_puts_34 rfl ?_
        refine z_callV MV_Cls_refuse lk_Cls_54 dCls_puts_35 (k_Cls_refuse (by assumption)) rfl rfl (Nat.le_of_ble_eq_true rfl) rfl (by assumption) (Nat.le_of_ble_eq_true rfl) (Nat.le_of_ble_eq_true rfl) (Nat.le_of_eq (Nat.zero_add _)) (Nat.le_of_eq (Nat.zero_add _)) (fun _ _ q => q.elim) ?_
        rintro _ h9 ⟨rfl, hC9, fz9⟩
        refine z_iret rfl rfl dCls_puts_38 ?_
        first
          | (exfalso; omega)
          | exact zQc.mk (by assumption) (by first | exact zFrm.rf | assumption) (by unfold sp_puts; (try unfold spPut); (try simp only [Int.toNat_natCast]); (repeat (first | rw [if_pos (by omega)] | rw [if_neg (by omega)] | rw [if_pos (by assumption)] | rw [if_neg (by assumption)] | rw [if_pos (True.intro : True)])); all_goals (first | rfl | (congr 2; omega) | (congr 1; congr 1; omega)))
theorem k_Cls_cuts {c : Int} (hO : zOk S) (hC : zCls G h ad S) (z_c : zI32 c) : zM G l hCls_cuts yCls_cuts 9 [.ref (ad 0), zi c] h (zQc G ad h (sp_cuts S c)) (zXc G ad h (sp_cuts S c)) 6 36 := by
  obtain ⟨c1, c2, ⟨g3, c3, d3⟩, ⟨g4, c4, d4⟩, c5, ⟨T6, c6, d6⟩, c7, c8, ⟨R9, c9⟩, c10⟩ := id hC
  obtain ⟨f16, e16, -⟩ := id c9
  refine zM.of [some (.ref (ad 0)), some (zi c), none] (by decide +kernel) rfl (by decide) rfl (Nat.le_of_ble_eq_true rfl) rfl ?_
  refine z_aload_n dCls_cuts_0 rfl ?_
  refine z_iload_n dCls_cuts_1 rfl ?_
  refine z_callV (bc' := 5) (bs' := 30) MV_Cls_cursorAt lk_Cls_137 dCls_cuts_2 (k_Cls_cursorAt (by assumption) (by omega)) rfl rfl (Nat.le_of_ble_eq_true rfl) rfl (by assumption) (Nat.le_of_ble_eq_true rfl) (Nat.le_of_ble_eq_true rfl) (by decide) (by decide) (fun E h9 q9 => z_out rfl (by obtain ⟨rfl, q1, rfl⟩ := q9; exact zXc.mk (by assumption) (by first | exact zFrm.rf | assumption) (by unfold sp_cuts; (try unfold spPut); (try simp only [Int.toNat_natCast]); (repeat (first | rw [if_pos (by omega)] | rw [if_neg (by omega)] | rw [if_pos (by assumption)] | rw [if_neg (by assumption)] | rw [if_pos (True.intro : True)])); all_goals (first | rfl | (congr 2; omega) | (congr 1; congr 1; omega))))) ?_
  rintro _ _ ⟨rfl, aA1, aA2, rfl⟩
  obtain ⟨kA, rfl⟩ := Int.eq_ofNat_of_zero_le aA1
  simp only [Int.toNat_natCast]
  have hkA : kA < 3 := by omega
  have hcA := hC.cs hkA
  obtain ⟨stA, liA, ixA, laA, eA, bA0, bA1, iA2, iA3, iA4, eA7⟩ := id hcA
  refine z_astore_n dCls_cuts_5 (Nat.le_of_ble_eq_true rfl) ?_
  refine z_aload_n dCls_cuts_6 rfl ?_
  refine z_callS (bc' := 4) (bs' := 24) MS_Cls_demandThere lk_Cls_148 dCls_cuts_7 (k_Cls_demandThere hcA) rfl rfl (Nat.le_of_ble_eq_true rfl)  (Nat.le_of_ble_eq_true rfl) (Nat.le_of_ble_eq_true rfl) (by decide) (by decide) (fun E h9 q9 => z_out rfl (by obtain ⟨rfl, q1, rfl⟩ := q9; exact zXc.mk (by assumption) (by first | exact zFrm.rf | assumption) (by unfold sp_cuts; (try unfold spPut); (try simp only [Int.toNat_natCast]); (repeat (first | rw [if_pos (by omega)] | rw [if_neg (by omega)] | rw [if_pos (by assumption)] | rw [if_neg (by assumption)] | rw [if_pos (True.intro : True)])); all_goals (first | rfl | (congr 2; omega) | (congr 1; congr 1; omega))))) ?_
  rintro _ _ ⟨rfl, tA, rfl⟩
  obtain ⟨rfl, rfl, rfl, rfl⟩ := eA7 tA
  obtain ⟨oA2, oA3, oA4, oA5⟩ := hO.1 kA hkA tA
  refine z_aload_n dCls_cuts_10 rfl ?_
  refine z_getN (k := 1) fd_Cur (by decide) fl_Cls_152 dCls_cuts_11 (by assumption) (by rfl) ?_
  refine z_if_ne (tgt := 25) dCls_cuts_14 (by decide) (by omega) (fun c14 => ?_) (fun c14 => ?_)
  · refine z_aload_n dCls_cuts_25 rfl ?_
    refine z_callV MV_Cls_refuse lk_Cls_54 dCls_cuts_26 (k_Cls_refuse (by assumption)) rfl rfl (Nat.le_of_ble_eq_true rfl) rfl (by assumption) (Nat.le_of_ble_eq_true rfl) (Nat.le_of_ble_eq_true rfl) (Nat.le_of_eq (Nat.zero_add _)) (Nat.le_of_eq (Nat.zero_add _)) (fun _ _ q => q.elim) ?_
    rintro _ h9 ⟨rfl, hC9, fz9⟩
    refine z_iret rfl rfl dCls_cuts_29 ?_
    first
      | (exfalso; omega)
      | exact zQc.mk (by assumption) (by first | exact zFrm.rf | assumption) (by unfold sp_cuts; (try unfold spPut); (try simp only [Int.toNat_natCast]); (repeat (first | rw [if_pos (by omega)] | rw [if_neg (by omega)] | rw [if_pos (by assumption)] | rw [if_neg (by assumption)] | rw [if_pos (True.intro : True)])); all_goals (first | rfl | (congr 2; omega) | (congr 1; congr 1; omega)))
  · refine z_aload_n dCls_cuts_17 rfl ?_
    refine z_getN (k := 4) fd_Cur (by decide) fl_Cls_175 dCls_cuts_18 (by assumption) (by rfl) ?_
    refine z_iconst dCls_cuts_21 ?_
    refine z_icmp_ne (tgt := 30) dCls_cuts_22 (by decide) (by omega) (by omega) (fun c22 => ?_) (fun c22 => ?_)
    · refine z_aload_n dCls_cuts_30 rfl ?_
      refine z_aload_n dCls_cuts_31 rfl ?_
      refine z_aload_n dCls_cuts_32 rfl ?_
      refine z_callV (bc' := 3) (bs' := 18) MV_Cls_rowUnder lk_Cls_155 dCls_cuts_33 (k_Cls_rowUnder (c := 0) (by assumption) hcA tA (by omega)) rfl rfl (Nat.le_of_ble_eq_true rfl) rfl (by assumption) (Nat.le_of_ble_eq_true rfl) (Nat.le_of_ble_eq_true rfl) (by decide) (by decide) (fun _ _ q => q.elim) ?_
      rintro _ _ ⟨rfl, rfl⟩
      have hkU : (S.2.1 kA 2).toNat < 4 := by omega
      have hrU := hC.ls hkU
      obtain ⟨fU, eU, -⟩ := id hrU
      have hlU := hrU.len
      refine z_callVN MV_Cur_cutLast lk_Cls_178 dCls_cuts_36 (k_Cur_cutLast (show zCe _ _ _ _ _ _ _ from eA) hrU (hC.inj (by omega) (by omega) (by omega)) (hC.inj (by omega) (by omega) (by omega)) (by omega) (by omega)) rfl rfl (Nat.le_of_ble_eq_true rfl) rfl (by assumption) (Nat.le_of_ble_eq_true rfl) (Nat.le_of_ble_eq_true rfl) (Nat.le_of_eq (Nat.zero_add _)) (Nat.le_of_eq (Nat.zero_add _)) (fun _ _ q => q.elim) ?_
      rintro _ h1 ⟨rfl, hr1, p1, f1⟩
      have hC1 := hC.rowcu hkU hkA hr1 p1 bA0 bA1 (by omega) (by split <;> omega) (by omega) f1
      obtain ⟨-, d1, -⟩ := id hC1
      have fz1 : zFrm ad h h1 := zFrm.of3 (i := 5 + kA) (j := 8 + 2 * (S.2.1 kA 2).toNat) (k := 9 + 2 * (S.2.1 kA 2).toNat) (by omega) (by omega) (by omega) f1
      refine z_aload_n dCls_cuts_39 rfl ?_
      refine z_aload_n dCls_cuts_40 rfl ?_
      refine z_getN (k := 2) fd_Cur (by decide) fl_Cls_169 dCls_cuts_41 (by assumption) (by rfl) ?_
      refine z_iload_n dCls_cuts_44 rfl ?_
      refine z_callV MV_Cls_makeStale lk_Cls_58 dCls_cuts_45 (k_Cls_makeStale (by assumption) (by omega) (by omega)) rfl rfl (Nat.le_of_ble_eq_true rfl) rfl (by assumption) (Nat.le_of_ble_eq_true rfl) (Nat.le_of_ble_eq_true rfl) (Nat.le_of_eq (Nat.zero_add _)) (Nat.le_of_eq (Nat.zero_add _)) (fun _ _ q => q.elim) ?_
      rintro _ h2 ⟨rfl, hC2, gz2⟩
      have fz2 : zFrm ad h h2 := fz1.tr gz2
      have hcM := hC2.cs hkA
      rw [zsSt_but, zsC_at] at hcM
      obtain ⟨stM, liM, ixM, laM, eM, -, -, -, -, -, eM7⟩ := id hcM
      obtain ⟨rfl, rfl, rfl, rfl⟩ := eM7 tA
      refine z_aload_n dCls_cuts_48 rfl ?_
      refine z_getN (k := 3) fd_Cur (by decide) fl_Cls_172 dCls_cuts_49 (by assumption) (by rfl) ?_
      refine z_iret rfl rfl dCls_cuts_52 ?_
      first
        | (exfalso; omega)
        | exact zQc.mk (by assumption) (by first | exact zFrm.rf | assumption) (by unfold sp_cuts; (try unfold spPut); (try simp only [Int.toNat_natCast]); (repeat (first | rw [if_pos (by omega)] | rw [if_neg (by omega)] | rw [if_pos (by assumption)] | rw [if_neg (by assumption)] | rw [if_pos (True.intro : True)])); all_goals (first | rfl | (congr 2; omega) | (congr 1; congr 1; omega)))
    · refine z_aload_n dCls_cuts_25 rfl ?_
      refine z_callV MV_Cls_refuse lk_Cls_54 dCls_cuts_26 (k_Cls_refuse (by assumption)) rfl rfl (Nat.le_of_ble_eq_true rfl) rfl (by assumption) (Nat.le_of_ble_eq_true rfl) (Nat.le_of_ble_eq_true rfl) (Nat.le_of_eq (Nat.zero_add _)) (Nat.le_of_eq (Nat.zero_add _)) (fun _ _ q => q.elim) ?_
      rintro _ h9 ⟨rfl, hC9, fz9⟩
      refine z_iret rfl rfl dCls_cuts_29 ?_
      first
        | (exfalso; omega)
        | exact zQc.mk (by assumption) (by first | exact zFrm.rf | assumption) (by unfold sp_cuts; (try unfold spPut); (try simp only [Int.toNat_natCast]); (repeat (first | rw [if_pos (by omega)] | rw [if_neg (by omega)] | rw [if_pos (by assumption)] | rw [if_neg (by assumption)] | rw [if_pos (True.intro : True)])); all_goals (first | rfl | (congr 2; omega) | (congr 1; congr 1; omega)))
theorem k_Cls_changes {c x : Int} (hO : zOk S) (hC : zCls G h ad S) (z_c : zI32 c) (z_x : zI32 x) : zM G l hCls_changes yCls_changes 9 [.ref (ad 0), zi c, zi x] h (zQc G ad h (sp_changes S c x)) (zXc G ad h (sp_changes S c x)) 6 36 := by
  obtain ⟨c1, c2, ⟨g3, c3, d3⟩, ⟨g4, c4, d4⟩, c5, ⟨T6, c6, d6⟩, c7, c8, ⟨R9, c9⟩, c10⟩ := id hC
  obtain ⟨f16, e16, -⟩ := id c9
  refine zM.of [some (.ref (ad 0)), some (zi c), some (zi x), none] (by decide +kernel) rfl (by decide) rfl (Nat.le_of_ble_eq_true rfl) rfl ?_
  refine z_aload_n dCls_changes_0 rfl ?_
  refine z_iload_n dCls_changes_1 rfl ?_
  refine z_callV (bc' := 5) (bs' := 30) MV_Cls_cursorAt lk_Cls_137 dCls_changes_2 (k_Cls_cursorAt (by assumption) (by omega)) rfl rfl (Nat.le_of_ble_eq_true rfl) rfl (by assumption) (Nat.le_of_ble_eq_true rfl) (Nat.le_of_ble_eq_true rfl) (by decide) (by decide) (fun E h9 q9 => z_out rfl (by obtain ⟨rfl, q1, rfl⟩ := q9; exact zXc.mk (by assumption) (by first | exact zFrm.rf | assumption) (by unfold sp_changes; (try unfold spPut); (try simp only [Int.toNat_natCast]); (repeat (first | rw [if_pos (by omega)] | rw [if_neg (by omega)] | rw [if_pos (by assumption)] | rw [if_neg (by assumption)] | rw [if_pos (True.intro : True)])); all_goals (first | rfl | (congr 2; omega) | (congr 1; congr 1; omega))))) ?_
  rintro _ _ ⟨rfl, aA1, aA2, rfl⟩
  obtain ⟨kA, rfl⟩ := Int.eq_ofNat_of_zero_le aA1
  simp only [Int.toNat_natCast]
  have hkA : kA < 3 := by omega
  have hcA := hC.cs hkA
  obtain ⟨stA, liA, ixA, laA, eA, bA0, bA1, iA2, iA3, iA4, eA7⟩ := id hcA
  refine z_astore_n dCls_changes_5 (Nat.le_of_ble_eq_true rfl) ?_
  refine z_iload_n dCls_changes_6 rfl ?_
  refine z_callS (bc' := 4) (bs' := 24) MS_Cls_demandItem lk_Cls_42 dCls_changes_7 (k_Cls_demandItem (by omega)) rfl rfl (Nat.le_of_ble_eq_true rfl)  (Nat.le_of_ble_eq_true rfl) (Nat.le_of_ble_eq_true rfl) (by decide) (by decide) (fun E h9 q9 => z_out rfl (by obtain ⟨rfl, q1, rfl⟩ := q9; exact zXc.mk (by assumption) (by first | exact zFrm.rf | assumption) (by unfold sp_changes; (try unfold spPut); (try simp only [Int.toNat_natCast]); (repeat (first | rw [if_pos (by omega)] | rw [if_neg (by omega)] | rw [if_pos (by assumption)] | rw [if_neg (by assumption)] | rw [if_pos (True.intro : True)])); all_goals (first | rfl | (congr 2; omega) | (congr 1; congr 1; omega))))) ?_
  rintro _ _ ⟨rfl, hx9, rfl⟩
  refine z_aload_n dCls_changes_10 rfl ?_
  refine z_callS (bc' := 3) (bs' := 18) MS_Cls_demandThere lk_Cls_148 dCls_changes_11 (k_Cls_demandThere hcA) rfl rfl (Nat.le_of_ble_eq_true rfl)  (Nat.le_of_ble_eq_true rfl) (Nat.le_of_ble_eq_true rfl) (by decide) (by decide) (fun E h9 q9 => z_out rfl (by obtain ⟨rfl, q1, rfl⟩ := q9; exact zXc.mk (by assumption) (by first | exact zFrm.rf | assumption) (by unfold sp_changes; (try unfold spPut); (try simp only [Int.toNat_natCast]); (repeat (first | rw [if_pos (by omega)] | rw [if_neg (by omega)] | rw [if_pos (by assumption)] | rw [if_neg (by assumption)] | rw [if_pos (True.intro : True)])); all_goals (first | rfl | (congr 2; omega) | (congr 1; congr 1; omega))))) ?_
  rintro _ _ ⟨rfl, tA, rfl⟩
  obtain ⟨rfl, rfl, rfl, rfl⟩ := eA7 tA
  obtain ⟨oA2, oA3, oA4, oA5⟩ := hO.1 kA hkA tA
  refine z_aload_n dCls_changes_14 rfl ?_
  refine z_getN (k := 1) fd_Cur (by decide) fl_Cls_152 dCls_changes_15 (by assumption) (by rfl) ?_
  refine z_if_ne (tgt := 29) dCls_changes_18 (by decide) (by omega) (fun c18 => ?_) (fun c18 => ?_)
  · refine z_aload_n dCls_changes_29 rfl ?_
    refine z_callV MV_Cls_refuse lk_Cls_54 dCls_changes_30 (k_Cls_refuse (by assumption)) rfl rfl (Nat.le_of_ble_eq_true rfl) rfl (by assumption) (Nat.le_of_ble_eq_true rfl) (Nat.le_of_ble_eq_true rfl) (Nat.le_of_eq (Nat.zero_add _)) (Nat.le_of_eq (Nat.zero_add _)) (fun _ _ q => q.elim) ?_
    rintro _ h9 ⟨rfl, hC9, fz9⟩
    refine z_iret rfl rfl dCls_changes_33 ?_
    first
      | (exfalso; omega)
      | exact zQc.mk (by assumption) (by first | exact zFrm.rf | assumption) (by unfold sp_changes; (try unfold spPut); (try simp only [Int.toNat_natCast]); (repeat (first | rw [if_pos (by omega)] | rw [if_neg (by omega)] | rw [if_pos (by assumption)] | rw [if_neg (by assumption)] | rw [if_pos (True.intro : True)])); all_goals (first | rfl | (congr 2; omega) | (congr 1; congr 1; omega)))
  · refine z_aload_n dCls_changes_21 rfl ?_
    refine z_getN (k := 4) fd_Cur (by decide) fl_Cls_175 dCls_changes_22 (by assumption) (by rfl) ?_
    refine z_iconst dCls_changes_25 ?_
    refine z_icmp_ne (tgt := 34) dCls_changes_26 (by decide) (by omega) (by omega) (fun c26 => ?_) (fun c26 => ?_)
    · refine z_aload_n dCls_changes_34 rfl ?_
      refine z_aload_n dCls_changes_35 rfl ?_
      refine z_callV (bc' := 2) (bs' := 12) MV_Cls_rowUnder lk_Cls_155 dCls_changes_36 (k_Cls_rowUnder (c := 0) (by assumption) hcA tA (by omega)) rfl rfl (Nat.le_of_ble_eq_true rfl) rfl (by assumption) (Nat.le_of_ble_eq_true rfl) (Nat.le_of_ble_eq_true rfl) (by decide) (by decide) (fun _ _ q => q.elim) ?_
      rintro _ _ ⟨rfl, rfl⟩
      have hkU : (S.2.1 kA 2).toNat < 4 := by omega
      have hrU := hC.ls hkU
      obtain ⟨fU, eU, -⟩ := id hrU
      have hlU := hrU.len
      refine z_aload_n dCls_changes_39 rfl ?_
      refine z_getN (k := 4) fd_Cur (by decide) fl_Cls_175 dCls_changes_40 (by assumption) (by rfl) ?_
      refine z_iload_n dCls_changes_43 rfl ?_
      refine z_callVN MV_Row_changeAt lk_Cls_78 dCls_changes_44 (k_Row_changeAt hrU (by omega) hx9) rfl rfl (Nat.le_of_ble_eq_true rfl) rfl (by assumption) (Nat.le_of_ble_eq_true rfl) (Nat.le_of_ble_eq_true rfl) (Nat.le_of_eq (Nat.zero_add _)) (Nat.le_of_eq (Nat.zero_add _)) (fun _ _ q => q.elim) ?_
      rintro _ h1 ⟨rfl, hr1, f1⟩
      have hC1 := hC.row hkU hr1 f1
      obtain ⟨-, d1, -⟩ := id hC1
      have fz1 : zFrm ad h h1 := zFrm.of2 (i := 8 + 2 * (S.2.1 kA 2).toNat) (j := 9 + 2 * (S.2.1 kA 2).toNat) (by omega) (by omega) f1
      obtain ⟨fr1, er1, -⟩ := id hr1
      have hl1 := hr1.len
      have eA1 := (f1 _ (hC.inj (i := 5 + kA) (j := 8 + 2 * (S.2.1 kA 2).toNat) (by omega) (by omega) (by omega)) (hC.inj (i := 5 + kA) (j := 9 + 2 * (S.2.1 kA 2).toNat) (by omega) (by omega) (by omega))).trans eA
      refine z_aload_n dCls_changes_47 rfl ?_
      refine z_getN (k := 3) fd_Cur (by decide) fl_Cls_172 dCls_changes_48 (by assumption) (by rfl) ?_
      refine z_iret rfl rfl dCls_changes_51 ?_
      first
        | (exfalso; omega)
        | exact zQc.mk (by assumption) (by first | exact zFrm.rf | assumption) (by unfold sp_changes; (try unfold spPut); (try simp only [Int.toNat_natCast]); (repeat (first | rw [if_pos (by omega)] | rw [if_neg (by omega)] | rw [if_pos (by assumption)] | rw [if_neg (by assumption)] | rw [if_pos (True.intro : True)])); all_goals (first | rfl | (congr 2; omega) | (congr 1; congr 1; omega)))
    · refine z_aload_n dCls_changes_29 rfl ?_
      refine z_callV MV_Cls_refuse lk_Cls_54 dCls_changes_30 (k_Cls_refuse (by assumption)) rfl rfl (Nat.le_of_ble_eq_true rfl) rfl (by assumption) (Nat.le_of_ble_eq_true rfl) (Nat.le_of_ble_eq_true rfl) (Nat.le_of_eq (Nat.zero_add _)) (Nat.le_of_eq (Nat.zero_add _)) (fun _ _ q => q.elim) ?_
      rintro _ h9 ⟨rfl, hC9, fz9⟩
      refine z_iret rfl rfl dCls_changes_33 ?_
      first
        | (exfalso; omega)
        | exact zQc.mk (by assumption) (by first | exact zFrm.rf | assumption) (by unfold sp_changes; (try unfold spPut); (try simp only [Int.toNat_natCast]); (repeat (first | rw [if_pos (by omega)] | rw [if_neg (by omega)] | rw [if_pos (by assumption)] | rw [if_neg (by assumption)] | rw [if_pos (True.intro : True)])); all_goals (first | rfl | (congr 2; omega) | (congr 1; congr 1; omega)))
end CLS7
