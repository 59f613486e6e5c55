/-! ===== what each act answers, and the state after it ===== -/
section SPEC
variable {G9 : zG}
abbrev spRef (S : zSt) : zRes := (.inl (-1000009), zsRef S)
def spPut (S : zSt) (k : Nat) (q x : Int) : zRes := if (S.1 k).length < 16 ∧ 0 ≤ q ∧ q ≤ (S.1 k).length then (.inl ((S.1 k).length + 1), zsStale (zsL S k (zIns (S.1 k) q x)) k (-1)) else spRef S
abbrev spTake (S : zSt) (k : Nat) (q : Int) : zRes := (.inl ((S.1 k).getD q.toNat 0), zsStale (zsL S k (zDel (S.1 k) q)) k (-1))
abbrev spBec (S : zSt) (k : Nat) (L : List Int) : zRes := (.inl (L.length : Int), zsStale (zsL S k L) k (-1))
def sp_put (S : zSt) (p w x : Int) : zRes := if 0 ≤ p ∧ p < 4 then (if 0 ≤ w ∧ w ≤ 5 then (if zIn x then (if w = 1 ∨ w = 3 ∨ w = 5 then spPut S p.toNat ((S.1 p.toNat).length : Int) x else spPut S p.toNat 0 x) else (.inr zE2, S)) else (.inr zE2, S)) else (.inr zE1, S)
def sp_take (S : zSt) (p w : Int) : zRes := if 0 ≤ p ∧ p < 4 then (if 0 ≤ w ∧ w ≤ 6 then (if (S.1 p.toNat).length = 0 then (if w = 0 ∨ w = 1 ∨ w = 4 ∨ w = 5 then spRef S else (.inl 10000, zsStale S p.toNat (-1))) else spTake S p.toNat (if w = 1 ∨ w = 3 then ((S.1 p.toNat).length : Int) - 1 else 0)) else (.inr zE2, S)) else (.inr zE1, S)
def sp_look (S : zSt) (p w : Int) : zRes := if 0 ≤ p ∧ p < 4 then (if 0 ≤ w ∧ w ≤ 5 then (if (S.1 p.toNat).length = 0 then (if w = 0 ∨ w = 1 ∨ w = 4 then spRef S else (.inl 10000, S)) else (.inl (zAt (S.1 p.toNat) (if w = 1 ∨ w = 3 then ((S.1 p.toNat).length : Int) - 1 else 0)), S)) else (.inr zE2, S)) else (.inr zE1, S)
def sp_get (S : zSt) (p q : Int) : zRes := if 0 ≤ p ∧ p < 4 then (if 0 ≤ q ∧ q < ((S.1 p.toNat).length : Int) then (.inl (zAt (S.1 p.toNat) q), S) else (.inr zE1, S)) else (.inr zE1, S)
def sp_set (S : zSt) (p q x : Int) : zRes := if 0 ≤ p ∧ p < 4 then (if 0 ≤ q ∧ q < ((S.1 p.toNat).length : Int) then (if zIn x then (.inl (zAt (S.1 p.toNat) q), zsL S p.toNat (zSet (S.1 p.toNat) q x)) else (.inr zE2, S)) else (.inr zE1, S)) else (.inr zE1, S)
def sp_insert (S : zSt) (p q x : Int) : zRes := if 0 ≤ p ∧ p < 4 then (if 0 ≤ q ∧ q ≤ ((S.1 p.toNat).length : Int) then (if zIn x then (spPut S p.toNat q x) else (.inr zE2, S)) else (.inr zE1, S)) else (.inr zE1, S)
def sp_removeAt (S : zSt) (p q : Int) : zRes := if 0 ≤ p ∧ p < 4 then (if 0 ≤ q ∧ q < ((S.1 p.toNat).length : Int) then (spTake S p.toNat q) else (.inr zE1, S)) else (.inr zE1, S)
def sp_drop (S : zSt) (p x b : Int) : zRes := if 0 ≤ p ∧ p < 4 then (if 0 ≤ zFind (S.1 p.toNat) x b then (.inl 1, zsStale (zsL S p.toNat (zDel (S.1 p.toNat) (zFind (S.1 p.toNat) x b))) p.toNat (-1)) else (.inl 0, zsStale S p.toNat (-1))) else (.inr zE1, S)
def sp_thin (S : zSt) (p x : Int) : zRes := if 0 ≤ p ∧ p < 4 then (.inl (((S.1 p.toNat).length : Int) - (zFl (S.1 p.toNat) x).length), zsStale (zsL S p.toNat (zFl (S.1 p.toNat) x)) p.toNat (-1)) else (.inr zE1, S)
def sp_indexOf (S : zSt) (p x b : Int) : zRes := if 0 ≤ p ∧ p < 4 then (.inl (zFind (S.1 p.toNat) x b), S) else (.inr zE1, S)
def sp_has (S : zSt) (p x : Int) : zRes := if 0 ≤ p ∧ p < 4 then (if zFind (S.1 p.toNat) x 0 = -1 then (.inl 0, S) else (.inl 1, S)) else (.inr zE1, S)
def sp_size (S : zSt) (p : Int) : zRes := if 0 ≤ p ∧ p < 4 then (.inl ((S.1 p.toNat).length : Int), S) else (.inr zE1, S)
def sp_clear (S : zSt) (p : Int) : zRes := if 0 ≤ p ∧ p < 4 then (.inl ((S.1 p.toNat).length : Int), zsStale (zsL S p.toNat []) p.toNat (-1)) else (.inr zE1, S)
def sp_append (S : zSt) (p f : Int) : zRes := if 0 ≤ p ∧ p < 4 then (if 0 ≤ f ∧ f < 4 then (if (S.1 p.toNat).length + (S.1 f.toNat).length ≤ 16 then spBec S p.toNat (zJn (S.1 p.toNat) ((S.1 p.toNat).length : Int) (S.1 f.toNat) (S.1 f.toNat).length) else spRef S) else (.inr zE1, S)) else (.inr zE1, S)
def sp_appendAt (S : zSt) (p q f : Int) : zRes := if 0 ≤ p ∧ p < 4 then (if 0 ≤ f ∧ f < 4 then (if 0 ≤ q ∧ q ≤ ((S.1 p.toNat).length : Int) then (if (S.1 p.toNat).length + (S.1 f.toNat).length ≤ 16 then spBec S p.toNat (zJn (S.1 p.toNat) q (S.1 f.toNat) (S.1 f.toNat).length) else spRef S) else (.inr zE1, S)) else (.inr zE1, S)) else (.inr zE1, S)
def sp_copy (S : zSt) (p i : Int) : zRes := if 0 ≤ p ∧ p < 4 then (if 0 ≤ i ∧ i < 4 then (spBec S i.toNat (S.1 p.toNat)) else (.inr zE1, S)) else (.inr zE1, S)
def sp_places (S : zSt) (p m : Int) : zRes := if 0 ≤ p ∧ p < 4 then (if 0 ≤ m ∧ m ≤ 16 then (spBec S p.toNat (zPl9 m.toNat)) else (.inr zE2, S)) else (.inr zE1, S)
def sp_rotate (S : zSt) (p b : Int) : zRes := if 0 ≤ p ∧ p < 4 then (if -99 ≤ b ∧ b ≤ 99 then (.inl (zFst (zRot (S.1 p.toNat) b)), zsStale (zsL S p.toNat (zRot (S.1 p.toNat) b)) p.toNat (-1)) else (.inr zE2, S)) else (.inr zE1, S)
def sp_move (S : zSt) (p f t : Int) : zRes := if 0 ≤ p ∧ p < 4 then (if 0 ≤ f ∧ f < ((S.1 p.toNat).length : Int) then (if 0 ≤ t ∧ t < ((S.1 p.toNat).length : Int) then (.inl ((S.1 p.toNat).getD f.toNat 0), zsStale (zsL S p.toNat (zIns (zDel (S.1 p.toNat) f) t ((S.1 p.toNat).getD f.toNat 0))) p.toNat (-1)) else (.inr zE1, S)) else (.inr zE1, S)) else (.inr zE1, S)
def sp_swap (S : zSt) (p i j : Int) : zRes := if 0 ≤ p ∧ p < 4 then (if 0 ≤ i ∧ i < ((S.1 p.toNat).length : Int) then (if 0 ≤ j ∧ j < ((S.1 p.toNat).length : Int) then (.inl (zAt (zSwp (S.1 p.toNat) i j) i), zsL S p.toNat (zSwp (S.1 p.toNat) i j)) else (.inr zE1, S)) else (.inr zE1, S)) else (.inr zE1, S)
def sp_reverse (S : zSt) (p : Int) : zRes := if 0 ≤ p ∧ p < 4 then (.inl (zFst (zRev (S.1 p.toNat))), zsL S p.toNat (zRev (S.1 p.toNat))) else (.inr zE1, S)
def sp_through (S : zSt) (p m i : Int) : zRes := if 0 ≤ p ∧ p < 4 then (if 0 ≤ m ∧ m < 4 then (if 0 ≤ i ∧ i < 4 then (if (∀ j : Nat, j < (S.1 m.toNat).length → 0 ≤ (S.1 m.toNat).getD j 0 ∧ (S.1 m.toNat).getD j 0 < (S.1 p.toNat).length) then spBec S i.toNat (zmk (S.1 m.toNat).length (fun j => zAt (S.1 p.toNat) ((S.1 m.toNat).getD j 0))) else spRef S) else (.inr zE1, S)) else (.inr zE1, S)) else (.inr zE1, S)
def sp_areSame (S : zSt) (p o : Int) : zRes := if 0 ≤ p ∧ p < 4 then (if 0 ≤ o ∧ o < 4 then (if (S.1 p.toNat) = (S.1 o.toNat) then (.inl 1, S) else (.inl 0, S)) else (.inr zE1, S)) else (.inr zE1, S)
def sp_isMirror (S : zSt) (p : Int) : zRes := if 0 ≤ p ∧ p < 4 then (if zRev (S.1 p.toNat) = (S.1 p.toNat) then (.inl 1, S) else (.inl 0, S)) else (.inr zE1, S)
def sp_plus (S : zSt) (p o : Int) : zRes := if 0 ≤ p ∧ p < 4 then (if 0 ≤ o ∧ o < 4 then (if (∀ j : Nat, j < (if ((S.1 p.toNat).length : Int) < (S.1 o.toNat).length then (S.1 o.toNat).length else (S.1 p.toNat).length) → zIn (zAt (S.1 p.toNat) j + zAt (S.1 o.toNat) j)) then spBec S p.toNat (zmk (if ((S.1 p.toNat).length : Int) < (S.1 o.toNat).length then (S.1 o.toNat).length else (S.1 p.toNat).length) (fun j => zAt (S.1 p.toNat) j + zAt (S.1 o.toNat) j)) else spRef S) else (.inr zE1, S)) else (.inr zE1, S)
def sp_times (S : zSt) (p o : Int) : zRes := if 0 ≤ p ∧ p < 4 then (if 0 ≤ o ∧ o < 4 then (if (zPn (S.1 p.toNat) (S.1 o.toNat) ≤ 16 ∧ ∀ j : Nat, j < zPn (S.1 p.toNat) (S.1 o.toNat) → zIn (zCf (S.1 p.toNat) (S.1 o.toNat) j (j + 1))) then spBec S p.toNat (zmk (zPn (S.1 p.toNat) (S.1 o.toNat)) (fun j => zCf (S.1 p.toNat) (S.1 o.toNat) j (j + 1))) else spRef S) else (.inr zE1, S)) else (.inr zE1, S)
def sp_shift (S : zSt) (p : Int) : zRes := if 0 ≤ p ∧ p < 4 then (if (S.1 p.toNat).length = 0 then (.inl 0, zsStale S p.toNat (-1)) else if (S.1 p.toNat).length < 16 then spBec S p.toNat (zIns (S.1 p.toNat) 0 0) else spRef S) else (.inr zE1, S)
def sp_trim (S : zSt) (p : Int) : zRes := if 0 ≤ p ∧ p < 4 then (.inl (((S.1 p.toNat).length : Int) - (zLnz (S.1 p.toNat) + 1)), zsStale (zsL S p.toNat ((S.1 p.toNat).take (zLnz (S.1 p.toNat) + 1).toNat)) p.toNat (-1)) else (.inr zE1, S)
def sp_derive (S : zSt) (p : Int) : zRes := if 0 ≤ p ∧ p < 4 then (if (∀ j : Nat, j < (S.1 p.toNat).length - 1 → zIn ((S.1 p.toNat).getD (j + 1) 0 * ((j : Int) + 1))) then spBec S p.toNat (zmk ((S.1 p.toNat).length - 1) (fun j => (S.1 p.toNat).getD (j + 1) 0 * ((j : Int) + 1))) else spRef S) else (.inr zE1, S)
def sp_value (S : zSt) (p x : Int) : zRes := if 0 ≤ p ∧ p < 4 then (if -99 ≤ x ∧ x ≤ 99 then (.inl (zHr (S.1 p.toNat) x (S.1 p.toNat).length), S) else (.inr zE2, S)) else (.inr zE1, S)
def sp_degree (S : zSt) (p : Int) : zRes := if 0 ≤ p ∧ p < 4 then (.inl (zLnz (S.1 p.toNat)), S) else (.inr zE1, S)
end SPEC
section CLS5
variable {G : zG} {l : Launch} {h h' : zHp} {ad : Nat → Nat} {S : zSt}
theorem zQc.mk {z : Int} {S' : zSt} {r : zRes} (hC : zCls G h' ad S') (hf : zFrm ad h h') (e : r = (.inl z, S')) : zQc G ad h r (some (zi z)) h' := ⟨z, S', e, rfl, hC, hf⟩
theorem zXc.mk {E : String} {S' : zSt} {r : zRes} (hC : zCls G h' ad S') (hf : zFrm ad h h') (e : r = (.inr E, S')) : zXc G ad h r E h' := ⟨S', e, hC, hf⟩
theorem zsS_l {k : Nat} {i b : Int} {L : List Int} : (zsStale (zsL S k L) i b).1 k = L := zup_same _ _ _
theorem zsS_0 {i b : Int} {k : Nat} : (zsStale S i b).1 k = S.1 k := rfl
theorem zsL_l {k : Nat} {L : List Int} : (zsL S k L).1 k = L := zup_same _ _ _
theorem k_Cls_put {p w x : Int}  (hC : zCls G h ad S) (z_p : zI32 p) (z_w : zI32 w) (z_x : zI32 x) : zM G l hCls_put yCls_put 9 [.ref (ad 0), zi p, zi w, zi x] h (zQc G ad h (sp_put S p w x)) (zXc G ad h (sp_put S p w x)) 6 36 := by
  obtain ⟨c1, c2, ⟨g3, c3, d3⟩, ⟨g4, c4, d4⟩, c5, ⟨T6, c6, d6⟩, c7, c8, ⟨R9, c9⟩, c10⟩ := id hC
  refine zM.of [some (.ref (ad 0)), some (zi p), some (zi w), some (zi x), none, none] (by decide +kernel) rfl (by decide) rfl (Nat.le_of_ble_eq_true rfl) rfl ?_
  refine z_aload_n dCls_put_0 rfl ?_
  refine z_iload_n dCls_put_1 rfl ?_
  refine z_callV (bc' := 5) (bs' := 30) MV_Cls_listAt lk_Cls_34 dCls_put_2 (k_Cls_listAt (by assumption) (by omega)) rfl rfl (Nat.le_of_ble_eq_true rfl) rfl (by assumption) (Nat.le_of_ble_eq_true rfl) (Nat.le_of_ble_eq_true rfl) (by decide) (by decide) (fun E h9 q9 => z_out rfl (by obtain ⟨rfl, q1, rfl⟩ := q9; exact zXc.mk (by assumption) (by first | exact zFrm.rf | assumption) (by unfold sp_put; (try unfold spPut); (try simp only [Int.toNat_natCast]); (repeat (first | rw [if_pos (by omega)] | rw [if_neg (by omega)] | rw [if_pos (by assumption)] | rw [if_neg (by assumption)])); all_goals (first | rfl | (congr 2; omega) | (congr 1; congr 1; omega))))) ?_
  rintro _ _ ⟨rfl, aA1, aA2, rfl⟩
  obtain ⟨kA, rfl⟩ := Int.eq_ofNat_of_zero_le aA1
  simp only [Int.toNat_natCast]
  have hkA : kA < 4 := by omega
  have hrA := hC.ls hkA
  obtain ⟨fA, eA, -⟩ := id hrA
  have hlA := hrA.len
  refine z_astore dCls_put_5 (Nat.le_of_ble_eq_true rfl) ?_
  refine z_iload_n dCls_put_7 rfl ?_
  refine z_iconst dCls_put_8 ?_
  refine z_iconst dCls_put_9 ?_
  refine z_callS (bc' := 4) (bs' := 24) MS_Cls_demandWithin lk_Cls_38 dCls_put_10 (k_Cls_demandWithin (by omega) (by omega) (by omega)) rfl rfl (Nat.le_of_ble_eq_true rfl)  (Nat.le_of_ble_eq_true rfl) (Nat.le_of_ble_eq_true rfl) (by decide) (by decide) (fun E h9 q9 => z_out rfl (by obtain ⟨rfl, q1, rfl⟩ := q9; exact zXc.mk (by assumption) (by first | exact zFrm.rf | assumption) (by unfold sp_put; (try unfold spPut); (try simp only [Int.toNat_natCast]); (repeat (first | rw [if_pos (by omega)] | rw [if_neg (by omega)] | rw [if_pos (by assumption)] | rw [if_neg (by assumption)])); all_goals (first | rfl | (congr 2; omega) | (congr 1; congr 1; omega))))) ?_
  rintro _ _ ⟨rfl, w1, w2, rfl⟩
  refine z_iload_n dCls_put_13 rfl ?_
  refine z_callS (bc' := 3) (bs' := 18) MS_Cls_demandItem lk_Cls_42 dCls_put_14 (k_Cls_demandItem (by omega)) rfl rfl (Nat.le_of_ble_eq_true rfl)  (Nat.le_of_ble_eq_true rfl) (Nat.le_of_ble_eq_true rfl) (by decide) (by decide) (fun E h9 q9 => z_out rfl (by obtain ⟨rfl, q1, rfl⟩ := q9; exact zXc.mk (by assumption) (by first | exact zFrm.rf | assumption) (by unfold sp_put; (try unfold spPut); (try simp only [Int.toNat_natCast]); (repeat (first | rw [if_pos (by omega)] | rw [if_neg (by omega)] | rw [if_pos (by assumption)] | rw [if_neg (by assumption)])); all_goals (first | rfl | (congr 2; omega) | (congr 1; congr 1; omega))))) ?_
  rintro _ _ ⟨rfl, hx9, rfl⟩
  refine z_iload_n dCls_put_17 rfl ?_
  refine z_iconst dCls_put_18 ?_
  refine z_icmp_eq (tgt := 32) dCls_put_19 (by decide) (by omega) (by omega) (fun c19 => ?_) (fun c19 => ?_)
  · refine z_iconst dCls_put_32 ?_
    refine z_goto (tgt := 37) dCls_put_33 (by decide) ?_
    refine z_istore dCls_put_37 (Nat.le_of_ble_eq_true rfl) ?_
    refine z_aload_n dCls_put_39 rfl ?_
    refine z_iload_n dCls_put_40 rfl ?_
    refine z_iload dCls_put_41 rfl ?_
    refine z_if_eq (tgt := 54) dCls_put_43 (by decide) (by omega) (fun c43 => ?_) (fun c43 => ?_)
    · refine z_iconst dCls_put_54 ?_
      refine z_iload_n dCls_put_55 rfl ?_
      refine z_callV (bc' := 2) (bs' := 12) MV_Cls_putInto lk_Cls_50 dCls_put_56 (k_Cls_putInto (by assumption) (by omega) (by omega) (by omega)) rfl rfl (Nat.le_of_ble_eq_true rfl) rfl (by assumption) (Nat.le_of_ble_eq_true rfl) (Nat.le_of_ble_eq_true rfl) (by decide) (by decide) (fun _ _ q => q.elim) ?_
      rintro _ h9 ⟨(⟨rfl, m1, m2, m3, hC9⟩ | ⟨rfl, m1, hC9⟩), fz9⟩
      · refine z_iret rfl rfl dCls_put_59 ?_
        first
          | (exfalso; omega)
          | exact zQc.mk (by assumption) (by first | exact zFrm.rf | assumption) (by unfold sp_put; (try unfold spPut); (try simp only [Int.toNat_natCast]); (repeat (first | rw [if_pos (by omega)] | rw [if_neg (by omega)] | rw [if_pos (by assumption)] | rw [if_neg (by assumption)])); all_goals (first | rfl | (congr 2; omega) | (congr 1; congr 1; omega)))
      · refine z_iret rfl rfl dCls_put_59 ?_
        first
          | (exfalso; omega)
          | exact zQc.mk (by assumption) (by first | exact zFrm.rf | assumption) (by unfold sp_put; (try unfold spPut); (try simp only [Int.toNat_natCast]); (repeat (first | rw [if_pos (by omega)] | rw [if_neg (by omega)] | rw [if_pos (by assumption)] | rw [if_neg (by assumption)])); all_goals (first | rfl | (congr 2; omega) | (congr 1; congr 1; omega)))
    · refine z_aload dCls_put_46 rfl ?_
      refine z_getN (k := 1) fd_Row (by decide) fl_Cls_46 dCls_put_48 (by assumption) (by rfl) ?_
      refine z_goto (tgt := 55) dCls_put_51 (by decide) ?_
      refine z_iload_n dCls_put_55 rfl ?_
      refine z_callV (bc' := 2) (bs' := 12) MV_Cls_putInto lk_Cls_50 dCls_put_56 (k_Cls_putInto (by assumption) (by omega) (by omega) (by omega)) rfl rfl (Nat.le_of_ble_eq_true rfl) rfl (by assumption) (Nat.le_of_ble_eq_true rfl) (Nat.le_of_ble_eq_true rfl) (by decide) (by decide) (fun _ _ q => q.elim) ?_
      rintro _ h9 ⟨(⟨rfl, m1, m2, m3, hC9⟩ | ⟨rfl, m1, hC9⟩), fz9⟩
      · refine z_iret rfl rfl dCls_put_59 ?_
        first
          | (exfalso; omega)
          | exact zQc.mk (by assumption) (by first | exact zFrm.rf | assumption) (by unfold sp_put; (try unfold spPut); (try simp only [Int.toNat_natCast]); (repeat (first | rw [if_pos (by omega)] | rw [if_neg (by omega)] | rw [if_pos (by assumption)] | rw [if_neg (by assumption)])); all_goals (first | rfl | (congr 2; omega) | (congr 1; congr 1; omega)))
      · refine z_iret rfl rfl dCls_put_59 ?_
        first
          | (exfalso; omega)
          | exact zQc.mk (by assumption) (by first | exact zFrm.rf | assumption) (by unfold sp_put; (try unfold spPut); (try simp only [Int.toNat_natCast]); (repeat (first | rw [if_pos (by omega)] | rw [if_neg (by omega)] | rw [if_pos (by assumption)] | rw [if_neg (by assumption)])); all_goals (first | rfl | (congr 2; omega) | (congr 1; congr 1; omega)))
  · refine z_iload_n dCls_put_22 rfl ?_
    refine z_iconst dCls_put_23 ?_
    refine z_icmp_eq (tgt := 32) dCls_put_24 (by decide) (by omega) (by omega) (fun c24 => ?_) (fun c24 => ?_)
    · refine z_iconst dCls_put_32 ?_
      refine z_goto (tgt := 37) dCls_put_33 (by decide) ?_
      refine z_istore dCls_put_37 (Nat.le_of_ble_eq_true rfl) ?_
      refine z_aload_n dCls_put_39 rfl ?_
      refine z_iload_n dCls_put_40 rfl ?_
      refine z_iload dCls_put_41 rfl ?_
      refine z_if_eq (tgt := 54) dCls_put_43 (by decide) (by omega) (fun c43 => ?_) (fun c43 => ?_)
      · refine z_iconst dCls_put_54 ?_
        refine z_iload_n dCls_put_55 rfl ?_
        refine z_callV (bc' := 2) (bs' := 12) MV_Cls_putInto lk_Cls_50 dCls_put_56 (k_Cls_putInto (by assumption) (by omega) (by omega) (by omega)) rfl rfl (Nat.le_of_ble_eq_true rfl) rfl (by assumption) (Nat.le_of_ble_eq_true rfl) (Nat.le_of_ble_eq_true rfl) (by decide) (by decide) (fun _ _ q => q.elim) ?_
        rintro _ h9 ⟨(⟨rfl, m1, m2, m3, hC9⟩ | ⟨rfl, m1, hC9⟩), fz9⟩
        · refine z_iret rfl rfl dCls_put_59 ?_
          first
            | (exfalso; omega)
            | exact zQc.mk (by assumption) (by first | exact zFrm.rf | assumption) (by unfold sp_put; (try unfold spPut); (try simp only [Int.toNat_natCast]); (repeat (first | rw [if_pos (by omega)] | rw [if_neg (by omega)] | rw [if_pos (by assumption)] | rw [if_neg (by assumption)])); all_goals (first | rfl | (congr 2; omega) | (congr 1; congr 1; omega)))
        · refine z_iret rfl rfl dCls_put_59 ?_
          first
            | (exfalso; omega)
            | exact zQc.mk (by assumption) (by first | exact zFrm.rf | assumption) (by unfold sp_put; (try unfold spPut); (try simp only [Int.toNat_natCast]); (repeat (first | rw [if_pos (by omega)] | rw [if_neg (by omega)] | rw [if_pos (by assumption)] | rw [if_neg (by assumption)])); all_goals (first | rfl | (congr 2; omega) | (congr 1; congr 1; omega)))
      · refine z_aload dCls_put_46 rfl ?_
        refine z_getN (k := 1) fd_Row (by decide) fl_Cls_46 dCls_put_48 (by assumption) (by rfl) ?_
        refine z_goto (tgt := 55) dCls_put_51 (by decide) ?_
        refine z_iload_n dCls_put_55 rfl ?_
        refine z_callV (bc' := 2) (bs' := 12) MV_Cls_putInto lk_Cls_50 dCls_put_56 (k_Cls_putInto (by assumption) (by omega) (by omega) (by omega)) rfl rfl (Nat.le_of_ble_eq_true rfl) rfl (by assumption) (Nat.le_of_ble_eq_true rfl) (Nat.le_of_ble_eq_true rfl) (by decide) (by decide) (fun _ _ q => q.elim) ?_
        rintro _ h9 ⟨(⟨rfl, m1, m2, m3, hC9⟩ | ⟨rfl, m1, hC9⟩), fz9⟩
        · refine z_iret rfl rfl dCls_put_59 ?_
          first
            | (exfalso; omega)
            | exact zQc.mk (by assumption) (by first | exact zFrm.rf | assumption) (by unfold sp_put; (try unfold spPut); (try simp only [Int.toNat_natCast]); (repeat (first | rw [if_pos (by omega)] | rw [if_neg (by omega)] | rw [if_pos (by assumption)] | rw [if_neg (by assumption)])); all_goals (first | rfl | (congr 2; omega) | (congr 1; congr 1; omega)))
        · refine z_iret rfl rfl dCls_put_59 ?_
          first
            | (exfalso; omega)
            | exact zQc.mk (by assumption) (by first | exact zFrm.rf | assumption) (by unfold sp_put; (try unfold spPut); (try simp only [Int.toNat_natCast]); (repeat (first | rw [if_pos (by omega)] | rw [if_neg (by omega)] | rw [if_pos (by assumption)] | rw [if_neg (by assumption)])); all_goals (first | rfl | (congr 2; omega) | (congr 1; congr 1; omega)))
    · refine z_iload_n dCls_put_27 rfl ?_
      refine z_iconst dCls_put_28 ?_
      refine z_icmp_ne (tgt := 36) dCls_put_29 (by decide) (by omega) (by omega) (fun c29 => ?_) (fun c29 => ?_)
      · refine z_iconst dCls_put_36 ?_
        refine z_istore dCls_put_37 (Nat.le_of_ble_eq_true rfl) ?_
        refine z_aload_n dCls_put_39 rfl ?_
        refine z_iload_n dCls_put_40 rfl ?_
        refine z_iload dCls_put_41 rfl ?_
        refine z_if_eq (tgt := 54) dCls_put_43 (by decide) (by omega) (fun c43 => ?_) (fun c43 => ?_)
        · refine z_iconst dCls_put_54 ?_
          refine z_iload_n dCls_put_55 rfl ?_
          refine z_callV (bc' := 2) (bs' := 12) MV_Cls_putInto lk_Cls_50 dCls_put_56 (k_Cls_putInto (by assumption) (by omega) (by omega) (by omega)) rfl rfl (Nat.le_of_ble_eq_true rfl) rfl (by assumption) (Nat.le_of_ble_eq_true rfl) (Nat.le_of_ble_eq_true rfl) (by decide) (by decide) (fun _ _ q => q.elim) ?_
          rintro _ h9 ⟨(⟨rfl, m1, m2, m3, hC9⟩ | ⟨rfl, m1, hC9⟩), fz9⟩
          · refine z_iret rfl rfl dCls_put_59 ?_
            first
              | (exfalso; omega)
              | exact zQc.mk (by assumption) (by first | exact zFrm.rf | assumption) (by unfold sp_put; (try unfold spPut); (try simp only [Int.toNat_natCast]); (repeat (first | rw [if_pos (by omega)] | rw [if_neg (by omega)] | rw [if_pos (by assumption)] | rw [if_neg (by assumption)])); all_goals (first | rfl | (congr 2; omega) | (congr 1; congr 1; omega)))
          · refine z_iret rfl rfl dCls_put_59 ?_
            first
              | (exfalso; omega)
              | exact zQc.mk (by assumption) (by first | exact zFrm.rf | assumption) (by unfold sp_put; (try unfold spPut); (try simp only [Int.toNat_natCast]); (repeat (first | rw [if_pos (by omega)] | rw [if_neg (by omega)] | rw [if_pos (by assumption)] | rw [if_neg (by assumption)])); all_goals (first | rfl | (congr 2; omega) | (congr 1; congr 1; omega)))
        · refine z_aload dCls_put_46 rfl ?_
          refine z_getN (k := 1) fd_Row (by decide) fl_Cls_46 dCls_put_48 (by assumption) (by rfl) ?_
          refine z_goto (tgt := 55) dCls_put_51 (by decide) ?_
          refine z_iload_n dCls_put_55 rfl ?_
          refine z_callV (bc' := 2) (bs' := 12) MV_Cls_putInto lk_Cls_50 dCls_put_56 (k_Cls_putInto (by assumption) (by omega) (by omega) (by omega)) rfl rfl (Nat.le_of_ble_eq_true rfl) rfl (by assumption) (Nat.le_of_ble_eq_true rfl) (Nat.le_of_ble_eq_true rfl) (by decide) (by decide) (fun _ _ q => q.elim) ?_
          rintro _ h9 ⟨(⟨rfl, m1, m2, m3, hC9⟩ | ⟨rfl, m1, hC9⟩), fz9⟩
          · refine z_iret rfl rfl dCls_put_59 ?_
            first
              | (exfalso; omega)
              | exact zQc.mk (by assumption) (by first | exact zFrm.rf | assumption) (by unfold sp_put; (try unfold spPut); (try simp only [Int.toNat_natCast]); (repeat (first | rw [if_pos (by omega)] | rw [if_neg (by omega)] | rw [if_pos (by assumption)] | rw [if_neg (by assumption)])); all_goals (first | rfl | (congr 2; omega) | (congr 1; congr 1; omega)))
          · refine z_iret rfl rfl dCls_put_59 ?_
            first
              | (exfalso; omega)
              | exact zQc.mk (by assumption) (by first | exact zFrm.rf | assumption) (by unfold sp_put; (try unfold spPut); (try simp only [Int.toNat_natCast]); (repeat (first | rw [if_pos (by omega)] | rw [if_neg (by omega)] | rw [if_pos (by assumption)] | rw [if_neg (by assumption)])); all_goals (first | rfl | (congr 2; omega) | (congr 1; congr 1; omega)))
      · refine z_iconst dCls_put_32 ?_
        refine z_goto (tgt := 37) dCls_put_33 (by decide) ?_
        refine z_istore dCls_put_37 (Nat.le_of_ble_eq_true rfl) ?_
        refine z_aload_n dCls_put_39 rfl ?_
        refine z_iload_n dCls_put_40 rfl ?_
        refine z_iload dCls_put_41 rfl ?_
        refine z_if_eq (tgt := 54) dCls_put_43 (by decide) (by omega) (fun c43 => ?_) (fun c43 => ?_)
        · refine z_iconst dCls_put_54 ?_
          refine z_iload_n dCls_put_55 rfl ?_
          refine z_callV (bc' := 2) (bs' := 12) MV_Cls_putInto lk_Cls_50 dCls_put_56 (k_Cls_putInto (by assumption) (by omega) (by omega) (by omega)) rfl rfl (Nat.le_of_ble_eq_true rfl) rfl (by assumption) (Nat.le_of_ble_eq_true rfl) (Nat.le_of_ble_eq_true rfl) (by decide) (by decide) (fun _ _ q => q.elim) ?_
          rintro _ h9 ⟨(⟨rfl, m1, m2, m3, hC9⟩ | ⟨rfl, m1, hC9⟩), fz9⟩
          · refine z_iret rfl rfl dCls_put_59 ?_
            first
              | (exfalso; omega)
              | exact zQc.mk (by assumption) (by first | exact zFrm.rf | assumption) (by unfold sp_put; (try unfold spPut); (try simp only [Int.toNat_natCast]); (repeat (first | rw [if_pos (by omega)] | rw [if_neg (by omega)] | rw [if_pos (by assumption)] | rw [if_neg (by assumption)])); all_goals (first | rfl | (congr 2; omega) | (congr 1; congr 1; omega)))
          · refine z_iret rfl rfl dCls_put_59 ?_
            first
              | (exfalso; omega)
              | exact zQc.mk (by assumption) (by first | exact zFrm.rf | assumption) (by unfold sp_put; (try unfold spPut); (try simp only [Int.toNat_natCast]); (repeat (first | rw [if_pos (by omega)] | rw [if_neg (by omega)] | rw [if_pos (by assumption)] | rw [if_neg (by assumption)])); all_goals (first | rfl | (congr 2; omega) | (congr 1; congr 1; omega)))
        · refine z_aload dCls_put_46 rfl ?_
          refine z_getN (k := 1) fd_Row (by decide) fl_Cls_46 dCls_put_48 (by assumption) (by rfl) ?_
          refine z_goto (tgt := 55) dCls_put_51 (by decide) ?_
          refine z_iload_n dCls_put_55 rfl ?_
          refine z_callV (bc' := 2) (bs' := 12) MV_Cls_putInto lk_Cls_50 dCls_put_56 (k_Cls_putInto (by assumption) (by omega) (by omega) (by omega)) rfl rfl (Nat.le_of_ble_eq_true rfl) rfl (by assumption) (Nat.le_of_ble_eq_true rfl) (Nat.le_of_ble_eq_true rfl) (by decide) (by decide) (fun _ _ q => q.elim) ?_
          rintro _ h9 ⟨(⟨rfl, m1, m2, m3, hC9⟩ | ⟨rfl, m1, hC9⟩), fz9⟩
          · refine z_iret rfl rfl dCls_put_59 ?_
            first
              | (exfalso; omega)
              | exact zQc.mk (by assumption) (by first | exact zFrm.rf | assumption) (by unfold sp_put; (try unfold spPut); (try simp only [Int.toNat_natCast]); (repeat (first | rw [if_pos (by omega)] | rw [if_neg (by omega)] | rw [if_pos (by assumption)] | rw [if_neg (by assumption)])); all_goals (first | rfl | (congr 2; omega) | (congr 1; congr 1; omega)))
          · refine z_iret rfl rfl dCls_put_59 ?_
            first
              | (exfalso; omega)
              | exact zQc.mk (by assumption) (by first | exact zFrm.rf | assumption) (by unfold sp_put; (try unfold spPut); (try simp only [Int.toNat_natCast]); (repeat (first | rw [if_pos (by omega)] | rw [if_neg (by omega)] | rw [if_pos (by assumption)] | rw [if_neg (by assumption)])); all_goals (first | rfl | (congr 2; omega) | (congr 1; congr 1; omega)))
theorem k_Cls_take {p w : Int}  (hC : zCls G h ad S) (z_p : zI32 p) (z_w : zI32 w) : zM G l hCls_take yCls_take 9 [.ref (ad 0), zi p, zi w] h (zQc G ad h (sp_take S p w)) (zXc G ad h (sp_take S p w)) 6 36 := by
  obtain ⟨c1, c2, ⟨g3, c3, d3⟩, ⟨g4, c4, d4⟩, c5, ⟨T6, c6, d6⟩, c7, c8, ⟨R9, c9⟩, c10⟩ := id hC
  refine zM.of [some (.ref (ad 0)), some (zi p), some (zi w), none] (by decide +kernel) rfl (by decide) rfl (Nat.le_of_ble_eq_true rfl) rfl ?_
  refine z_aload_n dCls_take_0 rfl ?_
  refine z_iload_n dCls_take_1 rfl ?_
  refine z_callV (bc' := 5) (bs' := 30) MV_Cls_listAt lk_Cls_34 dCls_take_2 (k_Cls_listAt (by assumption) (by omega)) rfl rfl (Nat.le_of_ble_eq_true rfl) rfl (by assumption) (Nat.le_of_ble_eq_true rfl) (Nat.le_of_ble_eq_true rfl) (by decide) (by decide) (fun E h9 q9 => z_out rfl (by obtain ⟨rfl, q1, rfl⟩ := q9; exact zXc.mk (by assumption) (by first | exact zFrm.rf | assumption) (by unfold sp_take; (try unfold spPut); (try simp only [Int.toNat_natCast]); (repeat (first | rw [if_pos (by omega)] | rw [if_neg (by omega)] | rw [if_pos (by assumption)] | rw [if_neg (by assumption)])); all_goals (first | rfl | (congr 2; omega) | (congr 1; congr 1; omega))))) ?_
  rintro _ _ ⟨rfl, aA1, aA2, rfl⟩
  obtain ⟨kA, rfl⟩ := Int.eq_ofNat_of_zero_le aA1
  simp only [Int.toNat_natCast]
  have hkA : kA < 4 := by omega
  have hrA := hC.ls hkA
  obtain ⟨fA, eA, -⟩ := id hrA
  have hlA := hrA.len
  refine z_astore_n dCls_take_5 (Nat.le_of_ble_eq_true rfl) ?_
  refine z_iload_n dCls_take_6 rfl ?_
  refine z_iconst dCls_take_7 ?_
  refine z_bipush dCls_take_8 rfl ?_
  refine z_callS (bc' := 4) (bs' := 24) MS_Cls_demandWithin lk_Cls_38 dCls_take_10 (k_Cls_demandWithin (by omega) (by omega) (by omega)) rfl rfl (Nat.le_of_ble_eq_true rfl)  (Nat.le_of_ble_eq_true rfl) (Nat.le_of_ble_eq_true rfl) (by decide) (by decide) (fun E h9 q9 => z_out rfl (by obtain ⟨rfl, q1, rfl⟩ := q9; exact zXc.mk (by assumption) (by first | exact zFrm.rf | assumption) (by unfold sp_take; (try unfold spPut); (try simp only [Int.toNat_natCast]); (repeat (first | rw [if_pos (by omega)] | rw [if_neg (by omega)] | rw [if_pos (by assumption)] | rw [if_neg (by assumption)])); all_goals (first | rfl | (congr 2; omega) | (congr 1; congr 1; omega))))) ?_
  rintro _ _ ⟨rfl, w1, w2, rfl⟩
  refine z_aload_n dCls_take_13 rfl ?_
  refine z_getN (k := 1) fd_Row (by decide) fl_Cls_46 dCls_take_14 (by assumption) (by rfl) ?_
  refine z_if_ne (tgt := 54) dCls_take_17 (by decide) (by omega) (fun c17 => ?_) (fun c17 => ?_)
  · refine z_aload_n dCls_take_54 rfl ?_
    refine z_iload_n dCls_take_55 rfl ?_
    refine z_aload_n dCls_take_56 rfl ?_
    refine z_iload_n dCls_take_57 rfl ?_
    refine z_callS MS_Cls_endOf lk_Cls_62 dCls_take_58 (k_Cls_endOf hrA (by omega)) rfl rfl (Nat.le_of_ble_eq_true rfl)  (Nat.le_of_ble_eq_true rfl) (Nat.le_of_ble_eq_true rfl) (Nat.le_of_eq (Nat.zero_add _)) (Nat.le_of_eq (Nat.zero_add _)) (fun _ _ q => q.elim) ?_
    rintro _ _ ⟨rfl, rfl⟩
    refine z_callV (bc' := 3) (bs' := 18) MV_Cls_takeFrom lk_Cls_66 dCls_take_61 (k_Cls_takeFrom (by assumption) (by omega) (by split <;> omega)) rfl rfl (Nat.le_of_ble_eq_true rfl) rfl (by assumption) (Nat.le_of_ble_eq_true rfl) (Nat.le_of_ble_eq_true rfl) (by decide) (by decide) (fun _ _ q => q.elim) ?_
    rintro _ h9 ⟨rfl, hC9, fz9⟩
    refine z_iret rfl rfl dCls_take_64 ?_
    first
      | (exfalso; omega)
      | exact zQc.mk (by assumption) (by first | exact zFrm.rf | assumption) (by unfold sp_take; (try unfold spPut); (try simp only [Int.toNat_natCast]); (repeat (first | rw [if_pos (by omega)] | rw [if_neg (by omega)] | rw [if_pos (by assumption)] | rw [if_neg (by assumption)])); all_goals (first | rfl | (congr 2; omega) | (congr 1; congr 1; omega)))
  · refine z_iload_n dCls_take_20 rfl ?_
    refine z_if_eq (tgt := 39) dCls_take_21 (by decide) (by omega) (fun c21 => ?_) (fun c21 => ?_)
    · refine z_aload_n dCls_take_39 rfl ?_
      refine z_callV MV_Cls_refuse lk_Cls_54 dCls_take_40 (k_Cls_refuse (by assumption)) rfl rfl (Nat.le_of_ble_eq_true rfl) rfl (by assumption) (Nat.le_of_ble_eq_true rfl) (Nat.le_of_ble_eq_true rfl) (Nat.le_of_eq (Nat.zero_add _)) (Nat.le_of_eq (Nat.zero_add _)) (fun _ _ q => q.elim) ?_
      rintro _ h9 ⟨rfl, hC9, fz9⟩
      refine z_iret rfl rfl dCls_take_43 ?_
      first
        | (exfalso; omega)
        | exact zQc.mk (by assumption) (by first | exact zFrm.rf | assumption) (by unfold sp_take; (try unfold spPut); (try simp only [Int.toNat_natCast]); (repeat (first | rw [if_pos (by omega)] | rw [if_neg (by omega)] | rw [if_pos (by assumption)] | rw [if_neg (by assumption)])); all_goals (first | rfl | (congr 2; omega) | (congr 1; congr 1; omega)))
    · refine z_iload_n dCls_take_24 rfl ?_
      refine z_iconst dCls_take_25 ?_
      refine z_icmp_eq (tgt := 39) dCls_take_26 (by decide) (by omega) (by omega) (fun c26 => ?_) (fun c26 => ?_)
      · refine z_aload_n dCls_take_39 rfl ?_
        refine z_callV MV_Cls_refuse lk_Cls_54 dCls_take_40 (k_Cls_refuse (by assumption)) rfl rfl (Nat.le_of_ble_eq_true rfl) rfl (by assumption) (Nat.le_of_ble_eq_true rfl) (Nat.le_of_ble_eq_true rfl) (Nat.le_of_eq (Nat.zero_add _)) (Nat.le_of_eq (Nat.zero_add _)) (fun _ _ q => q.elim) ?_
        rintro _ h9 ⟨rfl, hC9, fz9⟩
        refine z_iret rfl rfl dCls_take_43 ?_
        first
          | (exfalso; omega)
          | exact zQc.mk (by assumption) (by first | exact zFrm.rf | assumption) (by unfold sp_take; (try unfold spPut); (try simp only [Int.toNat_natCast]); (repeat (first | rw [if_pos (by omega)] | rw [if_neg (by omega)] | rw [if_pos (by assumption)] | rw [if_neg (by assumption)])); all_goals (first | rfl | (congr 2; omega) | (congr 1; congr 1; omega)))
      · refine z_iload_n dCls_take_29 rfl ?_
        refine z_iconst dCls_take_30 ?_
        refine z_icmp_eq (tgt := 39) dCls_take_31 (by decide) (by omega) (by omega) (fun c31 => ?_) (fun c31 => ?_)
        · refine z_aload_n dCls_take_39 rfl ?_
          refine z_callV MV_Cls_refuse lk_Cls_54 dCls_take_40 (k_Cls_refuse (by assumption)) rfl rfl (Nat.le_of_ble_eq_true rfl) rfl (by assumption) (Nat.le_of_ble_eq_true rfl) (Nat.le_of_ble_eq_true rfl) (Nat.le_of_eq (Nat.zero_add _)) (Nat.le_of_eq (Nat.zero_add _)) (fun _ _ q => q.elim) ?_
          rintro _ h9 ⟨rfl, hC9, fz9⟩
          refine z_iret rfl rfl dCls_take_43 ?_
          first
            | (exfalso; omega)
            | exact zQc.mk (by assumption) (by first | exact zFrm.rf | assumption) (by unfold sp_take; (try unfold spPut); (try simp only [Int.toNat_natCast]); (repeat (first | rw [if_pos (by omega)] | rw [if_neg (by omega)] | rw [if_pos (by assumption)] | rw [if_neg (by assumption)])); all_goals (first | rfl | (congr 2; omega) | (congr 1; congr 1; omega)))
        · refine z_iload_n dCls_take_34 rfl ?_
          refine z_iconst dCls_take_35 ?_
          refine z_icmp_ne (tgt := 44) dCls_take_36 (by decide) (by omega) (by omega) (fun c36 => ?_) (fun c36 => ?_)
          · refine z_aload_n dCls_take_44 rfl ?_
            refine z_iload_n dCls_take_45 rfl ?_
            refine z_iconst dCls_take_46 ?_
            refine z_callV MV_Cls_makeStale lk_Cls_58 dCls_take_47 (k_Cls_makeStale (by assumption) (by omega) (by omega)) rfl rfl (Nat.le_of_ble_eq_true rfl) rfl (by assumption) (Nat.le_of_ble_eq_true rfl) (Nat.le_of_ble_eq_true rfl) (Nat.le_of_eq (Nat.zero_add _)) (Nat.le_of_eq (Nat.zero_add _)) (fun _ _ q => q.elim) ?_
            rintro _ h2 ⟨rfl, hC2, gz2⟩
            obtain ⟨-, d2, -⟩ := id hC2
            have fz2 := gz2
            have hm2 := hC2.ls hkA
            simp only [zsS_l, zsS_0] at hm2
            obtain ⟨fm2, em2, -⟩ := id hm2
            refine z_sipush dCls_take_50 rfl ?_
            refine z_iret rfl rfl dCls_take_53 ?_
            first
              | (exfalso; omega)
              | exact zQc.mk (by assumption) (by first | exact zFrm.rf | assumption) (by unfold sp_take; (try unfold spPut); (try simp only [Int.toNat_natCast]); (repeat (first | rw [if_pos (by omega)] | rw [if_neg (by omega)] | rw [if_pos (by assumption)] | rw [if_neg (by assumption)])); all_goals (first | rfl | (congr 2; omega) | (congr 1; congr 1; omega)))
          · refine z_aload_n dCls_take_39 rfl ?_
            refine z_callV MV_Cls_refuse lk_Cls_54 dCls_take_40 (k_Cls_refuse (by assumption)) rfl rfl (Nat.le_of_ble_eq_true rfl) rfl (by assumption) (Nat.le_of_ble_eq_true rfl) (Nat.le_of_ble_eq_true rfl) (Nat.le_of_eq (Nat.zero_add _)) (Nat.le_of_eq (Nat.zero_add _)) (fun _ _ q => q.elim) ?_
            rintro _ h9 ⟨rfl, hC9, fz9⟩
            refine z_iret rfl rfl dCls_take_43 ?_
            first
              | (exfalso; omega)
              | exact zQc.mk (by assumption) (by first | exact zFrm.rf | assumption) (by unfold sp_take; (try unfold spPut); (try simp only [Int.toNat_natCast]); (repeat (first | rw [if_pos (by omega)] | rw [if_neg (by omega)] | rw [if_pos (by assumption)] | rw [if_neg (by assumption)])); all_goals (first | rfl | (congr 2; omega) | (congr 1; congr 1; omega)))
theorem k_Cls_look {p w : Int}  (hC : zCls G h ad S) (z_p : zI32 p) (z_w : zI32 w) : zM G l hCls_look yCls_look 9 [.ref (ad 0), zi p, zi w] h (zQc G ad h (sp_look S p w)) (zXc G ad h (sp_look S p w)) 6 36 := by
  obtain ⟨c1, c2, ⟨g3, c3, d3⟩, ⟨g4, c4, d4⟩, c5, ⟨T6, c6, d6⟩, c7, c8, ⟨R9, c9⟩, c10⟩ := id hC
  refine zM.of [some (.ref (ad 0)), some (zi p), some (zi w), none] (by decide +kernel) rfl (by decide) rfl (Nat.le_of_ble_eq_true rfl) rfl ?_
  refine z_aload_n dCls_look_0 rfl ?_
  refine z_iload_n dCls_look_1 rfl ?_
  refine z_callV (bc' := 5) (bs' := 30) MV_Cls_listAt lk_Cls_34 dCls_look_2 (k_Cls_listAt (by assumption) (by omega)) rfl rfl (Nat.le_of_ble_eq_true rfl) rfl (by assumption) (Nat.le_of_ble_eq_true rfl) (Nat.le_of_ble_eq_true rfl) (by decide) (by decide) (fun E h9 q9 => z_out rfl (by obtain ⟨rfl, q1, rfl⟩ := q9; exact zXc.mk (by assumption) (by first | exact zFrm.rf | assumption) (by unfold sp_look; (try unfold spPut); (try simp only [Int.toNat_natCast]); (repeat (first | rw [if_pos (by omega)] | rw [if_neg (by omega)] | rw [if_pos (by assumption)] | rw [if_neg (by assumption)])); all_goals (first | rfl | (congr 2; omega) | (congr 1; congr 1; omega))))) ?_
  rintro _ _ ⟨rfl, aA1, aA2, rfl⟩
  obtain ⟨kA, rfl⟩ := Int.eq_ofNat_of_zero_le aA1
  simp only [Int.toNat_natCast]
  have hkA : kA < 4 := by omega
  have hrA := hC.ls hkA
  obtain ⟨fA, eA, -⟩ := id hrA
  have hlA := hrA.len
  refine z_astore_n dCls_look_5 (Nat.le_of_ble_eq_true rfl) ?_
  refine z_iload_n dCls_look_6 rfl ?_
  refine z_iconst dCls_look_7 ?_
  refine z_iconst dCls_look_8 ?_
  refine z_callS (bc' := 4) (bs' := 24) MS_Cls_demandWithin lk_Cls_38 dCls_look_9 (k_Cls_demandWithin (by omega) (by omega) (by omega)) rfl rfl (Nat.le_of_ble_eq_true rfl)  (Nat.le_of_ble_eq_true rfl) (Nat.le_of_ble_eq_true rfl) (by decide) (by decide) (fun E h9 q9 => z_out rfl (by obtain ⟨rfl, q1, rfl⟩ := q9; exact zXc.mk (by assumption) (by first | exact zFrm.rf | assumption) (by unfold sp_look; (try unfold spPut); (try simp only [Int.toNat_natCast]); (repeat (first | rw [if_pos (by omega)] | rw [if_neg (by omega)] | rw [if_pos (by assumption)] | rw [if_neg (by assumption)])); all_goals (first | rfl | (congr 2; omega) | (congr 1; congr 1; omega))))) ?_
  rintro _ _ ⟨rfl, w1, w2, rfl⟩
  refine z_aload_n dCls_look_12 rfl ?_
  refine z_getN (k := 1) fd_Row (by decide) fl_Cls_46 dCls_look_13 (by assumption) (by rfl) ?_
  refine z_if_ne (tgt := 44) dCls_look_16 (by decide) (by omega) (fun c16 => ?_) (fun c16 => ?_)
  · refine z_aload_n dCls_look_44 rfl ?_
    refine z_aload_n dCls_look_45 rfl ?_
    refine z_iload_n dCls_look_46 rfl ?_
    refine z_callS MS_Cls_endOf lk_Cls_62 dCls_look_47 (k_Cls_endOf hrA (by omega)) rfl rfl (Nat.le_of_ble_eq_true rfl)  (Nat.le_of_ble_eq_true rfl) (Nat.le_of_ble_eq_true rfl) (Nat.le_of_eq (Nat.zero_add _)) (Nat.le_of_eq (Nat.zero_add _)) (fun _ _ q => q.elim) ?_
    rintro _ _ ⟨rfl, rfl⟩
    refine z_callVN MV_Row_itemAt lk_Cls_70 dCls_look_50 (k_Row_itemAt hrA (by split <;> omega)) rfl rfl (Nat.le_of_ble_eq_true rfl) rfl (by assumption) (Nat.le_of_ble_eq_true rfl) (Nat.le_of_ble_eq_true rfl) (Nat.le_of_eq (Nat.zero_add _)) (Nat.le_of_eq (Nat.zero_add _)) (fun _ _ q => q.elim) ?_
    rintro _ _ ⟨rfl, rfl⟩
    refine z_iret rfl rfl dCls_look_53 ?_
    first
      | (exfalso; omega)
      | exact zQc.mk (by assumption) (by first | exact zFrm.rf | assumption) (by unfold sp_look; (try unfold spPut); (try simp only [Int.toNat_natCast]); (repeat (first | rw [if_pos (by omega)] | rw [if_neg (by omega)] | rw [if_pos (by assumption)] | rw [if_neg (by assumption)])); all_goals (first | rfl | (congr 2; omega) | (congr 1; congr 1; omega)))
  · refine z_iload_n dCls_look_19 rfl ?_
    refine z_if_eq (tgt := 33) dCls_look_20 (by decide) (by omega) (fun c20 => ?_) (fun c20 => ?_)
    · refine z_aload_n dCls_look_33 rfl ?_
      refine z_callV MV_Cls_refuse lk_Cls_54 dCls_look_34 (k_Cls_refuse (by assumption)) rfl rfl (Nat.le_of_ble_eq_true rfl) rfl (by assumption) (Nat.le_of_ble_eq_true rfl) (Nat.le_of_ble_eq_true rfl) (Nat.le_of_eq (Nat.zero_add _)) (Nat.le_of_eq (Nat.zero_add _)) (fun _ _ q => q.elim) ?_
      rintro _ h9 ⟨rfl, hC9, fz9⟩
      refine z_goto (tgt := 43) dCls_look_37 (by decide) ?_
      refine z_iret rfl rfl dCls_look_43 ?_
      first
        | (exfalso; omega)
        | exact zQc.mk (by assumption) (by first | exact zFrm.rf | assumption) (by unfold sp_look; (try unfold spPut); (try simp only [Int.toNat_natCast]); (repeat (first | rw [if_pos (by omega)] | rw [if_neg (by omega)] | rw [if_pos (by assumption)] | rw [if_neg (by assumption)])); all_goals (first | rfl | (congr 2; omega) | (congr 1; congr 1; omega)))
    · refine z_iload_n dCls_look_23 rfl ?_
      refine z_iconst dCls_look_24 ?_
      refine z_icmp_eq (tgt := 33) dCls_look_25 (by decide) (by omega) (by omega) (fun c25 => ?_) (fun c25 => ?_)
      · refine z_aload_n dCls_look_33 rfl ?_
        refine z_callV MV_Cls_refuse lk_Cls_54 dCls_look_34 (k_Cls_refuse (by assumption)) rfl rfl (Nat.le_of_ble_eq_true rfl) rfl (by assumption) (Nat.le_of_ble_eq_true rfl) (Nat.le_of_ble_eq_true rfl) (Nat.le_of_eq (Nat.zero_add _)) (Nat.le_of_eq (Nat.zero_add _)) (fun _ _ q => q.elim) ?_
        rintro _ h9 ⟨rfl, hC9, fz9⟩
        refine z_goto (tgt := 43) dCls_look_37 (by decide) ?_
        refine z_iret rfl rfl dCls_look_43 ?_
        first
          | (exfalso; omega)
          | exact zQc.mk (by assumption) (by first | exact zFrm.rf | assumption) (by unfold sp_look; (try unfold spPut); (try simp only [Int.toNat_natCast]); (repeat (first | rw [if_pos (by omega)] | rw [if_neg (by omega)] | rw [if_pos (by assumption)] | rw [if_neg (by assumption)])); all_goals (first | rfl | (congr 2; omega) | (congr 1; congr 1; omega)))
      · refine z_iload_n dCls_look_28 rfl ?_
        refine z_iconst dCls_look_29 ?_
        refine z_icmp_ne (tgt := 40) dCls_look_30 (by decide) (by omega) (by omega) (fun c30 => ?_) (fun c30 => ?_)
        · refine z_sipush dCls_look_40 rfl ?_
          refine z_iret rfl rfl dCls_look_43 ?_
          first
            | (exfalso; omega)
            | exact zQc.mk (by assumption) (by first | exact zFrm.rf | assumption) (by unfold sp_look; (try unfold spPut); (try simp only [Int.toNat_natCast]); (repeat (first | rw [if_pos (by omega)] | rw [if_neg (by omega)] | rw [if_pos (by assumption)] | rw [if_neg (by assumption)])); all_goals (first | rfl | (congr 2; omega) | (congr 1; congr 1; omega)))
        · refine z_aload_n dCls_look_33 rfl ?_
          refine z_callV MV_Cls_refuse lk_Cls_54 dCls_look_34 (k_Cls_refuse (by assumption)) rfl rfl (Nat.le_of_ble_eq_true rfl) rfl (by assumption) (Nat.le_of_ble_eq_true rfl) (Nat.le_of_ble_eq_true rfl) (Nat.le_of_eq (Nat.zero_add _)) (Nat.le_of_eq (Nat.zero_add _)) (fun _ _ q => q.elim) ?_
          rintro _ h9 ⟨rfl, hC9, fz9⟩
          refine z_goto (tgt := 43) dCls_look_37 (by decide) ?_
          refine z_iret rfl rfl dCls_look_43 ?_
          first
            | (exfalso; omega)
            | exact zQc.mk (by assumption) (by first | exact zFrm.rf | assumption) (by unfold sp_look; (try unfold spPut); (try simp only [Int.toNat_natCast]); (repeat (first | rw [if_pos (by omega)] | rw [if_neg (by omega)] | rw [if_pos (by assumption)] | rw [if_neg (by assumption)])); all_goals (first | rfl | (congr 2; omega) | (congr 1; congr 1; omega)))
theorem k_Cls_get {p q : Int}  (hC : zCls G h ad S) (z_p : zI32 p) (z_q : zI32 q) : zM G l hCls_get yCls_get 9 [.ref (ad 0), zi p, zi q] h (zQc G ad h (sp_get S p q)) (zXc G ad h (sp_get S p q)) 6 36 := by
  obtain ⟨c1, c2, ⟨g3, c3, d3⟩, ⟨g4, c4, d4⟩, c5, ⟨T6, c6, d6⟩, c7, c8, ⟨R9, c9⟩, c10⟩ := id hC
  refine zM.of [some (.ref (ad 0)), some (zi p), some (zi q), none] (by decide +kernel) rfl (by decide) rfl (Nat.le_of_ble_eq_true rfl) rfl ?_
  refine z_aload_n dCls_get_0 rfl ?_
  refine z_iload_n dCls_get_1 rfl ?_
  refine z_callV (bc' := 5) (bs' := 30) MV_Cls_listAt lk_Cls_34 dCls_get_2 (k_Cls_listAt (by assumption) (by omega)) rfl rfl (Nat.le_of_ble_eq_true rfl) rfl (by assumption) (Nat.le_of_ble_eq_true rfl) (Nat.le_of_ble_eq_true rfl) (by decide) (by decide) (fun E h9 q9 => z_out rfl (by obtain ⟨rfl, q1, rfl⟩ := q9; exact zXc.mk (by assumption) (by first | exact zFrm.rf | assumption) (by unfold sp_get; (try unfold spPut); (try simp only [Int.toNat_natCast]); (repeat (first | rw [if_pos (by omega)] | rw [if_neg (by omega)] | rw [if_pos (by assumption)] | rw [if_neg (by assumption)])); all_goals (first | rfl | (congr 2; omega) | (congr 1; congr 1; omega))))) ?_
  rintro _ _ ⟨rfl, aA1, aA2, rfl⟩
  obtain ⟨kA, rfl⟩ := Int.eq_ofNat_of_zero_le aA1
  simp only [Int.toNat_natCast]
  have hkA : kA < 4 := by omega
  have hrA := hC.ls hkA
  obtain ⟨fA, eA, -⟩ := id hrA
  have hlA := hrA.len
  refine z_astore_n dCls_get_5 (Nat.le_of_ble_eq_true rfl) ?_
  refine z_aload_n dCls_get_6 rfl ?_
  refine z_iload_n dCls_get_7 rfl ?_
  refine z_callS (bc' := 4) (bs' := 24) MS_Cls_demandPlace lk_Cls_74 dCls_get_8 (k_Cls_demandPlace hrA (by omega)) rfl rfl (Nat.le_of_ble_eq_true rfl)  (Nat.le_of_ble_eq_true rfl) (Nat.le_of_ble_eq_true rfl) (by decide) (by decide) (fun E h9 q9 => z_out rfl (by obtain ⟨rfl, q1, rfl⟩ := q9; exact zXc.mk (by assumption) (by first | exact zFrm.rf | assumption) (by unfold sp_get; (try unfold spPut); (try simp only [Int.toNat_natCast]); (repeat (first | rw [if_pos (by omega)] | rw [if_neg (by omega)] | rw [if_pos (by assumption)] | rw [if_neg (by assumption)])); all_goals (first | rfl | (congr 2; omega) | (congr 1; congr 1; omega))))) ?_
  rintro _ _ ⟨rfl, v1, v2, rfl⟩
  refine z_aload_n dCls_get_11 rfl ?_
  refine z_iload_n dCls_get_12 rfl ?_
  refine z_callVN MV_Row_itemAt lk_Cls_70 dCls_get_13 (k_Row_itemAt hrA (by omega)) rfl rfl (Nat.le_of_ble_eq_true rfl) rfl (by assumption) (Nat.le_of_ble_eq_true rfl) (Nat.le_of_ble_eq_true rfl) (Nat.le_of_eq (Nat.zero_add _)) (Nat.le_of_eq (Nat.zero_add _)) (fun _ _ q => q.elim) ?_
  rintro _ _ ⟨rfl, rfl⟩
  refine z_iret rfl rfl dCls_get_16 ?_
  first
    | (exfalso; omega)
    | exact zQc.mk (by assumption) (by first | exact zFrm.rf | assumption) (by unfold sp_get; (try unfold spPut); (try simp only [Int.toNat_natCast]); (repeat (first | rw [if_pos (by omega)] | rw [if_neg (by omega)] | rw [if_pos (by assumption)] | rw [if_neg (by assumption)])); all_goals (first | rfl | (congr 2; omega) | (congr 1; congr 1; omega)))
theorem k_Cls_set {p q x : Int}  (hC : zCls G h ad S) (z_p : zI32 p) (z_q : zI32 q) (z_x : zI32 x) : zM G l hCls_set yCls_set 9 [.ref (ad 0), zi p, zi q, zi x] h (zQc G ad h (sp_set S p q x)) (zXc G ad h (sp_set S p q x)) 6 36 := by
  obtain ⟨c1, c2, ⟨g3, c3, d3⟩, ⟨g4, c4, d4⟩, c5, ⟨T6, c6, d6⟩, c7, c8, ⟨R9, c9⟩, c10⟩ := id hC
  refine zM.of [some (.ref (ad 0)), some (zi p), some (zi q), some (zi x), none, none] (by decide +kernel) rfl (by decide) rfl (Nat.le_of_ble_eq_true rfl) rfl ?_
  refine z_aload_n dCls_set_0 rfl ?_
  refine z_iload_n dCls_set_1 rfl ?_
  refine z_callV (bc' := 5) (bs' := 30) MV_Cls_listAt lk_Cls_34 dCls_set_2 (k_Cls_listAt (by assumption) (by omega)) rfl rfl (Nat.le_of_ble_eq_true rfl) rfl (by assumption) (Nat.le_of_ble_eq_true rfl) (Nat.le_of_ble_eq_true rfl) (by decide) (by decide) (fun E h9 q9 => z_out rfl (by obtain ⟨rfl, q1, rfl⟩ := q9; exact zXc.mk (by assumption) (by first | exact zFrm.rf | assumption) (by unfold sp_set; (try unfold spPut); (try simp only [Int.toNat_natCast]); (repeat (first | rw [if_pos (by omega)] | rw [if_neg (by omega)] | rw [if_pos (by assumption)] | rw [if_neg (by assumption)])); all_goals (first | rfl | (congr 2; omega) | (congr 1; congr 1; omega))))) ?_
  rintro _ _ ⟨rfl, aA1, aA2, rfl⟩
  obtain ⟨kA, rfl⟩ := Int.eq_ofNat_of_zero_le aA1
  simp only [Int.toNat_natCast]
  have hkA : kA < 4 := by omega
  have hrA := hC.ls hkA
  obtain ⟨fA, eA, -⟩ := id hrA
  have hlA := hrA.len
  refine z_astore dCls_set_5 (Nat.le_of_ble_eq_true rfl) ?_
  refine z_aload dCls_set_7 rfl ?_
  refine z_iload_n dCls_set_9 rfl ?_
  refine z_callS (bc' := 4) (bs' := 24) MS_Cls_demandPlace lk_Cls_74 dCls_set_10 (k_Cls_demandPlace hrA (by omega)) rfl rfl (Nat.le_of_ble_eq_true rfl)  (Nat.le_of_ble_eq_true rfl) (Nat.le_of_ble_eq_true rfl) (by decide) (by decide) (fun E h9 q9 => z_out rfl (by obtain ⟨rfl, q1, rfl⟩ := q9; exact zXc.mk (by assumption) (by first | exact zFrm.rf | assumption) (by unfold sp_set; (try unfold spPut); (try simp only [Int.toNat_natCast]); (repeat (first | rw [if_pos (by omega)] | rw [if_neg (by omega)] | rw [if_pos (by assumption)] | rw [if_neg (by assumption)])); all_goals (first | rfl | (congr 2; omega) | (congr 1; congr 1; omega))))) ?_
  rintro _ _ ⟨rfl, v1, v2, rfl⟩
  refine z_iload_n dCls_set_13 rfl ?_
  refine z_callS (bc' := 3) (bs' := 18) MS_Cls_demandItem lk_Cls_42 dCls_set_14 (k_Cls_demandItem (by omega)) rfl rfl (Nat.le_of_ble_eq_true rfl)  (Nat.le_of_ble_eq_true rfl) (Nat.le_of_ble_eq_true rfl) (by decide) (by decide) (fun E h9 q9 => z_out rfl (by obtain ⟨rfl, q1, rfl⟩ := q9; exact zXc.mk (by assumption) (by first | exact zFrm.rf | assumption) (by unfold sp_set; (try unfold spPut); (try simp only [Int.toNat_natCast]); (repeat (first | rw [if_pos (by omega)] | rw [if_neg (by omega)] | rw [if_pos (by assumption)] | rw [if_neg (by assumption)])); all_goals (first | rfl | (congr 2; omega) | (congr 1; congr 1; omega))))) ?_
  rintro _ _ ⟨rfl, hx9, rfl⟩
  refine z_aload dCls_set_17 rfl ?_
  refine z_iload_n dCls_set_19 rfl ?_
  refine z_callVN MV_Row_itemAt lk_Cls_70 dCls_set_20 (k_Row_itemAt hrA (by omega)) rfl rfl (Nat.le_of_ble_eq_true rfl) rfl (by assumption) (Nat.le_of_ble_eq_true rfl) (Nat.le_of_ble_eq_true rfl) (Nat.le_of_eq (Nat.zero_add _)) (Nat.le_of_eq (Nat.zero_add _)) (fun _ _ q => q.elim) ?_
  rintro _ _ ⟨rfl, rfl⟩
  refine z_istore dCls_set_23 (Nat.le_of_ble_eq_true rfl) ?_
  refine z_aload dCls_set_25 rfl ?_
  refine z_iload_n dCls_set_27 rfl ?_
  refine z_iload_n dCls_set_28 rfl ?_
  refine z_callVN MV_Row_changeAt lk_Cls_78 dCls_set_29 (k_Row_changeAt hrA (by omega) hx9) rfl rfl (Nat.le_of_ble_eq_true rfl) rfl (by assumption) (Nat.le_of_ble_eq_true rfl) (Nat.le_of_ble_eq_true rfl) (Nat.le_of_eq (Nat.zero_add _)) (Nat.le_of_eq (Nat.zero_add _)) (fun _ _ q => q.elim) ?_
  rintro _ h1 ⟨rfl, hr1, f1⟩
  have hC1 := hC.row hkA hr1 f1
  obtain ⟨-, d1, -⟩ := id hC1
  have fz1 : zFrm ad h h1 := zFrm.of2 (i := 8 + 2 * kA) (j := 9 + 2 * kA) (by omega) (by omega) f1
  obtain ⟨fr1, er1, -⟩ := id hr1
  have hl1 := hr1.len
  refine z_iload dCls_set_32 rfl ?_
  refine z_iret rfl rfl dCls_set_34 ?_
  first
    | (exfalso; omega)
    | exact zQc.mk (by assumption) (by first | exact zFrm.rf | assumption) (by unfold sp_set; (try unfold spPut); (try simp only [Int.toNat_natCast]); (repeat (first | rw [if_pos (by omega)] | rw [if_neg (by omega)] | rw [if_pos (by assumption)] | rw [if_neg (by assumption)])); all_goals (first | rfl | (congr 2; omega) | (congr 1; congr 1; omega)))
theorem k_Cls_insert {p q x : Int}  (hC : zCls G h ad S) (z_p : zI32 p) (z_q : zI32 q) (z_x : zI32 x) : zM G l hCls_insert yCls_insert 9 [.ref (ad 0), zi p, zi q, zi x] h (zQc G ad h (sp_insert S p q x)) (zXc G ad h (sp_insert S p q x)) 6 36 := by
  obtain ⟨c1, c2, ⟨g3, c3, d3⟩, ⟨g4, c4, d4⟩, c5, ⟨T6, c6, d6⟩, c7, c8, ⟨R9, c9⟩, c10⟩ := id hC
  refine zM.of [some (.ref (ad 0)), some (zi p), some (zi q), some (zi x)] (by decide +kernel) rfl (by decide) rfl (Nat.le_of_ble_eq_true rfl) rfl ?_
  refine z_aload_n dCls_insert_0 rfl ?_
  refine z_iload_n dCls_insert_1 rfl ?_
  refine z_callV (bc' := 5) (bs' := 30) MV_Cls_listAt lk_Cls_34 dCls_insert_2 (k_Cls_listAt (by assumption) (by omega)) rfl rfl (Nat.le_of_ble_eq_true rfl) rfl (by assumption) (Nat.le_of_ble_eq_true rfl) (Nat.le_of_ble_eq_true rfl) (by decide) (by decide) (fun E h9 q9 => z_out rfl (by obtain ⟨rfl, q1, rfl⟩ := q9; exact zXc.mk (by assumption) (by first | exact zFrm.rf | assumption) (by unfold sp_insert; (try unfold spPut); (try simp only [Int.toNat_natCast]); (repeat (first | rw [if_pos (by omega)] | rw [if_neg (by omega)] | rw [if_pos (by assumption)] | rw [if_neg (by assumption)])); all_goals (first | rfl | (congr 2; omega) | (congr 1; congr 1; omega))))) ?_
  rintro _ _ ⟨rfl, aA1, aA2, rfl⟩
  obtain ⟨kA, rfl⟩ := Int.eq_ofNat_of_zero_le aA1
  simp only [Int.toNat_natCast]
  have hkA : kA < 4 := by omega
  have hrA := hC.ls hkA
  obtain ⟨fA, eA, -⟩ := id hrA
  have hlA := hrA.len
  refine z_iload_n dCls_insert_5 rfl ?_
  refine z_callS (bc' := 4) (bs' := 24) MS_Cls_demandGap lk_Cls_81 dCls_insert_6 (k_Cls_demandGap hrA (by omega)) rfl rfl (Nat.le_of_ble_eq_true rfl)  (Nat.le_of_ble_eq_true rfl) (Nat.le_of_ble_eq_true rfl) (by decide) (by decide) (fun E h9 q9 => z_out rfl (by obtain ⟨rfl, q1, rfl⟩ := q9; exact zXc.mk (by assumption) (by first | exact zFrm.rf | assumption) (by unfold sp_insert; (try unfold spPut); (try simp only [Int.toNat_natCast]); (repeat (first | rw [if_pos (by omega)] | rw [if_neg (by omega)] | rw [if_pos (by assumption)] | rw [if_neg (by assumption)])); all_goals (first | rfl | (congr 2; omega) | (congr 1; congr 1; omega))))) ?_
  rintro _ _ ⟨rfl, v1, v2, rfl⟩
  refine z_iload_n dCls_insert_9 rfl ?_
  refine z_callS (bc' := 3) (bs' := 18) MS_Cls_demandItem lk_Cls_42 dCls_insert_10 (k_Cls_demandItem (by omega)) rfl rfl (Nat.le_of_ble_eq_true rfl)  (Nat.le_of_ble_eq_true rfl) (Nat.le_of_ble_eq_true rfl) (by decide) (by decide) (fun E h9 q9 => z_out rfl (by obtain ⟨rfl, q1, rfl⟩ := q9; exact zXc.mk (by assumption) (by first | exact zFrm.rf | assumption) (by unfold sp_insert; (try unfold spPut); (try simp only [Int.toNat_natCast]); (repeat (first | rw [if_pos (by omega)] | rw [if_neg (by omega)] | rw [if_pos (by assumption)] | rw [if_neg (by assumption)])); all_goals (first | rfl | (congr 2; omega) | (congr 1; congr 1; omega))))) ?_
  rintro _ _ ⟨rfl, hx9, rfl⟩
  refine z_aload_n dCls_insert_13 rfl ?_
  refine z_iload_n dCls_insert_14 rfl ?_
  refine z_iload_n dCls_insert_15 rfl ?_
  refine z_iload_n dCls_insert_16 rfl ?_
  refine z_callV (bc' := 2) (bs' := 12) MV_Cls_putInto lk_Cls_50 dCls_insert_17 (k_Cls_putInto (by assumption) (by omega) (by omega) (by omega)) rfl rfl (Nat.le_of_ble_eq_true rfl) rfl (by assumption) (Nat.le_of_ble_eq_true rfl) (Nat.le_of_ble_eq_true rfl) (by decide) (by decide) (fun _ _ q => q.elim) ?_
  rintro _ h9 ⟨(⟨rfl, m1, m2, m3, hC9⟩ | ⟨rfl, m1, hC9⟩), fz9⟩
  · refine z_iret rfl rfl dCls_insert_20 ?_
    first
      | (exfalso; omega)
      | exact zQc.mk (by assumption) (by first | exact zFrm.rf | assumption) (by unfold sp_insert; (try unfold spPut); (try simp only [Int.toNat_natCast]); (repeat (first | rw [if_pos (by omega)] | rw [if_neg (by omega)] | rw [if_pos (by assumption)] | rw [if_neg (by assumption)])); all_goals (first | rfl | (congr 2; omega) | (congr 1; congr 1; omega)))
  · refine z_iret rfl rfl dCls_insert_20 ?_
    first
      | (exfalso; omega)
      | exact zQc.mk (by assumption) (by first | exact zFrm.rf | assumption) (by unfold sp_insert; (try unfold spPut); (try simp only [Int.toNat_natCast]); (repeat (first | rw [if_pos (by omega)] | rw [if_neg (by omega)] | rw [if_pos (by assumption)] | rw [if_neg (by assumption)])); all_goals (first | rfl | (congr 2; omega) | (congr 1; congr 1; omega)))
theorem k_Cls_removeAt {p q : Int}  (hC : zCls G h ad S) (z_p : zI32 p) (z_q : zI32 q) : zM G l hCls_removeAt yCls_removeAt 9 [.ref (ad 0), zi p, zi q] h (zQc G ad h (sp_removeAt S p q)) (zXc G ad h (sp_removeAt S p q)) 6 36 := by
  obtain ⟨c1, c2, ⟨g3, c3, d3⟩, ⟨g4, c4, d4⟩, c5, ⟨T6, c6, d6⟩, c7, c8, ⟨R9, c9⟩, c10⟩ := id hC
  refine zM.of [some (.ref (ad 0)), some (zi p), some (zi q)] (by decide +kernel) rfl (by decide) rfl (Nat.le_of_ble_eq_true rfl) rfl ?_
  refine z_aload_n dCls_removeAt_0 rfl ?_
  refine z_iload_n dCls_removeAt_1 rfl ?_
  refine z_callV (bc' := 5) (bs' := 30) MV_Cls_listAt lk_Cls_34 dCls_removeAt_2 (k_Cls_listAt (by assumption) (by omega)) rfl rfl (Nat.le_of_ble_eq_true rfl) rfl (by assumption) (Nat.le_of_ble_eq_true rfl) (Nat.le_of_ble_eq_true rfl) (by decide) (by decide) (fun E h9 q9 => z_out rfl (by obtain ⟨rfl, q1, rfl⟩ := q9; exact zXc.mk (by assumption) (by first | exact zFrm.rf | assumption) (by unfold sp_removeAt; (try unfold spPut); (try simp only [Int.toNat_natCast]); (repeat (first | rw [if_pos (by omega)] | rw [if_neg (by omega)] | rw [if_pos (by assumption)] | rw [if_neg (by assumption)])); all_goals (first | rfl | (congr 2; omega) | (congr 1; congr 1; omega))))) ?_
  rintro _ _ ⟨rfl, aA1, aA2, rfl⟩
  obtain ⟨kA, rfl⟩ := Int.eq_ofNat_of_zero_le aA1
  simp only [Int.toNat_natCast]
  have hkA : kA < 4 := by omega
  have hrA := hC.ls hkA
  obtain ⟨fA, eA, -⟩ := id hrA
  have hlA := hrA.len
  refine z_iload_n dCls_removeAt_5 rfl ?_
  refine z_callS (bc' := 4) (bs' := 24) MS_Cls_demandPlace lk_Cls_74 dCls_removeAt_6 (k_Cls_demandPlace hrA (by omega)) rfl rfl (Nat.le_of_ble_eq_true rfl)  (Nat.le_of_ble_eq_true rfl) (Nat.le_of_ble_eq_true rfl) (by decide) (by decide) (fun E h9 q9 => z_out rfl (by obtain ⟨rfl, q1, rfl⟩ := q9; exact zXc.mk (by assumption) (by first | exact zFrm.rf | assumption) (by unfold sp_removeAt; (try unfold spPut); (try simp only [Int.toNat_natCast]); (repeat (first | rw [if_pos (by omega)] | rw [if_neg (by omega)] | rw [if_pos (by assumption)] | rw [if_neg (by assumption)])); all_goals (first | rfl | (congr 2; omega) | (congr 1; congr 1; omega))))) ?_
  rintro _ _ ⟨rfl, v1, v2, rfl⟩
  refine z_aload_n dCls_removeAt_9 rfl ?_
  refine z_iload_n dCls_removeAt_10 rfl ?_
  refine z_iload_n dCls_removeAt_11 rfl ?_
  refine z_callV (bc' := 3) (bs' := 18) MV_Cls_takeFrom lk_Cls_66 dCls_removeAt_12 (k_Cls_takeFrom (by assumption) (by omega) (by omega)) rfl rfl (Nat.le_of_ble_eq_true rfl) rfl (by assumption) (Nat.le_of_ble_eq_true rfl) (Nat.le_of_ble_eq_true rfl) (by decide) (by decide) (fun _ _ q => q.elim) ?_
  rintro _ h9 ⟨rfl, hC9, fz9⟩
  refine z_iret rfl rfl dCls_removeAt_15 ?_
  first
    | (exfalso; omega)
    | exact zQc.mk (by assumption) (by first | exact zFrm.rf | assumption) (by unfold sp_removeAt; (try unfold spPut); (try simp only [Int.toNat_natCast]); (repeat (first | rw [if_pos (by omega)] | rw [if_neg (by omega)] | rw [if_pos (by assumption)] | rw [if_neg (by assumption)])); all_goals (first | rfl | (congr 2; omega) | (congr 1; congr 1; omega)))
end CLS5
