section ROW5
variable {G : zG} {l : Launch} {h : zHp} {r a : Nat} {L : List Int} {p x : Int}
/-- turned to the right by k -/
def zRot (L : List Int) (k : Int) : List Int := zmk L.length (fun j => L.getD (((j : Int) - k) % (L.length : Int)).toNat 0)
theorem zRot_len (L : List Int) (k : Int) : (zRot L k).length = L.length := zmk_len _ _
theorem zRot_at {L : List Int} {k : Int} {j : Nat} (h : j < L.length) : (zRot L k).getD j 0 = L.getD (((j : Int) - k) % (L.length : Int)).toNat 0 := zmk_at _ h
theorem zemod_add (a n : Int) : (a + n) % n = a % n := by first | exact Int.add_emod_right a n | exact Int.add_emod_self | simp
theorem zRot_0 (L : List Int) : zRot L 0 = L := by
  apply zl_ext (zRot_len _ _)
  intro j hj
  rw [zRot_len] at hj
  rw [zRot_at hj, Int.sub_zero, Int.emod_eq_of_lt (by omega) (by omega), Int.toNat_natCast]
theorem zRot_mod (L : List Int) (k : Int) : zRot L (k % (L.length : Int)) = zRot L k := by
  apply zl_ext (by rw [zRot_len, zRot_len])
  intro j hj
  rw [zRot_len] at hj
  rw [zRot_at hj, zRot_at hj]
  have e := Int.mul_ediv_add_emod k (L.length : Int)
  have e2 : (j : Int) - k % (L.length : Int) = ((j : Int) - k) + (L.length : Int) * (k / (L.length : Int)) := by omega
  rw [e2, Int.add_mul_emod_self_left]
/-- a step to the right -/
theorem zRot_right (L : List Int) (k : Int) (hL : 0 < L.length) : zIns (zDel (zRot L k) ((L.length : Int) - 1)) 0 ((zRot L k).getD (L.length - 1) 0) = zRot L (k + 1) := by
  have h1 : (zDel (zRot L k) ((L.length : Int) - 1)).length = L.length - 1 := by rw [zDel_len, zRot_len]
  apply zl_ext (by rw [zIns_len, h1, zRot_len]; omega)
  intro j hj
  rw [zIns_len, h1] at hj
  rw [zIns_at (by rw [h1]; omega), if_neg (by omega), zRot_at (by omega)]
  by_cases e : j = 0
  · subst e
    rw [if_pos (show ((0 : Nat) : Int) = 0 from rfl), zRot_at (by omega)]
    congr 2
    have e2 : ((L.length - 1 : Nat) : Int) - k = (((0 : Nat) : Int) - (k + 1)) + (L.length : Int) := by omega
    rw [e2, zemod_add]
  · rw [if_neg (by omega), zDel_at (by rw [zRot_len]; omega), if_pos (by omega), zRot_at (by omega), show ((j - 1 : Nat) : Int) - k = (j : Int) - (k + 1) by omega]
    exact (zRot_at (by omega)).symm
/-- .. and to the left -/
theorem zRot_left (L : List Int) (k : Int) (hL : 0 < L.length) : zIns (zDel (zRot L k) 0) ((L.length : Int) - 1) ((zRot L k).getD 0 0) = zRot L (k - 1) := by
  have h1 : (zDel (zRot L k) 0).length = L.length - 1 := by rw [zDel_len, zRot_len]
  apply zl_ext (by rw [zIns_len, h1, zRot_len]; omega)
  intro j hj
  rw [zIns_len, h1] at hj
  rw [zIns_at (by rw [h1]; omega), zRot_at (by omega)]
  by_cases e : j = L.length - 1
  · rw [if_neg (by omega), if_pos (by omega), zRot_at (by omega)]
    congr 2
    have e2 : (j : Int) - (k - 1) = (((0 : Nat) : Int) - k) + (L.length : Int) := by omega
    rw [e2, zemod_add]
  · rw [if_pos (by omega), zDel_at (by rw [zRot_len]; omega), if_neg (by omega), zRot_at (by omega), show ((j + 1 : Nat) : Int) - k = (j : Int) - (k - 1) by omega]
    exact (zRot_at (by omega)).symm
theorem l_Row_turnBy {d mc ms bc bs : Nat} {Qn : Option Value → zHp → Prop} {Qx : String → zHp → Prop} {S : Nat} {w : Value} (hd : 3 ≤ d) (hS : S ≤ 16) (hL : L.length ≤ 16) (hSL : S = 0 ∨ 0 < L.length)
    (K : ∀ (h1 : zHp) y, zRow G h1 r a (zRot L (S : Int)) → (∀ q, q ≠ r → q ≠ a → h1 q = h q) → zR G l (zMJ G hRow_turnBy d Qn Qx mc ms) bc bs h1 49 [some (.ref r), some w, some (zi (S : Int)), y] []) :
    ∀ (n : Nat) (m : Nat) (h1 : zHp), S - m < n → m ≤ S → zRow G h1 r a (zRot L (m : Int)) → (∀ q, q ≠ r → q ≠ a → h1 q = h q) →
      zR G l (zMJ G hRow_turnBy d Qn Qx mc ms) bc bs h1 22 [some (.ref r), some w, some (zi (S : Int)), some (zi (m : Int))] [] := by
  intro n
  induction n with
  | zero => intro m h1 q1 q2 hr1 g2; omega
  | succ n ih =>
  intro m h1 q1 q2 hr1 g2
  obtain ⟨f, e1, e2, e3, e4, e5⟩ := id hr1
  have hlen := zRot_len L (m : Int)
  refine z_iload_n dRow_turnBy_22 rfl ?_
  refine z_iload_n dRow_turnBy_23 rfl ?_
  refine z_icmp_ge (tgt := 49) dRow_turnBy_24 (by decide) (by omega) (by omega) (fun c24 => ?_) (fun c24 => ?_)
  · have em : m = S := by omega
    subst em
    exact K h1 _ hr1 g2
  · refine z_aload_n dRow_turnBy_27 rfl ?_
    refine z_iconst dRow_turnBy_28 ?_
    refine z_aload_n dRow_turnBy_29 rfl ?_
    refine z_aload_n dRow_turnBy_30 rfl ?_
    refine z_get (k := 1) fd_Row (by decide) fl_Row_15 dRow_turnBy_31 (by assumption) (by rfl) ?_
    refine z_iconst dRow_turnBy_34 ?_
    refine z_isub dRow_turnBy_35 ?_
    refine z_callV MV_Row_takeOut lk_Row_57 dRow_turnBy_36 (k_Row_takeOut hr1 (by omega)) rfl rfl (Nat.le_of_ble_eq_true rfl) rfl (by assumption) (by show 3 ≤ d; omega) (by show 2 * 64 + 64 ≤ d * 64; omega) (Nat.le_of_eq (Nat.zero_add _)) (Nat.le_of_eq (Nat.zero_add _)) (fun _ _ q => q.elim) ?_
    rintro _ h2 (⟨rfl, k1, k2, hr2, f2⟩ | ⟨rfl, k1, rfl⟩)
    rotate_left
    · exact absurd ⟨by omega, by omega⟩ k1
    have hx := hr1.item (j := L.length - 1) (by omega)
    obtain ⟨g9, d1, d2, d3, d4, d5⟩ := id hr2
    rw [show (((zRot L (m : Int)).length : Int) - 1).toNat = L.length - 1 by omega]
    rw [hlen] at hr2
    refine z_callV MV_Row_putIn lk_Row_60 dRow_turnBy_39 (k_Row_putIn hr2 (by omega) hx) rfl rfl (Nat.le_of_ble_eq_true rfl) rfl (by assumption) (by show 3 ≤ d; omega) (by show 2 * 64 + 64 ≤ d * 64; omega) (Nat.le_of_eq (Nat.zero_add _)) (Nat.le_of_eq (Nat.zero_add _)) (fun _ _ q => q.elim) ?_
    have hdl := zDel_len (zRot L (m : Int)) ((L.length : Int) - 1)
    rintro _ h3 (⟨rfl, k4, k5, k6, hr3, f3⟩ | ⟨rfl, k4, rfl⟩)
    rotate_left
    · exact absurd ⟨by omega, by omega, by omega⟩ k4
    rw [zRot_right L m (by omega)] at hr3
    refine z_pop rfl dRow_turnBy_42 ?_
    refine z_iinc dRow_turnBy_43 rfl (Nat.le_of_ble_eq_true rfl) ?_
    refine z_goto (tgt := 22) dRow_turnBy_46 (by decide) ?_
    exact ih (m + 1) h3 (by omega) (by omega) hr3 (fun q h4 h5 => (f3 q h4 h5).trans ((f2 q h4 h5).trans (g2 q h4 h5)))
theorem k_Row_turnBy (hr : zRow G h r a L) (hp : -2147483648 ≤ p ∧ p ≤ 2147483647) : zM G l hRow_turnBy yRow_turnBy 3 [.ref r, zi p] h (fun v h' => v = none ∧ zRow G h' r a (zRot L p) ∧ ∀ q, q ≠ r → q ≠ a → h' q = h q) zNo 0 0 := by
  obtain ⟨f, e1, e2, e3, e4, e5⟩ := id hr
  refine zM.of [some (.ref r), some (zi p), none, none] (by decide +kernel) rfl (by decide) rfl (Nat.le_of_ble_eq_true rfl) rfl ?_
  refine z_aload_n dRow_turnBy_0 rfl ?_
  refine z_get (k := 1) fd_Row (by decide) fl_Row_15 dRow_turnBy_1 (by assumption) (by rfl) ?_
  refine z_if_ne (tgt := 11) dRow_turnBy_4 (by decide) (by omega) (fun c4 => ?_) (fun c4 => ?_)
  · refine z_iload_n dRow_turnBy_11 rfl ?_
    refine z_aload_n dRow_turnBy_12 rfl ?_
    refine z_get (k := 1) fd_Row (by decide) fl_Row_15 dRow_turnBy_13 (by assumption) (by rfl) ?_
    refine z_callS MS_Mth_floorMod_7cf53 lk_Row_51 dRow_turnBy_16 (k_Mth_floorMod hp (by omega)) rfl rfl (Nat.le_of_ble_eq_true rfl) (Nat.le_of_ble_eq_true rfl) (Nat.le_of_ble_eq_true rfl) (Nat.le_of_eq (Nat.zero_add _)) (Nat.le_of_eq (Nat.zero_add _)) (fun _ _ q => q.elim) ?_
    rintro _ _ ⟨rfl, rfl⟩
    have m1 := Int.emod_nonneg p (show (L.length : Int) ≠ 0 by omega)
    have m2 := Int.emod_lt_of_pos p (show 0 < (L.length : Int) by omega)
    generalize hm : p % (L.length : Int) = m at *
    refine z_istore_n dRow_turnBy_19 (Nat.le_of_ble_eq_true rfl) ?_
    refine z_iconst dRow_turnBy_20 ?_
    refine z_istore_n dRow_turnBy_21 (Nat.le_of_ble_eq_true rfl) ?_
    first
      | (have h0 : L.length = 0 := by omega
         have e9 : zRot L p = zRot L ((0 : Nat) : Int) := zl_ext (by rw [zRot_len, zRot_len]) (fun j hj => by rw [zRot_len] at hj; omega)
         rw [e9]
         refine l_Row_turnBy (h := h) (S := 0) (by omega) (by omega) e3 (Or.inl rfl) (fun h1 y hr1 f1 => ?_) 17 0 h (by omega) (by omega) (by rw [show zRot L ((0 : Nat) : Int) = L from zRot_0 L]; exact hr) (fun _ _ _ => rfl)
         refine z_vret rfl dRow_turnBy_49 ?_
         exact ⟨rfl, hr1, f1⟩
         done)
      | (have e9 : zRot L p = zRot L (m.toNat : Int) := by rw [← zRot_mod L p, hm]; congr 1; omega
         rw [e9, show zI m = zI ((m.toNat : Nat) : Int) by congr 1; omega]
         refine l_Row_turnBy (h := h) (S := m.toNat) (by omega) (by omega) e3 (Or.inr (by omega)) (fun h1 y hr1 f1 => ?_) 17 0 h (by omega) (by omega) (by rw [show zRot L ((0 : Nat) : Int) = L from zRot_0 L]; exact hr) (fun _ _ _ => rfl)
         refine z_vret rfl dRow_turnBy_49 ?_
         exact ⟨rfl, hr1, f1⟩
         done)
  · refine z_iconst dRow_turnBy_7 ?_
    refine z_goto (tgt := 19) dRow_turnBy_8 (by decide) ?_
    refine z_istore_n dRow_turnBy_19 (Nat.le_of_ble_eq_true rfl) ?_
    refine z_iconst dRow_turnBy_20 ?_
    refine z_istore_n dRow_turnBy_21 (Nat.le_of_ble_eq_true rfl) ?_
    first
      | (have h0 : L.length = 0 := by omega
         have e9 : zRot L p = zRot L ((0 : Nat) : Int) := zl_ext (by rw [zRot_len, zRot_len]) (fun j hj => by rw [zRot_len] at hj; omega)
         rw [e9]
         refine l_Row_turnBy (h := h) (S := 0) (by omega) (by omega) e3 (Or.inl rfl) (fun h1 y hr1 f1 => ?_) 17 0 h (by omega) (by omega) (by rw [show zRot L ((0 : Nat) : Int) = L from zRot_0 L]; exact hr) (fun _ _ _ => rfl)
         refine z_vret rfl dRow_turnBy_49 ?_
         exact ⟨rfl, hr1, f1⟩
         done)
      | (have e9 : zRot L p = zRot L (m.toNat : Int) := by rw [← zRot_mod L p, hm]; congr 1; omega
         rw [e9, show zI m = zI ((m.toNat : Nat) : Int) by congr 1; omega]
         refine l_Row_turnBy (h := h) (S := m.toNat) (by omega) (by omega) e3 (Or.inr (by omega)) (fun h1 y hr1 f1 => ?_) 17 0 h (by omega) (by omega) (by rw [show zRot L ((0 : Nat) : Int) = L from zRot_0 L]; exact hr) (fun _ _ _ => rfl)
         refine z_vret rfl dRow_turnBy_49 ?_
         exact ⟨rfl, hr1, f1⟩
         done)
/-- M's items put in at p, one behind the other -/
def zJn (L : List Int) (p : Int) (M : List Int) : Nat → List Int
  | 0 => L
  | k + 1 => zIns (zJn L p M k) (p + k) (M.getD k 0)
theorem zJn_len (L : List Int) (p : Int) (M : List Int) : ∀ k, (zJn L p M k).length = L.length + k
  | 0 => rfl
  | k + 1 => by rw [zJn, zIns_len, zJn_len L p M k]; omega
theorem l_Row_becomeJoined {d mc ms bc bs : Nat} {Qn : Option Value → zHp → Prop} {Qx : String → zHp → Prop} {r2 a2 : Nat} {M : List Int} {w : Value} (hp : 0 ≤ p ∧ p ≤ L.length) (hl : L.length + M.length ≤ 16) (n1 : r2 ≠ r) (n2 : r2 ≠ a) (n3 : a2 ≠ r) (n4 : a2 ≠ a) (hd : 3 ≤ d) (hm : zRow G h r2 a2 M)
    (K : ∀ (h1 : zHp) y, zRow G h1 r a (zJn L p M M.length) → (∀ q, q ≠ r → q ≠ a → h1 q = h q) → zR G l (zMJ G hRow_becomeJoined d Qn Qx mc ms) bc bs h1 54 [some (.ref r), some w, some (zi p), some (.ref r2), y] []) :
    ∀ (n : Nat) (m : Nat) (h1 : zHp), M.length - m < n → m ≤ M.length → zRow G h1 r a (zJn L p M m) → (∀ q, q ≠ r → q ≠ a → h1 q = h q) →
      zR G l (zMJ G hRow_becomeJoined d Qn Qx mc ms) bc bs h1 24 [some (.ref r), some w, some (zi p), some (.ref r2), some (zi (m : Int))] [] := by
  intro n
  induction n with
  | zero => intro m h1 q1 q2 hr1 g2; omega
  | succ n ih =>
  intro m h1 q1 q2 hr1 g2
  obtain ⟨f, e1, e2, e3, e4, e5⟩ := id hr1
  have hm1 : zRow G h1 r2 a2 M := hm.kept (g2 _ n1 n2) (g2 _ n3 n4)
  obtain ⟨f2, d1, d2, d3, d4, d5⟩ := id hm1
  have hlen := zJn_len L p M m
  refine z_iload dRow_becomeJoined_24 rfl ?_
  refine z_aload_n dRow_becomeJoined_26 rfl ?_
  refine z_get (k := 1) fd_Row (by decide) fl_Row_15 dRow_becomeJoined_27 d1 (by rfl) ?_
  refine z_icmp_ge (tgt := 54) dRow_becomeJoined_30 (by decide) (by omega) (by omega) (fun c30 => ?_) (fun c30 => ?_)
  · have em : m = M.length := by omega
    subst em
    exact K h1 _ hr1 g2
  · refine z_aload_n dRow_becomeJoined_33 rfl ?_
    refine z_iload_n dRow_becomeJoined_34 rfl ?_
    refine z_iload dRow_becomeJoined_35 rfl ?_
    refine z_iadd dRow_becomeJoined_37 ?_
    refine z_aload_n dRow_becomeJoined_38 rfl ?_
    refine z_iload dRow_becomeJoined_39 rfl ?_
    refine z_callV MV_Row_itemAt lk_Row_40 dRow_becomeJoined_41 (k_Row_itemAt hm1 (by omega)) rfl rfl (Nat.le_of_ble_eq_true rfl) rfl d1 (by show 3 ≤ d; omega) (by show 2 * 64 + 64 ≤ d * 64; omega) (Nat.le_of_eq (Nat.zero_add _)) (Nat.le_of_eq (Nat.zero_add _)) (fun _ _ q => q.elim) ?_
    rintro _ _ ⟨rfl, rfl⟩
    rw [zAt_nat (show m < M.length by omega)]
    refine z_callV MV_Row_putIn lk_Row_60 dRow_becomeJoined_44 (k_Row_putIn hr1 (by omega) (hm.item (by omega))) rfl rfl (Nat.le_of_ble_eq_true rfl) rfl e1 (by show 3 ≤ d; omega) (by show 2 * 64 + 64 ≤ d * 64; omega) (Nat.le_of_eq (Nat.zero_add _)) (Nat.le_of_eq (Nat.zero_add _)) (fun _ _ q => q.elim) ?_
    rintro _ h3 (⟨rfl, k4, k5, k6, hr3, f3⟩ | ⟨rfl, k4, rfl⟩)
    rotate_left
    · exact absurd ⟨by omega, by omega, by omega⟩ k4
    refine z_pop rfl dRow_becomeJoined_47 ?_
    refine z_iinc dRow_becomeJoined_48 rfl (Nat.le_of_ble_eq_true rfl) ?_
    refine z_goto (tgt := 24) dRow_becomeJoined_51 (by decide) ?_
    exact ih (m + 1) h3 (by omega) (by omega) hr3 (fun q h4 h5 => (f3 q h4 h5).trans (g2 q h4 h5))
theorem k_Row_becomeJoined {r1 a1 r2 a2 : Nat} {L0 M : List Int} (hr : zRow G h r a L0) (h1 : zRow G h r1 a1 L) (hm : zRow G h r2 a2 M) (n1 : r1 ≠ r) (n2 : a1 ≠ a) (n3 : r2 ≠ r) (n4 : a2 ≠ a) (hp : 0 ≤ p ∧ p ≤ L.length) : zM G l hRow_becomeJoined yRow_becomeJoined 3 [.ref r, .ref r1, zi p, .ref r2] h (fun v h' => (v = some (zi 1) ∧ L.length + M.length ≤ 16 ∧ zRow G h' r a (zJn L p M M.length) ∧ ∀ q, q ≠ r → q ≠ a → h' q = h q) ∨ (v = some (zi 0) ∧ ¬ L.length + M.length ≤ 16 ∧ h = h')) zNo 0 0 := by
  obtain ⟨f, e1, e2, e3, e4, e5⟩ := id hr
  obtain ⟨f2, d1, d2, d3, d4, d5⟩ := id h1
  obtain ⟨f3, b1, b2, b3, b4, b5⟩ := id hm
  refine zM.of [some (.ref r), some (.ref r1), some (zi p), some (.ref r2), none] (by decide +kernel) rfl (by decide) rfl (Nat.le_of_ble_eq_true rfl) rfl ?_
  refine z_aload_n dRow_becomeJoined_0 rfl ?_
  refine z_get (k := 1) fd_Row (by decide) fl_Row_15 dRow_becomeJoined_1 d1 (by rfl) ?_
  refine z_aload_n dRow_becomeJoined_4 rfl ?_
  refine z_get (k := 1) fd_Row (by decide) fl_Row_15 dRow_becomeJoined_5 b1 (by rfl) ?_
  refine z_iadd dRow_becomeJoined_8 ?_
  refine z_bipush dRow_becomeJoined_9 rfl ?_
  refine z_icmp_le (tgt := 16) dRow_becomeJoined_11 (by decide) (by omega) (by omega) (fun c11 => ?_) (fun c11 => ?_)
  · refine z_aload_n dRow_becomeJoined_16 rfl ?_
    refine z_aload_n dRow_becomeJoined_17 rfl ?_
    refine z_callV MV_Row_become lk_Row_67 dRow_becomeJoined_18 (k_Row_become hr h1 n1 n2) rfl rfl (Nat.le_of_ble_eq_true rfl) rfl e1 (Nat.le_of_ble_eq_true rfl) (Nat.le_of_ble_eq_true rfl) (Nat.le_of_eq (Nat.zero_add _)) (Nat.le_of_eq (Nat.zero_add _)) (fun _ _ q => q.elim) ?_
    rintro _ h2 ⟨rfl, hr2, f2⟩
    refine z_iconst dRow_becomeJoined_21 ?_
    refine z_istore dRow_becomeJoined_22 (Nat.le_of_ble_eq_true rfl) ?_
    obtain ⟨m1, m2⟩ := hr.apart hm
    refine l_Row_becomeJoined (h := h2) hp (by omega) n3 m1 m2 n4 (by omega) (hm.kept (f2 _ n3 m1) (f2 _ m2 n4)) (fun h4 y hr4 f4 => ?_) 17 0 h2 (by omega) (by omega) hr2 (fun _ _ _ => rfl)
    refine z_iconst dRow_becomeJoined_54 ?_
    refine z_iret rfl rfl dRow_becomeJoined_55 ?_
    exact Or.inl ⟨rfl, by omega, hr4, fun q h5 h6 => (f4 q h5 h6).trans (f2 q h5 h6)⟩
  · refine z_iconst dRow_becomeJoined_14 ?_
    refine z_iret rfl rfl dRow_becomeJoined_15 ?_
    exact Or.inr ⟨rfl, by omega, rfl⟩
theorem l_Row_becomeThrough {d mc ms bc bs : Nat} {Qn : Option Value → zHp → Prop} {Qx : String → zHp → Prop} {r1 a1 r2 a2 : Nat} {M : List Int} (hd : 4 ≤ d) (n1 : r1 ≠ r) (n2 : r1 ≠ a) (n3 : a1 ≠ r) (n4 : a1 ≠ a) (m1 : r2 ≠ r) (m2 : r2 ≠ a) (m3 : a2 ≠ r) (m4 : a2 ≠ a) (hl : zRow G h r1 a1 L) (hm : zRow G h r2 a2 M)
    (K1 : ∀ (h1 : zHp) y z, (∀ j : Nat, j < M.length → 0 ≤ M.getD j 0 ∧ M.getD j 0 < L.length) → zRow G h1 r a (zmk M.length (fun j => zAt L (M.getD j 0))) → (∀ q, q ≠ r → q ≠ a → h1 q = h q) → zR G l (zMJ G hRow_becomeThrough d Qn Qx mc ms) bc bs h1 50 [some (.ref r), some (.ref r1), some (.ref r2), y, z] [])
    (K2 : ∀ (h1 : zHp) y z, ¬ (∀ j : Nat, j < M.length → 0 ≤ M.getD j 0 ∧ M.getD j 0 < L.length) → (∃ L', zRow G h1 r a L') → (∀ q, q ≠ r → q ≠ a → h1 q = h q) → zR G l (zMJ G hRow_becomeThrough d Qn Qx mc ms) bc bs h1 31 [some (.ref r), some (.ref r1), some (.ref r2), y, z] []) :
    ∀ (n : Nat) (m : Nat) (h1 : zHp) z, M.length - m < n → m ≤ M.length → (∀ j : Nat, j < m → 0 ≤ M.getD j 0 ∧ M.getD j 0 < L.length) → zRow G h1 r a (zmk m (fun j => zAt L (M.getD j 0))) → (∀ q, q ≠ r → q ≠ a → h1 q = h q) →
      zR G l (zMJ G hRow_becomeThrough d Qn Qx mc ms) bc bs h1 7 [some (.ref r), some (.ref r1), some (.ref r2), some (zi (m : Int)), z] [] := by
  intro n
  induction n with
  | zero => intro m h1 z q1 q2 q3 hr1 g2; omega
  | succ n ih =>
  intro m h1 z q1 q2 q3 hr1 g2
  obtain ⟨f, e1, e2, e3, e4, e5⟩ := id hr1
  have hm1 : zRow G h1 r2 a2 M := hm.kept (g2 _ m1 m2) (g2 _ m3 m4)
  have hl1 : zRow G h1 r1 a1 L := hl.kept (g2 _ n1 n2) (g2 _ n3 n4)
  obtain ⟨f2, d1, d2, d3, d4, d5⟩ := id hm1
  obtain ⟨f3, b1, b2, b3, b4, b5⟩ := id hl1
  have hlen := zmk_len m (fun j => zAt L (M.getD j 0))
  refine z_iload_n dRow_becomeThrough_7 rfl ?_
  refine z_aload_n dRow_becomeThrough_8 rfl ?_
  refine z_get (k := 1) fd_Row (by decide) fl_Row_15 dRow_becomeThrough_9 d1 (by rfl) ?_
  refine z_icmp_ge (tgt := 50) dRow_becomeThrough_12 (by decide) (by omega) (by omega) (fun c12 => ?_) (fun c12 => ?_)
  · have em : m = M.length := by omega
    subst em
    exact K1 h1 _ _ q3 hr1 g2
  · refine z_aload_n dRow_becomeThrough_15 rfl ?_
    refine z_iload_n dRow_becomeThrough_16 rfl ?_
    refine z_callV MV_Row_itemAt lk_Row_40 dRow_becomeThrough_17 (k_Row_itemAt hm1 (by omega)) rfl rfl (Nat.le_of_ble_eq_true rfl) rfl d1 (by show 3 ≤ d; omega) (by show 2 * 64 + 64 ≤ d * 64; omega) (Nat.le_of_eq (Nat.zero_add _)) (Nat.le_of_eq (Nat.zero_add _)) (fun _ _ q => q.elim) ?_
    rintro _ _ ⟨rfl, rfl⟩
    rw [zAt_nat (show m < M.length by omega)]
    have hmi := hm.item (show m < M.length by omega)
    refine z_istore dRow_becomeThrough_20 (Nat.le_of_ble_eq_true rfl) ?_
    refine z_aload_n dRow_becomeThrough_22 rfl ?_
    refine z_iload dRow_becomeThrough_23 rfl ?_
    refine z_callV MV_Row_hasPlace lk_Row_19 dRow_becomeThrough_25 (k_Row_hasPlace hl1 (by omega)) rfl rfl (Nat.le_of_ble_eq_true rfl) rfl b1 (by show 2 ≤ d; omega) (by show 1 * 64 + 64 ≤ d * 64; omega) (Nat.le_of_eq (Nat.zero_add _)) (Nat.le_of_eq (Nat.zero_add _)) (fun _ _ q => q.elim) ?_
    rintro _ _ ⟨b9, rfl, hb9, rfl⟩
    refine z_if_ne (tgt := 33) dRow_becomeThrough_28 (by decide) (by omega) (fun c28 => ?_) (fun c28 => ?_)
    · refine z_aload_n dRow_becomeThrough_33 rfl ?_
      refine z_aload_n dRow_becomeThrough_34 rfl ?_
      refine z_iload dRow_becomeThrough_35 rfl ?_
      refine z_callV MV_Row_itemAt lk_Row_40 dRow_becomeThrough_37 (k_Row_itemAt hl1 (by omega)) rfl rfl (Nat.le_of_ble_eq_true rfl) rfl b1 (by show 3 ≤ d; omega) (by show 2 * 64 + 64 ≤ d * 64; omega) (Nat.le_of_eq (Nat.zero_add _)) (Nat.le_of_eq (Nat.zero_add _)) (fun _ _ q => q.elim) ?_
      rintro _ _ ⟨rfl, rfl⟩
      have hai := zAt_in hl1 (M.getD m 0)
      refine z_callV MV_Row_addBehind lk_Row_64 dRow_becomeThrough_40 (k_Row_addBehind hr1 (by omega)) rfl rfl (Nat.le_of_ble_eq_true rfl) rfl e1 (by show 4 ≤ d; omega) (by show 3 * 64 + 64 ≤ d * 64; omega) (Nat.le_of_eq (Nat.zero_add _)) (Nat.le_of_eq (Nat.zero_add _)) (fun _ _ q => q.elim) ?_
      rintro _ h3 (⟨rfl, k4, k5, hr3, f3⟩ | ⟨rfl, k4, rfl⟩)
      rotate_left
      · exact absurd ⟨by omega, by omega⟩ k4
      rw [← zmk_succ m (fun j => zAt L (M.getD j 0))] at hr3
      refine z_pop rfl dRow_becomeThrough_43 ?_
      refine z_iinc dRow_becomeThrough_44 rfl (Nat.le_of_ble_eq_true rfl) ?_
      refine z_goto (tgt := 7) dRow_becomeThrough_47 (by decide) ?_
      refine ih (m + 1) h3 _ (by omega) (by omega) (fun j hj => ?_) hr3 (fun q h4 h5 => (f3 q h4 h5).trans (g2 q h4 h5))
      rcases (show j < m ∨ j = m by omega) with e | e
      · exact q3 j e
      · rw [e]; omega
    · exact K2 h1 _ _ (fun q => by have := q m (by omega); omega) ⟨_, hr1⟩ g2
theorem k_Row_becomeThrough {r1 a1 r2 a2 : Nat} {L0 M : List Int} (hr : zRow G h r a L0) (h1 : zRow G h r1 a1 L) (hm : zRow G h r2 a2 M) (n1 : r1 ≠ r) (n2 : a1 ≠ a) (n3 : r2 ≠ r) (n4 : a2 ≠ a) : zM G l hRow_becomeThrough yRow_becomeThrough 4 [.ref r, .ref r1, .ref r2] h (fun v h' => (v = some (zi 1) ∧ (∀ j : Nat, j < M.length → 0 ≤ M.getD j 0 ∧ M.getD j 0 < L.length) ∧ zRow G h' r a (zmk M.length (fun j => zAt L (M.getD j 0))) ∧ ∀ q, q ≠ r → q ≠ a → h' q = h q) ∨ (v = some (zi 0) ∧ ¬ (∀ j : Nat, j < M.length → 0 ≤ M.getD j 0 ∧ M.getD j 0 < L.length) ∧ (∃ L', zRow G h' r a L') ∧ ∀ q, q ≠ r → q ≠ a → h' q = h q)) zNo 0 0 := by
  obtain ⟨f, e1, e2, e3, e4, e5⟩ := id hr
  obtain ⟨m1, m2⟩ := hr.apart h1
  obtain ⟨m3, m4⟩ := hr.apart hm
  refine zM.of [some (.ref r), some (.ref r1), some (.ref r2), none, none] (by decide +kernel) rfl (by decide) rfl (Nat.le_of_ble_eq_true rfl) rfl ?_
  refine z_aload_n dRow_becomeThrough_0 rfl ?_
  refine z_iconst dRow_becomeThrough_1 ?_
  refine z_put (k := 1) fd_Row (by decide) fl_Row_15 rfl dRow_becomeThrough_2 e1 (by simp) rfl rfl ?_
  have hr0 := hr.cleared
  have g0 : ∀ q, q ≠ r → q ≠ a → zup h r (some (.inr (zkRow, [.ref a, zi 0]))) q = h q := fun q h1 h2 => zup_ne h1
  change zR G l _ 0 0 (zup h r (some (.inr (zkRow, [.ref a, zi 0])))) _ _ _
  generalize zup h r (some (.inr (zkRow, [.ref a, zi 0]))) = h0 at *
  have h1 : zRow G h0 r1 a1 L := h1.kept (g0 _ n1 m1) (g0 _ m2 n2)
  have hm : zRow G h0 r2 a2 M := hm.kept (g0 _ n3 m3) (g0 _ m4 n4)
  obtain ⟨f2, d1, d2, d3, d4, d5⟩ := id h1
  obtain ⟨f3, b1, b2, b3, b4, b5⟩ := id hm
  refine z_iconst dRow_becomeThrough_5 ?_
  refine z_istore_n dRow_becomeThrough_6 (Nat.le_of_ble_eq_true rfl) ?_
  refine l_Row_becomeThrough (h := h0) (by omega) n1 m1 m2 n2 n3 m3 m4 n4 h1 hm (fun h5 y z c1 hr5 f5 => ?_) (fun h5 y z c1 hr5 f5 => ?_) 17 0 h0 _ (by omega) (by omega) (fun j hj => absurd hj (by omega)) hr0 (fun _ _ _ => rfl)
  · refine z_iconst dRow_becomeThrough_50 ?_
    refine z_iret rfl rfl dRow_becomeThrough_51 ?_
    exact Or.inl ⟨rfl, c1, hr5, fun q h6 h7 => (f5 q h6 h7).trans (g0 q h6 h7)⟩
  · refine z_iconst dRow_becomeThrough_31 ?_
    refine z_iret rfl rfl dRow_becomeThrough_32 ?_
    exact Or.inr ⟨rfl, c1, hr5, fun q h6 h7 => (f5 q h6 h7).trans (g0 q h6 h7)⟩
theorem l_Row_becomeSum {d mc ms bc bs : Nat} {Qn : Option Value → zHp → Prop} {Qx : String → zHp → Prop} {r1 a1 r2 a2 N : Nat} {M : List Int} (hd : 4 ≤ d) (hN : N ≤ 16) (n1 : r1 ≠ r) (n2 : r1 ≠ a) (n3 : a1 ≠ r) (n4 : a1 ≠ a) (m1 : r2 ≠ r) (m2 : r2 ≠ a) (m3 : a2 ≠ r) (m4 : a2 ≠ a) (hl : zRow G h r1 a1 L) (hm : zRow G h r2 a2 M)
    (K1 : ∀ (h1 : zHp) y, (∀ j : Nat, j < N → zIn (zAt L j + zAt M j)) → zRow G h1 r a (zmk N (fun j => zAt L j + zAt M j)) → (∀ q, q ≠ r → q ≠ a → h1 q = h q) → zR G l (zMJ G hRow_becomeSum d Qn Qx mc ms) bc bs h1 54 [some (.ref r), some (.ref r1), some (.ref r2), some (zi (N : Int)), y] [])
    (K2 : ∀ (h1 : zHp) y, ¬ (∀ j : Nat, j < N → zIn (zAt L j + zAt M j)) → (∃ L', zRow G h1 r a L') → (∀ q, q ≠ r → q ≠ a → h1 q = h q) → zR G l (zMJ G hRow_becomeSum d Qn Qx mc ms) bc bs h1 46 [some (.ref r), some (.ref r1), some (.ref r2), some (zi (N : Int)), y] []) :
    ∀ (n : Nat) (m : Nat) (h1 : zHp), N - m < n → m ≤ N → (∀ j : Nat, j < m → zIn (zAt L j + zAt M j)) → zRow G h1 r a (zmk m (fun j => zAt L j + zAt M j)) → (∀ q, q ≠ r → q ≠ a → h1 q = h q) →
      zR G l (zMJ G hRow_becomeSum d Qn Qx mc ms) bc bs h1 20 [some (.ref r), some (.ref r1), some (.ref r2), some (zi (N : Int)), some (zi (m : Int))] [] := by
  intro n
  induction n with
  | zero => intro m h1 q1 q2 q3 hr1 g2; omega
  | succ n ih =>
  intro m h1 q1 q2 q3 hr1 g2
  obtain ⟨f, e1, e2, e3, e4, e5⟩ := id hr1
  have hm1 : zRow G h1 r2 a2 M := hm.kept (g2 _ m1 m2) (g2 _ m3 m4)
  have hl1 : zRow G h1 r1 a1 L := hl.kept (g2 _ n1 n2) (g2 _ n3 n4)
  obtain ⟨f2, d1, d2, d3, d4, d5⟩ := id hm1
  obtain ⟨f3, b1, b2, b3, b4, b5⟩ := id hl1
  have hlen := zmk_len m (fun j => zAt L j + zAt M j)
  have hai := zAt_in hl1 m
  have haj := zAt_in hm1 m
  refine z_iload dRow_becomeSum_20 rfl ?_
  refine z_iload_n dRow_becomeSum_22 rfl ?_
  refine z_icmp_ge (tgt := 54) dRow_becomeSum_23 (by decide) (by omega) (by omega) (fun c23 => ?_) (fun c23 => ?_)
  · have em : m = N := by omega
    subst em
    exact K1 h1 _ q3 hr1 g2
  · refine z_aload_n dRow_becomeSum_26 rfl ?_
    refine z_aload_n dRow_becomeSum_27 rfl ?_
    refine z_iload dRow_becomeSum_28 rfl ?_
    refine z_callV MV_Row_itemAt lk_Row_40 dRow_becomeSum_30 (k_Row_itemAt hl1 (by omega)) rfl rfl (Nat.le_of_ble_eq_true rfl) rfl b1 (by show 3 ≤ d; omega) (by show 2 * 64 + 64 ≤ d * 64; omega) (Nat.le_of_eq (Nat.zero_add _)) (Nat.le_of_eq (Nat.zero_add _)) (fun _ _ q => q.elim) ?_
    rintro _ _ ⟨rfl, rfl⟩
    refine z_aload_n dRow_becomeSum_33 rfl ?_
    refine z_iload dRow_becomeSum_34 rfl ?_
    refine z_callV MV_Row_itemAt lk_Row_40 dRow_becomeSum_36 (k_Row_itemAt hm1 (by omega)) rfl rfl (Nat.le_of_ble_eq_true rfl) rfl d1 (by show 3 ≤ d; omega) (by show 2 * 64 + 64 ≤ d * 64; omega) (Nat.le_of_eq (Nat.zero_add _)) (Nat.le_of_eq (Nat.zero_add _)) (fun _ _ q => q.elim) ?_
    rintro _ _ ⟨rfl, rfl⟩
    refine z_iadd dRow_becomeSum_39 ?_
    refine z_callV MV_Row_addBehind lk_Row_64 dRow_becomeSum_40 (k_Row_addBehind hr1 (by omega)) rfl rfl (Nat.le_of_ble_eq_true rfl) rfl e1 (by show 4 ≤ d; omega) (by show 3 * 64 + 64 ≤ d * 64; omega) (Nat.le_of_eq (Nat.zero_add _)) (Nat.le_of_eq (Nat.zero_add _)) (fun _ _ q => q.elim) ?_
    rintro _ h3 (⟨rfl, k4, k5, hr3, f3⟩ | ⟨rfl, k4, rfl⟩)
    · rw [← zmk_succ m (fun j => zAt L j + zAt M j)] at hr3
      refine z_if_ne (tgt := 48) dRow_becomeSum_43 (by decide) (by omega) (fun c43 => ?_) (fun c43 => ?_)
      · refine z_iinc dRow_becomeSum_48 rfl (Nat.le_of_ble_eq_true rfl) ?_
        refine z_goto (tgt := 20) dRow_becomeSum_51 (by decide) ?_
        refine ih (m + 1) h3 (by omega) (by omega) (fun j hj => ?_) hr3 (fun q h4 h5 => (f3 q h4 h5).trans (g2 q h4 h5))
        rcases (show j < m ∨ j = m by omega) with e | e
        · exact q3 j e
        · rw [e]; exact k4
      · exact absurd c43 (by decide)
    · refine z_if_ne (tgt := 48) dRow_becomeSum_43 (by decide) (by omega) (fun c43 => ?_) (fun c43 => ?_)
      · exact absurd rfl c43
      · exact K2 h1 _ (fun q => k4 ⟨q m (by omega), by omega⟩) ⟨_, hr1⟩ g2
theorem k_Row_becomeSum {r1 a1 r2 a2 : Nat} {L0 M : List Int} (hr : zRow G h r a L0) (h1 : zRow G h r1 a1 L) (hm : zRow G h r2 a2 M) (n1 : r1 ≠ r) (n2 : a1 ≠ a) (n3 : r2 ≠ r) (n4 : a2 ≠ a) : zM G l hRow_becomeSum yRow_becomeSum 4 [.ref r, .ref r1, .ref r2] h (fun v h' => (v = some (zi 1) ∧ (∀ j : Nat, j < (if (L.length : Int) < M.length then M.length else L.length) → zIn (zAt L j + zAt M j)) ∧ zRow G h' r a (zmk (if (L.length : Int) < M.length then M.length else L.length) (fun j => zAt L j + zAt M j)) ∧ ∀ q, q ≠ r → q ≠ a → h' q = h q) ∨ (v = some (zi 0) ∧ ¬ (∀ j : Nat, j < (if (L.length : Int) < M.length then M.length else L.length) → zIn (zAt L j + zAt M j)) ∧ (∃ L', zRow G h' r a L') ∧ ∀ q, q ≠ r → q ≠ a → h' q = h q)) zNo 0 0 := by
  obtain ⟨f, e1, e2, e3, e4, e5⟩ := id hr
  obtain ⟨m1, m2⟩ := hr.apart h1
  obtain ⟨m3, m4⟩ := hr.apart hm
  refine zM.of [some (.ref r), some (.ref r1), some (.ref r2), none, none] (by decide +kernel) rfl (by decide) rfl (Nat.le_of_ble_eq_true rfl) rfl ?_
  refine z_aload_n dRow_becomeSum_0 rfl ?_
  refine z_iconst dRow_becomeSum_1 ?_
  refine z_put (k := 1) fd_Row (by decide) fl_Row_15 rfl dRow_becomeSum_2 e1 (by simp) rfl rfl ?_
  have hr0 := hr.cleared
  have g0 : ∀ q, q ≠ r → q ≠ a → zup h r (some (.inr (zkRow, [.ref a, zi 0]))) q = h q := fun q h1 h2 => zup_ne h1
  change zR G l _ 0 0 (zup h r (some (.inr (zkRow, [.ref a, zi 0])))) _ _ _
  generalize zup h r (some (.inr (zkRow, [.ref a, zi 0]))) = h0 at *
  have h1 : zRow G h0 r1 a1 L := h1.kept (g0 _ n1 m1) (g0 _ m2 n2)
  have hm : zRow G h0 r2 a2 M := hm.kept (g0 _ n3 m3) (g0 _ m4 n4)
  obtain ⟨f2, d1, d2, d3, d4, d5⟩ := id h1
  obtain ⟨f3, b1, b2, b3, b4, b5⟩ := id hm
  refine z_aload_n dRow_becomeSum_5 rfl ?_
  refine z_get (k := 1) fd_Row (by decide) fl_Row_15 dRow_becomeSum_6 d1 (by rfl) ?_
  refine z_aload_n dRow_becomeSum_9 rfl ?_
  refine z_get (k := 1) fd_Row (by decide) fl_Row_15 dRow_becomeSum_10 b1 (by rfl) ?_
  refine z_max lk_Row_71 MS_Mth_max_7cf53.2 in_Mth MS_Mth_max_7cf53.1.2.1 dRow_becomeSum_13 (by omega) (by omega) (Nat.le_of_ble_eq_true rfl) (Nat.le_of_ble_eq_true rfl) (Nat.le_of_ble_eq_true rfl) ?_
  rw [show (if (L.length : Int) < M.length then (M.length : Int) else L.length) = ((if (L.length : Int) < M.length then M.length else L.length : Nat) : Int) by split <;> rfl]
  have hN : (if (L.length : Int) < M.length then M.length else L.length : Nat) ≤ 16 := by split <;> omega
  generalize (if (L.length : Int) < M.length then M.length else L.length : Nat) = N at *
  refine z_istore_n dRow_becomeSum_16 (Nat.le_of_ble_eq_true rfl) ?_
  refine z_iconst dRow_becomeSum_17 ?_
  refine z_istore dRow_becomeSum_18 (Nat.le_of_ble_eq_true rfl) ?_
  refine l_Row_becomeSum (h := h0) (by omega) hN n1 m1 m2 n2 n3 m3 m4 n4 h1 hm (fun h5 y c1 hr5 f5 => ?_) (fun h5 y c1 hr5 f5 => ?_) 17 0 h0 (by omega) (by omega) (fun j hj => absurd hj (by omega)) hr0 (fun _ _ _ => rfl)
  · refine z_iconst dRow_becomeSum_54 ?_
    refine z_iret rfl rfl dRow_becomeSum_55 ?_
    exact Or.inl ⟨rfl, c1, hr5, fun q h6 h7 => (f5 q h6 h7).trans (g0 q h6 h7)⟩
  · refine z_iconst dRow_becomeSum_46 ?_
    refine z_iret rfl rfl dRow_becomeSum_47 ?_
    exact Or.inr ⟨rfl, c1, hr5, fun q h6 h7 => (f5 q h6 h7).trans (g0 q h6 h7)⟩
theorem l_Row_becomeDerived {d mc ms bc bs : Nat} {Qn : Option Value → zHp → Prop} {Qx : String → zHp → Prop} {r1 a1 : Nat} (hd : 4 ≤ d) (n1 : r1 ≠ r) (n2 : r1 ≠ a) (n3 : a1 ≠ r) (n4 : a1 ≠ a) (hl : zRow G h r1 a1 L)
    (K1 : ∀ (h1 : zHp) y, (∀ j : Nat, j < L.length - 1 → zIn (L.getD (j + 1) 0 * ((j : Int) + 1))) → zRow G h1 r a (zmk (L.length - 1) (fun j => L.getD (j + 1) 0 * ((j : Int) + 1))) → (∀ q, q ≠ r → q ≠ a → h1 q = h q) → zR G l (zMJ G hRow_becomeDerived d Qn Qx mc ms) bc bs h1 37 [some (.ref r), some (.ref r1), y] [])
    (K2 : ∀ (h1 : zHp) y, ¬ (∀ j : Nat, j < L.length - 1 → zIn (L.getD (j + 1) 0 * ((j : Int) + 1))) → (∃ L', zRow G h1 r a L') → (∀ q, q ≠ r → q ≠ a → h1 q = h q) → zR G l (zMJ G hRow_becomeDerived d Qn Qx mc ms) bc bs h1 29 [some (.ref r), some (.ref r1), y] []) :
    ∀ (n : Nat) (m : Nat) (h1 : zHp), L.length - m < n → m ≤ L.length - 1 → (∀ j : Nat, j < m → zIn (L.getD (j + 1) 0 * ((j : Int) + 1))) → zRow G h1 r a (zmk m (fun j => L.getD (j + 1) 0 * ((j : Int) + 1))) → (∀ q, q ≠ r → q ≠ a → h1 q = h q) →
      zR G l (zMJ G hRow_becomeDerived d Qn Qx mc ms) bc bs h1 7 [some (.ref r), some (.ref r1), some (zi ((m : Int) + 1))] [] := by
  intro n
  induction n with
  | zero => intro m h1 q1 q2 q3 hr1 g2; omega
  | succ n ih =>
  intro m h1 q1 q2 q3 hr1 g2
  obtain ⟨f, e1, e2, e3, e4, e5⟩ := id hr1
  have hl1 : zRow G h1 r1 a1 L := hl.kept (g2 _ n1 n2) (g2 _ n3 n4)
  obtain ⟨f3, b1, b2, b3, b4, b5⟩ := id hl1
  have hlen := zmk_len m (fun j => L.getD (j + 1) 0 * ((j : Int) + 1))
  refine z_iload_n dRow_becomeDerived_7 rfl ?_
  refine z_aload_n dRow_becomeDerived_8 rfl ?_
  refine z_get (k := 1) fd_Row (by decide) fl_Row_15 dRow_becomeDerived_9 b1 (by rfl) ?_
  refine z_icmp_ge (tgt := 37) dRow_becomeDerived_12 (by decide) (by omega) (by omega) (fun c12 => ?_) (fun c12 => ?_)
  · have em : m = L.length - 1 := by omega
    subst em
    exact K1 h1 _ q3 hr1 g2
  · refine z_aload_n dRow_becomeDerived_15 rfl ?_
    refine z_aload_n dRow_becomeDerived_16 rfl ?_
    refine z_iload_n dRow_becomeDerived_17 rfl ?_
    refine z_callV MV_Row_itemAt lk_Row_40 dRow_becomeDerived_18 (k_Row_itemAt hl1 (by omega)) rfl rfl (Nat.le_of_ble_eq_true rfl) rfl b1 (by show 3 ≤ d; omega) (by show 2 * 64 + 64 ≤ d * 64; omega) (Nat.le_of_eq (Nat.zero_add _)) (Nat.le_of_eq (Nat.zero_add _)) (fun _ _ q => q.elim) ?_
    rintro _ _ ⟨rfl, rfl⟩
    rw [show (m : Int) + 1 = ((m + 1 : Nat) : Int) by omega, zAt_nat (show m + 1 < L.length by omega), show ((m + 1 : Nat) : Int) = (m : Int) + 1 by omega]
    have hai := hl1.item (show m + 1 < L.length by omega)
    have hmu := Int.mul_le_mul_of_nonneg_right hai.1 (show (0 : Int) ≤ (m : Int) + 1 by omega)
    have hmv := Int.mul_le_mul_of_nonneg_right hai.2 (show (0 : Int) ≤ (m : Int) + 1 by omega)
    refine z_iload_n dRow_becomeDerived_21 rfl ?_
    refine z_imul dRow_becomeDerived_22 ?_
    refine z_callV MV_Row_addBehind lk_Row_64 dRow_becomeDerived_23 (k_Row_addBehind hr1 (by omega)) rfl rfl (Nat.le_of_ble_eq_true rfl) rfl e1 (by show 4 ≤ d; omega) (by show 3 * 64 + 64 ≤ d * 64; omega) (Nat.le_of_eq (Nat.zero_add _)) (Nat.le_of_eq (Nat.zero_add _)) (fun _ _ q => q.elim) ?_
    rintro _ h3 (⟨rfl, k4, k5, hr3, f3⟩ | ⟨rfl, k4, rfl⟩)
    · rw [← zmk_succ m (fun j => L.getD (j + 1) 0 * ((j : Int) + 1))] at hr3
      refine z_if_ne (tgt := 31) dRow_becomeDerived_26 (by decide) (by omega) (fun c26 => ?_) (fun c26 => ?_)
      · refine z_iinc dRow_becomeDerived_31 rfl (Nat.le_of_ble_eq_true rfl) ?_
        refine z_goto (tgt := 7) dRow_becomeDerived_34 (by decide) ?_
        refine ih (m + 1) h3 (by omega) (by omega) (fun j hj => ?_) hr3 (fun q h4 h5 => (f3 q h4 h5).trans (g2 q h4 h5))
        rcases (show j < m ∨ j = m by omega) with e | e
        · exact q3 j e
        · rw [e]; exact k4
      · exact absurd c26 (by decide)
    · refine z_if_ne (tgt := 31) dRow_becomeDerived_26 (by decide) (by omega) (fun c26 => ?_) (fun c26 => ?_)
      · exact absurd rfl c26
      · exact K2 h1 _ (fun q => k4 ⟨q m (by omega), by omega⟩) ⟨_, hr1⟩ g2
theorem k_Row_becomeDerived {r1 a1 : Nat} {L0 : List Int} (hr : zRow G h r a L0) (h1 : zRow G h r1 a1 L) (n1 : r1 ≠ r) (n2 : a1 ≠ a) : zM G l hRow_becomeDerived yRow_becomeDerived 4 [.ref r, .ref r1] h (fun v h' => (v = some (zi 1) ∧ (∀ j : Nat, j < L.length - 1 → zIn (L.getD (j + 1) 0 * ((j : Int) + 1))) ∧ zRow G h' r a (zmk (L.length - 1) (fun j => L.getD (j + 1) 0 * ((j : Int) + 1))) ∧ ∀ q, q ≠ r → q ≠ a → h' q = h q) ∨ (v = some (zi 0) ∧ ¬ (∀ j : Nat, j < L.length - 1 → zIn (L.getD (j + 1) 0 * ((j : Int) + 1))) ∧ (∃ L', zRow G h' r a L') ∧ ∀ q, q ≠ r → q ≠ a → h' q = h q)) zNo 0 0 := by
  obtain ⟨f, e1, e2, e3, e4, e5⟩ := id hr
  obtain ⟨m1, m2⟩ := hr.apart h1
  refine zM.of [some (.ref r), some (.ref r1), none] (by decide +kernel) rfl (by decide) rfl (Nat.le_of_ble_eq_true rfl) rfl ?_
  refine z_aload_n dRow_becomeDerived_0 rfl ?_
  refine z_iconst dRow_becomeDerived_1 ?_
  refine z_put (k := 1) fd_Row (by decide) fl_Row_15 rfl dRow_becomeDerived_2 e1 (by simp) rfl rfl ?_
  have hr0 := hr.cleared
  have g0 : ∀ q, q ≠ r → q ≠ a → zup h r (some (.inr (zkRow, [.ref a, zi 0]))) q = h q := fun q h1 h2 => zup_ne h1
  change zR G l _ 0 0 (zup h r (some (.inr (zkRow, [.ref a, zi 0])))) _ _ _
  generalize zup h r (some (.inr (zkRow, [.ref a, zi 0]))) = h0 at *
  have h1 : zRow G h0 r1 a1 L := h1.kept (g0 _ n1 m1) (g0 _ m2 n2)
  refine z_iconst dRow_becomeDerived_5 ?_
  refine z_istore_n dRow_becomeDerived_6 (Nat.le_of_ble_eq_true rfl) ?_
  have hq9 := h1.len
  refine l_Row_becomeDerived (h := h0) (by omega) n1 m1 m2 n2 h1 (fun h5 y c1 hr5 f5 => ?_) (fun h5 y c1 hr5 f5 => ?_) 17 0 h0 (by omega) (by omega) (fun j hj => absurd hj (by omega)) hr0 (fun _ _ _ => rfl)
  · refine z_iconst dRow_becomeDerived_37 ?_
    refine z_iret rfl rfl dRow_becomeDerived_38 ?_
    exact Or.inl ⟨rfl, c1, hr5, fun q h6 h7 => (f5 q h6 h7).trans (g0 q h6 h7)⟩
  · refine z_iconst dRow_becomeDerived_29 ?_
    refine z_iret rfl rfl dRow_becomeDerived_30 ?_
    exact Or.inr ⟨rfl, c1, hr5, fun q h6 h7 => (f5 q h6 h7).trans (g0 q h6 h7)⟩
/-- the product's coefficient at p, out of the first n pairs -/
def zCf (L M : List Int) (p : Int) : Nat → Int
  | 0 => 0
  | n + 1 => zCf L M p n + zAt L n * zAt M (p - n)
theorem l_Row_coef {d mc ms bc bs : Nat} {Qn : Option Value → zHp → Prop} {Qx : String → zHp → Prop} {r1 a1 r2 a2 N : Nat} {M : List Int} (hd : 3 ≤ d) (hN : N ≤ 16) (h1 : zRow G h r1 a1 L) (hm : zRow G h r2 a2 M)
    (K : ∀ y, zR G l (zMJ G hRow_coefficientOfProduct d Qn Qx mc ms) bc bs h 35 [some (.ref r1), some (.ref r2), some (zi (N : Int)), some (zi (zCf L M N (N + 1))), y] []) :
    ∀ (n : Nat) (m : Nat), N + 1 - m < n → m ≤ N + 1 →
      zR G l (zMJ G hRow_coefficientOfProduct d Qn Qx mc ms) bc bs h 5 [some (.ref r1), some (.ref r2), some (zi (N : Int)), some (zi (zCf L M N m)), some (zi (m : Int))] [] := by
  intro n
  induction n with
  | zero => intro m q1 q2; omega
  | succ n ih =>
  intro m q1 q2
  obtain ⟨f2, d1, d2, d3, d4, d5⟩ := id hm
  obtain ⟨f3, b1, b2, b3, b4, b5⟩ := id h1
  refine z_iload dRow_coefficientOfProduct_5 rfl ?_
  refine z_iload_n dRow_coefficientOfProduct_7 rfl ?_
  refine z_icmp_gt (tgt := 35) dRow_coefficientOfProduct_8 (by decide) (by omega) (by omega) (fun c8 => ?_) (fun c8 => ?_)
  · have em : m = N + 1 := by omega
    subst em
    exact K _
  · refine z_iload_n dRow_coefficientOfProduct_11 rfl ?_
    refine z_aload_n dRow_coefficientOfProduct_12 rfl ?_
    refine z_iload dRow_coefficientOfProduct_13 rfl ?_
    refine z_callV MV_Row_itemAt lk_Row_40 dRow_coefficientOfProduct_15 (k_Row_itemAt h1 (by omega)) rfl rfl (Nat.le_of_ble_eq_true rfl) rfl b1 (by show 3 ≤ d; omega) (by show 2 * 64 + 64 ≤ d * 64; omega) (Nat.le_of_eq (Nat.zero_add _)) (Nat.le_of_eq (Nat.zero_add _)) (fun _ _ q => q.elim) ?_
    rintro _ _ ⟨rfl, rfl⟩
    refine z_aload_n dRow_coefficientOfProduct_18 rfl ?_
    refine z_iload_n dRow_coefficientOfProduct_19 rfl ?_
    refine z_iload dRow_coefficientOfProduct_20 rfl ?_
    refine z_isub dRow_coefficientOfProduct_22 ?_
    refine z_callV MV_Row_itemAt lk_Row_40 dRow_coefficientOfProduct_23 (k_Row_itemAt hm (by omega)) rfl rfl (Nat.le_of_ble_eq_true rfl) rfl d1 (by show 3 ≤ d; omega) (by show 2 * 64 + 64 ≤ d * 64; omega) (Nat.le_of_eq (Nat.zero_add _)) (Nat.le_of_eq (Nat.zero_add _)) (fun _ _ q => q.elim) ?_
    rintro _ _ ⟨rfl, rfl⟩
    refine z_imul dRow_coefficientOfProduct_26 ?_
    refine z_iadd dRow_coefficientOfProduct_27 ?_
    refine z_istore_n dRow_coefficientOfProduct_28 (Nat.le_of_ble_eq_true rfl) ?_
    refine z_iinc dRow_coefficientOfProduct_29 rfl (Nat.le_of_ble_eq_true rfl) ?_
    refine z_goto (tgt := 5) dRow_coefficientOfProduct_32 (by decide) ?_
    exact ih (m + 1) (by omega) (by omega)
theorem k_Row_coef {r1 a1 r2 a2 N : Nat} {M : List Int} (h1 : zRow G h r1 a1 L) (hm : zRow G h r2 a2 M) (hN : N ≤ 16) : zM G l hRow_coefficientOfProduct yRow_coefficientOfProduct 3 [.ref r1, .ref r2, zi (N : Int)] h (fun v h' => v = some (zi (zCf L M N (N + 1))) ∧ h = h') zNo 0 0 := by
  refine zM.of [some (.ref r1), some (.ref r2), some (zi (N : Int)), none, none] (by decide +kernel) rfl (by decide) rfl (Nat.le_of_ble_eq_true rfl) rfl ?_
  refine z_iconst dRow_coefficientOfProduct_0 ?_
  refine z_istore_n dRow_coefficientOfProduct_1 (Nat.le_of_ble_eq_true rfl) ?_
  refine z_iconst dRow_coefficientOfProduct_2 ?_
  refine z_istore dRow_coefficientOfProduct_3 (Nat.le_of_ble_eq_true rfl) ?_
  refine l_Row_coef (by omega) hN h1 hm (fun y => ?_) 19 0 (by omega) (by omega)
  refine z_iload_n dRow_coefficientOfProduct_35 rfl ?_
  refine z_iret rfl rfl dRow_coefficientOfProduct_36 ?_
  exact ⟨rfl, rfl⟩
theorem zmul_in2 {u v : Int} (hu : zIn u) (hv : zIn v) : -99980001 ≤ u * v ∧ u * v ≤ 99980001 := by
  rcases Int.le_total 0 v with q | q
  · have h1 := Int.mul_le_mul_of_nonneg_right hu.1 q
    have h2 := Int.mul_le_mul_of_nonneg_right hu.2 q
    omega
  · have h1 := Int.mul_le_mul_of_nonpos_right hu.1 q
    have h2 := Int.mul_le_mul_of_nonpos_right hu.2 q
    omega
theorem zCf_in {L M : List Int} (p : Int) (hL : ∀ j, zIn (zAt L j)) (hM : ∀ j, zIn (zAt M j)) : ∀ n : Nat, -99980001 * (n : Int) ≤ zCf L M p n ∧ zCf L M p n ≤ 99980001 * (n : Int)
  | 0 => by simp [zCf]
  | n + 1 => by
    have h1 := zCf_in p hL hM n
    have h2 := zmul_in2 (hL n) (hM (p - n))
    unfold zCf
    omega
def zPn (L M : List Int) : Nat := if L.length = 0 ∨ M.length = 0 then 0 else L.length + M.length - 1
theorem l_Row_becomeProduct {d mc ms bc bs : Nat} {Qn : Option Value → zHp → Prop} {Qx : String → zHp → Prop} {r1 a1 r2 a2 N : Nat} {M : List Int} (hd : 4 ≤ d) (hN : N ≤ 16) (n1 : r1 ≠ r) (n2 : r1 ≠ a) (n3 : a1 ≠ r) (n4 : a1 ≠ a) (m1 : r2 ≠ r) (m2 : r2 ≠ a) (m3 : a2 ≠ r) (m4 : a2 ≠ a) (hl : zRow G h r1 a1 L) (hm : zRow G h r2 a2 M)
    (K1 : ∀ (h1 : zHp) y, (∀ j : Nat, j < N → zIn (zCf L M j (j + 1))) → zRow G h1 r a (zmk N (fun j => zCf L M j (j + 1))) → (∀ q, q ≠ r → q ≠ a → h1 q = h q) → zR G l (zMJ G hRow_becomeProduct d Qn Qx mc ms) bc bs h1 74 [some (.ref r), some (.ref r1), some (.ref r2), some (zi (N : Int)), y] [])
    (K2 : ∀ (h1 : zHp) y, ¬ (∀ j : Nat, j < N → zIn (zCf L M j (j + 1))) → (∃ L', zRow G h1 r a L') → (∀ q, q ≠ r → q ≠ a → h1 q = h q) → zR G l (zMJ G hRow_becomeProduct d Qn Qx mc ms) bc bs h1 66 [some (.ref r), some (.ref r1), some (.ref r2), some (zi (N : Int)), y] []) :
    ∀ (n : Nat) (m : Nat) (h1 : zHp), N - m < n → m ≤ N → (∀ j : Nat, j < m → zIn (zCf L M j (j + 1))) → zRow G h1 r a (zmk m (fun j => zCf L M j (j + 1))) → (∀ q, q ≠ r → q ≠ a → h1 q = h q) →
      zR G l (zMJ G hRow_becomeProduct d Qn Qx mc ms) bc bs h1 46 [some (.ref r), some (.ref r1), some (.ref r2), some (zi (N : Int)), some (zi (m : Int))] [] := by
  intro n
  induction n with
  | zero => intro m h1 q1 q2 q3 hr1 g2; omega
  | succ n ih =>
  intro m h1 q1 q2 q3 hr1 g2
  obtain ⟨f, e1, e2, e3, e4, e5⟩ := id hr1
  have hm1 : zRow G h1 r2 a2 M := hm.kept (g2 _ m1 m2) (g2 _ m3 m4)
  have hl1 : zRow G h1 r1 a1 L := hl.kept (g2 _ n1 n2) (g2 _ n3 n4)
  obtain ⟨f2, d1, d2, d3, d4, d5⟩ := id hm1
  obtain ⟨f3, b1, b2, b3, b4, b5⟩ := id hl1
  have hlen := zmk_len m (fun j => zCf L M j (j + 1))
  have hci := zCf_in (L := L) (M := M) m (zAt_in hl1) (zAt_in hm1) (m + 1)
  refine z_iload dRow_becomeProduct_46 rfl ?_
  refine z_iload_n dRow_becomeProduct_48 rfl ?_
  refine z_icmp_ge (tgt := 74) dRow_becomeProduct_49 (by decide) (by omega) (by omega) (fun c49 => ?_) (fun c49 => ?_)
  · have em : m = N := by omega
    subst em
    exact K1 h1 _ q3 hr1 g2
  · refine z_aload_n dRow_becomeProduct_52 rfl ?_
    refine z_aload_n dRow_becomeProduct_53 rfl ?_
    refine z_aload_n dRow_becomeProduct_54 rfl ?_
    refine z_iload dRow_becomeProduct_55 rfl ?_
    refine z_callS MS_Row_coefficientOfProduct lk_Row_74 dRow_becomeProduct_57 (k_Row_coef hl1 hm1 (by omega)) rfl rfl (Nat.le_of_ble_eq_true rfl) (by show 4 ≤ d; omega) (by show 3 * 64 + 64 ≤ d * 64; omega) (Nat.le_of_eq (Nat.zero_add _)) (Nat.le_of_eq (Nat.zero_add _)) (fun _ _ q => q.elim) ?_
    rintro _ _ ⟨rfl, rfl⟩
    refine z_callV MV_Row_addBehind lk_Row_64 dRow_becomeProduct_60 (k_Row_addBehind hr1 (by omega)) rfl rfl (Nat.le_of_ble_eq_true rfl) rfl e1 (by show 4 ≤ d; omega) (by show 3 * 64 + 64 ≤ d * 64; omega) (Nat.le_of_eq (Nat.zero_add _)) (Nat.le_of_eq (Nat.zero_add _)) (fun _ _ q => q.elim) ?_
    rintro _ h3 (⟨rfl, k4, k5, hr3, f3⟩ | ⟨rfl, k4, rfl⟩)
    · rw [← zmk_succ m (fun j => zCf L M j (j + 1))] at hr3
      refine z_if_ne (tgt := 68) dRow_becomeProduct_63 (by decide) (by omega) (fun c63 => ?_) (fun c63 => ?_)
      · refine z_iinc dRow_becomeProduct_68 rfl (Nat.le_of_ble_eq_true rfl) ?_
        refine z_goto (tgt := 46) dRow_becomeProduct_71 (by decide) ?_
        refine ih (m + 1) h3 (by omega) (by omega) (fun j hj => ?_) hr3 (fun q h4 h5 => (f3 q h4 h5).trans (g2 q h4 h5))
        rcases (show j < m ∨ j = m by omega) with e | e
        · exact q3 j e
        · rw [e]; exact k4
      · exact absurd c63 (by decide)
    · refine z_if_ne (tgt := 68) dRow_becomeProduct_63 (by decide) (by omega) (fun c63 => ?_) (fun c63 => ?_)
      · exact absurd rfl c63
      · exact K2 h1 _ (fun q => k4 ⟨q m (by omega), by omega⟩) ⟨_, hr1⟩ g2
theorem k_Row_becomeProduct {r1 a1 r2 a2 : Nat} {L0 M : List Int} (hr : zRow G h r a L0) (h1 : zRow G h r1 a1 L) (hm : zRow G h r2 a2 M) (n1 : r1 ≠ r) (n2 : a1 ≠ a) (n3 : r2 ≠ r) (n4 : a2 ≠ a) : zM G l hRow_becomeProduct yRow_becomeProduct 4 [.ref r, .ref r1, .ref r2] h (fun v h' => (v = some (zi 1) ∧ (zPn L M ≤ 16 ∧ ∀ j : Nat, j < zPn L M → zIn (zCf L M j (j + 1))) ∧ zRow G h' r a (zmk (zPn L M) (fun j => zCf L M j (j + 1))) ∧ ∀ q, q ≠ r → q ≠ a → h' q = h q) ∨ (v = some (zi 0) ∧ ¬ (zPn L M ≤ 16 ∧ ∀ j : Nat, j < zPn L M → zIn (zCf L M j (j + 1))) ∧ (∃ L', zRow G h' r a L') ∧ ∀ q, q ≠ r → q ≠ a → h' q = h q)) zNo 0 0 := by
  obtain ⟨f, e1, e2, e3, e4, e5⟩ := id hr
  obtain ⟨m1, m2⟩ := hr.apart h1
  obtain ⟨m3, m4⟩ := hr.apart hm
  refine zM.of [some (.ref r), some (.ref r1), some (.ref r2), none, none] (by decide +kernel) rfl (by decide) rfl (Nat.le_of_ble_eq_true rfl) rfl ?_
  refine z_aload_n dRow_becomeProduct_0 rfl ?_
  refine z_iconst dRow_becomeProduct_1 ?_
  refine z_put (k := 1) fd_Row (by decide) fl_Row_15 rfl dRow_becomeProduct_2 e1 (by simp) rfl rfl ?_
  have hr0 := hr.cleared
  have g0 : ∀ q, q ≠ r → q ≠ a → zup h r (some (.inr (zkRow, [.ref a, zi 0]))) q = h q := fun q h1 h2 => zup_ne h1
  change zR G l _ 0 0 (zup h r (some (.inr (zkRow, [.ref a, zi 0])))) _ _ _
  generalize zup h r (some (.inr (zkRow, [.ref a, zi 0]))) = h0 at *
  have h1 : zRow G h0 r1 a1 L := h1.kept (g0 _ n1 m1) (g0 _ m2 n2)
  have hm : zRow G h0 r2 a2 M := hm.kept (g0 _ n3 m3) (g0 _ m4 n4)
  obtain ⟨f2, d1, d2, d3, d4, d5⟩ := id h1
  obtain ⟨f3, b1, b2, b3, b4, b5⟩ := id hm
  refine z_aload_n dRow_becomeProduct_5 rfl ?_
  refine z_get (k := 1) fd_Row (by decide) fl_Row_15 dRow_becomeProduct_6 d1 (by rfl) ?_
  refine z_if_eq (tgt := 19) dRow_becomeProduct_9 (by decide) (by omega) (fun c9 => ?_) (fun c9 => ?_)
  · refine z_iconst dRow_becomeProduct_19 ?_
    refine z_goto (tgt := 34) dRow_becomeProduct_20 (by decide) ?_
    first
      | (obtain ⟨v, hv⟩ : ∃ v : Int, v = (L.length : Int) + M.length - 1 := ⟨_, rfl⟩
         rw [← hv]
         have hN : v = (zPn L M : Int) := by unfold zPn; rw [if_neg (by omega)]; omega
         rw [hN]
         have hpl : zPn L M ≤ 32 := by unfold zPn; split <;> omega
         refine z_istore_n dRow_becomeProduct_34 (Nat.le_of_ble_eq_true rfl) ?_
         refine z_iload_n dRow_becomeProduct_35 rfl ?_
         refine z_bipush dRow_becomeProduct_36 rfl ?_
         refine z_icmp_le (tgt := 43) dRow_becomeProduct_38 (by decide) (by omega) (by omega) (fun c38 => ?_) (fun c38 => ?_)
         · refine z_iconst dRow_becomeProduct_43 ?_
           refine z_istore dRow_becomeProduct_44 (Nat.le_of_ble_eq_true rfl) ?_
           refine l_Row_becomeProduct (h := h0) (N := zPn L M) (by omega) (by omega) n1 m1 m2 n2 n3 m3 m4 n4 h1 hm (fun h5 y c1 hr5 f5 => ?_) (fun h5 y c1 hr5 f5 => ?_) 17 0 h0 (by omega) (by omega) (fun j hj => absurd hj (by omega)) hr0 (fun _ _ _ => rfl)
           · refine z_iconst dRow_becomeProduct_74 ?_
             refine z_iret rfl rfl dRow_becomeProduct_75 ?_
             exact Or.inl ⟨rfl, ⟨by omega, c1⟩, hr5, fun q h6 h7 => (f5 q h6 h7).trans (g0 q h6 h7)⟩
           · refine z_iconst dRow_becomeProduct_66 ?_
             refine z_iret rfl rfl dRow_becomeProduct_67 ?_
             exact Or.inr ⟨rfl, fun q => c1 q.2, hr5, fun q h6 h7 => (f5 q h6 h7).trans (g0 q h6 h7)⟩
         · refine z_iconst dRow_becomeProduct_41 ?_
           refine z_iret rfl rfl dRow_becomeProduct_42 ?_
           exact Or.inr ⟨rfl, fun q => by have := q.1; omega, ⟨_, hr0⟩, g0⟩
         done)
      | (have hN : zPn L M = 0 := by unfold zPn; rw [if_pos (by omega)]
         rw [hN]
         refine z_istore_n dRow_becomeProduct_34 (Nat.le_of_ble_eq_true rfl) ?_
         refine z_iload_n dRow_becomeProduct_35 rfl ?_
         refine z_bipush dRow_becomeProduct_36 rfl ?_
         refine z_icmp_le (tgt := 43) dRow_becomeProduct_38 (by decide) (by omega) (by omega) (fun c38 => ?_) (fun c38 => ?_)
         · refine z_iconst dRow_becomeProduct_43 ?_
           refine z_istore dRow_becomeProduct_44 (Nat.le_of_ble_eq_true rfl) ?_
           refine l_Row_becomeProduct (h := h0) (N := 0) (by omega) (by omega) n1 m1 m2 n2 n3 m3 m4 n4 h1 hm (fun h5 y c1 hr5 f5 => ?_) (fun h5 y c1 hr5 f5 => ?_) 17 0 h0 (by omega) (by omega) (fun j hj => absurd hj (by omega)) hr0 (fun _ _ _ => rfl)
           · refine z_iconst dRow_becomeProduct_74 ?_
             refine z_iret rfl rfl dRow_becomeProduct_75 ?_
             exact Or.inl ⟨rfl, ⟨by omega, c1⟩, hr5, fun q h6 h7 => (f5 q h6 h7).trans (g0 q h6 h7)⟩
           · refine z_iconst dRow_becomeProduct_66 ?_
             refine z_iret rfl rfl dRow_becomeProduct_67 ?_
             exact Or.inr ⟨rfl, fun q => c1 q.2, hr5, fun q h6 h7 => (f5 q h6 h7).trans (g0 q h6 h7)⟩
         · refine z_iconst dRow_becomeProduct_41 ?_
           refine z_iret rfl rfl dRow_becomeProduct_42 ?_
           exact Or.inr ⟨rfl, fun q => by have := q.1; omega, ⟨_, hr0⟩, g0⟩
         done)
  · refine z_aload_n dRow_becomeProduct_12 rfl ?_
    refine z_get (k := 1) fd_Row (by decide) fl_Row_15 dRow_becomeProduct_13 b1 (by rfl) ?_
    refine z_if_ne (tgt := 23) dRow_becomeProduct_16 (by decide) (by omega) (fun c16 => ?_) (fun c16 => ?_)
    · refine z_aload_n dRow_becomeProduct_23 rfl ?_
      refine z_get (k := 1) fd_Row (by decide) fl_Row_15 dRow_becomeProduct_24 d1 (by rfl) ?_
      refine z_aload_n dRow_becomeProduct_27 rfl ?_
      refine z_get (k := 1) fd_Row (by decide) fl_Row_15 dRow_becomeProduct_28 b1 (by rfl) ?_
      refine z_iadd dRow_becomeProduct_31 ?_
      refine z_iconst dRow_becomeProduct_32 ?_
      refine z_isub dRow_becomeProduct_33 ?_
      first
        | (obtain ⟨v, hv⟩ : ∃ v : Int, v = (L.length : Int) + M.length - 1 := ⟨_, rfl⟩
           rw [← hv]
           have hN : v = (zPn L M : Int) := by unfold zPn; rw [if_neg (by omega)]; omega
           rw [hN]
           have hpl : zPn L M ≤ 32 := by unfold zPn; split <;> omega
           refine z_istore_n dRow_becomeProduct_34 (Nat.le_of_ble_eq_true rfl) ?_
           refine z_iload_n dRow_becomeProduct_35 rfl ?_
           refine z_bipush dRow_becomeProduct_36 rfl ?_
           refine z_icmp_le (tgt := 43) dRow_becomeProduct_38 (by decide) (by omega) (by omega) (fun c38 => ?_) (fun c38 => ?_)
           · refine z_iconst dRow_becomeProduct_43 ?_
             refine z_istore dRow_becomeProduct_44 (Nat.le_of_ble_eq_true rfl) ?_
             refine l_Row_becomeProduct (h := h0) (N := zPn L M) (by omega) (by omega) n1 m1 m2 n2 n3 m3 m4 n4 h1 hm (fun h5 y c1 hr5 f5 => ?_) (fun h5 y c1 hr5 f5 => ?_) 17 0 h0 (by omega) (by omega) (fun j hj => absurd hj (by omega)) hr0 (fun _ _ _ => rfl)
             · refine z_iconst dRow_becomeProduct_74 ?_
               refine z_iret rfl rfl dRow_becomeProduct_75 ?_
               exact Or.inl ⟨rfl, ⟨by omega, c1⟩, hr5, fun q h6 h7 => (f5 q h6 h7).trans (g0 q h6 h7)⟩
             · refine z_iconst dRow_becomeProduct_66 ?_
               refine z_iret rfl rfl dRow_becomeProduct_67 ?_
               exact Or.inr ⟨rfl, fun q => c1 q.2, hr5, fun q h6 h7 => (f5 q h6 h7).trans (g0 q h6 h7)⟩
           · refine z_iconst dRow_becomeProduct_41 ?_
             refine z_iret rfl rfl dRow_becomeProduct_42 ?_
             exact Or.inr ⟨rfl, fun q => by have := q.1; omega, ⟨_, hr0⟩, g0⟩
           done)
        | (have hN : zPn L M = 0 := by unfold zPn; rw [if_pos (by omega)]
           rw [hN]
           refine z_istore_n dRow_becomeProduct_34 (Nat.le_of_ble_eq_true rfl) ?_
           refine z_iload_n dRow_becomeProduct_35 rfl ?_
           refine z_bipush dRow_becomeProduct_36 rfl ?_
           refine z_icmp_le (tgt := 43) dRow_becomeProduct_38 (by decide) (by omega) (by omega) (fun c38 => ?_) (fun c38 => ?_)
           · refine z_iconst dRow_becomeProduct_43 ?_
             refine z_istore dRow_becomeProduct_44 (Nat.le_of_ble_eq_true rfl) ?_
             refine l_Row_becomeProduct (h := h0) (N := 0) (by omega) (by omega) n1 m1 m2 n2 n3 m3 m4 n4 h1 hm (fun h5 y c1 hr5 f5 => ?_) (fun h5 y c1 hr5 f5 => ?_) 17 0 h0 (by omega) (by omega) (fun j hj => absurd hj (by omega)) hr0 (fun _ _ _ => rfl)
             · refine z_iconst dRow_becomeProduct_74 ?_
               refine z_iret rfl rfl dRow_becomeProduct_75 ?_
               exact Or.inl ⟨rfl, ⟨by omega, c1⟩, hr5, fun q h6 h7 => (f5 q h6 h7).trans (g0 q h6 h7)⟩
             · refine z_iconst dRow_becomeProduct_66 ?_
               refine z_iret rfl rfl dRow_becomeProduct_67 ?_
               exact Or.inr ⟨rfl, fun q => c1 q.2, hr5, fun q h6 h7 => (f5 q h6 h7).trans (g0 q h6 h7)⟩
           · refine z_iconst dRow_becomeProduct_41 ?_
             refine z_iret rfl rfl dRow_becomeProduct_42 ?_
             exact Or.inr ⟨rfl, fun q => by have := q.1; omega, ⟨_, hr0⟩, g0⟩
           done)
    · refine z_iconst dRow_becomeProduct_19 ?_
      refine z_goto (tgt := 34) dRow_becomeProduct_20 (by decide) ?_
      first
        | (obtain ⟨v, hv⟩ : ∃ v : Int, v = (L.length : Int) + M.length - 1 := ⟨_, rfl⟩
           rw [← hv]
           have hN : v = (zPn L M : Int) := by unfold zPn; rw [if_neg (by omega)]; omega
           rw [hN]
           have hpl : zPn L M ≤ 32 := by unfold zPn; split <;> omega
           refine z_istore_n dRow_becomeProduct_34 (Nat.le_of_ble_eq_true rfl) ?_
           refine z_iload_n dRow_becomeProduct_35 rfl ?_
           refine z_bipush dRow_becomeProduct_36 rfl ?_
           refine z_icmp_le (tgt := 43) dRow_becomeProduct_38 (by decide) (by omega) (by omega) (fun c38 => ?_) (fun c38 => ?_)
           · refine z_iconst dRow_becomeProduct_43 ?_
             refine z_istore dRow_becomeProduct_44 (Nat.le_of_ble_eq_true rfl) ?_
             refine l_Row_becomeProduct (h := h0) (N := zPn L M) (by omega) (by omega) n1 m1 m2 n2 n3 m3 m4 n4 h1 hm (fun h5 y c1 hr5 f5 => ?_) (fun h5 y c1 hr5 f5 => ?_) 17 0 h0 (by omega) (by omega) (fun j hj => absurd hj (by omega)) hr0 (fun _ _ _ => rfl)
             · refine z_iconst dRow_becomeProduct_74 ?_
               refine z_iret rfl rfl dRow_becomeProduct_75 ?_
               exact Or.inl ⟨rfl, ⟨by omega, c1⟩, hr5, fun q h6 h7 => (f5 q h6 h7).trans (g0 q h6 h7)⟩
             · refine z_iconst dRow_becomeProduct_66 ?_
               refine z_iret rfl rfl dRow_becomeProduct_67 ?_
               exact Or.inr ⟨rfl, fun q => c1 q.2, hr5, fun q h6 h7 => (f5 q h6 h7).trans (g0 q h6 h7)⟩
           · refine z_iconst dRow_becomeProduct_41 ?_
             refine z_iret rfl rfl dRow_becomeProduct_42 ?_
             exact Or.inr ⟨rfl, fun q => by have := q.1; omega, ⟨_, hr0⟩, g0⟩
           done)
        | (have hN : zPn L M = 0 := by unfold zPn; rw [if_pos (by omega)]
           rw [hN]
           refine z_istore_n dRow_becomeProduct_34 (Nat.le_of_ble_eq_true rfl) ?_
           refine z_iload_n dRow_becomeProduct_35 rfl ?_
           refine z_bipush dRow_becomeProduct_36 rfl ?_
           refine z_icmp_le (tgt := 43) dRow_becomeProduct_38 (by decide) (by omega) (by omega) (fun c38 => ?_) (fun c38 => ?_)
           · refine z_iconst dRow_becomeProduct_43 ?_
             refine z_istore dRow_becomeProduct_44 (Nat.le_of_ble_eq_true rfl) ?_
             refine l_Row_becomeProduct (h := h0) (N := 0) (by omega) (by omega) n1 m1 m2 n2 n3 m3 m4 n4 h1 hm (fun h5 y c1 hr5 f5 => ?_) (fun h5 y c1 hr5 f5 => ?_) 17 0 h0 (by omega) (by omega) (fun j hj => absurd hj (by omega)) hr0 (fun _ _ _ => rfl)
             · refine z_iconst dRow_becomeProduct_74 ?_
               refine z_iret rfl rfl dRow_becomeProduct_75 ?_
               exact Or.inl ⟨rfl, ⟨by omega, c1⟩, hr5, fun q h6 h7 => (f5 q h6 h7).trans (g0 q h6 h7)⟩
             · refine z_iconst dRow_becomeProduct_66 ?_
               refine z_iret rfl rfl dRow_becomeProduct_67 ?_
               exact Or.inr ⟨rfl, fun q => c1 q.2, hr5, fun q h6 h7 => (f5 q h6 h7).trans (g0 q h6 h7)⟩
           · refine z_iconst dRow_becomeProduct_41 ?_
             refine z_iret rfl rfl dRow_becomeProduct_42 ?_
             exact Or.inr ⟨rfl, fun q => by have := q.1; omega, ⟨_, hr0⟩, g0⟩
           done)
end ROW5
