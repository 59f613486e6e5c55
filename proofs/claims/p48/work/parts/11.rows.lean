section
/-! ===== Row ===== -/
abbrev zIn (x : Int) : Prop := -9999 ≤ x ∧ x ≤ 9999
def zmk (n : Nat) (g : Nat → Int) : List Int := (List.range n).map g
theorem zmk_len (n : Nat) (g : Nat → Int) : (zmk n g).length = n := by simp [zmk]
theorem zmk_at {n j : Nat} (g : Nat → Int) (h : j < n) : (zmk n g).getD j 0 = g j := by simp [zmk, h]
theorem zl_ext {L M : List Int} (h : L.length = M.length) (h2 : ∀ j, j < L.length → L.getD j 0 = M.getD j 0) : L = M := by
  apply List.ext_getElem h
  intro j h3 h4
  have := h2 j h3
  simpa [h3, h4] using this
def zAt (L : List Int) (j : Int) : Int := if 0 ≤ j ∧ j < L.length then L.getD j.toNat 0 else 0
/-- a Row at r, its items at a, holds the list L -/
def zRow (G : zG) (h : zHp) (r a : Nat) (L : List Int) : Prop := ∃ f : Nat → Int, h r = some (.inr (zkRow, [.ref a, zi (L.length : Int)])) ∧ h a = some (zInts G 16 f) ∧ L.length ≤ 16 ∧ (∀ j, j < L.length → f j = L.getD j 0) ∧ ∀ j, j < L.length → zIn (L.getD j 0)
theorem zRow.len {G : zG} {h : zHp} {r a : Nat} {L : List Int} (H : zRow G h r a L) : L.length ≤ 16 := by obtain ⟨f, e1, e2, e3, e4, e5⟩ := H; exact e3
theorem zRow.item {G : zG} {h : zHp} {r a : Nat} {L : List Int} (H : zRow G h r a L) {j : Nat} (hj : j < L.length) : zIn (L.getD j 0) := by obtain ⟨f, e1, e2, e3, e4, e5⟩ := H; exact e5 j hj
theorem zRow.ne {G : zG} {h : zHp} {r a : Nat} {L : List Int} (H : zRow G h r a L) : r ≠ a := by
  obtain ⟨f, e1, e2, -⟩ := H
  rintro rfl
  rw [e1] at e2
  cases e2
theorem zRow.kept {G : zG} {h h' : zHp} {r a : Nat} {L : List Int} (H : zRow G h r a L) (hr : h' r = h r) (ha : h' a = h a) : zRow G h' r a L := by
  obtain ⟨f, e1, e2, e3⟩ := H
  exact ⟨f, hr.trans e1, ha.trans e2, e3⟩
theorem zAt_in {G : zG} {h : zHp} {r a : Nat} {L : List Int} (H : zRow G h r a L) (p : Int) : zIn (zAt L p) := by
  unfold zAt
  split
  · exact H.item (by omega)
  · decide
theorem zbool {b : Int} {C D : Prop} (hb : (b = 1 ∧ C) ∨ (b = 0 ∧ D)) : narrow .boolean (.int (zI b)) = .int (zI b) := by
  rcases hb with ⟨rfl, -⟩ | ⟨rfl, -⟩ <;> rfl
theorem zup_same {α : Type} (g : Nat → α) (k : Nat) (x : α) : zup g k x k = x := if_pos rfl
theorem zup_ne {α : Type} {g : Nat → α} {k j : Nat} {x : α} (h : j ≠ k) : zup g k x j = g j := if_neg h
section ROW
variable {G : zG} {l : Launch} {h : zHp} {r a : Nat} {L : List Int} {p x : Int}
theorem k_Row_hasPlace (hr : zRow G h r a L) (hp : -2147483648 ≤ p ∧ p ≤ 2147483647) : zM G l hRow_hasPlace yRow_hasPlace 1 [.ref r, zi p] h (fun v h' => ∃ b : Int, v = some (zi b) ∧ ((b = 1 ∧ (0 ≤ p ∧ p < (L.length : Int))) ∨ (b = 0 ∧ ¬ (0 ≤ p ∧ p < (L.length : Int)))) ∧ h = h') zNo 0 0 := by
  obtain ⟨f, e1, e2, e3, e4, e5⟩ := id hr
  refine zM.of [some (.ref r), some (zi p)] (by decide +kernel) rfl (by decide) rfl (Nat.le_of_ble_eq_true rfl) rfl ?_
  refine z_iload_n dRow_hasPlace_0 rfl ?_
  refine z_if_lt (tgt := 16) dRow_hasPlace_1 (by decide) (by omega) (fun c1 => ?_) (fun c1 => ?_)
  · refine z_iconst dRow_hasPlace_16 ?_
    refine z_iret rfl rfl dRow_hasPlace_17 ?_
    exact ⟨_, rfl, by omega, rfl⟩
  · refine z_iload_n dRow_hasPlace_4 rfl ?_
    refine z_aload_n dRow_hasPlace_5 rfl ?_
    refine z_get (k := 1) fd_Row (by decide) fl_Row_15 dRow_hasPlace_6 (by assumption) (by rfl) ?_
    refine z_icmp_ge (tgt := 16) dRow_hasPlace_9 (by decide) (by omega) (by omega) (fun c9 => ?_) (fun c9 => ?_)
    · refine z_iconst dRow_hasPlace_16 ?_
      refine z_iret rfl rfl dRow_hasPlace_17 ?_
      exact ⟨_, rfl, by omega, rfl⟩
    · refine z_iconst dRow_hasPlace_12 ?_
      refine z_goto (tgt := 17) dRow_hasPlace_13 (by decide) ?_
      refine z_iret rfl rfl dRow_hasPlace_17 ?_
      exact ⟨_, rfl, by omega, rfl⟩
theorem k_Row_hasGap (hr : zRow G h r a L) (hp : -2147483648 ≤ p ∧ p ≤ 2147483647) : zM G l hRow_hasGap yRow_hasGap 1 [.ref r, zi p] h (fun v h' => ∃ b : Int, v = some (zi b) ∧ ((b = 1 ∧ (0 ≤ p ∧ p ≤ (L.length : Int))) ∨ (b = 0 ∧ ¬ (0 ≤ p ∧ p ≤ (L.length : Int)))) ∧ h = h') zNo 0 0 := by
  obtain ⟨f, e1, e2, e3, e4, e5⟩ := id hr
  refine zM.of [some (.ref r), some (zi p)] (by decide +kernel) rfl (by decide) rfl (Nat.le_of_ble_eq_true rfl) rfl ?_
  refine z_iload_n dRow_hasGap_0 rfl ?_
  refine z_if_lt (tgt := 16) dRow_hasGap_1 (by decide) (by omega) (fun c1 => ?_) (fun c1 => ?_)
  · refine z_iconst dRow_hasGap_16 ?_
    refine z_iret rfl rfl dRow_hasGap_17 ?_
    exact ⟨_, rfl, by omega, rfl⟩
  · refine z_iload_n dRow_hasGap_4 rfl ?_
    refine z_aload_n dRow_hasGap_5 rfl ?_
    refine z_get (k := 1) fd_Row (by decide) fl_Row_15 dRow_hasGap_6 (by assumption) (by rfl) ?_
    refine z_icmp_gt (tgt := 16) dRow_hasGap_9 (by decide) (by omega) (by omega) (fun c9 => ?_) (fun c9 => ?_)
    · refine z_iconst dRow_hasGap_16 ?_
      refine z_iret rfl rfl dRow_hasGap_17 ?_
      exact ⟨_, rfl, by omega, rfl⟩
    · refine z_iconst dRow_hasGap_12 ?_
      refine z_goto (tgt := 17) dRow_hasGap_13 (by decide) ?_
      refine z_iret rfl rfl dRow_hasGap_17 ?_
      exact ⟨_, rfl, by omega, rfl⟩
theorem k_Row_itemAt (hr : zRow G h r a L) (hp : -2147483648 ≤ p ∧ p ≤ 2147483647) : zM G l hRow_itemAt yRow_itemAt 2 [.ref r, zi p] h (fun v h' => v = some (zi (zAt L p)) ∧ h = h') zNo 0 0 := by
  obtain ⟨f, e1, e2, e3, e4, e5⟩ := id hr
  refine zM.of [some (.ref r), some (zi p)] (by decide +kernel) rfl (by decide) rfl (Nat.le_of_ble_eq_true rfl) rfl ?_
  refine z_aload_n dRow_itemAt_0 rfl ?_
  refine z_iload_n dRow_itemAt_1 rfl ?_
  refine z_callV MV_Row_hasPlace lk_Row_19 dRow_itemAt_2 (k_Row_hasPlace hr hp) rfl rfl (Nat.le_of_ble_eq_true rfl) rfl (by assumption) (Nat.le_of_ble_eq_true rfl) (Nat.le_of_ble_eq_true rfl) (Nat.le_of_eq (Nat.zero_add _)) (Nat.le_of_eq (Nat.zero_add _)) (fun _ _ q => q.elim) ?_
  rintro _ _ ⟨b9, rfl, hb9, rfl⟩
  refine z_if_eq (tgt := 17) dRow_itemAt_5 (by decide) (by omega) (fun c5 => ?_) (fun c5 => ?_)
  · refine z_iconst dRow_itemAt_17 ?_
    refine z_iret rfl rfl dRow_itemAt_18 ?_
    unfold zAt
    first
      | (rw [if_pos (by omega)]; exact ⟨by rw [e4 _ (by omega)], rfl⟩)
      | (rw [if_neg (by omega)]; exact ⟨rfl, rfl⟩)
  · refine z_aload_n dRow_itemAt_8 rfl ?_
    refine z_get (k := 0) fd_Row (by decide) fl_Row_9 dRow_itemAt_9 (by assumption) (by rfl) ?_
    refine z_iload_n dRow_itemAt_12 rfl ?_
    refine z_iald dRow_itemAt_13 (by assumption) (by refine ⟨?_, ?_, ?_⟩ <;> omega) ?_
    refine z_goto (tgt := 18) dRow_itemAt_14 (by decide) ?_
    refine z_iret rfl rfl dRow_itemAt_18 ?_
    unfold zAt
    first
      | (rw [if_pos (by omega)]; exact ⟨by rw [e4 _ (by omega)], rfl⟩)
      | (rw [if_neg (by omega)]; exact ⟨rfl, rfl⟩)
def zSet (L : List Int) (p x : Int) : List Int := if 0 ≤ p ∧ p < L.length then L.set p.toNat x else L
theorem zSet_len (L : List Int) (p x : Int) : (zSet L p x).length = L.length := by unfold zSet; split <;> simp
theorem zSet_at (L : List Int) (p x : Int) {j : Nat} (hj : j < L.length) : (zSet L p x).getD j 0 = if (j : Int) = p then x else L.getD j 0 := by
  unfold zSet
  split
  · rename_i hc
    by_cases e : (j : Int) = p
    · have e2 : p.toNat = j := by omega
      rw [if_pos e, e2]
      simp [hj]
    · have e2 : p.toNat ≠ j := by omega
      rw [if_neg e]
      simp [List.getElem?_set, e2]
  · rw [if_neg (by omega)]
theorem k_Row_changeAt (hr : zRow G h r a L) (hp : -2147483648 ≤ p ∧ p ≤ 2147483647) (hx : zIn x) : zM G l hRow_changeAt yRow_changeAt 2 [.ref r, zi p, zi x] h (fun v h' => v = none ∧ zRow G h' r a (zSet L p x) ∧ ∀ q, q ≠ r → q ≠ a → h' q = h q) zNo 0 0 := by
  obtain ⟨f, e1, e2, e3, e4, e5⟩ := id hr
  refine zM.of [some (.ref r), some (zi p), some (zi x)] (by decide +kernel) rfl (by decide) rfl (Nat.le_of_ble_eq_true rfl) rfl ?_
  refine z_aload_n dRow_changeAt_0 rfl ?_
  refine z_iload_n dRow_changeAt_1 rfl ?_
  refine z_callV MV_Row_hasPlace lk_Row_19 dRow_changeAt_2 (k_Row_hasPlace hr hp) rfl rfl (Nat.le_of_ble_eq_true rfl) rfl (by assumption) (Nat.le_of_ble_eq_true rfl) (Nat.le_of_ble_eq_true rfl) (Nat.le_of_eq (Nat.zero_add _)) (Nat.le_of_eq (Nat.zero_add _)) (fun _ _ q => q.elim) ?_
  rintro _ _ ⟨b9, rfl, hb9, rfl⟩
  refine z_if_eq (tgt := 15) dRow_changeAt_5 (by decide) (by omega) (fun c5 => ?_) (fun c5 => ?_)
  · refine z_vret rfl dRow_changeAt_15 ?_
    first
      | (have hne := hr.ne
         refine ⟨rfl, ⟨zup f p.toNat x, (zup_ne hne).trans (by rw [zSet_len]; exact e1), zup_same _ _ _, by rw [zSet_len]; exact e3, fun j hj => ?_, fun j hj => ?_⟩, fun q h1 h2 => zup_ne h2⟩
         · rw [zSet_len] at hj
           rw [zSet_at _ _ _ hj, ← e4 j hj]
           unfold zup
           by_cases e : j = p.toNat
           · rw [if_pos e, if_pos (by omega)]
           · rw [if_neg e, if_neg (by omega)]
         · rw [zSet_len] at hj
           rw [zSet_at _ _ _ hj]
           split
           · exact hx
           · exact e5 j hj)
      | (have hq : zSet L p x = L := if_neg (by omega)
         rw [hq]
         exact ⟨rfl, hr, fun q _ _ => rfl⟩)
  · refine z_aload_n dRow_changeAt_8 rfl ?_
    refine z_get (k := 0) fd_Row (by decide) fl_Row_9 dRow_changeAt_9 (by assumption) (by rfl) ?_
    refine z_iload_n dRow_changeAt_12 rfl ?_
    refine z_iload_n dRow_changeAt_13 rfl ?_
    refine z_iast dRow_changeAt_14 (by assumption) (by refine ⟨?_, ?_, ?_⟩ <;> omega) ?_
    refine z_vret rfl dRow_changeAt_15 ?_
    first
      | (have hne := hr.ne
         refine ⟨rfl, ⟨zup f p.toNat x, (zup_ne hne).trans (by rw [zSet_len]; exact e1), zup_same _ _ _, by rw [zSet_len]; exact e3, fun j hj => ?_, fun j hj => ?_⟩, fun q h1 h2 => zup_ne h2⟩
         · rw [zSet_len] at hj
           rw [zSet_at _ _ _ hj, ← e4 j hj]
           unfold zup
           by_cases e : j = p.toNat
           · rw [if_pos e, if_pos (by omega)]
           · rw [if_neg e, if_neg (by omega)]
         · rw [zSet_len] at hj
           rw [zSet_at _ _ _ hj]
           split
           · exact hx
           · exact e5 j hj)
      | (have hq : zSet L p x = L := if_neg (by omega)
         rw [hq]
         exact ⟨rfl, hr, fun q _ _ => rfl⟩)
def zIns (L : List Int) (p : Int) (x : Int) : List Int := zmk (L.length + 1) (fun j => if (j : Int) < p then L.getD j 0 else if (j : Int) = p then x else L.getD (j - 1) 0)
def zDel (L : List Int) (p : Int) : List Int := zmk (L.length - 1) (fun j => if (j : Int) < p then L.getD j 0 else L.getD (j + 1) 0)
theorem zIns_len (L : List Int) (p x : Int) : (zIns L p x).length = L.length + 1 := zmk_len _ _
theorem zDel_len (L : List Int) (p : Int) : (zDel L p).length = L.length - 1 := zmk_len _ _
theorem zIns_at {L : List Int} {p x : Int} {j : Nat} (h : j < L.length + 1) : (zIns L p x).getD j 0 = if (j : Int) < p then L.getD j 0 else if (j : Int) = p then x else L.getD (j - 1) 0 := zmk_at _ h
theorem zDel_at {L : List Int} {p : Int} {j : Nat} (h : j < L.length - 1) : (zDel L p).getD j 0 = if (j : Int) < p then L.getD j 0 else L.getD (j + 1) 0 := zmk_at _ h
theorem l_Row_putIn {d mc ms bc bs : Nat} {Qn : Option Value → zHp → Prop} {Qx : String → zHp → Prop} {f : Nat → Int} {c : Nat} (hc : c < 16) (hp : 0 ≤ p) (hra : r ≠ a)
    (K : ∀ (h1 : zHp) (f1 : Nat → Int), h1 r = some (.inr (zkRow, [.ref a, zi (c : Int)])) → h1 a = some (zInts G 16 f1) → (∀ q, q ≠ a → h1 q = h q) → (∀ j : Nat, (j : Int) < p → f1 j = f j) → (∀ j : Nat, p ≤ j → j < c → f1 (j + 1) = f j) → ∀ b : Int, zR G l (zMJ G hRow_putIn d Qn Qx mc ms) bc bs h1 49 [some (.ref r), some (zi p), some (zi x), some (zi b)] []) :
    ∀ (n : Nat) (b : Int) (h1 : zHp) (f1 : Nat → Int), b - p < n → p ≤ b → b ≤ c → h1 r = some (.inr (zkRow, [.ref a, zi (c : Int)])) → h1 a = some (zInts G 16 f1) → (∀ q, q ≠ a → h1 q = h q) → (∀ j : Nat, (j : Int) ≤ b → f1 j = f j) → (∀ j : Nat, b ≤ j → j < c → f1 (j + 1) = f j) →
      zR G l (zMJ G hRow_putIn d Qn Qx mc ms) bc bs h1 24 [some (.ref r), some (zi p), some (zi x), some (zi b)] [] := by
  intro n
  induction n with
  | zero => intro b h1 f1 q1 q2; omega
  | succ n ih =>
  intro b h1 f1 q1 q2 q3 g1 g2 g3 g4 g5
  refine z_iload_n dRow_putIn_24 rfl ?_
  refine z_iload_n dRow_putIn_25 rfl ?_
  refine z_icmp_le (tgt := 49) dRow_putIn_26 (by decide) (by omega) (by omega) (fun c26 => ?_) (fun c26 => ?_)
  · exact K _ f1 g1 g2 g3 (fun j hj => g4 j (by omega)) (fun j hj1 hj2 => g5 j (by omega) hj2) _
  · refine z_aload_n dRow_putIn_29 rfl ?_
    refine z_get (k := 0) fd_Row (by decide) fl_Row_9 dRow_putIn_30 (by assumption) (by rfl) ?_
    refine z_iload_n dRow_putIn_33 rfl ?_
    refine z_aload_n dRow_putIn_34 rfl ?_
    refine z_get (k := 0) fd_Row (by decide) fl_Row_9 dRow_putIn_35 (by assumption) (by rfl) ?_
    refine z_iload_n dRow_putIn_38 rfl ?_
    refine z_iconst dRow_putIn_39 ?_
    refine z_isub dRow_putIn_40 ?_
    refine z_iald dRow_putIn_41 (by assumption) (by refine ⟨?_, ?_, ?_⟩ <;> omega) ?_
    refine z_iast dRow_putIn_42 (by assumption) (by refine ⟨?_, ?_, ?_⟩ <;> omega) ?_
    refine z_iinc dRow_putIn_43 rfl (Nat.le_of_ble_eq_true rfl) ?_
    refine z_goto (tgt := 24) dRow_putIn_46 (by decide) ?_
    refine ih (b + -1) _ _ (by omega) (by omega) (by omega) ((zup_ne hra).trans g1) (zup_same _ _ _) (fun q hq => (zup_ne hq).trans (g3 q hq)) (fun j hj => ?_) (fun j hj1 hj2 => ?_)
    · exact (zup_ne (by omega)).trans (g4 j (by omega))
    · by_cases e : (j : Int) = b - 1
      · have e2 : j + 1 = b.toNat := by omega
        rw [e2, zup_same, ← g4 j (by omega)]
        congr 1
        omega
      · exact (zup_ne (by omega)).trans (g5 j (by omega) hj2)
theorem k_Row_putIn (hr : zRow G h r a L) (hp : -2147483648 ≤ p ∧ p ≤ 2147483647) (hx : zIn x) : zM G l hRow_putIn yRow_putIn 2 [.ref r, zi p, zi x] h (fun v h' => (v = some (zi 1) ∧ L.length < 16 ∧ 0 ≤ p ∧ p ≤ L.length ∧ zRow G h' r a (zIns L p x) ∧ ∀ q, q ≠ r → q ≠ a → h' q = h q) ∨ (v = some (zi 0) ∧ ¬ (L.length < 16 ∧ 0 ≤ p ∧ p ≤ L.length) ∧ h = h')) zNo 0 0 := by
  obtain ⟨f, e1, e2, e3, e4, e5⟩ := id hr
  refine zM.of [some (.ref r), some (zi p), some (zi x), none] (by decide +kernel) rfl (by decide) rfl (Nat.le_of_ble_eq_true rfl) rfl ?_
  refine z_aload_n dRow_putIn_0 rfl ?_
  refine z_get (k := 1) fd_Row (by decide) fl_Row_15 dRow_putIn_1 (by assumption) (by rfl) ?_
  refine z_bipush dRow_putIn_4 rfl ?_
  refine z_icmp_ge (tgt := 17) dRow_putIn_6 (by decide) (by omega) (by omega) (fun c6 => ?_) (fun c6 => ?_)
  · refine z_iconst dRow_putIn_17 ?_
    refine z_iret rfl rfl dRow_putIn_18 ?_
    exact Or.inr ⟨rfl, by omega, rfl⟩
  · refine z_aload_n dRow_putIn_9 rfl ?_
    refine z_iload_n dRow_putIn_10 rfl ?_
    refine z_callV MV_Row_hasGap lk_Row_23 dRow_putIn_11 (k_Row_hasGap hr hp) rfl rfl (Nat.le_of_ble_eq_true rfl) rfl (by assumption) (Nat.le_of_ble_eq_true rfl) (Nat.le_of_ble_eq_true rfl) (Nat.le_of_eq (Nat.zero_add _)) (Nat.le_of_eq (Nat.zero_add _)) (fun _ _ q => q.elim) ?_
    rintro _ _ ⟨b9, rfl, hb9, rfl⟩
    refine z_if_ne (tgt := 19) dRow_putIn_14 (by decide) (by omega) (fun c14 => ?_) (fun c14 => ?_)
    · refine z_aload_n dRow_putIn_19 rfl ?_
      refine z_get (k := 1) fd_Row (by decide) fl_Row_15 dRow_putIn_20 (by assumption) (by rfl) ?_
      refine z_istore_n dRow_putIn_23 (Nat.le_of_ble_eq_true rfl) ?_
      have hra := hr.ne
      refine l_Row_putIn (h := h) (f := f) (c := L.length) (by omega) (by omega) hra (fun h1 f1 g1 g2 g3 g4 g5 b => ?_) 17 _ h f (by omega) (by omega) (by omega) e1 e2 (fun _ _ => rfl) (fun _ _ => rfl) (fun j hj1 hj2 => absurd hj1 (by omega))
      refine z_aload_n dRow_putIn_49 rfl ?_
      refine z_get (k := 0) fd_Row (by decide) fl_Row_9 dRow_putIn_50 (by assumption) (by rfl) ?_
      refine z_iload_n dRow_putIn_53 rfl ?_
      refine z_iload_n dRow_putIn_54 rfl ?_
      refine z_iast dRow_putIn_55 (by assumption) (by refine ⟨?_, ?_, ?_⟩ <;> omega) ?_
      have g1 : zup h1 a (some (zInts G 16 (zup f1 p.toNat x))) r = _ := (zup_ne hra).trans g1
      refine z_aload_n dRow_putIn_56 rfl ?_
      refine z_dup rfl dRow_putIn_57 ?_
      refine z_get (k := 1) fd_Row (by decide) fl_Row_15 dRow_putIn_58 (by assumption) (by rfl) ?_
      refine z_iconst dRow_putIn_61 ?_
      refine z_iadd dRow_putIn_62 ?_
      refine z_put (k := 1) fd_Row (by decide) fl_Row_15 rfl dRow_putIn_63 (by assumption) (by simp) rfl rfl ?_
      
      refine z_iconst dRow_putIn_66 ?_
      refine z_iret rfl rfl dRow_putIn_67 ?_
      refine Or.inl ⟨rfl, by omega, by omega, by omega, ⟨zup f1 p.toNat x, ?_, (zup_ne (Ne.symm hra)).trans (zup_same _ _ _), by rw [zIns_len]; omega, fun j hj => ?_, fun j hj => ?_⟩, fun q h1 h2 => (zup_ne h1).trans ((zup_ne h2).trans (g3 q h2))⟩
      · rw [zup_same, zIns_len]
        rfl
      · rw [zIns_len] at hj
        rw [zIns_at hj]
        split
        · rename_i hj1
          rw [zup_ne (by omega), g4 j hj1, e4 j (by omega)]
        · split
          · rename_i hj1 hj2
            have e : j = p.toNat := by omega
            rw [e, zup_same]
          · rename_i hj1 hj2
            have e := g5 (j - 1) (by omega) (by omega)
            rw [zup_ne (by omega), ← e4 (j - 1) (by omega), ← e]
            congr 1
            omega
      · rw [zIns_len] at hj
        rw [zIns_at hj]
        split
        · exact e5 j (by omega)
        · split
          · exact hx
          · exact e5 (j - 1) (by omega)
    · refine z_iconst dRow_putIn_17 ?_
      refine z_iret rfl rfl dRow_putIn_18 ?_
      exact Or.inr ⟨rfl, by omega, rfl⟩
theorem l_Row_takeOut {d mc ms bc bs : Nat} {Qn : Option Value → zHp → Prop} {Qx : String → zHp → Prop} {f : Nat → Int} {c : Nat} {t : Int} (hc : c ≤ 16) (hp : 0 ≤ p) (hpc : p < c) (hra : r ≠ a)
    (K : ∀ (h1 : zHp) (f1 : Nat → Int), h1 r = some (.inr (zkRow, [.ref a, zi (c : Int)])) → h1 a = some (zInts G 16 f1) → (∀ q, q ≠ a → h1 q = h q) → (∀ j : Nat, (j : Int) < p → f1 j = f j) → (∀ j : Nat, p ≤ j → (j : Int) < c - 1 → f1 j = f (j + 1)) → ∀ b : Int, zR G l (zMJ G hRow_takeOut d Qn Qx mc ms) bc bs h1 49 [some (.ref r), some (zi p), some (zi t), some (zi b)] []) :
    ∀ (n : Nat) (b : Int) (h1 : zHp) (f1 : Nat → Int), c - b < n → p + 1 ≤ b → b ≤ c → h1 r = some (.inr (zkRow, [.ref a, zi (c : Int)])) → h1 a = some (zInts G 16 f1) → (∀ q, q ≠ a → h1 q = h q) → (∀ j : Nat, (j : Int) < p → f1 j = f j) → (∀ j : Nat, p ≤ j → (j : Int) < b - 1 → f1 j = f (j + 1)) → (∀ j : Nat, b ≤ j → f1 j = f j) →
      zR G l (zMJ G hRow_takeOut d Qn Qx mc ms) bc bs h1 21 [some (.ref r), some (zi p), some (zi t), some (zi b)] [] := by
  intro n
  induction n with
  | zero => intro b h1 f1 q1 q2 q3 g1 g2 g3 g4 g5 g6; omega
  | succ n ih =>
  intro b h1 f1 q1 q2 q3 g1 g2 g3 g4 g5 g6
  refine z_iload_n dRow_takeOut_21 rfl ?_
  refine z_aload_n dRow_takeOut_22 rfl ?_
  refine z_get (k := 1) fd_Row (by decide) fl_Row_15 dRow_takeOut_23 (by assumption) (by rfl) ?_
  refine z_icmp_ge (tgt := 49) dRow_takeOut_26 (by decide) (by omega) (by omega) (fun c26 => ?_) (fun c26 => ?_)
  · exact K _ f1 g1 g2 g3 g4 (fun j hj1 hj2 => g5 j hj1 (by omega)) _
  · refine z_aload_n dRow_takeOut_29 rfl ?_
    refine z_get (k := 0) fd_Row (by decide) fl_Row_9 dRow_takeOut_30 (by assumption) (by rfl) ?_
    refine z_iload_n dRow_takeOut_33 rfl ?_
    refine z_iconst dRow_takeOut_34 ?_
    refine z_isub dRow_takeOut_35 ?_
    refine z_aload_n dRow_takeOut_36 rfl ?_
    refine z_get (k := 0) fd_Row (by decide) fl_Row_9 dRow_takeOut_37 (by assumption) (by rfl) ?_
    refine z_iload_n dRow_takeOut_40 rfl ?_
    refine z_iald dRow_takeOut_41 (by assumption) (by refine ⟨?_, ?_, ?_⟩ <;> omega) ?_
    refine z_iast dRow_takeOut_42 (by assumption) (by refine ⟨?_, ?_, ?_⟩ <;> omega) ?_
    refine z_iinc dRow_takeOut_43 rfl (Nat.le_of_ble_eq_true rfl) ?_
    refine z_goto (tgt := 21) dRow_takeOut_46 (by decide) ?_
    refine ih (b + 1) _ _ (by omega) (by omega) (by omega) ((zup_ne hra).trans g1) (zup_same _ _ _) (fun q hq => (zup_ne hq).trans (g3 q hq)) (fun j hj => ?_) (fun j hj1 hj2 => ?_) (fun j hj => ?_)
    · exact (zup_ne (by omega)).trans (g4 j hj)
    · by_cases e : (j : Int) = b - 1
      · have e2 : j = (b - 1).toNat := by omega
        have e3 : b.toNat = j + 1 := by omega
        rw [← e2, zup_same, e3]
        exact g6 _ (by omega)
      · exact (zup_ne (by omega)).trans (g5 j hj1 (by omega))
    · exact (zup_ne (by omega)).trans (g6 j (by omega))
theorem k_Row_takeOut (hr : zRow G h r a L) (hp : -2147483648 ≤ p ∧ p ≤ 2147483647) : zM G l hRow_takeOut yRow_takeOut 2 [.ref r, zi p] h (fun v h' => (v = some (zi (L.getD p.toNat 0)) ∧ 0 ≤ p ∧ p < L.length ∧ zRow G h' r a (zDel L p) ∧ ∀ q, q ≠ r → q ≠ a → h' q = h q) ∨ (v = some (zi 0) ∧ ¬ (0 ≤ p ∧ p < L.length) ∧ h = h')) zNo 0 0 := by
  obtain ⟨f, e1, e2, e3, e4, e5⟩ := id hr
  refine zM.of [some (.ref r), some (zi p), none, none] (by decide +kernel) rfl (by decide) rfl (Nat.le_of_ble_eq_true rfl) rfl ?_
  refine z_aload_n dRow_takeOut_0 rfl ?_
  refine z_iload_n dRow_takeOut_1 rfl ?_
  refine z_callV MV_Row_hasPlace lk_Row_19 dRow_takeOut_2 (k_Row_hasPlace hr hp) rfl rfl (Nat.le_of_ble_eq_true rfl) rfl (by assumption) (Nat.le_of_ble_eq_true rfl) (Nat.le_of_ble_eq_true rfl) (Nat.le_of_eq (Nat.zero_add _)) (Nat.le_of_eq (Nat.zero_add _)) (fun _ _ q => q.elim) ?_
  rintro _ _ ⟨b9, rfl, hb9, rfl⟩
  refine z_if_ne (tgt := 10) dRow_takeOut_5 (by decide) (by omega) (fun c5 => ?_) (fun c5 => ?_)
  · refine z_aload_n dRow_takeOut_10 rfl ?_
    refine z_get (k := 0) fd_Row (by decide) fl_Row_9 dRow_takeOut_11 (by assumption) (by rfl) ?_
    refine z_iload_n dRow_takeOut_14 rfl ?_
    refine z_iald dRow_takeOut_15 (by assumption) (by refine ⟨?_, ?_, ?_⟩ <;> omega) ?_
    refine z_istore_n dRow_takeOut_16 (Nat.le_of_ble_eq_true rfl) ?_
    refine z_iload_n dRow_takeOut_17 rfl ?_
    refine z_iconst dRow_takeOut_18 ?_
    refine z_iadd dRow_takeOut_19 ?_
    refine z_istore_n dRow_takeOut_20 (Nat.le_of_ble_eq_true rfl) ?_
    have hra := hr.ne
    refine l_Row_takeOut (h := h) (f := f) (c := L.length) e3 (by omega) (by omega) hra (fun h1 f1 g1 g2 g3 g4 g5 b => ?_) 17 _ h f (by omega) (by omega) (by omega) e1 e2 (fun _ _ => rfl) (fun _ _ => rfl) (fun j hj1 hj2 => absurd hj2 (by omega)) (fun _ _ => rfl)
    refine z_aload_n dRow_takeOut_49 rfl ?_
    refine z_dup rfl dRow_takeOut_50 ?_
    refine z_get (k := 1) fd_Row (by decide) fl_Row_15 dRow_takeOut_51 (by assumption) (by rfl) ?_
    refine z_iconst dRow_takeOut_54 ?_
    refine z_isub dRow_takeOut_55 ?_
    refine z_put (k := 1) fd_Row (by decide) fl_Row_15 rfl dRow_takeOut_56 (by assumption) (by simp) rfl rfl ?_
    refine z_iload_n dRow_takeOut_59 rfl ?_
    refine z_iret rfl rfl dRow_takeOut_60 ?_
    refine Or.inl ⟨by rw [e4 _ (by omega)], by omega, by omega, ⟨f1, ?_, (zup_ne (Ne.symm hra)).trans g2, by rw [zDel_len]; omega, fun j hj => ?_, fun j hj => ?_⟩, fun q h1 h2 => (zup_ne h1).trans (g3 q h2)⟩
    · rw [zup_same, zDel_len, show (((L.length - 1 : Nat) : Int)) = (L.length : Int) - 1 by omega]
      rfl
    · rw [zDel_len] at hj
      rw [zDel_at hj]
      split
      · rename_i hj1
        rw [g4 j hj1, e4 j (by omega)]
      · rw [g5 j (by omega) (by omega), e4 (j + 1) (by omega)]
    · rw [zDel_len] at hj
      rw [zDel_at hj]
      split
      · exact e5 j (by omega)
      · exact e5 (j + 1) (by omega)
  · refine z_iconst dRow_takeOut_8 ?_
    refine z_iret rfl rfl dRow_takeOut_9 ?_
    exact Or.inr ⟨rfl, by omega, rfl⟩
theorem zgetD {L : List Int} {j : Nat} (h : j < L.length) : L.getD j 0 = L[j] := by simp [h]
def zFl (L : List Int) (x : Int) : List Int := L.filter (fun y => decide (y ≠ x))
theorem zFl_take (L : List Int) (x : Int) {n : Nat} (hn : n < L.length) : zFl (L.take (n + 1)) x = zFl (L.take n) x ++ (if L.getD n 0 = x then [] else [L.getD n 0]) := by
  have e : L.take (n + 1) = L.take n ++ [L.getD n 0] := by
    rw [List.take_add_one]
    simp [hn]
  unfold zFl
  rw [e, List.filter_append]
  congr 1
  split
  · rename_i hx
    rw [List.filter_cons_of_neg (by rw [hx]; simp)]
    rfl
  · rename_i hx
    rw [List.filter_cons_of_pos (by simpa using hx)]
    rfl
theorem zFl_len (L : List Int) (x : Int) : (zFl L x).length ≤ L.length := List.length_filter_le _ _
theorem zFl_in (L : List Int) (x : Int) {j : Nat} (hj : j < (zFl L x).length) (h : ∀ j, j < L.length → zIn (L.getD j 0)) : zIn ((zFl L x).getD j 0) := by
  have h1 : (zFl L x).getD j 0 ∈ zFl L x := by
    rw [zgetD hj]
    exact List.getElem_mem hj
  have h2 : (zFl L x).getD j 0 ∈ L := (List.mem_filter.mp h1).1
  obtain ⟨i, hi, e⟩ := List.getElem_of_mem h2
  have h3 := h i hi
  rw [zgetD hi, e] at h3
  exact h3
theorem l_Row_takeOutAll {d mc ms bc bs : Nat} {Qn : Option Value → zHp → Prop} {Qx : String → zHp → Prop} {f : Nat → Int} (hra : r ≠ a) (e3 : L.length ≤ 16) (e4 : ∀ j, j < L.length → f j = L.getD j 0) (e5 : ∀ j, j < L.length → zIn (L.getD j 0)) (hx : -2147483648 ≤ x ∧ x ≤ 2147483647)
    (K : ∀ (h1 : zHp) (f1 : Nat → Int), h1 r = some (.inr (zkRow, [.ref a, zi (L.length : Int)])) → h1 a = some (zInts G 16 f1) → (∀ q, q ≠ a → h1 q = h q) → (∀ j : Nat, j < (zFl L x).length → f1 j = (zFl L x).getD j 0) → zR G l (zMJ G hRow_takeOutAll d Qn Qx mc ms) bc bs h1 49 [some (.ref r), some (zi x), some (zi (L.length : Int)), some (zi ((zFl L x).length : Int)), some (zi (L.length : Int))] []) :
    ∀ (n : Nat) (m : Nat) (h1 : zHp) (f1 : Nat → Int), L.length - m < n → m ≤ L.length → h1 r = some (.inr (zkRow, [.ref a, zi (L.length : Int)])) → h1 a = some (zInts G 16 f1) → (∀ q, q ≠ a → h1 q = h q) → (zFl (L.take m) x).length ≤ m → (∀ j : Nat, j < (zFl (L.take m) x).length → f1 j = (zFl (L.take m) x).getD j 0) → (∀ j : Nat, m ≤ j → f1 j = f j) →
      zR G l (zMJ G hRow_takeOutAll d Qn Qx mc ms) bc bs h1 10 [some (.ref r), some (zi x), some (zi (L.length : Int)), some (zi ((zFl (L.take m) x).length : Int)), some (zi (m : Int))] [] := by
  intro n
  induction n with
  | zero => intro m h1 f1 q1 q2 g1 g2 g3 g4 g5 g6; omega
  | succ n ih =>
  intro m h1 f1 q1 q2 g1 g2 g3 g4 g5 g6
  refine z_iload dRow_takeOutAll_10 rfl ?_
  refine z_iload_n dRow_takeOutAll_12 rfl ?_
  refine z_icmp_ge (tgt := 49) dRow_takeOutAll_13 (by decide) (by omega) (by omega) (fun c13 => ?_) (fun c13 => ?_)
  · have em : m = L.length := by omega
    subst em
    have ef : L.take L.length = L := List.take_length
    rw [ef] at g5 ⊢
    exact K _ f1 g1 g2 g3 g5
  · refine z_aload_n dRow_takeOutAll_16 rfl ?_
    refine z_get (k := 0) fd_Row (by decide) fl_Row_9 dRow_takeOutAll_17 (by assumption) (by rfl) ?_
    have hm : (m : Int) < L.length := by omega
    have hmi := e5 m (by omega)
    have hm0 := e4 m (by omega)
    have hm1 := g6 m (Nat.le_refl _)
    refine z_iload dRow_takeOutAll_20 rfl ?_
    refine z_iald dRow_takeOutAll_22 (by assumption) (by refine ⟨?_, ?_, ?_⟩ <;> omega) ?_
    show zR G l _ bc bs _ _ _ (zi (f1 ((m : Int).toNat)) :: _)
    rw [show (m : Int).toNat = m by omega, hm1, hm0]
    refine z_iload_n dRow_takeOutAll_23 rfl ?_
    refine z_icmp_eq (tgt := 43) dRow_takeOutAll_24 (by decide) (by omega) (by omega) (fun c24 => ?_) (fun c24 => ?_)
    · refine z_iinc dRow_takeOutAll_43 rfl (Nat.le_of_ble_eq_true rfl) ?_
      refine z_goto (tgt := 10) dRow_takeOutAll_46 (by decide) ?_
      first
        | (have e9 : zFl (L.take (m + 1)) x = zFl (L.take m) x := by rw [zFl_take L x (by omega), if_pos (by omega), List.append_nil]
           have := ih (m + 1) h1 f1 (by omega) (by omega) g1 g2 g3 (by rw [e9]; omega) (by rw [e9]; exact g5) (fun j hj => g6 j (by omega))
           rw [e9] at this
           exact this)
        | (have e9 : zFl (L.take (m + 1)) x = zFl (L.take m) x ++ [L.getD m 0] := by rw [zFl_take L x (by omega), if_neg (by omega)]
           have e8 : ((zFl (L.take (m + 1)) x).length : Int) = (zFl (L.take m) x).length + 1 := by rw [e9]; simp
           have := ih (m + 1) (zup h1 a (some (zInts G 16 (zup f1 (zFl (L.take m) x).length (L.getD m 0))))) _ (by omega) (by omega) ((zup_ne hra).trans g1) (zup_same _ _ _) (fun q hq => (zup_ne hq).trans (g3 q hq)) (by omega) (fun j hj => ?_) (fun j hj => (zup_ne (by omega)).trans (g6 j (by omega)))
           · rw [e8] at this
             exact this
           · rw [e9] at hj ⊢
             rw [List.length_append, List.length_singleton] at hj
             by_cases e : j = (zFl (L.take m) x).length
             · rw [e, zup_same]
               simp
             · rw [zup_ne e, g5 j (by omega)]
               simp [List.getElem?_append, show j < (zFl (L.take m) x).length by omega])
    · refine z_aload_n dRow_takeOutAll_27 rfl ?_
      refine z_get (k := 0) fd_Row (by decide) fl_Row_9 dRow_takeOutAll_28 (by assumption) (by rfl) ?_
      refine z_iload_n dRow_takeOutAll_31 rfl ?_
      refine z_aload_n dRow_takeOutAll_32 rfl ?_
      refine z_get (k := 0) fd_Row (by decide) fl_Row_9 dRow_takeOutAll_33 (by assumption) (by rfl) ?_
      refine z_iload dRow_takeOutAll_36 rfl ?_
      refine z_iald dRow_takeOutAll_38 (by assumption) (by refine ⟨?_, ?_, ?_⟩ <;> omega) ?_
      refine z_iast dRow_takeOutAll_39 (by assumption) (by refine ⟨?_, ?_, ?_⟩ <;> omega) ?_
      rw [show (((zFl (L.take m) x).length : Nat) : Int).toNat = (zFl (L.take m) x).length by omega, show (m : Int).toNat = m by omega, hm1, hm0]
      refine z_iinc dRow_takeOutAll_40 rfl (Nat.le_of_ble_eq_true rfl) ?_
      refine z_iinc dRow_takeOutAll_43 rfl (Nat.le_of_ble_eq_true rfl) ?_
      refine z_goto (tgt := 10) dRow_takeOutAll_46 (by decide) ?_
      first
        | (have e9 : zFl (L.take (m + 1)) x = zFl (L.take m) x := by rw [zFl_take L x (by omega), if_pos (by omega), List.append_nil]
           have := ih (m + 1) h1 f1 (by omega) (by omega) g1 g2 g3 (by rw [e9]; omega) (by rw [e9]; exact g5) (fun j hj => g6 j (by omega))
           rw [e9] at this
           exact this)
        | (have e9 : zFl (L.take (m + 1)) x = zFl (L.take m) x ++ [L.getD m 0] := by rw [zFl_take L x (by omega), if_neg (by omega)]
           have e8 : ((zFl (L.take (m + 1)) x).length : Int) = (zFl (L.take m) x).length + 1 := by rw [e9]; simp
           have := ih (m + 1) (zup h1 a (some (zInts G 16 (zup f1 (zFl (L.take m) x).length (L.getD m 0))))) _ (by omega) (by omega) ((zup_ne hra).trans g1) (zup_same _ _ _) (fun q hq => (zup_ne hq).trans (g3 q hq)) (by omega) (fun j hj => ?_) (fun j hj => (zup_ne (by omega)).trans (g6 j (by omega)))
           · rw [e8] at this
             exact this
           · rw [e9] at hj ⊢
             rw [List.length_append, List.length_singleton] at hj
             by_cases e : j = (zFl (L.take m) x).length
             · rw [e, zup_same]
               simp
             · rw [zup_ne e, g5 j (by omega)]
               simp [List.getElem?_append, show j < (zFl (L.take m) x).length by omega])
theorem k_Row_takeOutAll (hr : zRow G h r a L) (hx : -2147483648 ≤ x ∧ x ≤ 2147483647) : zM G l hRow_takeOutAll yRow_takeOutAll 1 [.ref r, zi x] h (fun v h' => v = some (zi (L.length - (zFl L x).length)) ∧ zRow G h' r a (zFl L x) ∧ ∀ q, q ≠ r → q ≠ a → h' q = h q) zNo 0 0 := by
  obtain ⟨f, e1, e2, e3, e4, e5⟩ := id hr
  refine zM.of [some (.ref r), some (zi x), none, none, none] (by decide +kernel) rfl (by decide) rfl (Nat.le_of_ble_eq_true rfl) rfl ?_
  refine z_aload_n dRow_takeOutAll_0 rfl ?_
  refine z_get (k := 1) fd_Row (by decide) fl_Row_15 dRow_takeOutAll_1 (by assumption) (by rfl) ?_
  refine z_istore_n dRow_takeOutAll_4 (Nat.le_of_ble_eq_true rfl) ?_
  refine z_iconst dRow_takeOutAll_5 ?_
  refine z_istore_n dRow_takeOutAll_6 (Nat.le_of_ble_eq_true rfl) ?_
  refine z_iconst dRow_takeOutAll_7 ?_
  refine z_istore dRow_takeOutAll_8 (Nat.le_of_ble_eq_true rfl) ?_
  have hra := hr.ne
  refine l_Row_takeOutAll (h := h) (f := f) hra e3 e4 e5 hx (fun h1 f1 g1 g2 g3 g4 => ?_) 17 0 h f (by omega) (by omega) e1 e2 (fun _ _ => rfl) (by simp [zFl]) (fun j hj => by simp [zFl] at hj) (fun _ _ => rfl)
  refine z_aload_n dRow_takeOutAll_49 rfl ?_
  refine z_iload_n dRow_takeOutAll_50 rfl ?_
  refine z_put (k := 1) fd_Row (by decide) fl_Row_15 rfl dRow_takeOutAll_51 (by assumption) (by simp) rfl rfl ?_
  refine z_iload_n dRow_takeOutAll_54 rfl ?_
  refine z_iload_n dRow_takeOutAll_55 rfl ?_
  refine z_isub dRow_takeOutAll_56 ?_
  refine z_iret rfl rfl dRow_takeOutAll_57 ?_
  exact ⟨rfl, ⟨f1, zup_same _ _ _, (zup_ne (Ne.symm hra)).trans g2, by have := zFl_len L x; omega, g4, fun j hj => zFl_in L x hj e5⟩, fun q h1 h2 => (zup_ne h1).trans (g3 q h2)⟩
def zFd9 (L : List Int) (x t : Int) : Nat → Int
  | 0 => -1
  | n + 1 => if L.getD n 0 = x ∧ (t ≠ 0 ∨ zFd9 L x t n = -1) then (n : Int) else zFd9 L x t n
/-- the first place of x, or its last -/
def zFind (L : List Int) (x t : Int) : Int := zFd9 L x t L.length
theorem zFd9_in (L : List Int) (x t : Int) : ∀ n : Nat, -1 ≤ zFd9 L x t n ∧ zFd9 L x t n < n
  | 0 => by simp [zFd9]
  | n + 1 => by
    have := zFd9_in L x t n
    unfold zFd9
    split <;> omega
theorem zFind_in (L : List Int) (x t : Int) : -1 ≤ zFind L x t ∧ zFind L x t < L.length := zFd9_in L x t _
theorem l_Row_placeOf {d mc ms bc bs : Nat} {Qn : Option Value → zHp → Prop} {Qx : String → zHp → Prop} {f : Nat → Int} {t : Int} (e1 : h r = some (.inr (zkRow, [.ref a, zi (L.length : Int)]))) (e2 : h a = some (zInts G 16 f)) (e3 : L.length ≤ 16) (e4 : ∀ j, j < L.length → f j = L.getD j 0) (e5 : ∀ j, j < L.length → zIn (L.getD j 0)) (hx : -2147483648 ≤ x ∧ x ≤ 2147483647) (ht : -2147483648 ≤ t ∧ t ≤ 2147483647)
    (K : zR G l (zMJ G hRow_placeOf d Qn Qx mc ms) bc bs h 43 [some (.ref r), some (zi x), some (zi t), some (zi (zFind L x t)), some (zi (L.length : Int))] []) :
    ∀ (n : Nat) (m : Nat), L.length - m < n → m ≤ L.length →
      zR G l (zMJ G hRow_placeOf d Qn Qx mc ms) bc bs h 5 [some (.ref r), some (zi x), some (zi t), some (zi (zFd9 L x t m)), some (zi (m : Int))] [] := by
  intro n
  induction n with
  | zero => intro m q1 q2; omega
  | succ n ih =>
  intro m q1 q2
  have hz := zFd9_in L x t m
  refine z_iload dRow_placeOf_5 rfl ?_
  refine z_aload_n dRow_placeOf_7 rfl ?_
  refine z_get (k := 1) fd_Row (by decide) fl_Row_15 dRow_placeOf_8 (by assumption) (by rfl) ?_
  refine z_icmp_ge (tgt := 43) dRow_placeOf_11 (by decide) (by omega) (by omega) (fun c11 => ?_) (fun c11 => ?_)
  · have em : m = L.length := by omega
    subst em
    exact K
  · refine z_aload_n dRow_placeOf_14 rfl ?_
    refine z_get (k := 0) fd_Row (by decide) fl_Row_9 dRow_placeOf_15 (by assumption) (by rfl) ?_
    refine z_iload dRow_placeOf_18 rfl ?_
    refine z_iald dRow_placeOf_20 (by assumption) (by refine ⟨?_, ?_, ?_⟩ <;> omega) ?_
    rw [show (m : Int).toNat = m by omega, e4 m (by omega)]
    have hmi := e5 m (by omega)
    refine z_iload_n dRow_placeOf_21 rfl ?_
    refine z_icmp_ne (tgt := 37) dRow_placeOf_22 (by decide) (by omega) (by omega) (fun c22 => ?_) (fun c22 => ?_)
    · refine z_iinc dRow_placeOf_37 rfl (Nat.le_of_ble_eq_true rfl) ?_
      refine z_goto (tgt := 5) dRow_placeOf_40 (by decide) ?_
      first
        | (have e9 : zFd9 L x t (m + 1) = (m : Int) := if_pos (by omega)
           have := ih (m + 1) (by omega) (by omega)
           rw [e9] at this
           exact this)
        | (have e9 : zFd9 L x t (m + 1) = zFd9 L x t m := if_neg (by omega)
           have := ih (m + 1) (by omega) (by omega)
           rw [e9] at this
           exact this)
    · refine z_iload_n dRow_placeOf_25 rfl ?_
      refine z_if_ne (tgt := 34) dRow_placeOf_26 (by decide) (by omega) (fun c26 => ?_) (fun c26 => ?_)
      · refine z_iload dRow_placeOf_34 rfl ?_
        refine z_istore_n dRow_placeOf_36 (Nat.le_of_ble_eq_true rfl) ?_
        refine z_iinc dRow_placeOf_37 rfl (Nat.le_of_ble_eq_true rfl) ?_
        refine z_goto (tgt := 5) dRow_placeOf_40 (by decide) ?_
        first
          | (have e9 : zFd9 L x t (m + 1) = (m : Int) := if_pos (by omega)
             have := ih (m + 1) (by omega) (by omega)
             rw [e9] at this
             exact this)
          | (have e9 : zFd9 L x t (m + 1) = zFd9 L x t m := if_neg (by omega)
             have := ih (m + 1) (by omega) (by omega)
             rw [e9] at this
             exact this)
      · refine z_iload_n dRow_placeOf_29 rfl ?_
        refine z_iconst dRow_placeOf_30 ?_
        refine z_icmp_ne (tgt := 37) dRow_placeOf_31 (by decide) (by omega) (by omega) (fun c31 => ?_) (fun c31 => ?_)
        · refine z_iinc dRow_placeOf_37 rfl (Nat.le_of_ble_eq_true rfl) ?_
          refine z_goto (tgt := 5) dRow_placeOf_40 (by decide) ?_
          first
            | (have e9 : zFd9 L x t (m + 1) = (m : Int) := if_pos (by omega)
               have := ih (m + 1) (by omega) (by omega)
               rw [e9] at this
               exact this)
            | (have e9 : zFd9 L x t (m + 1) = zFd9 L x t m := if_neg (by omega)
               have := ih (m + 1) (by omega) (by omega)
               rw [e9] at this
               exact this)
        · refine z_iload dRow_placeOf_34 rfl ?_
          refine z_istore_n dRow_placeOf_36 (Nat.le_of_ble_eq_true rfl) ?_
          refine z_iinc dRow_placeOf_37 rfl (Nat.le_of_ble_eq_true rfl) ?_
          refine z_goto (tgt := 5) dRow_placeOf_40 (by decide) ?_
          first
            | (have e9 : zFd9 L x t (m + 1) = (m : Int) := if_pos (by omega)
               have := ih (m + 1) (by omega) (by omega)
               rw [e9] at this
               exact this)
            | (have e9 : zFd9 L x t (m + 1) = zFd9 L x t m := if_neg (by omega)
               have := ih (m + 1) (by omega) (by omega)
               rw [e9] at this
               exact this)
theorem k_Row_placeOf {t : Int} (hr : zRow G h r a L) (hx : -2147483648 ≤ x ∧ x ≤ 2147483647) (ht : -2147483648 ≤ t ∧ t ≤ 2147483647) : zM G l hRow_placeOf yRow_placeOf 1 [.ref r, zi x, zi t] h (fun v h' => v = some (zi (zFind L x t)) ∧ h = h') zNo 0 0 := by
  obtain ⟨f, e1, e2, e3, e4, e5⟩ := id hr
  refine zM.of [some (.ref r), some (zi x), some (zi t), none, none] (by decide +kernel) rfl (by decide) rfl (Nat.le_of_ble_eq_true rfl) rfl ?_
  refine z_iconst dRow_placeOf_0 ?_
  refine z_istore_n dRow_placeOf_1 (Nat.le_of_ble_eq_true rfl) ?_
  refine z_iconst dRow_placeOf_2 ?_
  refine z_istore dRow_placeOf_3 (Nat.le_of_ble_eq_true rfl) ?_
  refine l_Row_placeOf e1 e2 e3 e4 e5 hx ht ?_ 17 0 (by omega) (by omega)
  refine z_iload_n dRow_placeOf_43 rfl ?_
  refine z_iret rfl rfl dRow_placeOf_44 ?_
  exact ⟨rfl, rfl⟩
def zLn9 (L : List Int) : Nat → Int
  | 0 => -1
  | n + 1 => if L.getD n 0 = 0 then zLn9 L n else (n : Int)
def zLnz (L : List Int) : Int := zLn9 L L.length
theorem zLn9_in (L : List Int) : ∀ n : Nat, -1 ≤ zLn9 L n ∧ zLn9 L n < n
  | 0 => by simp [zLn9]
  | n + 1 => by
    have := zLn9_in L n
    unfold zLn9
    split <;> omega
theorem zLnz_in (L : List Int) : -1 ≤ zLnz L ∧ zLnz L < L.length := zLn9_in L _
theorem l_Row_lastNotZero {d mc ms bc bs : Nat} {Qn : Option Value → zHp → Prop} {Qx : String → zHp → Prop} {f : Nat → Int} (e1 : h r = some (.inr (zkRow, [.ref a, zi (L.length : Int)]))) (e2 : h a = some (zInts G 16 f)) (e3 : L.length ≤ 16) (e4 : ∀ j, j < L.length → f j = L.getD j 0) (e5 : ∀ j, j < L.length → zIn (L.getD j 0))
    (K : zR G l (zMJ G hRow_lastNotZero d Qn Qx mc ms) bc bs h 29 [some (.ref r), some (zi (zLnz L)), some (zi (L.length : Int))] []) :
    ∀ (n : Nat) (m : Nat), L.length - m < n → m ≤ L.length →
      zR G l (zMJ G hRow_lastNotZero d Qn Qx mc ms) bc bs h 4 [some (.ref r), some (zi (zLn9 L m)), some (zi (m : Int))] [] := by
  intro n
  induction n with
  | zero => intro m q1 q2; omega
  | succ n ih =>
  intro m q1 q2
  have hz := zLn9_in L m
  refine z_iload_n dRow_lastNotZero_4 rfl ?_
  refine z_aload_n dRow_lastNotZero_5 rfl ?_
  refine z_get (k := 1) fd_Row (by decide) fl_Row_15 dRow_lastNotZero_6 (by assumption) (by rfl) ?_
  refine z_icmp_ge (tgt := 29) dRow_lastNotZero_9 (by decide) (by omega) (by omega) (fun c9 => ?_) (fun c9 => ?_)
  · have em : m = L.length := by omega
    subst em
    exact K
  · refine z_aload_n dRow_lastNotZero_12 rfl ?_
    refine z_get (k := 0) fd_Row (by decide) fl_Row_9 dRow_lastNotZero_13 (by assumption) (by rfl) ?_
    refine z_iload_n dRow_lastNotZero_16 rfl ?_
    refine z_iald dRow_lastNotZero_17 (by assumption) (by refine ⟨?_, ?_, ?_⟩ <;> omega) ?_
    rw [show (m : Int).toNat = m by omega, e4 m (by omega)]
    have hmi := e5 m (by omega)
    refine z_if_eq (tgt := 23) dRow_lastNotZero_18 (by decide) (by omega) (fun c18 => ?_) (fun c18 => ?_)
    · refine z_iinc dRow_lastNotZero_23 rfl (Nat.le_of_ble_eq_true rfl) ?_
      refine z_goto (tgt := 4) dRow_lastNotZero_26 (by decide) ?_
      first
        | (have e9 : zLn9 L (m + 1) = zLn9 L m := if_pos (by omega)
           have := ih (m + 1) (by omega) (by omega)
           rw [e9] at this
           exact this)
        | (have e9 : zLn9 L (m + 1) = (m : Int) := if_neg (by omega)
           have := ih (m + 1) (by omega) (by omega)
           rw [e9] at this
           exact this)
    · refine z_iload_n dRow_lastNotZero_21 rfl ?_
      refine z_istore_n dRow_lastNotZero_22 (Nat.le_of_ble_eq_true rfl) ?_
      refine z_iinc dRow_lastNotZero_23 rfl (Nat.le_of_ble_eq_true rfl) ?_
      refine z_goto (tgt := 4) dRow_lastNotZero_26 (by decide) ?_
      first
        | (have e9 : zLn9 L (m + 1) = zLn9 L m := if_pos (by omega)
           have := ih (m + 1) (by omega) (by omega)
           rw [e9] at this
           exact this)
        | (have e9 : zLn9 L (m + 1) = (m : Int) := if_neg (by omega)
           have := ih (m + 1) (by omega) (by omega)
           rw [e9] at this
           exact this)
theorem k_Row_lastNotZero (hr : zRow G h r a L) : zM G l hRow_lastNotZero yRow_lastNotZero 1 [.ref r] h (fun v h' => v = some (zi (zLnz L)) ∧ h = h') zNo 0 0 := by
  obtain ⟨f, e1, e2, e3, e4, e5⟩ := id hr
  refine zM.of [some (.ref r), none, none] (by decide +kernel) rfl (by decide) rfl (Nat.le_of_ble_eq_true rfl) rfl ?_
  refine z_iconst dRow_lastNotZero_0 ?_
  refine z_istore_n dRow_lastNotZero_1 (Nat.le_of_ble_eq_true rfl) ?_
  refine z_iconst dRow_lastNotZero_2 ?_
  refine z_istore_n dRow_lastNotZero_3 (Nat.le_of_ble_eq_true rfl) ?_
  refine l_Row_lastNotZero e1 e2 e3 e4 e5 ?_ 17 0 (by omega) (by omega)
  refine z_iload_n dRow_lastNotZero_29 rfl ?_
  refine z_iret rfl rfl dRow_lastNotZero_30 ?_
  exact ⟨rfl, rfl⟩
theorem l_Row_isAs {d mc ms bc bs : Nat} {Qn : Option Value → zHp → Prop} {Qx : String → zHp → Prop} {f f2 : Nat → Int} {r2 a2 : Nat} {M : List Int} (e1 : h r = some (.inr (zkRow, [.ref a, zi (L.length : Int)]))) (e2 : h a = some (zInts G 16 f)) (e3 : L.length ≤ 16) (e4 : ∀ j, j < L.length → f j = L.getD j 0) (e5 : ∀ j, j < L.length → zIn (L.getD j 0))
    (d1 : h r2 = some (.inr (zkRow, [.ref a2, zi (M.length : Int)]))) (d2 : h a2 = some (zInts G 16 f2)) (d4 : ∀ j, j < M.length → f2 j = M.getD j 0) (d5 : ∀ j, j < M.length → zIn (M.getD j 0)) (hlm : L.length = M.length)
    (K1 : L = M → ∀ x, zR G l (zMJ G hRow_isAs d Qn Qx mc ms) bc bs h 46 [some (.ref r), some (.ref r2), x] []) (K2 : L ≠ M → ∀ x, zR G l (zMJ G hRow_isAs d Qn Qx mc ms) bc bs h 38 [some (.ref r), some (.ref r2), x] []) :
    ∀ (n : Nat) (m : Nat), L.length - m < n → m ≤ L.length → (∀ j, j < m → L.getD j 0 = M.getD j 0) →
      zR G l (zMJ G hRow_isAs d Qn Qx mc ms) bc bs h 15 [some (.ref r), some (.ref r2), some (zi (m : Int))] [] := by
  intro n
  induction n with
  | zero => intro m q1 q2 q3; omega
  | succ n ih =>
  intro m q1 q2 q3
  refine z_iload_n dRow_isAs_15 rfl ?_
  refine z_aload_n dRow_isAs_16 rfl ?_
  refine z_get (k := 1) fd_Row (by decide) fl_Row_15 dRow_isAs_17 (by assumption) (by rfl) ?_
  refine z_icmp_ge (tgt := 46) dRow_isAs_20 (by decide) (by omega) (by omega) (fun c20 => ?_) (fun c20 => ?_)
  · exact K1 (zl_ext hlm (fun j hj => q3 j (by omega))) _
  · refine z_aload_n dRow_isAs_23 rfl ?_
    refine z_get (k := 0) fd_Row (by decide) fl_Row_9 dRow_isAs_24 (by assumption) (by rfl) ?_
    refine z_iload_n dRow_isAs_27 rfl ?_
    refine z_iald dRow_isAs_28 e2 (by refine ⟨?_, ?_, ?_⟩ <;> omega) ?_
    rw [show (m : Int).toNat = m by omega, e4 m (by omega)]
    have hmi := e5 m (by omega)
    refine z_aload_n dRow_isAs_29 rfl ?_
    refine z_get (k := 0) fd_Row (by decide) fl_Row_9 dRow_isAs_30 (by assumption) (by rfl) ?_
    refine z_iload_n dRow_isAs_33 rfl ?_
    refine z_iald dRow_isAs_34 d2 (by refine ⟨?_, ?_, ?_⟩ <;> omega) ?_
    rw [show (m : Int).toNat = m by omega, d4 m (by omega)]
    have hmj := d5 m (by omega)
    refine z_icmp_eq (tgt := 40) dRow_isAs_35 (by decide) (by omega) (by omega) (fun c35 => ?_) (fun c35 => ?_)
    · refine z_iinc dRow_isAs_40 rfl (Nat.le_of_ble_eq_true rfl) ?_
      refine z_goto (tgt := 15) dRow_isAs_43 (by decide) ?_
      refine ih (m + 1) (by omega) (by omega) (fun j hj => ?_)
      rcases (show j < m ∨ j = m by omega) with e | e
      · exact q3 j e
      · rw [e]; exact c35
    · exact K2 (fun e => c35 (by rw [e])) _
theorem k_Row_isAs {r2 a2 : Nat} {M : List Int} (hr : zRow G h r a L) (hm : zRow G h r2 a2 M) : zM G l hRow_isAs yRow_isAs 1 [.ref r, .ref r2] h (fun v h' => ∃ b : Int, v = some (zi b) ∧ ((b = 1 ∧ (L = M)) ∨ (b = 0 ∧ ¬ (L = M))) ∧ h = h') zNo 0 0 := by
  obtain ⟨f, e1, e2, e3, e4, e5⟩ := id hr
  obtain ⟨f2, d1, d2, d3, d4, d5⟩ := id hm
  refine zM.of [some (.ref r), some (.ref r2), none] (by decide +kernel) rfl (by decide) rfl (Nat.le_of_ble_eq_true rfl) rfl ?_
  refine z_aload_n dRow_isAs_0 rfl ?_
  refine z_get (k := 1) fd_Row (by decide) fl_Row_15 dRow_isAs_1 e1 (by rfl) ?_
  refine z_aload_n dRow_isAs_4 rfl ?_
  refine z_get (k := 1) fd_Row (by decide) fl_Row_15 dRow_isAs_5 d1 (by rfl) ?_
  refine z_icmp_eq (tgt := 13) dRow_isAs_8 (by decide) (by omega) (by omega) (fun c8 => ?_) (fun c8 => ?_)
  · refine z_iconst dRow_isAs_13 ?_
    refine z_istore_n dRow_isAs_14 (Nat.le_of_ble_eq_true rfl) ?_
    refine l_Row_isAs e1 e2 e3 e4 e5 d1 d2 d4 d5 (by omega) (fun hq x => ?_) (fun hq x => ?_) 17 0 (by omega) (by omega) (fun j hj => absurd hj (by omega))
    · refine z_iconst dRow_isAs_46 ?_
      refine z_iret rfl rfl dRow_isAs_47 ?_
      exact ⟨1, rfl, Or.inl ⟨rfl, hq⟩, rfl⟩
    · refine z_iconst dRow_isAs_38 ?_
      refine z_iret rfl rfl dRow_isAs_39 ?_
      exact ⟨0, rfl, Or.inr ⟨rfl, hq⟩, rfl⟩
  · refine z_iconst dRow_isAs_11 ?_
    refine z_iret rfl rfl dRow_isAs_12 ?_
    exact ⟨0, rfl, Or.inr ⟨rfl, fun e => c8 (by rw [e])⟩, rfl⟩
end ROW
end
section
/-! ===== Math ===== -/
theorem zI_div {a b : Int} (ha : 0 ≤ a ∧ a ≤ 2147483647) (hb : 0 < b ∧ b ≤ 2147483647) : zI a / zI b = zI (a / b) := by
  have h1 : zI a = nI a.toNat := by rw [nI, zI_nat]; congr 1; omega
  have h2 : zI b = nI b.toNat := by rw [nI, zI_nat]; congr 1; omega
  rw [h1, h2, pk_div (by omega) (by omega) (by omega), nI, zI_nat]
  congr 1
  rw [Int.natCast_ediv]
  congr 1 <;> omega
theorem zI_rem {a b : Int} (ha : -2147483648 ≤ a ∧ a ≤ 2147483647) (hb : 0 < b ∧ b ≤ 2147483647) : zI a - zI a / zI b * zI b = zI (a.tmod b) := by
  rw [irem_eq_mod]
  apply Int32.toInt_inj.mp
  have h1 := Int.lt_tmod_of_pos a hb.1
  have h2 := Int.tmod_lt_of_pos a hb.1
  rw [Int32.toInt_mod, zI_toInt ha, zI_toInt (by omega), zI_toInt (by omega)]
theorem zI_xor (a b : Int) : zI a ^^^ zI b = zI (zI a ^^^ zI b).toInt := (zI_of _).symm
theorem zI_range (x : Int32) : -2147483648 ≤ x.toInt ∧ x.toInt ≤ 2147483647 := by
  have h1 := Int32.le_toInt x
  have h2 := Int32.toInt_lt x
  omega
theorem zxor_neg (x y : Int32) : (x ^^^ y).toInt < 0 ↔ (x.toInt < 0 ↔ ¬ y.toInt < 0) := by
  have h1 : ∀ z : Int32, (z.toInt < 0) ↔ z.toBitVec.msb = true := by
    intro z
    rw [BitVec.msb_eq_toInt]
    simp
  rw [h1, h1, h1, Int32.toBitVec_xor, BitVec.msb_xor]
  cases x.toBitVec.msb <;> cases y.toBitVec.msb <;> simp
theorem zmod_pos {a b : Int} (hb : 0 < b) : a.tmod b = if a < 0 ∧ a % b ≠ 0 then a % b - b else a % b := by
  by_cases h : 0 ≤ a
  · rw [Int.tmod_eq_emod_of_nonneg h, if_neg (by omega)]
  · have h1 : a.tmod b = -((-a).tmod b) := by rw [Int.neg_tmod]; omega
    have h2 : (-a).tmod b = (-a) % b := Int.tmod_eq_emod_of_nonneg (by omega)
    rw [h1, h2]
    have h3 := Int.emod_nonneg a (show b ≠ 0 by omega)
    have h4 := Int.emod_lt_of_pos a hb
    have h5 := Int.emod_nonneg (-a) (show b ≠ 0 by omega)
    have h6 := Int.emod_lt_of_pos (-a) hb
    have h7 : b ∣ (-a) % b + a % b := by
      have e1 := Int.mul_ediv_add_emod a b
      have e2 := Int.mul_ediv_add_emod (-a) b
      exact ⟨-(a / b) - (-a) / b, by rw [Int.mul_sub, Int.mul_neg]; omega⟩
    obtain ⟨k, hk⟩ := h7
    split
    · rename_i hc
      have : k = 1 := by
        rcases (show k ≤ 0 ∨ k = 1 ∨ 2 ≤ k by omega) with q | q | q
        · have := Int.mul_le_mul_of_nonneg_left q (show 0 ≤ b by omega); omega
        · exact q
        · have := Int.mul_le_mul_of_nonneg_left q (show 0 ≤ b by omega); omega
      subst this
      omega
    · rename_i hc
      have : k = 0 := by
        rcases (show k ≤ 0 ∨ 1 ≤ k by omega) with q | q
        · rcases (show k = 0 ∨ k ≤ -1 by omega) with q2 | q2
          · exact q2
          · have := Int.mul_le_mul_of_nonneg_left q2 (show 0 ≤ b by omega); omega
        · have := Int.mul_le_mul_of_nonneg_left q (show 0 ≤ b by omega); omega
      subst this
      omega
section ROW3
variable {G : zG} {l : Launch} {h : zHp} {r a : Nat} {L : List Int} {p x : Int}
theorem k_Mth_floorMod {b : Int} (hp : -2147483648 ≤ p ∧ p ≤ 2147483647) (hb : 0 < b ∧ b ≤ 2147483647) : zM G l hMth_floorMod_7cf53 yMth_floorMod_7cf53 1 [zi p, zi b] h (fun v h' => v = some (zi (p % b)) ∧ h = h') zNo 0 0 := by
  have hz := zmod_pos (a := p) hb.1
  have h3 := Int.emod_nonneg p (show b ≠ 0 by omega)
  have h4 := Int.emod_lt_of_pos p hb.1
  have hx := zxor_neg (zI p) (zI b)
  rw [zI_toInt hp, zI_toInt (by omega)] at hx
  have hxr := zI_range (zI p ^^^ zI b)
  refine zM.of [some (zi p), some (zi b), none] (by decide +kernel) rfl (by decide) rfl (Nat.le_of_ble_eq_true rfl) rfl ?_
  refine z_iload_n dMth_floorMod_7cf53_0 rfl ?_
  refine z_iload_n dMth_floorMod_7cf53_1 rfl ?_
  refine z_irem _ (zI_rem hp hb) (fun q => by have := (zI_eq (by omega) (by omega)).mp (show zI b = zI 0 from q); omega) dMth_floorMod_7cf53_2 ?_
  refine z_istore_n dMth_floorMod_7cf53_3 (Nat.le_of_ble_eq_true rfl) ?_
  refine z_iload_n dMth_floorMod_7cf53_4 rfl ?_
  refine z_iload_n dMth_floorMod_7cf53_5 rfl ?_
  refine z_ixor _ (zI_xor _ _) dMth_floorMod_7cf53_6 ?_
  refine z_if_ge (tgt := 18) dMth_floorMod_7cf53_7 (by decide) (by omega) (fun c7 => ?_) (fun c7 => ?_)
  · refine z_iload_n dMth_floorMod_7cf53_18 rfl ?_
    refine z_iret rfl rfl dMth_floorMod_7cf53_19 ?_
    refine ⟨?_, rfl⟩
    congr 2
    congr 1
    generalize p.tmod b = t at *
    generalize p % b = m at *
    split at hz <;> omega
  · refine z_iload_n dMth_floorMod_7cf53_10 rfl ?_
    refine z_if_eq (tgt := 18) dMth_floorMod_7cf53_11 (by decide) (by omega) (fun c11 => ?_) (fun c11 => ?_)
    · refine z_iload_n dMth_floorMod_7cf53_18 rfl ?_
      refine z_iret rfl rfl dMth_floorMod_7cf53_19 ?_
      refine ⟨?_, rfl⟩
      congr 2
      congr 1
      generalize p.tmod b = t at *
      generalize p % b = m at *
      split at hz <;> omega
    · refine z_iload_n dMth_floorMod_7cf53_14 rfl ?_
      refine z_iload_n dMth_floorMod_7cf53_15 rfl ?_
      refine z_iadd dMth_floorMod_7cf53_16 ?_
      refine z_iret rfl rfl dMth_floorMod_7cf53_17 ?_
      refine ⟨?_, rfl⟩
      congr 2
      congr 1
      generalize p.tmod b = t at *
      generalize p % b = m at *
      split at hz <;> omega
theorem z_max {J : zJ} {bc bs : Nat} {pc : Nat} {ls : List (Option Value)} {st : List Value} {a b : Int} {i : Nat} (hw : Cond.methodLink J.1.1 i Lib.Math.max.name ∈ zWS) (hs : Cond.static Lib.Math.max.name ∈ zWS) (hi : Cond.initialized "java/lang/Math" ∈ zWS) (hc : Cond.code Lib.Math.max.name Lib.Math.max.code 2 (some .int) ∈ zWS) (hd : decode J.1.2.1 pc = .ok (.invokestatic i, 3)) (ha : -2147483648 ≤ a ∧ a ≤ 2147483647) (hb : -2147483648 ≤ b ∧ b ≤ 2147483647) (hcat : (st.map fun v => v.category).sum ≤ 8) (hfr : 1 ≤ J.2.1.frames) (hlo : 64 ≤ J.2.1.locals)
    (kk : zR G l J bc bs h (pc + 3) ls (zi (if a < b then b else a) :: st)) : zR G l J bc bs h pc ls (zi b :: zi a :: st) := by
  intro p e s m args below meth c H locs cells slots ls0 C0 hP hS hL h1 h2
  have hts := C0.2.2.2.2.2.2.2.1
  refine va_mmax C0.1 C0.2.1 (C0.2.2.1.trans hL.1.symm) C0.2.2.2.2.2.2.1 (hts _ hw) (hts _ hs) (hts _ hi) (hts _ hc) hfr (by omega) (by omega) (by omega) hd ?_
  have e9 : (if zI a < zI b then zI b else zI a) = zI (if a < b then b else a) := by
    by_cases q : a < b
    · rw [if_pos ((zI_lt ha hb).mpr q), if_pos q]
    · rw [if_neg (fun z => q ((zI_lt ha hb).mp z)), if_neg q]
  rw [e9]
  exact kk p e s m args below meth c H locs cells slots ls0 C0 hP hS hL h1 h2
def zSwp (L : List Int) (i j : Int) : List Int := zSet (zSet L i (zAt L j)) j (zAt L i)
theorem zSwp_len (L : List Int) (i j : Int) : (zSwp L i j).length = L.length := by unfold zSwp; rw [zSet_len, zSet_len]
theorem k_Row_exchange {i j : Int} (hr : zRow G h r a L) (hi : -2147483648 ≤ i ∧ i ≤ 2147483647) (hj : -2147483648 ≤ j ∧ j ≤ 2147483647) : zM G l hRow_exchange yRow_exchange 3 [.ref r, zi i, zi j] h (fun v h' => v = none ∧ zRow G h' r a (zSwp L i j) ∧ ∀ q, q ≠ r → q ≠ a → h' q = h q) zNo 0 0 := by
  obtain ⟨f, e1, e2, e3, e4, e5⟩ := id hr
  refine zM.of [some (.ref r), some (zi i), some (zi j), none] (by decide +kernel) rfl (by decide) rfl (Nat.le_of_ble_eq_true rfl) rfl ?_
  refine z_aload_n dRow_exchange_0 rfl ?_
  refine z_iload_n dRow_exchange_1 rfl ?_
  refine z_callV MV_Row_itemAt lk_Row_40 dRow_exchange_2 (k_Row_itemAt hr (by omega)) rfl rfl (Nat.le_of_ble_eq_true rfl) rfl (by assumption) (Nat.le_of_ble_eq_true rfl) (Nat.le_of_ble_eq_true rfl) (Nat.le_of_eq (Nat.zero_add _)) (Nat.le_of_eq (Nat.zero_add _)) (fun _ _ q => q.elim) ?_
  rintro _ _ ⟨rfl, rfl⟩
  refine z_istore_n dRow_exchange_5 (Nat.le_of_ble_eq_true rfl) ?_
  refine z_aload_n dRow_exchange_6 rfl ?_
  refine z_iload_n dRow_exchange_7 rfl ?_
  refine z_aload_n dRow_exchange_8 rfl ?_
  refine z_iload_n dRow_exchange_9 rfl ?_
  refine z_callV MV_Row_itemAt lk_Row_40 dRow_exchange_10 (k_Row_itemAt hr (by omega)) rfl rfl (Nat.le_of_ble_eq_true rfl) rfl (by assumption) (Nat.le_of_ble_eq_true rfl) (Nat.le_of_ble_eq_true rfl) (Nat.le_of_eq (Nat.zero_add _)) (Nat.le_of_eq (Nat.zero_add _)) (fun _ _ q => q.elim) ?_
  rintro _ _ ⟨rfl, rfl⟩
  refine z_callV MV_Row_changeAt lk_Row_44 dRow_exchange_13 (k_Row_changeAt hr (by omega) (zAt_in hr j)) rfl rfl (Nat.le_of_ble_eq_true rfl) rfl (by assumption) (Nat.le_of_ble_eq_true rfl) (Nat.le_of_ble_eq_true rfl) (Nat.le_of_eq (Nat.zero_add _)) (Nat.le_of_eq (Nat.zero_add _)) (fun _ _ q => q.elim) ?_
  rintro _ h1 ⟨rfl, hr1, f1⟩
  obtain ⟨g, d1, d2, d3, d4, d5⟩ := id hr1
  refine z_aload_n dRow_exchange_16 rfl ?_
  refine z_iload_n dRow_exchange_17 rfl ?_
  refine z_iload_n dRow_exchange_18 rfl ?_
  refine z_callV MV_Row_changeAt lk_Row_44 dRow_exchange_19 (k_Row_changeAt hr1 (by omega) (zAt_in hr i)) rfl rfl (Nat.le_of_ble_eq_true rfl) rfl (by assumption) (Nat.le_of_ble_eq_true rfl) (Nat.le_of_ble_eq_true rfl) (Nat.le_of_eq (Nat.zero_add _)) (Nat.le_of_eq (Nat.zero_add _)) (fun _ _ q => q.elim) ?_
  rintro _ h2 ⟨rfl, hr2, f2⟩
  refine z_vret rfl dRow_exchange_22 ?_
  exact ⟨rfl, hr2, fun q q1 q2 => (f2 q q1 q2).trans (f1 q q1 q2)⟩
def zRev (L : List Int) : List Int := zmk L.length (fun j => L.getD (L.length - 1 - j) 0)
theorem zRev_len (L : List Int) : (zRev L).length = L.length := zmk_len _ _
theorem zRev_at {L : List Int} {j : Nat} (h : j < L.length) : (zRev L).getD j 0 = L.getD (L.length - 1 - j) 0 := zmk_at _ h
theorem zAt_nat {L : List Int} {i : Nat} (h : i < L.length) : zAt L (i : Int) = L.getD i 0 := by
  unfold zAt
  rw [if_pos (by omega), Int.toNat_natCast]
theorem zSwp_at {L : List Int} {i k j : Nat} (hi : i < L.length) (hk : k < L.length) (hj : j < L.length) : (zSwp L i k).getD j 0 = if j = k then L.getD i 0 else if j = i then L.getD k 0 else L.getD j 0 := by
  unfold zSwp
  rw [zSet_at _ _ _ (by rw [zSet_len]; exact hj), zSet_at _ _ _ hj]
  rw [zAt_nat hi, zAt_nat hk]
  simp only [Int.natCast_inj]
theorem l_Row_turnRound {d mc ms bc bs : Nat} {Qn : Option Value → zHp → Prop} {Qx : String → zHp → Prop} (hl : L.length ≤ 16)
    (K : ∀ (h1 : zHp) x, zRow G h1 r a (zRev L) → (∀ q, q ≠ r → q ≠ a → h1 q = h q) → zR G l (zMJ G hRow_turnRound d Qn Qx mc ms) bc bs h1 31 [some (.ref r), x] []) (hd : 4 ≤ d) :
    ∀ (n : Nat) (m : Nat) (h1 : zHp) (M : List Int), L.length - m < n → 2 * m ≤ L.length → M.length = L.length → zRow G h1 r a M → (∀ q, q ≠ r → q ≠ a → h1 q = h q) → (∀ j, j < L.length → M.getD j 0 = if j < m ∨ L.length - m ≤ j then L.getD (L.length - 1 - j) 0 else L.getD j 0) →
      zR G l (zMJ G hRow_turnRound d Qn Qx mc ms) bc bs h1 2 [some (.ref r), some (zi (m : Int))] [] := by
  intro n
  induction n with
  | zero => intro m h1 M q1 q2 q3 hr1 g2 g3; omega
  | succ n ih =>
  intro m h1 M q1 q2 q3 hr1 g2 g3
  obtain ⟨f, e1, e2, e3, e4, e5⟩ := id hr1
  rw [q3] at e1
  refine z_iload_n dRow_turnRound_2 rfl ?_
  refine z_aload_n dRow_turnRound_3 rfl ?_
  refine z_get (k := 1) fd_Row (by decide) fl_Row_15 dRow_turnRound_4 (by assumption) (by rfl) ?_
  refine z_iconst dRow_turnRound_7 ?_
  refine z_idiv _ (zI_div (by omega) (by omega)) (by decide) dRow_turnRound_8 ?_
  refine z_icmp_ge (tgt := 31) dRow_turnRound_9 (by decide) (by omega) (by omega) (fun c9 => ?_) (fun c9 => ?_)
  · have em : M = zRev L := zl_ext (by rw [q3, zRev_len]) (fun j hj => by
      rw [g3 j (by omega), zRev_at (by omega)]
      split
      · rfl
      · congr 1
        omega)
    rw [em] at hr1
    exact K h1 _ hr1 g2
  · refine z_aload_n dRow_turnRound_12 rfl ?_
    refine z_iload_n dRow_turnRound_13 rfl ?_
    refine z_aload_n dRow_turnRound_14 rfl ?_
    refine z_get (k := 1) fd_Row (by decide) fl_Row_15 dRow_turnRound_15 (by assumption) (by rfl) ?_
    refine z_iconst dRow_turnRound_18 ?_
    refine z_isub dRow_turnRound_19 ?_
    refine z_iload_n dRow_turnRound_20 rfl ?_
    refine z_isub dRow_turnRound_21 ?_
    refine z_callV MV_Row_exchange lk_Row_48 dRow_turnRound_22 (k_Row_exchange hr1 (by omega) (by omega)) rfl rfl (Nat.le_of_ble_eq_true rfl) rfl (by assumption) (by show 4 ≤ d; omega) (by show 3 * 64 + 64 ≤ d * 64; omega) (Nat.le_of_eq (Nat.zero_add _)) (Nat.le_of_eq (Nat.zero_add _)) (fun _ _ q => q.elim) ?_
    rintro _ h2 ⟨rfl, hr2, f2⟩
    refine z_iinc dRow_turnRound_25 rfl (Nat.le_of_ble_eq_true rfl) ?_
    refine z_goto (tgt := 2) dRow_turnRound_28 (by decide) ?_
    rw [show (L.length : Int) - 1 - (m : Int) = ((L.length - 1 - m : Nat) : Int) by omega] at hr2
    refine ih (m + 1) h2 _ (by omega) (by omega) (by rw [zSwp_len, q3]) hr2 (fun q h3 h4 => (f2 q h3 h4).trans (g2 q h3 h4)) (fun j hj => ?_)
    rw [zSwp_at (by omega) (by omega) (by omega), g3 j hj, g3 m (by omega), g3 (L.length - 1 - m) (by omega)]
    by_cases e9 : j = L.length - 1 - m
    · rw [if_pos e9, if_neg (by omega), if_pos (by omega)]
      congr 1
      omega
    · rw [if_neg e9]
      by_cases e8 : j = m
      · rw [if_pos e8, if_neg (by omega), if_pos (by omega), e8]
      · rw [if_neg e8]
        by_cases e7 : j < m ∨ L.length - m ≤ j
        · rw [if_pos e7, if_pos (by omega)]
        · rw [if_neg e7, if_neg (by omega)]
theorem k_Row_turnRound (hr : zRow G h r a L) : zM G l hRow_turnRound yRow_turnRound 4 [.ref r] h (fun v h' => v = none ∧ zRow G h' r a (zRev L) ∧ ∀ q, q ≠ r → q ≠ a → h' q = h q) zNo 0 0 := by
  refine zM.of [some (.ref r), none] (by decide +kernel) rfl (by decide) rfl (Nat.le_of_ble_eq_true rfl) rfl ?_
  refine z_iconst dRow_turnRound_0 ?_
  refine z_istore_n dRow_turnRound_1 (Nat.le_of_ble_eq_true rfl) ?_
  refine l_Row_turnRound (h := h) (L := L) (a := a) hr.len (fun h1 x hr1 f1 => ?_) (by omega) 17 0 h L (by have := hr.len; omega) (by omega) rfl hr (fun _ _ _ => rfl) (fun j hj => by rw [if_neg (by omega)])
  refine z_vret rfl dRow_turnRound_31 ?_
  exact ⟨rfl, hr1, f1⟩
theorem zIns_end (L : List Int) (x : Int) : zIns L L.length x = L ++ [x] := by
  apply zl_ext
  · rw [zIns_len]; simp
  · intro j hj
    rw [zIns_len] at hj
    rw [zIns_at hj]
    by_cases e : j < L.length
    · rw [if_pos (by omega)]
      simp [List.getElem?_append, e]
    · have e2 : j = L.length := by omega
      rw [if_neg (by omega), if_pos (by omega), e2]
      simp
theorem zmk_succ (n : Nat) (g : Nat → Int) : zmk (n + 1) g = zmk n g ++ [g n] := by simp [zmk, List.range_succ]
theorem k_Row_addBehind (hr : zRow G h r a L) (hx : -2147483648 ≤ x ∧ x ≤ 2147483647) : zM G l hRow_addBehind yRow_addBehind 3 [.ref r, zi x] h (fun v h' => (v = some (zi 1) ∧ zIn x ∧ L.length < 16 ∧ zRow G h' r a (L ++ [x]) ∧ ∀ q, q ≠ r → q ≠ a → h' q = h q) ∨ (v = some (zi 0) ∧ ¬ (zIn x ∧ L.length < 16) ∧ h = h')) zNo 0 0 := by
  obtain ⟨f, e1, e2, e3, e4, e5⟩ := id hr
  refine zM.of [some (.ref r), some (zi x)] (by decide +kernel) rfl (by decide) rfl (Nat.le_of_ble_eq_true rfl) rfl ?_
  refine z_iload_n dRow_addBehind_0 rfl ?_
  refine z_sipush dRow_addBehind_1 rfl ?_
  refine z_icmp_lt (tgt := 30) dRow_addBehind_4 (by decide) (by omega) (by omega) (fun c4 => ?_) (fun c4 => ?_)
  · refine z_iconst dRow_addBehind_30 ?_
    refine z_iret rfl rfl dRow_addBehind_31 ?_
    exact Or.inr ⟨rfl, fun q => by omega, rfl⟩
  · refine z_iload_n dRow_addBehind_7 rfl ?_
    refine z_sipush dRow_addBehind_8 rfl ?_
    refine z_icmp_gt (tgt := 30) dRow_addBehind_11 (by decide) (by omega) (by omega) (fun c11 => ?_) (fun c11 => ?_)
    · refine z_iconst dRow_addBehind_30 ?_
      refine z_iret rfl rfl dRow_addBehind_31 ?_
      exact Or.inr ⟨rfl, fun q => by omega, rfl⟩
    · refine z_aload_n dRow_addBehind_14 rfl ?_
      refine z_aload_n dRow_addBehind_15 rfl ?_
      refine z_get (k := 1) fd_Row (by decide) fl_Row_15 dRow_addBehind_16 (by assumption) (by rfl) ?_
      refine z_iload_n dRow_addBehind_19 rfl ?_
      refine z_callV MV_Row_putIn lk_Row_60 dRow_addBehind_20 (k_Row_putIn hr (by omega) (by omega)) rfl rfl (Nat.le_of_ble_eq_true rfl) rfl (by assumption) (Nat.le_of_ble_eq_true rfl) (Nat.le_of_ble_eq_true rfl) (Nat.le_of_eq (Nat.zero_add _)) (Nat.le_of_eq (Nat.zero_add _)) (fun _ _ q => q.elim) ?_
      rintro _ h1 (⟨rfl, k1, k2, k3, hr1, f1⟩ | ⟨rfl, k1, rfl⟩)
      · refine z_if_eq (tgt := 30) dRow_addBehind_23 (by decide) (by omega) (fun c => absurd c (by decide)) (fun _ => ?_)
        refine z_iconst dRow_addBehind_26 ?_
        refine z_goto (tgt := 31) dRow_addBehind_27 (by decide) ?_
        refine z_iret rfl rfl dRow_addBehind_31 ?_
        rw [zIns_end] at hr1
        exact Or.inl ⟨rfl, by omega, k1, hr1, f1⟩
      · refine z_if_eq (tgt := 30) dRow_addBehind_23 (by decide) (by omega) (fun _ => ?_) (fun c => absurd rfl c)
        refine z_iconst dRow_addBehind_30 ?_
        refine z_iret rfl rfl dRow_addBehind_31 ?_
        exact Or.inr ⟨rfl, fun q => k1 ⟨q.2, by omega, by omega⟩, rfl⟩
end ROW3
end
section
section ROW4
variable {G : zG} {l : Launch} {h : zHp} {r a : Nat} {L : List Int} {p x : Int}
theorem k_Row_init (hr : h r = some (.inr (zkRow, [.null, zi 0]))) : zM G l hRow_init yRow_init 2 [.ref r] h (fun v h' => v = none ∧ ∃ a, (∀ b e, h b = some e → b < a) ∧ G.2.2 ≤ a ∧ zRow G h' r a [] ∧ ∀ q, q ≠ r → q ≠ a → h' q = h q) zNo 1 16 := by
  refine zM.of [some (.ref r)] (by decide +kernel) rfl (by decide) rfl (Nat.le_of_ble_eq_true rfl) rfl ?_
  refine z_aload_n dRow_init_0 rfl ?_
  refine z_obj lk_Row_3 ob_i ob_c dRow_init_1 (Nat.le_of_ble_eq_true rfl) (Nat.le_of_ble_eq_true rfl) (Nat.le_of_ble_eq_true rfl) ?_
  refine z_aload_n dRow_init_4 rfl ?_
  refine z_bipush dRow_init_5 rfl ?_
  refine z_newa (at9 := .int) (ty := .int) (bc' := 0) (bs' := 0) (t := 0) (x := .inl (fun _ => zI 0)) rfl trivial rfl ac_int (fun cA => by rw [vp_cell_i]; rfl) (by decide) dRow_init_7 (by decide) (by decide) (fun q hq hb => ?_)
  have e1 : zup h q (some (.inl (G.2.1 0, (16 : Int).toNat, .inl (fun _ => zI 0)))) r = some (.inr (zkRow, [.null, zi 0])) := (zup_ne (Nat.ne_of_lt (hq r _ hr))).trans hr
  refine z_putF (k := 0) fd_Row (by decide) fl_Row_9 rfl rfl rfl dRow_init_9 (by assumption) (by simp) rfl rfl ?_
  refine z_vret rfl dRow_init_12 ?_
  refine ⟨rfl, q, hq, hb, ⟨fun _ => 0, zup_same _ _ _, ?_, by simp, fun j hj => by simp at hj, fun j hj => by simp at hj⟩, fun q1 h1 h2 => (zup_ne h1).trans (zup_ne h2)⟩
  rw [zup_ne (Ne.symm (Nat.ne_of_lt (hq r _ hr))), zup_same]
  rfl
theorem l_Row_become {d mc ms bc bs : Nat} {Qn : Option Value → zHp → Prop} {Qx : String → zHp → Prop} {f2 : Nat → Int} {r2 a2 : Nat} {M : List Int} {c : Int} (hra : r ≠ a) (n1 : r2 ≠ r) (n2 : r2 ≠ a) (n3 : a2 ≠ r) (n4 : a2 ≠ a) (d1 : h r2 = some (.inr (zkRow, [.ref a2, zi (M.length : Int)]))) (d2 : h a2 = some (zInts G 16 f2)) (d3 : M.length ≤ 16) (d4 : ∀ j, j < M.length → f2 j = M.getD j 0)
    (K : ∀ (h1 : zHp) (f1 : Nat → Int) y, h1 r = some (.inr (zkRow, [.ref a, zi c])) → h1 a = some (zInts G 16 f1) → (∀ q, q ≠ a → h1 q = h q) → (∀ j, j < M.length → f1 j = M.getD j 0) → zR G l (zMJ G hRow_become d Qn Qx mc ms) bc bs h1 28 [some (.ref r), some (.ref r2), y] []) :
    ∀ (n : Nat) (m : Nat) (h1 : zHp) (f1 : Nat → Int), M.length - m < n → m ≤ M.length → h1 r = some (.inr (zkRow, [.ref a, zi c])) → h1 a = some (zInts G 16 f1) → (∀ q, q ≠ a → h1 q = h q) → (∀ j, j < m → f1 j = M.getD j 0) →
      zR G l (zMJ G hRow_become d Qn Qx mc ms) bc bs h1 2 [some (.ref r), some (.ref r2), some (zi (m : Int))] [] := by
  intro n
  induction n with
  | zero => intro m h1 f1 q1 q2 g1 g2 g3 g4; omega
  | succ n ih =>
  intro m h1 f1 q1 q2 g1 g2 g3 g4
  have d1 := (g3 r2 n2).trans d1
  have d2 := (g3 a2 n4).trans d2
  refine z_iload_n dRow_become_2 rfl ?_
  refine z_aload_n dRow_become_3 rfl ?_
  refine z_get (k := 1) fd_Row (by decide) fl_Row_15 dRow_become_4 d1 (by rfl) ?_
  refine z_icmp_ge (tgt := 28) dRow_become_7 (by decide) (by omega) (by omega) (fun c7 => ?_) (fun c7 => ?_)
  · exact K h1 f1 _ g1 g2 g3 (fun j hj => g4 j (by omega))
  · refine z_aload_n dRow_become_10 rfl ?_
    refine z_get (k := 0) fd_Row (by decide) fl_Row_9 dRow_become_11 g1 (by rfl) ?_
    refine z_iload_n dRow_become_14 rfl ?_
    refine z_aload_n dRow_become_15 rfl ?_
    refine z_get (k := 0) fd_Row (by decide) fl_Row_9 dRow_become_16 d1 (by rfl) ?_
    refine z_iload_n dRow_become_19 rfl ?_
    refine z_iald dRow_become_20 d2 (by refine ⟨?_, ?_, ?_⟩ <;> omega) ?_
    rw [show (m : Int).toNat = m by omega, d4 m (by omega)]
    refine z_iast dRow_become_21 g2 (by refine ⟨?_, ?_, ?_⟩ <;> omega) ?_
    rw [show (m : Int).toNat = m by omega]
    refine z_iinc dRow_become_22 rfl (Nat.le_of_ble_eq_true rfl) ?_
    refine z_goto (tgt := 2) dRow_become_25 (by decide) ?_
    refine ih (m + 1) _ _ (by omega) (by omega) ((zup_ne hra).trans g1) (zup_same _ _ _) (fun q hq => (zup_ne hq).trans (g3 q hq)) (fun j hj => ?_)
    by_cases e : j = m
    · rw [e, zup_same]
    · exact (zup_ne e).trans (g4 j (by omega))
theorem zRow.apart {G : zG} {h : zHp} {r a r2 a2 : Nat} {L M : List Int} (h1 : zRow G h r a L) (h2 : zRow G h r2 a2 M) : r2 ≠ a ∧ a2 ≠ r := by
  obtain ⟨f, e1, e2, -⟩ := h1
  obtain ⟨g, d1, d2, -⟩ := h2
  constructor
  · rintro rfl
    rw [e2] at d1
    cases d1
  · rintro rfl
    rw [e1] at d2
    cases d2
theorem k_Row_become {r2 a2 : Nat} {M : List Int} (hr : zRow G h r a L) (hm : zRow G h r2 a2 M) (n1 : r2 ≠ r) (n4 : a2 ≠ a) : zM G l hRow_become yRow_become 1 [.ref r, .ref r2] h (fun v h' => v = none ∧ zRow G h' r a M ∧ ∀ q, q ≠ r → q ≠ a → h' q = h q) zNo 0 0 := by
  obtain ⟨f, e1, e2, e3, e4, e5⟩ := id hr
  obtain ⟨f2, d1, d2, d3, d4, d5⟩ := id hm
  obtain ⟨n2, n3⟩ := hr.apart hm
  have hra := hr.ne
  refine zM.of [some (.ref r), some (.ref r2), none] (by decide +kernel) rfl (by decide) rfl (Nat.le_of_ble_eq_true rfl) rfl ?_
  refine z_iconst dRow_become_0 ?_
  refine z_istore_n dRow_become_1 (Nat.le_of_ble_eq_true rfl) ?_
  refine l_Row_become (h := h) hra n1 n2 n3 n4 d1 d2 d3 d4 (fun h1 f1 y g1 g2 g3 g4 => ?_) 17 0 h f (by omega) (by omega) e1 e2 (fun _ _ => rfl) (fun j hj => absurd hj (by omega))
  have d1 := (g3 r2 n2).trans d1
  refine z_aload_n dRow_become_28 rfl ?_
  refine z_aload_n dRow_become_29 rfl ?_
  refine z_get (k := 1) fd_Row (by decide) fl_Row_15 dRow_become_30 d1 (by rfl) ?_
  refine z_put (k := 1) fd_Row (by decide) fl_Row_15 rfl dRow_become_33 g1 (by simp) rfl rfl ?_
  refine z_vret rfl dRow_become_36 ?_
  exact ⟨rfl, ⟨f1, zup_same _ _ _, (zup_ne (Ne.symm hra)).trans g2, d3, g4, d5⟩, fun q h1 h2 => (zup_ne h1).trans (g3 q h2)⟩
theorem l_Row_becomeS {d mc ms bc bs : Nat} {Qn : Option Value → zHp → Prop} {Qx : String → zHp → Prop} (hra : r ≠ a) (hl : L.length ≤ 16)
    (K : ∀ (h1 : zHp) (f1 : Nat → Int) y, h1 r = some (.inr (zkRow, [.ref a, zi (L.length : Int)])) → h1 a = some (zInts G 16 f1) → (∀ q, q ≠ a → h1 q = h q) → (∀ j, j < L.length → f1 j = L.getD j 0) → zR G l (zMJ G hRow_become d Qn Qx mc ms) bc bs h1 28 [some (.ref r), some (.ref r), y] []) :
    ∀ (n : Nat) (m : Nat) (h1 : zHp) (f1 : Nat → Int), L.length - m < n → m ≤ L.length → h1 r = some (.inr (zkRow, [.ref a, zi (L.length : Int)])) → h1 a = some (zInts G 16 f1) → (∀ q, q ≠ a → h1 q = h q) → (∀ j, j < L.length → f1 j = L.getD j 0) →
      zR G l (zMJ G hRow_become d Qn Qx mc ms) bc bs h1 2 [some (.ref r), some (.ref r), some (zi (m : Int))] [] := by
  intro n
  induction n with
  | zero => intro m h1 f1 q1 q2 g1 g2 g3 g4; omega
  | succ n ih =>
  intro m h1 f1 q1 q2 g1 g2 g3 g4
  refine z_iload_n dRow_become_2 rfl ?_
  refine z_aload_n dRow_become_3 rfl ?_
  refine z_get (k := 1) fd_Row (by decide) fl_Row_15 dRow_become_4 (by assumption) (by rfl) ?_
  refine z_icmp_ge (tgt := 28) dRow_become_7 (by decide) (by omega) (by omega) (fun c7 => ?_) (fun c7 => ?_)
  · exact K h1 f1 _ g1 g2 g3 g4
  · refine z_aload_n dRow_become_10 rfl ?_
    refine z_get (k := 0) fd_Row (by decide) fl_Row_9 dRow_become_11 (by assumption) (by rfl) ?_
    refine z_iload_n dRow_become_14 rfl ?_
    refine z_aload_n dRow_become_15 rfl ?_
    refine z_get (k := 0) fd_Row (by decide) fl_Row_9 dRow_become_16 (by assumption) (by rfl) ?_
    refine z_iload_n dRow_become_19 rfl ?_
    refine z_iald dRow_become_20 g2 (by refine ⟨?_, ?_, ?_⟩ <;> omega) ?_
    rw [show (m : Int).toNat = m by omega, g4 m (by omega)]
    refine z_iast dRow_become_21 g2 (by refine ⟨?_, ?_, ?_⟩ <;> omega) ?_
    rw [show (m : Int).toNat = m by omega]
    refine z_iinc dRow_become_22 rfl (Nat.le_of_ble_eq_true rfl) ?_
    refine z_goto (tgt := 2) dRow_become_25 (by decide) ?_
    refine ih (m + 1) _ _ (by omega) (by omega) ((zup_ne hra).trans g1) (zup_same _ _ _) (fun q hq => (zup_ne hq).trans (g3 q hq)) (fun j hj => ?_)
    by_cases e : j = m
    · rw [e, zup_same]
    · exact (zup_ne e).trans (g4 j (by omega))
theorem k_Row_becomeS (hr : zRow G h r a L) : zM G l hRow_become yRow_become 1 [.ref r, .ref r] h (fun v h' => v = none ∧ zRow G h' r a L ∧ ∀ q, q ≠ r → q ≠ a → h' q = h q) zNo 0 0 := by
  obtain ⟨f, e1, e2, e3, e4, e5⟩ := id hr
  have hra := hr.ne
  refine zM.of [some (.ref r), some (.ref r), none] (by decide +kernel) rfl (by decide) rfl (Nat.le_of_ble_eq_true rfl) rfl ?_
  refine z_iconst dRow_become_0 ?_
  refine z_istore_n dRow_become_1 (Nat.le_of_ble_eq_true rfl) ?_
  refine l_Row_becomeS (h := h) hra e3 (fun h1 f1 y g1 g2 g3 g4 => ?_) 17 0 h f (by omega) (by omega) e1 e2 (fun _ _ => rfl) e4
  refine z_aload_n dRow_become_28 rfl ?_
  refine z_aload_n dRow_become_29 rfl ?_
  refine z_get (k := 1) fd_Row (by decide) fl_Row_15 dRow_become_30 (by assumption) (by rfl) ?_
  refine z_put (k := 1) fd_Row (by decide) fl_Row_15 rfl dRow_become_33 (by assumption) (by simp) rfl rfl ?_
  refine z_vret rfl dRow_become_36 ?_
  exact ⟨rfl, ⟨f1, zup_same _ _ _, (zup_ne (Ne.symm hra)).trans g2, e3, g4, e5⟩, fun q h1 h2 => (zup_ne h1).trans (g3 q h2)⟩
theorem zRow.cleared (hr : zRow G h r a L) : zRow G (zup h r (some (.inr (zkRow, [.ref a, zi 0])))) r a [] := by
  obtain ⟨f, e1, e2, e3, e4, e5⟩ := id hr
  exact ⟨f, zup_same _ _ _, (zup_ne (Ne.symm hr.ne)).trans e2, by simp, fun j hj => by simp at hj, fun j hj => by simp at hj⟩
def zPl9 (n : Nat) : List Int := zmk n (fun j => (j : Int))
theorem zPl9_len (n : Nat) : (zPl9 n).length = n := zmk_len _ _
theorem l_Row_becomePlaces {d mc ms bc bs : Nat} {Qn : Option Value → zHp → Prop} {Qx : String → zHp → Prop} {N : Nat} (hN : N ≤ 16) (hd : 4 ≤ d)
    (K : ∀ (h1 : zHp) y, zRow G h1 r a (zPl9 N) → (∀ q, q ≠ r → q ≠ a → h1 q = h q) → zR G l (zMJ G hRow_becomePlaces d Qn Qx mc ms) bc bs h1 24 [some (.ref r), some (zi (N : Int)), y] []) :
    ∀ (n : Nat) (m : Nat) (h1 : zHp), N - m < n → m ≤ N → zRow G h1 r a (zPl9 m) → (∀ q, q ≠ r → q ≠ a → h1 q = h q) →
      zR G l (zMJ G hRow_becomePlaces d Qn Qx mc ms) bc bs h1 7 [some (.ref r), some (zi (N : Int)), some (zi (m : Int))] [] := by
  intro n
  induction n with
  | zero => intro m h1 q1 q2 hr1 g2; omega
  | succ n ih =>
  intro m h1 q1 q2 hr1 g2
  obtain ⟨f, e1, e2, e3, e4, e5⟩ := id hr1
  refine z_iload_n dRow_becomePlaces_7 rfl ?_
  refine z_iload_n dRow_becomePlaces_8 rfl ?_
  refine z_icmp_ge (tgt := 24) dRow_becomePlaces_9 (by decide) (by omega) (by omega) (fun c9 => ?_) (fun c9 => ?_)
  · have em : m = N := by omega
    subst em
    exact K h1 _ hr1 g2
  · refine z_aload_n dRow_becomePlaces_12 rfl ?_
    refine z_iload_n dRow_becomePlaces_13 rfl ?_
    refine z_callV MV_Row_addBehind lk_Row_64 dRow_becomePlaces_14 (k_Row_addBehind hr1 (by omega)) rfl rfl (Nat.le_of_ble_eq_true rfl) rfl (by assumption) (by show 4 ≤ d; omega) (by show 3 * 64 + 64 ≤ d * 64; omega) (Nat.le_of_eq (Nat.zero_add _)) (Nat.le_of_eq (Nat.zero_add _)) (fun _ _ q => q.elim) ?_
    rintro _ h2 (⟨rfl, k1, k2, hr2, f2⟩ | ⟨rfl, k1, rfl⟩)
    rotate_left
    · exact absurd (show zIn (m : Int) ∧ (zPl9 m).length < 16 from ⟨by omega, by rw [zPl9_len]; omega⟩) k1
    rw [show zPl9 m ++ [(m : Int)] = zPl9 (m + 1) from (zmk_succ _ _).symm] at hr2
    refine z_pop rfl dRow_becomePlaces_17 ?_
    refine z_iinc dRow_becomePlaces_18 rfl (Nat.le_of_ble_eq_true rfl) ?_
    refine z_goto (tgt := 7) dRow_becomePlaces_21 (by decide) ?_
    exact ih (m + 1) h2 (by omega) (by omega) hr2 (fun q h3 h4 => (f2 q h3 h4).trans (g2 q h3 h4))
theorem k_Row_becomePlaces {N : Nat} (hr : zRow G h r a L) (hN : N ≤ 16) : zM G l hRow_becomePlaces yRow_becomePlaces 4 [.ref r, zi (N : Int)] h (fun v h' => v = none ∧ zRow G h' r a (zPl9 N) ∧ ∀ q, q ≠ r → q ≠ a → h' q = h q) zNo 0 0 := by
  obtain ⟨f, e1, e2, e3, e4, e5⟩ := id hr
  refine zM.of [some (.ref r), some (zi (N : Int)), none] (by decide +kernel) rfl (by decide) rfl (Nat.le_of_ble_eq_true rfl) rfl ?_
  refine z_aload_n dRow_becomePlaces_0 rfl ?_
  refine z_iconst dRow_becomePlaces_1 ?_
  refine z_put (k := 1) fd_Row (by decide) fl_Row_15 rfl dRow_becomePlaces_2 (by assumption) (by simp) rfl rfl ?_
  refine z_iconst dRow_becomePlaces_5 ?_
  refine z_istore_n dRow_becomePlaces_6 (Nat.le_of_ble_eq_true rfl) ?_
  refine l_Row_becomePlaces (h := h) hN (by omega) (fun h1 y hr1 f1 => ?_) 17 0 _ (by omega) (by omega) hr.cleared (fun q h1 h2 => zup_ne h1)
  refine z_vret rfl dRow_becomePlaces_24 ?_
  exact ⟨rfl, hr1, f1⟩
def zHr (L : List Int) (x : Int) : Nat → Int
  | 0 => 0
  | n + 1 => (zHr L x n * x + L.getD (L.length - 1 - n) 0) % 9973
theorem zHr_in (L : List Int) (x : Int) (n : Nat) : 0 ≤ zHr L x n ∧ zHr L x n < 9973 := by
  cases n with
  | zero => simp [zHr]
  | succ n => unfold zHr; omega
theorem zmul_in {u x : Int} (hu : 0 ≤ u ∧ u < 9973) (hx : -99 ≤ x ∧ x ≤ 99) : -987327 ≤ u * x ∧ u * x ≤ 987327 := by
  have h1 := Int.mul_le_mul_of_nonneg_left hx.2 hu.1
  have h2 := Int.mul_le_mul_of_nonneg_left hx.1 hu.1
  omega
theorem l_Row_restAt {d mc ms bc bs : Nat} {Qn : Option Value → zHp → Prop} {Qx : String → zHp → Prop} {f : Nat → Int} (e1 : h r = some (.inr (zkRow, [.ref a, zi (L.length : Int)]))) (e2 : h a = some (zInts G 16 f)) (e3 : L.length ≤ 16) (e4 : ∀ j, j < L.length → f j = L.getD j 0) (e5 : ∀ j, j < L.length → zIn (L.getD j 0)) (hx : -99 ≤ x ∧ x ≤ 99) (hd : 2 ≤ d)
    (K : ∀ y, zR G l (zMJ G hRow_restAt d Qn Qx mc ms) bc bs h 36 [some (.ref r), some (zi x), some (zi (zHr L x L.length)), y] []) :
    ∀ (n : Nat) (m : Nat), L.length - m < n → m ≤ L.length →
      zR G l (zMJ G hRow_restAt d Qn Qx mc ms) bc bs h 9 [some (.ref r), some (zi x), some (zi (zHr L x m)), some (zi ((L.length : Int) - 1 - m))] [] := by
  intro n
  induction n with
  | zero => intro m q1 q2; omega
  | succ n ih =>
  intro m q1 q2
  have hz := zHr_in L x m
  have hm := zmul_in hz hx
  refine z_iload_n dRow_restAt_9 rfl ?_
  refine z_if_lt (tgt := 36) dRow_restAt_10 (by decide) (by omega) (fun c10 => ?_) (fun c10 => ?_)
  · have em : m = L.length := by omega
    subst em
    exact K _
  · refine z_iload_n dRow_restAt_13 rfl ?_
    refine z_iload_n dRow_restAt_14 rfl ?_
    refine z_imul dRow_restAt_15 ?_
    refine z_aload_n dRow_restAt_16 rfl ?_
    refine z_get (k := 0) fd_Row (by decide) fl_Row_9 dRow_restAt_17 (by assumption) (by rfl) ?_
    refine z_iload_n dRow_restAt_20 rfl ?_
    refine z_iald dRow_restAt_21 e2 (by refine ⟨?_, ?_, ?_⟩ <;> omega) ?_
    rw [show ((L.length : Int) - 1 - (m : Int)).toNat = L.length - 1 - m by omega, e4 _ (by omega)]
    have hmi := e5 (L.length - 1 - m) (by omega)
    refine z_iadd dRow_restAt_22 ?_
    refine z_sipush dRow_restAt_23 rfl ?_
    refine z_callS MS_Mth_floorMod_7cf53 lk_Row_51 dRow_restAt_26 (k_Mth_floorMod (by omega) (by omega)) rfl rfl (Nat.le_of_ble_eq_true rfl) (by show 2 ≤ d; omega) (by show 1 * 64 + 64 ≤ d * 64; omega) (Nat.le_of_eq (Nat.zero_add _)) (Nat.le_of_eq (Nat.zero_add _)) (fun _ _ q => q.elim) ?_
    rintro _ _ ⟨rfl, rfl⟩
    refine z_istore_n dRow_restAt_29 (Nat.le_of_ble_eq_true rfl) ?_
    refine z_iinc dRow_restAt_30 rfl (Nat.le_of_ble_eq_true rfl) ?_
    refine z_goto (tgt := 9) dRow_restAt_33 (by decide) ?_
    have := ih (m + 1) (by omega) (by omega)
    rw [show (L.length : Int) - 1 - ((m + 1 : Nat) : Int) = (L.length : Int) - 1 - (m : Int) + -1 by omega] at this
    exact this
theorem k_Row_restAt (hr : zRow G h r a L) (hx : -99 ≤ x ∧ x ≤ 99) : zM G l hRow_restAt yRow_restAt 2 [.ref r, zi x] h (fun v h' => v = some (zi (zHr L x L.length)) ∧ h = h') zNo 0 0 := by
  obtain ⟨f, e1, e2, e3, e4, e5⟩ := id hr
  refine zM.of [some (.ref r), some (zi x), none, none] (by decide +kernel) rfl (by decide) rfl (Nat.le_of_ble_eq_true rfl) rfl ?_
  refine z_iconst dRow_restAt_0 ?_
  refine z_istore_n dRow_restAt_1 (Nat.le_of_ble_eq_true rfl) ?_
  refine z_aload_n dRow_restAt_2 rfl ?_
  refine z_get (k := 1) fd_Row (by decide) fl_Row_15 dRow_restAt_3 (by assumption) (by rfl) ?_
  refine z_iconst dRow_restAt_6 ?_
  refine z_isub dRow_restAt_7 ?_
  refine z_istore_n dRow_restAt_8 (Nat.le_of_ble_eq_true rfl) ?_
  have := l_Row_restAt (G := G) (l := l) (d := 2) (mc := 0) (ms := 0) (bc := 0) (bs := 0) (Qn := fun v h' => v = some (zi (zHr L x L.length)) ∧ h = h') (Qx := zNo) e1 e2 e3 e4 e5 hx (by omega) (fun y => ?_) 17 0 (by omega) (by omega)
  · rw [show (L.length : Int) - 1 - ((0 : Nat) : Int) = (L.length : Int) - 1 by omega] at this
    exact this
  · refine z_iload_n dRow_restAt_36 rfl ?_
    refine z_iret rfl rfl dRow_restAt_37 ?_
    exact ⟨rfl, rfl⟩
def zOrd (L : List Int) : Prop := L.length = 8 ∧ ∀ k : Nat, k < 8 → zFind L k 0 ≠ -1
theorem l_Row_isOrder {d mc ms bc bs : Nat} {Qn : Option Value → zHp → Prop} {Qx : String → zHp → Prop} (hr : zRow G h r a L) (hd : 2 ≤ d)
    (K1 : (∀ k : Nat, k < 8 → zFind L k 0 ≠ -1) → ∀ y, zR G l (zMJ G hRow_isOrder d Qn Qx mc ms) bc bs h 37 [some (.ref r), y] []) (K2 : ¬ (∀ k : Nat, k < 8 → zFind L k 0 ≠ -1) → ∀ y, zR G l (zMJ G hRow_isOrder d Qn Qx mc ms) bc bs h 29 [some (.ref r), y] []) :
    ∀ (n : Nat) (m : Nat), 8 - m < n → m ≤ 8 → (∀ k : Nat, k < m → zFind L k 0 ≠ -1) →
      zR G l (zMJ G hRow_isOrder d Qn Qx mc ms) bc bs h 13 [some (.ref r), some (zi (m : Int))] [] := by
  intro n
  induction n with
  | zero => intro m q1 q2 q3; omega
  | succ n ih =>
  intro m q1 q2 q3
  obtain ⟨f, e1, e2, e3, e4, e5⟩ := id hr
  have hz := zFind_in L m 0
  refine z_iload_n dRow_isOrder_13 rfl ?_
  refine z_bipush dRow_isOrder_14 rfl ?_
  refine z_icmp_ge (tgt := 37) dRow_isOrder_16 (by decide) (by omega) (by omega) (fun c16 => ?_) (fun c16 => ?_)
  · exact K1 (fun k hk => q3 k (by omega)) _
  · refine z_aload_n dRow_isOrder_19 rfl ?_
    refine z_iload_n dRow_isOrder_20 rfl ?_
    refine z_iconst dRow_isOrder_21 ?_
    refine z_callV MV_Row_placeOf lk_Row_78 dRow_isOrder_22 (k_Row_placeOf hr (by omega) (by omega)) rfl rfl (Nat.le_of_ble_eq_true rfl) rfl (by assumption) (by show 2 ≤ d; omega) (by show 1 * 64 + 64 ≤ d * 64; omega) (Nat.le_of_eq (Nat.zero_add _)) (Nat.le_of_eq (Nat.zero_add _)) (fun _ _ q => q.elim) ?_
    rintro _ _ ⟨rfl, rfl⟩
    refine z_iconst dRow_isOrder_25 ?_
    refine z_icmp_ne (tgt := 31) dRow_isOrder_26 (by decide) (by omega) (by omega) (fun c26 => ?_) (fun c26 => ?_)
    · refine z_iinc dRow_isOrder_31 rfl (Nat.le_of_ble_eq_true rfl) ?_
      refine z_goto (tgt := 13) dRow_isOrder_34 (by decide) ?_
      refine ih (m + 1) (by omega) (by omega) (fun k hk => ?_)
      rcases (show k < m ∨ k = m by omega) with e | e
      · exact q3 k e
      · rw [e]; exact c26
    · exact K2 (fun q => q m (by omega) c26) _
theorem k_Row_isOrder (hr : zRow G h r a L) : zM G l hRow_isOrder yRow_isOrder 2 [.ref r] h (fun v h' => ∃ b : Int, v = some (zi b) ∧ ((b = 1 ∧ (zOrd L)) ∨ (b = 0 ∧ ¬ (zOrd L))) ∧ h = h') zNo 0 0 := by
  obtain ⟨f, e1, e2, e3, e4, e5⟩ := id hr
  refine zM.of [some (.ref r), none] (by decide +kernel) rfl (by decide) rfl (Nat.le_of_ble_eq_true rfl) rfl ?_
  refine z_aload_n dRow_isOrder_0 rfl ?_
  refine z_get (k := 1) fd_Row (by decide) fl_Row_15 dRow_isOrder_1 (by assumption) (by rfl) ?_
  refine z_bipush dRow_isOrder_4 rfl ?_
  refine z_icmp_eq (tgt := 11) dRow_isOrder_6 (by decide) (by omega) (by omega) (fun c6 => ?_) (fun c6 => ?_)
  · refine z_iconst dRow_isOrder_11 ?_
    refine z_istore_n dRow_isOrder_12 (Nat.le_of_ble_eq_true rfl) ?_
    refine l_Row_isOrder hr (by omega) (fun hq y => ?_) (fun hq y => ?_) 9 0 (by omega) (by omega) (fun k hk => absurd hk (by omega))
    · refine z_iconst dRow_isOrder_37 ?_
      refine z_iret rfl rfl dRow_isOrder_38 ?_
      exact ⟨1, rfl, Or.inl ⟨rfl, by omega, hq⟩, rfl⟩
    · refine z_iconst dRow_isOrder_29 ?_
      refine z_iret rfl rfl dRow_isOrder_30 ?_
      exact ⟨0, rfl, Or.inr ⟨rfl, fun q => hq q.2⟩, rfl⟩
  · refine z_iconst dRow_isOrder_9 ?_
    refine z_iret rfl rfl dRow_isOrder_10 ?_
    exact ⟨0, rfl, Or.inr ⟨rfl, fun q => by have := q.1; omega⟩, rfl⟩
def zC1 (L : List Int) (i : Nat) : Nat → Int
  | 0 => 0
  | n + 1 => zC1 L i n + (if i < n ∧ L.getD n 0 < L.getD i 0 then 1 else 0)
def zC2 (L : List Int) : Nat → Int
  | 0 => 0
  | n + 1 => zC2 L n + zC1 L n L.length
/-- how many pairs stand the wrong way round -/
def zInv (L : List Int) : Int := zC2 L L.length
theorem zC1_0 (L : List Int) (i : Nat) : ∀ n, n ≤ i + 1 → zC1 L i n = 0
  | 0, _ => rfl
  | n + 1, h => by
    unfold zC1
    rw [zC1_0 L i n (by omega), if_neg (by omega)]
    rfl
theorem zC1_in (L : List Int) (i : Nat) : ∀ n : Nat, 0 ≤ zC1 L i n ∧ zC1 L i n ≤ n
  | 0 => by simp [zC1]
  | n + 1 => by
    have := zC1_in L i n
    unfold zC1
    split <;> omega
theorem zC2_in (L : List Int) : ∀ n : Nat, 0 ≤ zC2 L n ∧ zC2 L n ≤ n * L.length
  | 0 => by simp [zC2]
  | n + 1 => by
    have h1 := zC2_in L n
    have h2 := zC1_in L n L.length
    unfold zC2
    have : ((n + 1 : Nat) : Int) * L.length = n * L.length + L.length := by rw [Int.natCast_add, Int.add_mul]; omega
    omega
theorem l_Row_inversions1 {d mc ms bc bs : Nat} {Qn : Option Value → zHp → Prop} {Qx : String → zHp → Prop} {f : Nat → Int} {i : Nat} {S : Int} (e1 : h r = some (.inr (zkRow, [.ref a, zi (L.length : Int)]))) (e2 : h a = some (zInts G 16 f)) (e3 : L.length ≤ 16) (e4 : ∀ j, j < L.length → f j = L.getD j 0) (e5 : ∀ j, j < L.length → zIn (L.getD j 0)) (hi : i < L.length)
    (K : ∀ y, zR G l (zMJ G hRow_inversions d Qn Qx mc ms) bc bs h 48 [some (.ref r), some (zi (S + zC1 L i L.length)), some (zi (i : Int)), y] []) :
    ∀ (n : Nat) (m : Nat), L.length - m < n → m ≤ L.length → i < m →
      zR G l (zMJ G hRow_inversions d Qn Qx mc ms) bc bs h 16 [some (.ref r), some (zi (S + zC1 L i m)), some (zi (i : Int)), some (zi (m : Int))] [] := by
  intro n
  induction n with
  | zero => intro m q1 q2 q3; omega
  | succ n ih =>
  intro m q1 q2 q3
  refine z_iload_n dRow_inversions_16 rfl ?_
  refine z_aload_n dRow_inversions_17 rfl ?_
  refine z_get (k := 1) fd_Row (by decide) fl_Row_15 dRow_inversions_18 (by assumption) (by rfl) ?_
  refine z_icmp_ge (tgt := 48) dRow_inversions_21 (by decide) (by omega) (by omega) (fun c21 => ?_) (fun c21 => ?_)
  · have em : m = L.length := by omega
    subst em
    exact K _
  · refine z_aload_n dRow_inversions_24 rfl ?_
    refine z_get (k := 0) fd_Row (by decide) fl_Row_9 dRow_inversions_25 (by assumption) (by rfl) ?_
    refine z_iload_n dRow_inversions_28 rfl ?_
    refine z_iald dRow_inversions_29 e2 (by refine ⟨?_, ?_, ?_⟩ <;> omega) ?_
    rw [show (i : Int).toNat = i by omega, e4 i hi]
    have hmi := e5 i hi
    refine z_aload_n dRow_inversions_30 rfl ?_
    refine z_get (k := 0) fd_Row (by decide) fl_Row_9 dRow_inversions_31 (by assumption) (by rfl) ?_
    refine z_iload_n dRow_inversions_34 rfl ?_
    refine z_iald dRow_inversions_35 e2 (by refine ⟨?_, ?_, ?_⟩ <;> omega) ?_
    rw [show (m : Int).toNat = m by omega, e4 m (by omega)]
    have hmj := e5 m (by omega)
    refine z_icmp_le (tgt := 42) dRow_inversions_36 (by decide) (by omega) (by omega) (fun c36 => ?_) (fun c36 => ?_)
    · refine z_iinc dRow_inversions_42 rfl (Nat.le_of_ble_eq_true rfl) ?_
      refine z_goto (tgt := 16) dRow_inversions_45 (by decide) ?_
      first
        | (have e9 : zC1 L i (m + 1) = zC1 L i m := by unfold zC1; rw [if_neg (by omega)]; cases m <;> simp [zC1]
           have := ih (m + 1) (by omega) (by omega) (by omega)
           rw [e9] at this
           exact this)
        | (have e9 : zC1 L i (m + 1) = zC1 L i m + 1 := by rw [zC1, if_pos (by omega)]
           have := ih (m + 1) (by omega) (by omega) (by omega)
           rw [e9, ← Int.add_assoc] at this
           exact this)
    · refine z_iinc dRow_inversions_39 rfl (Nat.le_of_ble_eq_true rfl) ?_
      refine z_iinc dRow_inversions_42 rfl (Nat.le_of_ble_eq_true rfl) ?_
      refine z_goto (tgt := 16) dRow_inversions_45 (by decide) ?_
      first
        | (have e9 : zC1 L i (m + 1) = zC1 L i m := by unfold zC1; rw [if_neg (by omega)]; cases m <;> simp [zC1]
           have := ih (m + 1) (by omega) (by omega) (by omega)
           rw [e9] at this
           exact this)
        | (have e9 : zC1 L i (m + 1) = zC1 L i m + 1 := by rw [zC1, if_pos (by omega)]
           have := ih (m + 1) (by omega) (by omega) (by omega)
           rw [e9, ← Int.add_assoc] at this
           exact this)
theorem l_Row_inversions2 {d mc ms bc bs : Nat} {Qn : Option Value → zHp → Prop} {Qx : String → zHp → Prop} {f : Nat → Int} (e1 : h r = some (.inr (zkRow, [.ref a, zi (L.length : Int)]))) (e2 : h a = some (zInts G 16 f)) (e3 : L.length ≤ 16) (e4 : ∀ j, j < L.length → f j = L.getD j 0) (e5 : ∀ j, j < L.length → zIn (L.getD j 0))
    (K : ∀ y z, zR G l (zMJ G hRow_inversions d Qn Qx mc ms) bc bs h 54 [some (.ref r), some (zi (zInv L)), y, z] []) :
    ∀ (n : Nat) (m : Nat) z, L.length - m < n → m ≤ L.length →
      zR G l (zMJ G hRow_inversions d Qn Qx mc ms) bc bs h 4 [some (.ref r), some (zi (zC2 L m)), some (zi (m : Int)), z] [] := by
  intro n
  induction n with
  | zero => intro m z q1 q2; omega
  | succ n ih =>
  intro m z q1 q2
  refine z_iload_n dRow_inversions_4 rfl ?_
  refine z_aload_n dRow_inversions_5 rfl ?_
  refine z_get (k := 1) fd_Row (by decide) fl_Row_15 dRow_inversions_6 (by assumption) (by rfl) ?_
  refine z_icmp_ge (tgt := 54) dRow_inversions_9 (by decide) (by omega) (by omega) (fun c9 => ?_) (fun c9 => ?_)
  · have em : m = L.length := by omega
    subst em
    exact K _ _
  · refine z_iload_n dRow_inversions_12 rfl ?_
    refine z_iconst dRow_inversions_13 ?_
    refine z_iadd dRow_inversions_14 ?_
    refine z_istore_n dRow_inversions_15 (Nat.le_of_ble_eq_true rfl) ?_
    have hlt : m < L.length := by omega
    have := l_Row_inversions1 (G := G) (l := l) (d := d) (mc := mc) (ms := ms) (bc := bc) (bs := bs) (Qn := Qn) (Qx := Qx) (S := zC2 L m) e1 e2 e3 e4 e5 hlt (fun y => ?_) 17 (m + 1) (by omega) (by omega) (by omega)
    · rw [zC1_0 L m (m + 1) (by omega), Int.add_zero] at this
      exact this
    · refine z_iinc dRow_inversions_48 rfl (Nat.le_of_ble_eq_true rfl) ?_
      refine z_goto (tgt := 4) dRow_inversions_51 (by decide) ?_
      exact ih (m + 1) _ (by omega) (by omega)
theorem k_Row_inversions (hr : zRow G h r a L) : zM G l hRow_inversions yRow_inversions 1 [.ref r] h (fun v h' => v = some (zi (zInv L)) ∧ h = h') zNo 0 0 := by
  obtain ⟨f, e1, e2, e3, e4, e5⟩ := id hr
  refine zM.of [some (.ref r), none, none, none] (by decide +kernel) rfl (by decide) rfl (Nat.le_of_ble_eq_true rfl) rfl ?_
  refine z_iconst dRow_inversions_0 ?_
  refine z_istore_n dRow_inversions_1 (Nat.le_of_ble_eq_true rfl) ?_
  refine z_iconst dRow_inversions_2 ?_
  refine z_istore_n dRow_inversions_3 (Nat.le_of_ble_eq_true rfl) ?_
  refine l_Row_inversions2 e1 e2 e3 e4 e5 (fun y z => ?_) 17 0 _ (by omega) (by omega)
  refine z_iload_n dRow_inversions_54 rfl ?_
  refine z_iret rfl rfl dRow_inversions_55 ?_
  exact ⟨rfl, rfl⟩
end ROW4
end
section
section ROW5
variable {G : zG} {l : Launch} {h : zHp} {r a : Nat} {L : List Int} {p x : Int}
/-- turned to the right by k -/
def zRot (L : List Int) (k : Int) : List Int := zmk L.length (fun j => L.getD (((j : Int) - k) % (L.length : Int)).toNat 0)
theorem zRot_len (L : List Int) (k : Int) : (zRot L k).length = L.length := zmk_len _ _
theorem zRot_at {L : List Int} {k : Int} {j : Nat} (h : j < L.length) : (zRot L k).getD j 0 = L.getD (((j : Int) - k) % (L.length : Int)).toNat 0 := zmk_at _ h
theorem zemod_add (a n : Int) : (a + n) % n = a % n := by first | exact Int.add_emod_right a n | exact Int.add_emod_self | simp
theorem zRot_0 (L : List Int) : zRot L 0 = L := by
  apply zl_ext (zRot_len _ _)
  intro j hj
  rw [zRot_len] at hj
  rw [zRot_at hj, Int.sub_zero, Int.emod_eq_of_lt (by omega) (by omega), Int.toNat_natCast]
theorem zRot_mod (L : List Int) (k : Int) : zRot L (k % (L.length : Int)) = zRot L k := by
  apply zl_ext (by rw [zRot_len, zRot_len])
  intro j hj
  rw [zRot_len] at hj
  rw [zRot_at hj, zRot_at hj]
  have e := Int.mul_ediv_add_emod k (L.length : Int)
  have e2 : (j : Int) - k % (L.length : Int) = ((j : Int) - k) + (L.length : Int) * (k / (L.length : Int)) := by omega
  rw [e2, Int.add_mul_emod_self_left]
/-- a step to the right -/
theorem zRot_right (L : List Int) (k : Int) (hL : 0 < L.length) : zIns (zDel (zRot L k) ((L.length : Int) - 1)) 0 ((zRot L k).getD (L.length - 1) 0) = zRot L (k + 1) := by
  have h1 : (zDel (zRot L k) ((L.length : Int) - 1)).length = L.length - 1 := by rw [zDel_len, zRot_len]
  apply zl_ext (by rw [zIns_len, h1, zRot_len]; omega)
  intro j hj
  rw [zIns_len, h1] at hj
  rw [zIns_at (by rw [h1]; omega), if_neg (by omega), zRot_at (by omega)]
  by_cases e : j = 0
  · subst e
    rw [if_pos (show ((0 : Nat) : Int) = 0 from rfl), zRot_at (by omega)]
    congr 2
    have e2 : ((L.length - 1 : Nat) : Int) - k = (((0 : Nat) : Int) - (k + 1)) + (L.length : Int) := by omega
    rw [e2, zemod_add]
  · rw [if_neg (by omega), zDel_at (by rw [zRot_len]; omega), if_pos (by omega), zRot_at (by omega), show ((j - 1 : Nat) : Int) - k = (j : Int) - (k + 1) by omega]
    exact (zRot_at (by omega)).symm
/-- .. and to the left -/
theorem zRot_left (L : List Int) (k : Int) (hL : 0 < L.length) : zIns (zDel (zRot L k) 0) ((L.length : Int) - 1) ((zRot L k).getD 0 0) = zRot L (k - 1) := by
  have h1 : (zDel (zRot L k) 0).length = L.length - 1 := by rw [zDel_len, zRot_len]
  apply zl_ext (by rw [zIns_len, h1, zRot_len]; omega)
  intro j hj
  rw [zIns_len, h1] at hj
  rw [zIns_at (by rw [h1]; omega), zRot_at (by omega)]
  by_cases e : j = L.length - 1
  · rw [if_neg (by omega), if_pos (by omega), zRot_at (by omega)]
    congr 2
    have e2 : (j : Int) - (k - 1) = (((0 : Nat) : Int) - k) + (L.length : Int) := by omega
    rw [e2, zemod_add]
  · rw [if_pos (by omega), zDel_at (by rw [zRot_len]; omega), if_neg (by omega), zRot_at (by omega), show ((j + 1 : Nat) : Int) - k = (j : Int) - (k - 1) by omega]
    exact (zRot_at (by omega)).symm
theorem l_Row_turnBy {d mc ms bc bs : Nat} {Qn : Option Value → zHp → Prop} {Qx : String → zHp → Prop} {S : Nat} {w : Value} (hd : 3 ≤ d) (hS : S ≤ 16) (hL : L.length ≤ 16) (hSL : S = 0 ∨ 0 < L.length)
    (K : ∀ (h1 : zHp) y, zRow G h1 r a (zRot L (S : Int)) → (∀ q, q ≠ r → q ≠ a → h1 q = h q) → zR G l (zMJ G hRow_turnBy d Qn Qx mc ms) bc bs h1 49 [some (.ref r), some w, some (zi (S : Int)), y] []) :
    ∀ (n : Nat) (m : Nat) (h1 : zHp), S - m < n → m ≤ S → zRow G h1 r a (zRot L (m : Int)) → (∀ q, q ≠ r → q ≠ a → h1 q = h q) →
      zR G l (zMJ G hRow_turnBy d Qn Qx mc ms) bc bs h1 22 [some (.ref r), some w, some (zi (S : Int)), some (zi (m : Int))] [] := by
  intro n
  induction n with
  | zero => intro m h1 q1 q2 hr1 g2; omega
  | succ n ih =>
  intro m h1 q1 q2 hr1 g2
  obtain ⟨f, e1, e2, e3, e4, e5⟩ := id hr1
  have hlen := zRot_len L (m : Int)
  refine z_iload_n dRow_turnBy_22 rfl ?_
  refine z_iload_n dRow_turnBy_23 rfl ?_
  refine z_icmp_ge (tgt := 49) dRow_turnBy_24 (by decide) (by omega) (by omega) (fun c24 => ?_) (fun c24 => ?_)
  · have em : m = S := by omega
    subst em
    exact K h1 _ hr1 g2
  · refine z_aload_n dRow_turnBy_27 rfl ?_
    refine z_iconst dRow_turnBy_28 ?_
    refine z_aload_n dRow_turnBy_29 rfl ?_
    refine z_aload_n dRow_turnBy_30 rfl ?_
    refine z_get (k := 1) fd_Row (by decide) fl_Row_15 dRow_turnBy_31 (by assumption) (by rfl) ?_
    refine z_iconst dRow_turnBy_34 ?_
    refine z_isub dRow_turnBy_35 ?_
    refine z_callV MV_Row_takeOut lk_Row_57 dRow_turnBy_36 (k_Row_takeOut hr1 (by omega)) rfl rfl (Nat.le_of_ble_eq_true rfl) rfl (by assumption) (by show 3 ≤ d; omega) (by show 2 * 64 + 64 ≤ d * 64; omega) (Nat.le_of_eq (Nat.zero_add _)) (Nat.le_of_eq (Nat.zero_add _)) (fun _ _ q => q.elim) ?_
    rintro _ h2 (⟨rfl, k1, k2, hr2, f2⟩ | ⟨rfl, k1, rfl⟩)
    rotate_left
    · exact absurd ⟨by omega, by omega⟩ k1
    have hx := hr1.item (j := L.length - 1) (by omega)
    obtain ⟨g9, d1, d2, d3, d4, d5⟩ := id hr2
    rw [show (((zRot L (m : Int)).length : Int) - 1).toNat = L.length - 1 by omega]
    rw [hlen] at hr2
    refine z_callV MV_Row_putIn lk_Row_60 dRow_turnBy_39 (k_Row_putIn hr2 (by omega) hx) rfl rfl (Nat.le_of_ble_eq_true rfl) rfl (by assumption) (by show 3 ≤ d; omega) (by show 2 * 64 + 64 ≤ d * 64; omega) (Nat.le_of_eq (Nat.zero_add _)) (Nat.le_of_eq (Nat.zero_add _)) (fun _ _ q => q.elim) ?_
    have hdl := zDel_len (zRot L (m : Int)) ((L.length : Int) - 1)
    rintro _ h3 (⟨rfl, k4, k5, k6, hr3, f3⟩ | ⟨rfl, k4, rfl⟩)
    rotate_left
    · exact absurd ⟨by omega, by omega, by omega⟩ k4
    rw [zRot_right L m (by omega)] at hr3
    refine z_pop rfl dRow_turnBy_42 ?_
    refine z_iinc dRow_turnBy_43 rfl (Nat.le_of_ble_eq_true rfl) ?_
    refine z_goto (tgt := 22) dRow_turnBy_46 (by decide) ?_
    exact ih (m + 1) h3 (by omega) (by omega) hr3 (fun q h4 h5 => (f3 q h4 h5).trans ((f2 q h4 h5).trans (g2 q h4 h5)))
theorem k_Row_turnBy (hr : zRow G h r a L) (hp : -2147483648 ≤ p ∧ p ≤ 2147483647) : zM G l hRow_turnBy yRow_turnBy 3 [.ref r, zi p] h (fun v h' => v = none ∧ zRow G h' r a (zRot L p) ∧ ∀ q, q ≠ r → q ≠ a → h' q = h q) zNo 0 0 := by
  obtain ⟨f, e1, e2, e3, e4, e5⟩ := id hr
  refine zM.of [some (.ref r), some (zi p), none, none] (by decide +kernel) rfl (by decide) rfl (Nat.le_of_ble_eq_true rfl) rfl ?_
  refine z_aload_n dRow_turnBy_0 rfl ?_
  refine z_get (k := 1) fd_Row (by decide) fl_Row_15 dRow_turnBy_1 (by assumption) (by rfl) ?_
  refine z_if_ne (tgt := 11) dRow_turnBy_4 (by decide) (by omega) (fun c4 => ?_) (fun c4 => ?_)
  · refine z_iload_n dRow_turnBy_11 rfl ?_
    refine z_aload_n dRow_turnBy_12 rfl ?_
    refine z_get (k := 1) fd_Row (by decide) fl_Row_15 dRow_turnBy_13 (by assumption) (by rfl) ?_
    refine z_callS MS_Mth_floorMod_7cf53 lk_Row_51 dRow_turnBy_16 (k_Mth_floorMod hp (by omega)) rfl rfl (Nat.le_of_ble_eq_true rfl) (Nat.le_of_ble_eq_true rfl) (Nat.le_of_ble_eq_true rfl) (Nat.le_of_eq (Nat.zero_add _)) (Nat.le_of_eq (Nat.zero_add _)) (fun _ _ q => q.elim) ?_
    rintro _ _ ⟨rfl, rfl⟩
    have m1 := Int.emod_nonneg p (show (L.length : Int) ≠ 0 by omega)
    have m2 := Int.emod_lt_of_pos p (show 0 < (L.length : Int) by omega)
    generalize hm : p % (L.length : Int) = m at *
    refine z_istore_n dRow_turnBy_19 (Nat.le_of_ble_eq_true rfl) ?_
    refine z_iconst dRow_turnBy_20 ?_
    refine z_istore_n dRow_turnBy_21 (Nat.le_of_ble_eq_true rfl) ?_
    first
      | (have h0 : L.length = 0 := by omega
         have e9 : zRot L p = zRot L ((0 : Nat) : Int) := zl_ext (by rw [zRot_len, zRot_len]) (fun j hj => by rw [zRot_len] at hj; omega)
         rw [e9]
         refine l_Row_turnBy (h := h) (S := 0) (by omega) (by omega) e3 (Or.inl rfl) (fun h1 y hr1 f1 => ?_) 17 0 h (by omega) (by omega) (by rw [show zRot L ((0 : Nat) : Int) = L from zRot_0 L]; exact hr) (fun _ _ _ => rfl)
         refine z_vret rfl dRow_turnBy_49 ?_
         exact ⟨rfl, hr1, f1⟩
         done)
      | (have e9 : zRot L p = zRot L (m.toNat : Int) := by rw [← zRot_mod L p, hm]; congr 1; omega
         rw [e9, show zI m = zI ((m.toNat : Nat) : Int) by congr 1; omega]
         refine l_Row_turnBy (h := h) (S := m.toNat) (by omega) (by omega) e3 (Or.inr (by omega)) (fun h1 y hr1 f1 => ?_) 17 0 h (by omega) (by omega) (by rw [show zRot L ((0 : Nat) : Int) = L from zRot_0 L]; exact hr) (fun _ _ _ => rfl)
         refine z_vret rfl dRow_turnBy_49 ?_
         exact ⟨rfl, hr1, f1⟩
         done)
  · refine z_iconst dRow_turnBy_7 ?_
    refine z_goto (tgt := 19) dRow_turnBy_8 (by decide) ?_
    refine z_istore_n dRow_turnBy_19 (Nat.le_of_ble_eq_true rfl) ?_
    refine z_iconst dRow_turnBy_20 ?_
    refine z_istore_n dRow_turnBy_21 (Nat.le_of_ble_eq_true rfl) ?_
    first
      | (have h0 : L.length = 0 := by omega
         have e9 : zRot L p = zRot L ((0 : Nat) : Int) := zl_ext (by rw [zRot_len, zRot_len]) (fun j hj => by rw [zRot_len] at hj; omega)
         rw [e9]
         refine l_Row_turnBy (h := h) (S := 0) (by omega) (by omega) e3 (Or.inl rfl) (fun h1 y hr1 f1 => ?_) 17 0 h (by omega) (by omega) (by rw [show zRot L ((0 : Nat) : Int) = L from zRot_0 L]; exact hr) (fun _ _ _ => rfl)
         refine z_vret rfl dRow_turnBy_49 ?_
         exact ⟨rfl, hr1, f1⟩
         done)
      | (have e9 : zRot L p = zRot L (m.toNat : Int) := by rw [← zRot_mod L p, hm]; congr 1; omega
         rw [e9, show zI m = zI ((m.toNat : Nat) : Int) by congr 1; omega]
         refine l_Row_turnBy (h := h) (S := m.toNat) (by omega) (by omega) e3 (Or.inr (by omega)) (fun h1 y hr1 f1 => ?_) 17 0 h (by omega) (by omega) (by rw [show zRot L ((0 : Nat) : Int) = L from zRot_0 L]; exact hr) (fun _ _ _ => rfl)
         refine z_vret rfl dRow_turnBy_49 ?_
         exact ⟨rfl, hr1, f1⟩
         done)
/-- M's items put in at p, one behind the other -/
def zJn (L : List Int) (p : Int) (M : List Int) : Nat → List Int
  | 0 => L
  | k + 1 => zIns (zJn L p M k) (p + k) (M.getD k 0)
theorem zJn_len (L : List Int) (p : Int) (M : List Int) : ∀ k, (zJn L p M k).length = L.length + k
  | 0 => rfl
  | k + 1 => by rw [zJn, zIns_len, zJn_len L p M k]; omega
theorem l_Row_becomeJoined {d mc ms bc bs : Nat} {Qn : Option Value → zHp → Prop} {Qx : String → zHp → Prop} {r2 a2 : Nat} {M : List Int} {w : Value} (hp : 0 ≤ p ∧ p ≤ L.length) (hl : L.length + M.length ≤ 16) (n1 : r2 ≠ r) (n2 : r2 ≠ a) (n3 : a2 ≠ r) (n4 : a2 ≠ a) (hd : 3 ≤ d) (hm : zRow G h r2 a2 M)
    (K : ∀ (h1 : zHp) y, zRow G h1 r a (zJn L p M M.length) → (∀ q, q ≠ r → q ≠ a → h1 q = h q) → zR G l (zMJ G hRow_becomeJoined d Qn Qx mc ms) bc bs h1 54 [some (.ref r), some w, some (zi p), some (.ref r2), y] []) :
    ∀ (n : Nat) (m : Nat) (h1 : zHp), M.length - m < n → m ≤ M.length → zRow G h1 r a (zJn L p M m) → (∀ q, q ≠ r → q ≠ a → h1 q = h q) →
      zR G l (zMJ G hRow_becomeJoined d Qn Qx mc ms) bc bs h1 24 [some (.ref r), some w, some (zi p), some (.ref r2), some (zi (m : Int))] [] := by
  intro n
  induction n with
  | zero => intro m h1 q1 q2 hr1 g2; omega
  | succ n ih =>
  intro m h1 q1 q2 hr1 g2
  obtain ⟨f, e1, e2, e3, e4, e5⟩ := id hr1
  have hm1 : zRow G h1 r2 a2 M := hm.kept (g2 _ n1 n2) (g2 _ n3 n4)
  obtain ⟨f2, d1, d2, d3, d4, d5⟩ := id hm1
  have hlen := zJn_len L p M m
  refine z_iload dRow_becomeJoined_24 rfl ?_
  refine z_aload_n dRow_becomeJoined_26 rfl ?_
  refine z_get (k := 1) fd_Row (by decide) fl_Row_15 dRow_becomeJoined_27 d1 (by rfl) ?_
  refine z_icmp_ge (tgt := 54) dRow_becomeJoined_30 (by decide) (by omega) (by omega) (fun c30 => ?_) (fun c30 => ?_)
  · have em : m = M.length := by omega
    subst em
    exact K h1 _ hr1 g2
  · refine z_aload_n dRow_becomeJoined_33 rfl ?_
    refine z_iload_n dRow_becomeJoined_34 rfl ?_
    refine z_iload dRow_becomeJoined_35 rfl ?_
    refine z_iadd dRow_becomeJoined_37 ?_
    refine z_aload_n dRow_becomeJoined_38 rfl ?_
    refine z_iload dRow_becomeJoined_39 rfl ?_
    refine z_callV MV_Row_itemAt lk_Row_40 dRow_becomeJoined_41 (k_Row_itemAt hm1 (by omega)) rfl rfl (Nat.le_of_ble_eq_true rfl) rfl d1 (by show 3 ≤ d; omega) (by show 2 * 64 + 64 ≤ d * 64; omega) (Nat.le_of_eq (Nat.zero_add _)) (Nat.le_of_eq (Nat.zero_add _)) (fun _ _ q => q.elim) ?_
    rintro _ _ ⟨rfl, rfl⟩
    rw [zAt_nat (show m < M.length by omega)]
    refine z_callV MV_Row_putIn lk_Row_60 dRow_becomeJoined_44 (k_Row_putIn hr1 (by omega) (hm.item (by omega))) rfl rfl (Nat.le_of_ble_eq_true rfl) rfl e1 (by show 3 ≤ d; omega) (by show 2 * 64 + 64 ≤ d * 64; omega) (Nat.le_of_eq (Nat.zero_add _)) (Nat.le_of_eq (Nat.zero_add _)) (fun _ _ q => q.elim) ?_
    rintro _ h3 (⟨rfl, k4, k5, k6, hr3, f3⟩ | ⟨rfl, k4, rfl⟩)
    rotate_left
    · exact absurd ⟨by omega, by omega, by omega⟩ k4
    refine z_pop rfl dRow_becomeJoined_47 ?_
    refine z_iinc dRow_becomeJoined_48 rfl (Nat.le_of_ble_eq_true rfl) ?_
    refine z_goto (tgt := 24) dRow_becomeJoined_51 (by decide) ?_
    exact ih (m + 1) h3 (by omega) (by omega) hr3 (fun q h4 h5 => (f3 q h4 h5).trans (g2 q h4 h5))
theorem k_Row_becomeJoined {r1 a1 r2 a2 : Nat} {L0 M : List Int} (hr : zRow G h r a L0) (h1 : zRow G h r1 a1 L) (hm : zRow G h r2 a2 M) (n1 : r1 ≠ r) (n2 : a1 ≠ a) (n3 : r2 ≠ r) (n4 : a2 ≠ a) (hp : 0 ≤ p ∧ p ≤ L.length) : zM G l hRow_becomeJoined yRow_becomeJoined 3 [.ref r, .ref r1, zi p, .ref r2] h (fun v h' => (v = some (zi 1) ∧ L.length + M.length ≤ 16 ∧ zRow G h' r a (zJn L p M M.length) ∧ ∀ q, q ≠ r → q ≠ a → h' q = h q) ∨ (v = some (zi 0) ∧ ¬ L.length + M.length ≤ 16 ∧ h = h')) zNo 0 0 := by
  obtain ⟨f, e1, e2, e3, e4, e5⟩ := id hr
  obtain ⟨f2, d1, d2, d3, d4, d5⟩ := id h1
  obtain ⟨f3, b1, b2, b3, b4, b5⟩ := id hm
  refine zM.of [some (.ref r), some (.ref r1), some (zi p), some (.ref r2), none] (by decide +kernel) rfl (by decide) rfl (Nat.le_of_ble_eq_true rfl) rfl ?_
  refine z_aload_n dRow_becomeJoined_0 rfl ?_
  refine z_get (k := 1) fd_Row (by decide) fl_Row_15 dRow_becomeJoined_1 d1 (by rfl) ?_
  refine z_aload_n dRow_becomeJoined_4 rfl ?_
  refine z_get (k := 1) fd_Row (by decide) fl_Row_15 dRow_becomeJoined_5 b1 (by rfl) ?_
  refine z_iadd dRow_becomeJoined_8 ?_
  refine z_bipush dRow_becomeJoined_9 rfl ?_
  refine z_icmp_le (tgt := 16) dRow_becomeJoined_11 (by decide) (by omega) (by omega) (fun c11 => ?_) (fun c11 => ?_)
  · refine z_aload_n dRow_becomeJoined_16 rfl ?_
    refine z_aload_n dRow_becomeJoined_17 rfl ?_
    refine z_callV MV_Row_become lk_Row_67 dRow_becomeJoined_18 (k_Row_become hr h1 n1 n2) rfl rfl (Nat.le_of_ble_eq_true rfl) rfl e1 (Nat.le_of_ble_eq_true rfl) (Nat.le_of_ble_eq_true rfl) (Nat.le_of_eq (Nat.zero_add _)) (Nat.le_of_eq (Nat.zero_add _)) (fun _ _ q => q.elim) ?_
    rintro _ h2 ⟨rfl, hr2, f2⟩
    refine z_iconst dRow_becomeJoined_21 ?_
    refine z_istore dRow_becomeJoined_22 (Nat.le_of_ble_eq_true rfl) ?_
    obtain ⟨m1, m2⟩ := hr.apart hm
    refine l_Row_becomeJoined (h := h2) hp (by omega) n3 m1 m2 n4 (by omega) (hm.kept (f2 _ n3 m1) (f2 _ m2 n4)) (fun h4 y hr4 f4 => ?_) 17 0 h2 (by omega) (by omega) hr2 (fun _ _ _ => rfl)
    refine z_iconst dRow_becomeJoined_54 ?_
    refine z_iret rfl rfl dRow_becomeJoined_55 ?_
    exact Or.inl ⟨rfl, by omega, hr4, fun q h5 h6 => (f4 q h5 h6).trans (f2 q h5 h6)⟩
  · refine z_iconst dRow_becomeJoined_14 ?_
    refine z_iret rfl rfl dRow_becomeJoined_15 ?_
    exact Or.inr ⟨rfl, by omega, rfl⟩
theorem l_Row_becomeThrough {d mc ms bc bs : Nat} {Qn : Option Value → zHp → Prop} {Qx : String → zHp → Prop} {r1 a1 r2 a2 : Nat} {M : List Int} (hd : 4 ≤ d) (n1 : r1 ≠ r) (n2 : r1 ≠ a) (n3 : a1 ≠ r) (n4 : a1 ≠ a) (m1 : r2 ≠ r) (m2 : r2 ≠ a) (m3 : a2 ≠ r) (m4 : a2 ≠ a) (hl : zRow G h r1 a1 L) (hm : zRow G h r2 a2 M)
    (K1 : ∀ (h1 : zHp) y z, (∀ j : Nat, j < M.length → 0 ≤ M.getD j 0 ∧ M.getD j 0 < L.length) → zRow G h1 r a (zmk M.length (fun j => zAt L (M.getD j 0))) → (∀ q, q ≠ r → q ≠ a → h1 q = h q) → zR G l (zMJ G hRow_becomeThrough d Qn Qx mc ms) bc bs h1 50 [some (.ref r), some (.ref r1), some (.ref r2), y, z] [])
    (K2 : ∀ (h1 : zHp) y z, ¬ (∀ j : Nat, j < M.length → 0 ≤ M.getD j 0 ∧ M.getD j 0 < L.length) → (∃ L', zRow G h1 r a L') → (∀ q, q ≠ r → q ≠ a → h1 q = h q) → zR G l (zMJ G hRow_becomeThrough d Qn Qx mc ms) bc bs h1 31 [some (.ref r), some (.ref r1), some (.ref r2), y, z] []) :
    ∀ (n : Nat) (m : Nat) (h1 : zHp) z, M.length - m < n → m ≤ M.length → (∀ j : Nat, j < m → 0 ≤ M.getD j 0 ∧ M.getD j 0 < L.length) → zRow G h1 r a (zmk m (fun j => zAt L (M.getD j 0))) → (∀ q, q ≠ r → q ≠ a → h1 q = h q) →
      zR G l (zMJ G hRow_becomeThrough d Qn Qx mc ms) bc bs h1 7 [some (.ref r), some (.ref r1), some (.ref r2), some (zi (m : Int)), z] [] := by
  intro n
  induction n with
  | zero => intro m h1 z q1 q2 q3 hr1 g2; omega
  | succ n ih =>
  intro m h1 z q1 q2 q3 hr1 g2
  obtain ⟨f, e1, e2, e3, e4, e5⟩ := id hr1
  have hm1 : zRow G h1 r2 a2 M := hm.kept (g2 _ m1 m2) (g2 _ m3 m4)
  have hl1 : zRow G h1 r1 a1 L := hl.kept (g2 _ n1 n2) (g2 _ n3 n4)
  obtain ⟨f2, d1, d2, d3, d4, d5⟩ := id hm1
  obtain ⟨f3, b1, b2, b3, b4, b5⟩ := id hl1
  have hlen := zmk_len m (fun j => zAt L (M.getD j 0))
  refine z_iload_n dRow_becomeThrough_7 rfl ?_
  refine z_aload_n dRow_becomeThrough_8 rfl ?_
  refine z_get (k := 1) fd_Row (by decide) fl_Row_15 dRow_becomeThrough_9 d1 (by rfl) ?_
  refine z_icmp_ge (tgt := 50) dRow_becomeThrough_12 (by decide) (by omega) (by omega) (fun c12 => ?_) (fun c12 => ?_)
  · have em : m = M.length := by omega
    subst em
    exact K1 h1 _ _ q3 hr1 g2
  · refine z_aload_n dRow_becomeThrough_15 rfl ?_
    refine z_iload_n dRow_becomeThrough_16 rfl ?_
    refine z_callV MV_Row_itemAt lk_Row_40 dRow_becomeThrough_17 (k_Row_itemAt hm1 (by omega)) rfl rfl (Nat.le_of_ble_eq_true rfl) rfl d1 (by show 3 ≤ d; omega) (by show 2 * 64 + 64 ≤ d * 64; omega) (Nat.le_of_eq (Nat.zero_add _)) (Nat.le_of_eq (Nat.zero_add _)) (fun _ _ q => q.elim) ?_
    rintro _ _ ⟨rfl, rfl⟩
    rw [zAt_nat (show m < M.length by omega)]
    have hmi := hm.item (show m < M.length by omega)
    refine z_istore dRow_becomeThrough_20 (Nat.le_of_ble_eq_true rfl) ?_
    refine z_aload_n dRow_becomeThrough_22 rfl ?_
    refine z_iload dRow_becomeThrough_23 rfl ?_
    refine z_callV MV_Row_hasPlace lk_Row_19 dRow_becomeThrough_25 (k_Row_hasPlace hl1 (by omega)) rfl rfl (Nat.le_of_ble_eq_true rfl) rfl b1 (by show 2 ≤ d; omega) (by show 1 * 64 + 64 ≤ d * 64; omega) (Nat.le_of_eq (Nat.zero_add _)) (Nat.le_of_eq (Nat.zero_add _)) (fun _ _ q => q.elim) ?_
    rintro _ _ ⟨b9, rfl, hb9, rfl⟩
    refine z_if_ne (tgt := 33) dRow_becomeThrough_28 (by decide) (by omega) (fun c28 => ?_) (fun c28 => ?_)
    · refine z_aload_n dRow_becomeThrough_33 rfl ?_
      refine z_aload_n dRow_becomeThrough_34 rfl ?_
      refine z_iload dRow_becomeThrough_35 rfl ?_
      refine z_callV MV_Row_itemAt lk_Row_40 dRow_becomeThrough_37 (k_Row_itemAt hl1 (by omega)) rfl rfl (Nat.le_of_ble_eq_true rfl) rfl b1 (by show 3 ≤ d; omega) (by show 2 * 64 + 64 ≤ d * 64; omega) (Nat.le_of_eq (Nat.zero_add _)) (Nat.le_of_eq (Nat.zero_add _)) (fun _ _ q => q.elim) ?_
      rintro _ _ ⟨rfl, rfl⟩
      have hai := zAt_in hl1 (M.getD m 0)
      refine z_callV MV_Row_addBehind lk_Row_64 dRow_becomeThrough_40 (k_Row_addBehind hr1 (by omega)) rfl rfl (Nat.le_of_ble_eq_true rfl) rfl e1 (by show 4 ≤ d; omega) (by show 3 * 64 + 64 ≤ d * 64; omega) (Nat.le_of_eq (Nat.zero_add _)) (Nat.le_of_eq (Nat.zero_add _)) (fun _ _ q => q.elim) ?_
      rintro _ h3 (⟨rfl, k4, k5, hr3, f3⟩ | ⟨rfl, k4, rfl⟩)
      rotate_left
      · exact absurd ⟨by omega, by omega⟩ k4
      rw [← zmk_succ m (fun j => zAt L (M.getD j 0))] at hr3
      refine z_pop rfl dRow_becomeThrough_43 ?_
      refine z_iinc dRow_becomeThrough_44 rfl (Nat.le_of_ble_eq_true rfl) ?_
      refine z_goto (tgt := 7) dRow_becomeThrough_47 (by decide) ?_
      refine ih (m + 1) h3 _ (by omega) (by omega) (fun j hj => ?_) hr3 (fun q h4 h5 => (f3 q h4 h5).trans (g2 q h4 h5))
      rcases (show j < m ∨ j = m by omega) with e | e
      · exact q3 j e
      · rw [e]; omega
    · exact K2 h1 _ _ (fun q => by have := q m (by omega); omega) ⟨_, hr1⟩ g2
theorem k_Row_becomeThrough {r1 a1 r2 a2 : Nat} {L0 M : List Int} (hr : zRow G h r a L0) (h1 : zRow G h r1 a1 L) (hm : zRow G h r2 a2 M) (n1 : r1 ≠ r) (n2 : a1 ≠ a) (n3 : r2 ≠ r) (n4 : a2 ≠ a) : zM G l hRow_becomeThrough yRow_becomeThrough 4 [.ref r, .ref r1, .ref r2] h (fun v h' => (v = some (zi 1) ∧ (∀ j : Nat, j < M.length → 0 ≤ M.getD j 0 ∧ M.getD j 0 < L.length) ∧ zRow G h' r a (zmk M.length (fun j => zAt L (M.getD j 0))) ∧ ∀ q, q ≠ r → q ≠ a → h' q = h q) ∨ (v = some (zi 0) ∧ ¬ (∀ j : Nat, j < M.length → 0 ≤ M.getD j 0 ∧ M.getD j 0 < L.length) ∧ (∃ L', zRow G h' r a L') ∧ ∀ q, q ≠ r → q ≠ a → h' q = h q)) zNo 0 0 := by
  obtain ⟨f, e1, e2, e3, e4, e5⟩ := id hr
  obtain ⟨m1, m2⟩ := hr.apart h1
  obtain ⟨m3, m4⟩ := hr.apart hm
  refine zM.of [some (.ref r), some (.ref r1), some (.ref r2), none, none] (by decide +kernel) rfl (by decide) rfl (Nat.le_of_ble_eq_true rfl) rfl ?_
  refine z_aload_n dRow_becomeThrough_0 rfl ?_
  refine z_iconst dRow_becomeThrough_1 ?_
  refine z_put (k := 1) fd_Row (by decide) fl_Row_15 rfl dRow_becomeThrough_2 e1 (by simp) rfl rfl ?_
  have hr0 := hr.cleared
  have g0 : ∀ q, q ≠ r → q ≠ a → zup h r (some (.inr (zkRow, [.ref a, zi 0]))) q = h q := fun q h1 h2 => zup_ne h1
  change zR G l _ 0 0 (zup h r (some (.inr (zkRow, [.ref a, zi 0])))) _ _ _
  generalize zup h r (some (.inr (zkRow, [.ref a, zi 0]))) = h0 at *
  have h1 : zRow G h0 r1 a1 L := h1.kept (g0 _ n1 m1) (g0 _ m2 n2)
  have hm : zRow G h0 r2 a2 M := hm.kept (g0 _ n3 m3) (g0 _ m4 n4)
  obtain ⟨f2, d1, d2, d3, d4, d5⟩ := id h1
  obtain ⟨f3, b1, b2, b3, b4, b5⟩ := id hm
  refine z_iconst dRow_becomeThrough_5 ?_
  refine z_istore_n dRow_becomeThrough_6 (Nat.le_of_ble_eq_true rfl) ?_
  refine l_Row_becomeThrough (h := h0) (by omega) n1 m1 m2 n2 n3 m3 m4 n4 h1 hm (fun h5 y z c1 hr5 f5 => ?_) (fun h5 y z c1 hr5 f5 => ?_) 17 0 h0 _ (by omega) (by omega) (fun j hj => absurd hj (by omega)) hr0 (fun _ _ _ => rfl)
  · refine z_iconst dRow_becomeThrough_50 ?_
    refine z_iret rfl rfl dRow_becomeThrough_51 ?_
    exact Or.inl ⟨rfl, c1, hr5, fun q h6 h7 => (f5 q h6 h7).trans (g0 q h6 h7)⟩
  · refine z_iconst dRow_becomeThrough_31 ?_
    refine z_iret rfl rfl dRow_becomeThrough_32 ?_
    exact Or.inr ⟨rfl, c1, hr5, fun q h6 h7 => (f5 q h6 h7).trans (g0 q h6 h7)⟩
theorem l_Row_becomeSum {d mc ms bc bs : Nat} {Qn : Option Value → zHp → Prop} {Qx : String → zHp → Prop} {r1 a1 r2 a2 N : Nat} {M : List Int} (hd : 4 ≤ d) (hN : N ≤ 16) (n1 : r1 ≠ r) (n2 : r1 ≠ a) (n3 : a1 ≠ r) (n4 : a1 ≠ a) (m1 : r2 ≠ r) (m2 : r2 ≠ a) (m3 : a2 ≠ r) (m4 : a2 ≠ a) (hl : zRow G h r1 a1 L) (hm : zRow G h r2 a2 M)
    (K1 : ∀ (h1 : zHp) y, (∀ j : Nat, j < N → zIn (zAt L j + zAt M j)) → zRow G h1 r a (zmk N (fun j => zAt L j + zAt M j)) → (∀ q, q ≠ r → q ≠ a → h1 q = h q) → zR G l (zMJ G hRow_becomeSum d Qn Qx mc ms) bc bs h1 54 [some (.ref r), some (.ref r1), some (.ref r2), some (zi (N : Int)), y] [])
    (K2 : ∀ (h1 : zHp) y, ¬ (∀ j : Nat, j < N → zIn (zAt L j + zAt M j)) → (∃ L', zRow G h1 r a L') → (∀ q, q ≠ r → q ≠ a → h1 q = h q) → zR G l (zMJ G hRow_becomeSum d Qn Qx mc ms) bc bs h1 46 [some (.ref r), some (.ref r1), some (.ref r2), some (zi (N : Int)), y] []) :
    ∀ (n : Nat) (m : Nat) (h1 : zHp), N - m < n → m ≤ N → (∀ j : Nat, j < m → zIn (zAt L j + zAt M j)) → zRow G h1 r a (zmk m (fun j => zAt L j + zAt M j)) → (∀ q, q ≠ r → q ≠ a → h1 q = h q) →
      zR G l (zMJ G hRow_becomeSum d Qn Qx mc ms) bc bs h1 20 [some (.ref r), some (.ref r1), some (.ref r2), some (zi (N : Int)), some (zi (m : Int))] [] := by
  intro n
  induction n with
  | zero => intro m h1 q1 q2 q3 hr1 g2; omega
  | succ n ih =>
  intro m h1 q1 q2 q3 hr1 g2
  obtain ⟨f, e1, e2, e3, e4, e5⟩ := id hr1
  have hm1 : zRow G h1 r2 a2 M := hm.kept (g2 _ m1 m2) (g2 _ m3 m4)
  have hl1 : zRow G h1 r1 a1 L := hl.kept (g2 _ n1 n2) (g2 _ n3 n4)
  obtain ⟨f2, d1, d2, d3, d4, d5⟩ := id hm1
  obtain ⟨f3, b1, b2, b3, b4, b5⟩ := id hl1
  have hlen := zmk_len m (fun j => zAt L j + zAt M j)
  have hai := zAt_in hl1 m
  have haj := zAt_in hm1 m
  refine z_iload dRow_becomeSum_20 rfl ?_
  refine z_iload_n dRow_becomeSum_22 rfl ?_
  refine z_icmp_ge (tgt := 54) dRow_becomeSum_23 (by decide) (by omega) (by omega) (fun c23 => ?_) (fun c23 => ?_)
  · have em : m = N := by omega
    subst em
    exact K1 h1 _ q3 hr1 g2
  · refine z_aload_n dRow_becomeSum_26 rfl ?_
    refine z_aload_n dRow_becomeSum_27 rfl ?_
    refine z_iload dRow_becomeSum_28 rfl ?_
    refine z_callV MV_Row_itemAt lk_Row_40 dRow_becomeSum_30 (k_Row_itemAt hl1 (by omega)) rfl rfl (Nat.le_of_ble_eq_true rfl) rfl b1 (by show 3 ≤ d; omega) (by show 2 * 64 + 64 ≤ d * 64; omega) (Nat.le_of_eq (Nat.zero_add _)) (Nat.le_of_eq (Nat.zero_add _)) (fun _ _ q => q.elim) ?_
    rintro _ _ ⟨rfl, rfl⟩
    refine z_aload_n dRow_becomeSum_33 rfl ?_
    refine z_iload dRow_becomeSum_34 rfl ?_
    refine z_callV MV_Row_itemAt lk_Row_40 dRow_becomeSum_36 (k_Row_itemAt hm1 (by omega)) rfl rfl (Nat.le_of_ble_eq_true rfl) rfl d1 (by show 3 ≤ d; omega) (by show 2 * 64 + 64 ≤ d * 64; omega) (Nat.le_of_eq (Nat.zero_add _)) (Nat.le_of_eq (Nat.zero_add _)) (fun _ _ q => q.elim) ?_
    rintro _ _ ⟨rfl, rfl⟩
    refine z_iadd dRow_becomeSum_39 ?_
    refine z_callV MV_Row_addBehind lk_Row_64 dRow_becomeSum_40 (k_Row_addBehind hr1 (by omega)) rfl rfl (Nat.le_of_ble_eq_true rfl) rfl e1 (by show 4 ≤ d; omega) (by show 3 * 64 + 64 ≤ d * 64; omega) (Nat.le_of_eq (Nat.zero_add _)) (Nat.le_of_eq (Nat.zero_add _)) (fun _ _ q => q.elim) ?_
    rintro _ h3 (⟨rfl, k4, k5, hr3, f3⟩ | ⟨rfl, k4, rfl⟩)
    · rw [← zmk_succ m (fun j => zAt L j + zAt M j)] at hr3
      refine z_if_ne (tgt := 48) dRow_becomeSum_43 (by decide) (by omega) (fun c43 => ?_) (fun c43 => ?_)
      · refine z_iinc dRow_becomeSum_48 rfl (Nat.le_of_ble_eq_true rfl) ?_
        refine z_goto (tgt := 20) dRow_becomeSum_51 (by decide) ?_
        refine ih (m + 1) h3 (by omega) (by omega) (fun j hj => ?_) hr3 (fun q h4 h5 => (f3 q h4 h5).trans (g2 q h4 h5))
        rcases (show j < m ∨ j = m by omega) with e | e
        · exact q3 j e
        · rw [e]; exact k4
      · exact absurd c43 (by decide)
    · refine z_if_ne (tgt := 48) dRow_becomeSum_43 (by decide) (by omega) (fun c43 => ?_) (fun c43 => ?_)
      · exact absurd rfl c43
      · exact K2 h1 _ (fun q => k4 ⟨q m (by omega), by omega⟩) ⟨_, hr1⟩ g2
theorem k_Row_becomeSum {r1 a1 r2 a2 : Nat} {L0 M : List Int} (hr : zRow G h r a L0) (h1 : zRow G h r1 a1 L) (hm : zRow G h r2 a2 M) (n1 : r1 ≠ r) (n2 : a1 ≠ a) (n3 : r2 ≠ r) (n4 : a2 ≠ a) : zM G l hRow_becomeSum yRow_becomeSum 4 [.ref r, .ref r1, .ref r2] h (fun v h' => (v = some (zi 1) ∧ (∀ j : Nat, j < (if (L.length : Int) < M.length then M.length else L.length) → zIn (zAt L j + zAt M j)) ∧ zRow G h' r a (zmk (if (L.length : Int) < M.length then M.length else L.length) (fun j => zAt L j + zAt M j)) ∧ ∀ q, q ≠ r → q ≠ a → h' q = h q) ∨ (v = some (zi 0) ∧ ¬ (∀ j : Nat, j < (if (L.length : Int) < M.length then M.length else L.length) → zIn (zAt L j + zAt M j)) ∧ (∃ L', zRow G h' r a L') ∧ ∀ q, q ≠ r → q ≠ a → h' q = h q)) zNo 0 0 := by
  obtain ⟨f, e1, e2, e3, e4, e5⟩ := id hr
  obtain ⟨m1, m2⟩ := hr.apart h1
  obtain ⟨m3, m4⟩ := hr.apart hm
  refine zM.of [some (.ref r), some (.ref r1), some (.ref r2), none, none] (by decide +kernel) rfl (by decide) rfl (Nat.le_of_ble_eq_true rfl) rfl ?_
  refine z_aload_n dRow_becomeSum_0 rfl ?_
  refine z_iconst dRow_becomeSum_1 ?_
  refine z_put (k := 1) fd_Row (by decide) fl_Row_15 rfl dRow_becomeSum_2 e1 (by simp) rfl rfl ?_
  have hr0 := hr.cleared
  have g0 : ∀ q, q ≠ r → q ≠ a → zup h r (some (.inr (zkRow, [.ref a, zi 0]))) q = h q := fun q h1 h2 => zup_ne h1
  change zR G l _ 0 0 (zup h r (some (.inr (zkRow, [.ref a, zi 0])))) _ _ _
  generalize zup h r (some (.inr (zkRow, [.ref a, zi 0]))) = h0 at *
  have h1 : zRow G h0 r1 a1 L := h1.kept (g0 _ n1 m1) (g0 _ m2 n2)
  have hm : zRow G h0 r2 a2 M := hm.kept (g0 _ n3 m3) (g0 _ m4 n4)
  obtain ⟨f2, d1, d2, d3, d4, d5⟩ := id h1
  obtain ⟨f3, b1, b2, b3, b4, b5⟩ := id hm
  refine z_aload_n dRow_becomeSum_5 rfl ?_
  refine z_get (k := 1) fd_Row (by decide) fl_Row_15 dRow_becomeSum_6 d1 (by rfl) ?_
  refine z_aload_n dRow_becomeSum_9 rfl ?_
  refine z_get (k := 1) fd_Row (by decide) fl_Row_15 dRow_becomeSum_10 b1 (by rfl) ?_
  refine z_max lk_Row_71 MS_Mth_max_7cf53.2 in_Mth MS_Mth_max_7cf53.1.2.1 dRow_becomeSum_13 (by omega) (by omega) (Nat.le_of_ble_eq_true rfl) (Nat.le_of_ble_eq_true rfl) (Nat.le_of_ble_eq_true rfl) ?_
  rw [show (if (L.length : Int) < M.length then (M.length : Int) else L.length) = ((if (L.length : Int) < M.length then M.length else L.length : Nat) : Int) by split <;> rfl]
  have hN : (if (L.length : Int) < M.length then M.length else L.length : Nat) ≤ 16 := by split <;> omega
  generalize (if (L.length : Int) < M.length then M.length else L.length : Nat) = N at *
  refine z_istore_n dRow_becomeSum_16 (Nat.le_of_ble_eq_true rfl) ?_
  refine z_iconst dRow_becomeSum_17 ?_
  refine z_istore dRow_becomeSum_18 (Nat.le_of_ble_eq_true rfl) ?_
  refine l_Row_becomeSum (h := h0) (by omega) hN n1 m1 m2 n2 n3 m3 m4 n4 h1 hm (fun h5 y c1 hr5 f5 => ?_) (fun h5 y c1 hr5 f5 => ?_) 17 0 h0 (by omega) (by omega) (fun j hj => absurd hj (by omega)) hr0 (fun _ _ _ => rfl)
  · refine z_iconst dRow_becomeSum_54 ?_
    refine z_iret rfl rfl dRow_becomeSum_55 ?_
    exact Or.inl ⟨rfl, c1, hr5, fun q h6 h7 => (f5 q h6 h7).trans (g0 q h6 h7)⟩
  · refine z_iconst dRow_becomeSum_46 ?_
    refine z_iret rfl rfl dRow_becomeSum_47 ?_
    exact Or.inr ⟨rfl, c1, hr5, fun q h6 h7 => (f5 q h6 h7).trans (g0 q h6 h7)⟩
theorem l_Row_becomeDerived {d mc ms bc bs : Nat} {Qn : Option Value → zHp → Prop} {Qx : String → zHp → Prop} {r1 a1 : Nat} (hd : 4 ≤ d) (n1 : r1 ≠ r) (n2 : r1 ≠ a) (n3 : a1 ≠ r) (n4 : a1 ≠ a) (hl : zRow G h r1 a1 L)
    (K1 : ∀ (h1 : zHp) y, (∀ j : Nat, j < L.length - 1 → zIn (L.getD (j + 1) 0 * ((j : Int) + 1))) → zRow G h1 r a (zmk (L.length - 1) (fun j => L.getD (j + 1) 0 * ((j : Int) + 1))) → (∀ q, q ≠ r → q ≠ a → h1 q = h q) → zR G l (zMJ G hRow_becomeDerived d Qn Qx mc ms) bc bs h1 37 [some (.ref r), some (.ref r1), y] [])
    (K2 : ∀ (h1 : zHp) y, ¬ (∀ j : Nat, j < L.length - 1 → zIn (L.getD (j + 1) 0 * ((j : Int) + 1))) → (∃ L', zRow G h1 r a L') → (∀ q, q ≠ r → q ≠ a → h1 q = h q) → zR G l (zMJ G hRow_becomeDerived d Qn Qx mc ms) bc bs h1 29 [some (.ref r), some (.ref r1), y] []) :
    ∀ (n : Nat) (m : Nat) (h1 : zHp), L.length - m < n → m ≤ L.length - 1 → (∀ j : Nat, j < m → zIn (L.getD (j + 1) 0 * ((j : Int) + 1))) → zRow G h1 r a (zmk m (fun j => L.getD (j + 1) 0 * ((j : Int) + 1))) → (∀ q, q ≠ r → q ≠ a → h1 q = h q) →
      zR G l (zMJ G hRow_becomeDerived d Qn Qx mc ms) bc bs h1 7 [some (.ref r), some (.ref r1), some (zi ((m : Int) + 1))] [] := by
  intro n
  induction n with
  | zero => intro m h1 q1 q2 q3 hr1 g2; omega
  | succ n ih =>
  intro m h1 q1 q2 q3 hr1 g2
  obtain ⟨f, e1, e2, e3, e4, e5⟩ := id hr1
  have hl1 : zRow G h1 r1 a1 L := hl.kept (g2 _ n1 n2) (g2 _ n3 n4)
  obtain ⟨f3, b1, b2, b3, b4, b5⟩ := id hl1
  have hlen := zmk_len m (fun j => L.getD (j + 1) 0 * ((j : Int) + 1))
  refine z_iload_n dRow_becomeDerived_7 rfl ?_
  refine z_aload_n dRow_becomeDerived_8 rfl ?_
  refine z_get (k := 1) fd_Row (by decide) fl_Row_15 dRow_becomeDerived_9 b1 (by rfl) ?_
  refine z_icmp_ge (tgt := 37) dRow_becomeDerived_12 (by decide) (by omega) (by omega) (fun c12 => ?_) (fun c12 => ?_)
  · have em : m = L.length - 1 := by omega
    subst em
    exact K1 h1 _ q3 hr1 g2
  · refine z_aload_n dRow_becomeDerived_15 rfl ?_
    refine z_aload_n dRow_becomeDerived_16 rfl ?_
    refine z_iload_n dRow_becomeDerived_17 rfl ?_
    refine z_callV MV_Row_itemAt lk_Row_40 dRow_becomeDerived_18 (k_Row_itemAt hl1 (by omega)) rfl rfl (Nat.le_of_ble_eq_true rfl) rfl b1 (by show 3 ≤ d; omega) (by show 2 * 64 + 64 ≤ d * 64; omega) (Nat.le_of_eq (Nat.zero_add _)) (Nat.le_of_eq (Nat.zero_add _)) (fun _ _ q => q.elim) ?_
    rintro _ _ ⟨rfl, rfl⟩
    rw [show (m : Int) + 1 = ((m + 1 : Nat) : Int) by omega, zAt_nat (show m + 1 < L.length by omega), show ((m + 1 : Nat) : Int) = (m : Int) + 1 by omega]
    have hai := hl1.item (show m + 1 < L.length by omega)
    have hmu := Int.mul_le_mul_of_nonneg_right hai.1 (show (0 : Int) ≤ (m : Int) + 1 by omega)
    have hmv := Int.mul_le_mul_of_nonneg_right hai.2 (show (0 : Int) ≤ (m : Int) + 1 by omega)
    refine z_iload_n dRow_becomeDerived_21 rfl ?_
    refine z_imul dRow_becomeDerived_22 ?_
    refine z_callV MV_Row_addBehind lk_Row_64 dRow_becomeDerived_23 (k_Row_addBehind hr1 (by omega)) rfl rfl (Nat.le_of_ble_eq_true rfl) rfl e1 (by show 4 ≤ d; omega) (by show 3 * 64 + 64 ≤ d * 64; omega) (Nat.le_of_eq (Nat.zero_add _)) (Nat.le_of_eq (Nat.zero_add _)) (fun _ _ q => q.elim) ?_
    rintro _ h3 (⟨rfl, k4, k5, hr3, f3⟩ | ⟨rfl, k4, rfl⟩)
    · rw [← zmk_succ m (fun j => L.getD (j + 1) 0 * ((j : Int) + 1))] at hr3
      refine z_if_ne (tgt := 31) dRow_becomeDerived_26 (by decide) (by omega) (fun c26 => ?_) (fun c26 => ?_)
      · refine z_iinc dRow_becomeDerived_31 rfl (Nat.le_of_ble_eq_true rfl) ?_
        refine z_goto (tgt := 7) dRow_becomeDerived_34 (by decide) ?_
        refine ih (m + 1) h3 (by omega) (by omega) (fun j hj => ?_) hr3 (fun q h4 h5 => (f3 q h4 h5).trans (g2 q h4 h5))
        rcases (show j < m ∨ j = m by omega) with e | e
        · exact q3 j e
        · rw [e]; exact k4
      · exact absurd c26 (by decide)
    · refine z_if_ne (tgt := 31) dRow_becomeDerived_26 (by decide) (by omega) (fun c26 => ?_) (fun c26 => ?_)
      · exact absurd rfl c26
      · exact K2 h1 _ (fun q => k4 ⟨q m (by omega), by omega⟩) ⟨_, hr1⟩ g2
theorem k_Row_becomeDerived {r1 a1 : Nat} {L0 : List Int} (hr : zRow G h r a L0) (h1 : zRow G h r1 a1 L) (n1 : r1 ≠ r) (n2 : a1 ≠ a) : zM G l hRow_becomeDerived yRow_becomeDerived 4 [.ref r, .ref r1] h (fun v h' => (v = some (zi 1) ∧ (∀ j : Nat, j < L.length - 1 → zIn (L.getD (j + 1) 0 * ((j : Int) + 1))) ∧ zRow G h' r a (zmk (L.length - 1) (fun j => L.getD (j + 1) 0 * ((j : Int) + 1))) ∧ ∀ q, q ≠ r → q ≠ a → h' q = h q) ∨ (v = some (zi 0) ∧ ¬ (∀ j : Nat, j < L.length - 1 → zIn (L.getD (j + 1) 0 * ((j : Int) + 1))) ∧ (∃ L', zRow G h' r a L') ∧ ∀ q, q ≠ r → q ≠ a → h' q = h q)) zNo 0 0 := by
  obtain ⟨f, e1, e2, e3, e4, e5⟩ := id hr
  obtain ⟨m1, m2⟩ := hr.apart h1
  refine zM.of [some (.ref r), some (.ref r1), none] (by decide +kernel) rfl (by decide) rfl (Nat.le_of_ble_eq_true rfl) rfl ?_
  refine z_aload_n dRow_becomeDerived_0 rfl ?_
  refine z_iconst dRow_becomeDerived_1 ?_
  refine z_put (k := 1) fd_Row (by decide) fl_Row_15 rfl dRow_becomeDerived_2 e1 (by simp) rfl rfl ?_
  have hr0 := hr.cleared
  have g0 : ∀ q, q ≠ r → q ≠ a → zup h r (some (.inr (zkRow, [.ref a, zi 0]))) q = h q := fun q h1 h2 => zup_ne h1
  change zR G l _ 0 0 (zup h r (some (.inr (zkRow, [.ref a, zi 0])))) _ _ _
  generalize zup h r (some (.inr (zkRow, [.ref a, zi 0]))) = h0 at *
  have h1 : zRow G h0 r1 a1 L := h1.kept (g0 _ n1 m1) (g0 _ m2 n2)
  refine z_iconst dRow_becomeDerived_5 ?_
  refine z_istore_n dRow_becomeDerived_6 (Nat.le_of_ble_eq_true rfl) ?_
  have hq9 := h1.len
  refine l_Row_becomeDerived (h := h0) (by omega) n1 m1 m2 n2 h1 (fun h5 y c1 hr5 f5 => ?_) (fun h5 y c1 hr5 f5 => ?_) 17 0 h0 (by omega) (by omega) (fun j hj => absurd hj (by omega)) hr0 (fun _ _ _ => rfl)
  · refine z_iconst dRow_becomeDerived_37 ?_
    refine z_iret rfl rfl dRow_becomeDerived_38 ?_
    exact Or.inl ⟨rfl, c1, hr5, fun q h6 h7 => (f5 q h6 h7).trans (g0 q h6 h7)⟩
  · refine z_iconst dRow_becomeDerived_29 ?_
    refine z_iret rfl rfl dRow_becomeDerived_30 ?_
    exact Or.inr ⟨rfl, c1, hr5, fun q h6 h7 => (f5 q h6 h7).trans (g0 q h6 h7)⟩
/-- the product's coefficient at p, out of the first n pairs -/
def zCf (L M : List Int) (p : Int) : Nat → Int
  | 0 => 0
  | n + 1 => zCf L M p n + zAt L n * zAt M (p - n)
theorem l_Row_coef {d mc ms bc bs : Nat} {Qn : Option Value → zHp → Prop} {Qx : String → zHp → Prop} {r1 a1 r2 a2 N : Nat} {M : List Int} (hd : 3 ≤ d) (hN : N ≤ 16) (h1 : zRow G h r1 a1 L) (hm : zRow G h r2 a2 M)
    (K : ∀ y, zR G l (zMJ G hRow_coefficientOfProduct d Qn Qx mc ms) bc bs h 35 [some (.ref r1), some (.ref r2), some (zi (N : Int)), some (zi (zCf L M N (N + 1))), y] []) :
    ∀ (n : Nat) (m : Nat), N + 1 - m < n → m ≤ N + 1 →
      zR G l (zMJ G hRow_coefficientOfProduct d Qn Qx mc ms) bc bs h 5 [some (.ref r1), some (.ref r2), some (zi (N : Int)), some (zi (zCf L M N m)), some (zi (m : Int))] [] := by
  intro n
  induction n with
  | zero => intro m q1 q2; omega
  | succ n ih =>
  intro m q1 q2
  obtain ⟨f2, d1, d2, d3, d4, d5⟩ := id hm
  obtain ⟨f3, b1, b2, b3, b4, b5⟩ := id h1
  refine z_iload dRow_coefficientOfProduct_5 rfl ?_
  refine z_iload_n dRow_coefficientOfProduct_7 rfl ?_
  refine z_icmp_gt (tgt := 35) dRow_coefficientOfProduct_8 (by decide) (by omega) (by omega) (fun c8 => ?_) (fun c8 => ?_)
  · have em : m = N + 1 := by omega
    subst em
    exact K _
  · refine z_iload_n dRow_coefficientOfProduct_11 rfl ?_
    refine z_aload_n dRow_coefficientOfProduct_12 rfl ?_
    refine z_iload dRow_coefficientOfProduct_13 rfl ?_
    refine z_callV MV_Row_itemAt lk_Row_40 dRow_coefficientOfProduct_15 (k_Row_itemAt h1 (by omega)) rfl rfl (Nat.le_of_ble_eq_true rfl) rfl b1 (by show 3 ≤ d; omega) (by show 2 * 64 + 64 ≤ d * 64; omega) (Nat.le_of_eq (Nat.zero_add _)) (Nat.le_of_eq (Nat.zero_add _)) (fun _ _ q => q.elim) ?_
    rintro _ _ ⟨rfl, rfl⟩
    refine z_aload_n dRow_coefficientOfProduct_18 rfl ?_
    refine z_iload_n dRow_coefficientOfProduct_19 rfl ?_
    refine z_iload dRow_coefficientOfProduct_20 rfl ?_
    refine z_isub dRow_coefficientOfProduct_22 ?_
    refine z_callV MV_Row_itemAt lk_Row_40 dRow_coefficientOfProduct_23 (k_Row_itemAt hm (by omega)) rfl rfl (Nat.le_of_ble_eq_true rfl) rfl d1 (by show 3 ≤ d; omega) (by show 2 * 64 + 64 ≤ d * 64; omega) (Nat.le_of_eq (Nat.zero_add _)) (Nat.le_of_eq (Nat.zero_add _)) (fun _ _ q => q.elim) ?_
    rintro _ _ ⟨rfl, rfl⟩
    refine z_imul dRow_coefficientOfProduct_26 ?_
    refine z_iadd dRow_coefficientOfProduct_27 ?_
    refine z_istore_n dRow_coefficientOfProduct_28 (Nat.le_of_ble_eq_true rfl) ?_
    refine z_iinc dRow_coefficientOfProduct_29 rfl (Nat.le_of_ble_eq_true rfl) ?_
    refine z_goto (tgt := 5) dRow_coefficientOfProduct_32 (by decide) ?_
    exact ih (m + 1) (by omega) (by omega)
theorem k_Row_coef {r1 a1 r2 a2 N : Nat} {M : List Int} (h1 : zRow G h r1 a1 L) (hm : zRow G h r2 a2 M) (hN : N ≤ 16) : zM G l hRow_coefficientOfProduct yRow_coefficientOfProduct 3 [.ref r1, .ref r2, zi (N : Int)] h (fun v h' => v = some (zi (zCf L M N (N + 1))) ∧ h = h') zNo 0 0 := by
  refine zM.of [some (.ref r1), some (.ref r2), some (zi (N : Int)), none, none] (by decide +kernel) rfl (by decide) rfl (Nat.le_of_ble_eq_true rfl) rfl ?_
  refine z_iconst dRow_coefficientOfProduct_0 ?_
  refine z_istore_n dRow_coefficientOfProduct_1 (Nat.le_of_ble_eq_true rfl) ?_
  refine z_iconst dRow_coefficientOfProduct_2 ?_
  refine z_istore dRow_coefficientOfProduct_3 (Nat.le_of_ble_eq_true rfl) ?_
  refine l_Row_coef (by omega) hN h1 hm (fun y => ?_) 19 0 (by omega) (by omega)
  refine z_iload_n dRow_coefficientOfProduct_35 rfl ?_
  refine z_iret rfl rfl dRow_coefficientOfProduct_36 ?_
  exact ⟨rfl, rfl⟩
theorem zmul_in2 {u v : Int} (hu : zIn u) (hv : zIn v) : -99980001 ≤ u * v ∧ u * v ≤ 99980001 := by
  rcases Int.le_total 0 v with q | q
  · have h1 := Int.mul_le_mul_of_nonneg_right hu.1 q
    have h2 := Int.mul_le_mul_of_nonneg_right hu.2 q
    omega
  · have h1 := Int.mul_le_mul_of_nonpos_right hu.1 q
    have h2 := Int.mul_le_mul_of_nonpos_right hu.2 q
    omega
theorem zCf_in {L M : List Int} (p : Int) (hL : ∀ j, zIn (zAt L j)) (hM : ∀ j, zIn (zAt M j)) : ∀ n : Nat, -99980001 * (n : Int) ≤ zCf L M p n ∧ zCf L M p n ≤ 99980001 * (n : Int)
  | 0 => by simp [zCf]
  | n + 1 => by
    have h1 := zCf_in p hL hM n
    have h2 := zmul_in2 (hL n) (hM (p - n))
    unfold zCf
    omega
def zPn (L M : List Int) : Nat := if L.length = 0 ∨ M.length = 0 then 0 else L.length + M.length - 1
theorem l_Row_becomeProduct {d mc ms bc bs : Nat} {Qn : Option Value → zHp → Prop} {Qx : String → zHp → Prop} {r1 a1 r2 a2 N : Nat} {M : List Int} (hd : 4 ≤ d) (hN : N ≤ 16) (n1 : r1 ≠ r) (n2 : r1 ≠ a) (n3 : a1 ≠ r) (n4 : a1 ≠ a) (m1 : r2 ≠ r) (m2 : r2 ≠ a) (m3 : a2 ≠ r) (m4 : a2 ≠ a) (hl : zRow G h r1 a1 L) (hm : zRow G h r2 a2 M)
    (K1 : ∀ (h1 : zHp) y, (∀ j : Nat, j < N → zIn (zCf L M j (j + 1))) → zRow G h1 r a (zmk N (fun j => zCf L M j (j + 1))) → (∀ q, q ≠ r → q ≠ a → h1 q = h q) → zR G l (zMJ G hRow_becomeProduct d Qn Qx mc ms) bc bs h1 74 [some (.ref r), some (.ref r1), some (.ref r2), some (zi (N : Int)), y] [])
    (K2 : ∀ (h1 : zHp) y, ¬ (∀ j : Nat, j < N → zIn (zCf L M j (j + 1))) → (∃ L', zRow G h1 r a L') → (∀ q, q ≠ r → q ≠ a → h1 q = h q) → zR G l (zMJ G hRow_becomeProduct d Qn Qx mc ms) bc bs h1 66 [some (.ref r), some (.ref r1), some (.ref r2), some (zi (N : Int)), y] []) :
    ∀ (n : Nat) (m : Nat) (h1 : zHp), N - m < n → m ≤ N → (∀ j : Nat, j < m → zIn (zCf L M j (j + 1))) → zRow G h1 r a (zmk m (fun j => zCf L M j (j + 1))) → (∀ q, q ≠ r → q ≠ a → h1 q = h q) →
      zR G l (zMJ G hRow_becomeProduct d Qn Qx mc ms) bc bs h1 46 [some (.ref r), some (.ref r1), some (.ref r2), some (zi (N : Int)), some (zi (m : Int))] [] := by
  intro n
  induction n with
  | zero => intro m h1 q1 q2 q3 hr1 g2; omega
  | succ n ih =>
  intro m h1 q1 q2 q3 hr1 g2
  obtain ⟨f, e1, e2, e3, e4, e5⟩ := id hr1
  have hm1 : zRow G h1 r2 a2 M := hm.kept (g2 _ m1 m2) (g2 _ m3 m4)
  have hl1 : zRow G h1 r1 a1 L := hl.kept (g2 _ n1 n2) (g2 _ n3 n4)
  obtain ⟨f2, d1, d2, d3, d4, d5⟩ := id hm1
  obtain ⟨f3, b1, b2, b3, b4, b5⟩ := id hl1
  have hlen := zmk_len m (fun j => zCf L M j (j + 1))
  have hci := zCf_in (L := L) (M := M) m (zAt_in hl1) (zAt_in hm1) (m + 1)
  refine z_iload dRow_becomeProduct_46 rfl ?_
  refine z_iload_n dRow_becomeProduct_48 rfl ?_
  refine z_icmp_ge (tgt := 74) dRow_becomeProduct_49 (by decide) (by omega) (by omega) (fun c49 => ?_) (fun c49 => ?_)
  · have em : m = N := by omega
    subst em
    exact K1 h1 _ q3 hr1 g2
  · refine z_aload_n dRow_becomeProduct_52 rfl ?_
    refine z_aload_n dRow_becomeProduct_53 rfl ?_
    refine z_aload_n dRow_becomeProduct_54 rfl ?_
    refine z_iload dRow_becomeProduct_55 rfl ?_
    refine z_callS MS_Row_coefficientOfProduct lk_Row_74 dRow_becomeProduct_57 (k_Row_coef hl1 hm1 (by omega)) rfl rfl (Nat.le_of_ble_eq_true rfl) (by show 4 ≤ d; omega) (by show 3 * 64 + 64 ≤ d * 64; omega) (Nat.le_of_eq (Nat.zero_add _)) (Nat.le_of_eq (Nat.zero_add _)) (fun _ _ q => q.elim) ?_
    rintro _ _ ⟨rfl, rfl⟩
    refine z_callV MV_Row_addBehind lk_Row_64 dRow_becomeProduct_60 (k_Row_addBehind hr1 (by omega)) rfl rfl (Nat.le_of_ble_eq_true rfl) rfl e1 (by show 4 ≤ d; omega) (by show 3 * 64 + 64 ≤ d * 64; omega) (Nat.le_of_eq (Nat.zero_add _)) (Nat.le_of_eq (Nat.zero_add _)) (fun _ _ q => q.elim) ?_
    rintro _ h3 (⟨rfl, k4, k5, hr3, f3⟩ | ⟨rfl, k4, rfl⟩)
    · rw [← zmk_succ m (fun j => zCf L M j (j + 1))] at hr3
      refine z_if_ne (tgt := 68) dRow_becomeProduct_63 (by decide) (by omega) (fun c63 => ?_) (fun c63 => ?_)
      · refine z_iinc dRow_becomeProduct_68 rfl (Nat.le_of_ble_eq_true rfl) ?_
        refine z_goto (tgt := 46) dRow_becomeProduct_71 (by decide) ?_
        refine ih (m + 1) h3 (by omega) (by omega) (fun j hj => ?_) hr3 (fun q h4 h5 => (f3 q h4 h5).trans (g2 q h4 h5))
        rcases (show j < m ∨ j = m by omega) with e | e
        · exact q3 j e
        · rw [e]; exact k4
      · exact absurd c63 (by decide)
    · refine z_if_ne (tgt := 68) dRow_becomeProduct_63 (by decide) (by omega) (fun c63 => ?_) (fun c63 => ?_)
      · exact absurd rfl c63
      · exact K2 h1 _ (fun q => k4 ⟨q m (by omega), by omega⟩) ⟨_, hr1⟩ g2
theorem k_Row_becomeProduct {r1 a1 r2 a2 : Nat} {L0 M : List Int} (hr : zRow G h r a L0) (h1 : zRow G h r1 a1 L) (hm : zRow G h r2 a2 M) (n1 : r1 ≠ r) (n2 : a1 ≠ a) (n3 : r2 ≠ r) (n4 : a2 ≠ a) : zM G l hRow_becomeProduct yRow_becomeProduct 4 [.ref r, .ref r1, .ref r2] h (fun v h' => (v = some (zi 1) ∧ (zPn L M ≤ 16 ∧ ∀ j : Nat, j < zPn L M → zIn (zCf L M j (j + 1))) ∧ zRow G h' r a (zmk (zPn L M) (fun j => zCf L M j (j + 1))) ∧ ∀ q, q ≠ r → q ≠ a → h' q = h q) ∨ (v = some (zi 0) ∧ ¬ (zPn L M ≤ 16 ∧ ∀ j : Nat, j < zPn L M → zIn (zCf L M j (j + 1))) ∧ (∃ L', zRow G h' r a L') ∧ ∀ q, q ≠ r → q ≠ a → h' q = h q)) zNo 0 0 := by
  obtain ⟨f, e1, e2, e3, e4, e5⟩ := id hr
  obtain ⟨m1, m2⟩ := hr.apart h1
  obtain ⟨m3, m4⟩ := hr.apart hm
  refine zM.of [some (.ref r), some (.ref r1), some (.ref r2), none, none] (by decide +kernel) rfl (by decide) rfl (Nat.le_of_ble_eq_true rfl) rfl ?_
  refine z_aload_n dRow_becomeProduct_0 rfl ?_
  refine z_iconst dRow_becomeProduct_1 ?_
  refine z_put (k := 1) fd_Row (by decide) fl_Row_15 rfl dRow_becomeProduct_2 e1 (by simp) rfl rfl ?_
  have hr0 := hr.cleared
  have g0 : ∀ q, q ≠ r → q ≠ a → zup h r (some (.inr (zkRow, [.ref a, zi 0]))) q = h q := fun q h1 h2 => zup_ne h1
  change zR G l _ 0 0 (zup h r (some (.inr (zkRow, [.ref a, zi 0])))) _ _ _
  generalize zup h r (some (.inr (zkRow, [.ref a, zi 0]))) = h0 at *
  have h1 : zRow G h0 r1 a1 L := h1.kept (g0 _ n1 m1) (g0 _ m2 n2)
  have hm : zRow G h0 r2 a2 M := hm.kept (g0 _ n3 m3) (g0 _ m4 n4)
  obtain ⟨f2, d1, d2, d3, d4, d5⟩ := id h1
  obtain ⟨f3, b1, b2, b3, b4, b5⟩ := id hm
  refine z_aload_n dRow_becomeProduct_5 rfl ?_
  refine z_get (k := 1) fd_Row (by decide) fl_Row_15 dRow_becomeProduct_6 d1 (by rfl) ?_
  refine z_if_eq (tgt := 19) dRow_becomeProduct_9 (by decide) (by omega) (fun c9 => ?_) (fun c9 => ?_)
  · refine z_iconst dRow_becomeProduct_19 ?_
    refine z_goto (tgt := 34) dRow_becomeProduct_20 (by decide) ?_
    first
      | (obtain ⟨v, hv⟩ : ∃ v : Int, v = (L.length : Int) + M.length - 1 := ⟨_, rfl⟩
         rw [← hv]
         have hN : v = (zPn L M : Int) := by unfold zPn; rw [if_neg (by omega)]; omega
         rw [hN]
         have hpl : zPn L M ≤ 32 := by unfold zPn; split <;> omega
         refine z_istore_n dRow_becomeProduct_34 (Nat.le_of_ble_eq_true rfl) ?_
         refine z_iload_n dRow_becomeProduct_35 rfl ?_
         refine z_bipush dRow_becomeProduct_36 rfl ?_
         refine z_icmp_le (tgt := 43) dRow_becomeProduct_38 (by decide) (by omega) (by omega) (fun c38 => ?_) (fun c38 => ?_)
         · refine z_iconst dRow_becomeProduct_43 ?_
           refine z_istore dRow_becomeProduct_44 (Nat.le_of_ble_eq_true rfl) ?_
           refine l_Row_becomeProduct (h := h0) (N := zPn L M) (by omega) (by omega) n1 m1 m2 n2 n3 m3 m4 n4 h1 hm (fun h5 y c1 hr5 f5 => ?_) (fun h5 y c1 hr5 f5 => ?_) 17 0 h0 (by omega) (by omega) (fun j hj => absurd hj (by omega)) hr0 (fun _ _ _ => rfl)
           · refine z_iconst dRow_becomeProduct_74 ?_
             refine z_iret rfl rfl dRow_becomeProduct_75 ?_
             exact Or.inl ⟨rfl, ⟨by omega, c1⟩, hr5, fun q h6 h7 => (f5 q h6 h7).trans (g0 q h6 h7)⟩
           · refine z_iconst dRow_becomeProduct_66 ?_
             refine z_iret rfl rfl dRow_becomeProduct_67 ?_
             exact Or.inr ⟨rfl, fun q => c1 q.2, hr5, fun q h6 h7 => (f5 q h6 h7).trans (g0 q h6 h7)⟩
         · refine z_iconst dRow_becomeProduct_41 ?_
           refine z_iret rfl rfl dRow_becomeProduct_42 ?_
           exact Or.inr ⟨rfl, fun q => by have := q.1; omega, ⟨_, hr0⟩, g0⟩
         done)
      | (have hN : zPn L M = 0 := by unfold zPn; rw [if_pos (by omega)]
         rw [hN]
         refine z_istore_n dRow_becomeProduct_34 (Nat.le_of_ble_eq_true rfl) ?_
         refine z_iload_n dRow_becomeProduct_35 rfl ?_
         refine z_bipush dRow_becomeProduct_36 rfl ?_
         refine z_icmp_le (tgt := 43) dRow_becomeProduct_38 (by decide) (by omega) (by omega) (fun c38 => ?_) (fun c38 => ?_)
         · refine z_iconst dRow_becomeProduct_43 ?_
           refine z_istore dRow_becomeProduct_44 (Nat.le_of_ble_eq_true rfl) ?_
           refine l_Row_becomeProduct (h := h0) (N := 0) (by omega) (by omega) n1 m1 m2 n2 n3 m3 m4 n4 h1 hm (fun h5 y c1 hr5 f5 => ?_) (fun h5 y c1 hr5 f5 => ?_) 17 0 h0 (by omega) (by omega) (fun j hj => absurd hj (by omega)) hr0 (fun _ _ _ => rfl)
           · refine z_iconst dRow_becomeProduct_74 ?_
             refine z_iret rfl rfl dRow_becomeProduct_75 ?_
             exact Or.inl ⟨rfl, ⟨by omega, c1⟩, hr5, fun q h6 h7 => (f5 q h6 h7).trans (g0 q h6 h7)⟩
           · refine z_iconst dRow_becomeProduct_66 ?_
             refine z_iret rfl rfl dRow_becomeProduct_67 ?_
             exact Or.inr ⟨rfl, fun q => c1 q.2, hr5, fun q h6 h7 => (f5 q h6 h7).trans (g0 q h6 h7)⟩
         · refine z_iconst dRow_becomeProduct_41 ?_
           refine z_iret rfl rfl dRow_becomeProduct_42 ?_
           exact Or.inr ⟨rfl, fun q => by have := q.1; omega, ⟨_, hr0⟩, g0⟩
         done)
  · refine z_aload_n dRow_becomeProduct_12 rfl ?_
    refine z_get (k := 1) fd_Row (by decide) fl_Row_15 dRow_becomeProduct_13 b1 (by rfl) ?_
    refine z_if_ne (tgt := 23) dRow_becomeProduct_16 (by decide) (by omega) (fun c16 => ?_) (fun c16 => ?_)
    · refine z_aload_n dRow_becomeProduct_23 rfl ?_
      refine z_get (k := 1) fd_Row (by decide) fl_Row_15 dRow_becomeProduct_24 d1 (by rfl) ?_
      refine z_aload_n dRow_becomeProduct_27 rfl ?_
      refine z_get (k := 1) fd_Row (by decide) fl_Row_15 dRow_becomeProduct_28 b1 (by rfl) ?_
      refine z_iadd dRow_becomeProduct_31 ?_
      refine z_iconst dRow_becomeProduct_32 ?_
      refine z_isub dRow_becomeProduct_33 ?_
      first
        | (obtain ⟨v, hv⟩ : ∃ v : Int, v = (L.length : Int) + M.length - 1 := ⟨_, rfl⟩
           rw [← hv]
           have hN : v = (zPn L M : Int) := by unfold zPn; rw [if_neg (by omega)]; omega
           rw [hN]
           have hpl : zPn L M ≤ 32 := by unfold zPn; split <;> omega
           refine z_istore_n dRow_becomeProduct_34 (Nat.le_of_ble_eq_true rfl) ?_
           refine z_iload_n dRow_becomeProduct_35 rfl ?_
           refine z_bipush dRow_becomeProduct_36 rfl ?_
           refine z_icmp_le (tgt := 43) dRow_becomeProduct_38 (by decide) (by omega) (by omega) (fun c38 => ?_) (fun c38 => ?_)
           · refine z_iconst dRow_becomeProduct_43 ?_
             refine z_istore dRow_becomeProduct_44 (Nat.le_of_ble_eq_true rfl) ?_
             refine l_Row_becomeProduct (h := h0) (N := zPn L M) (by omega) (by omega) n1 m1 m2 n2 n3 m3 m4 n4 h1 hm (fun h5 y c1 hr5 f5 => ?_) (fun h5 y c1 hr5 f5 => ?_) 17 0 h0 (by omega) (by omega) (fun j hj => absurd hj (by omega)) hr0 (fun _ _ _ => rfl)
             · refine z_iconst dRow_becomeProduct_74 ?_
               refine z_iret rfl rfl dRow_becomeProduct_75 ?_
               exact Or.inl ⟨rfl, ⟨by omega, c1⟩, hr5, fun q h6 h7 => (f5 q h6 h7).trans (g0 q h6 h7)⟩
             · refine z_iconst dRow_becomeProduct_66 ?_
               refine z_iret rfl rfl dRow_becomeProduct_67 ?_
               exact Or.inr ⟨rfl, fun q => c1 q.2, hr5, fun q h6 h7 => (f5 q h6 h7).trans (g0 q h6 h7)⟩
           · refine z_iconst dRow_becomeProduct_41 ?_
             refine z_iret rfl rfl dRow_becomeProduct_42 ?_
             exact Or.inr ⟨rfl, fun q => by have := q.1; omega, ⟨_, hr0⟩, g0⟩
           done)
        | (have hN : zPn L M = 0 := by unfold zPn; rw [if_pos (by omega)]
           rw [hN]
           refine z_istore_n dRow_becomeProduct_34 (Nat.le_of_ble_eq_true rfl) ?_
           refine z_iload_n dRow_becomeProduct_35 rfl ?_
           refine z_bipush dRow_becomeProduct_36 rfl ?_
           refine z_icmp_le (tgt := 43) dRow_becomeProduct_38 (by decide) (by omega) (by omega) (fun c38 => ?_) (fun c38 => ?_)
           · refine z_iconst dRow_becomeProduct_43 ?_
             refine z_istore dRow_becomeProduct_44 (Nat.le_of_ble_eq_true rfl) ?_
             refine l_Row_becomeProduct (h := h0) (N := 0) (by omega) (by omega) n1 m1 m2 n2 n3 m3 m4 n4 h1 hm (fun h5 y c1 hr5 f5 => ?_) (fun h5 y c1 hr5 f5 => ?_) 17 0 h0 (by omega) (by omega) (fun j hj => absurd hj (by omega)) hr0 (fun _ _ _ => rfl)
             · refine z_iconst dRow_becomeProduct_74 ?_
               refine z_iret rfl rfl dRow_becomeProduct_75 ?_
               exact Or.inl ⟨rfl, ⟨by omega, c1⟩, hr5, fun q h6 h7 => (f5 q h6 h7).trans (g0 q h6 h7)⟩
             · refine z_iconst dRow_becomeProduct_66 ?_
               refine z_iret rfl rfl dRow_becomeProduct_67 ?_
               exact Or.inr ⟨rfl, fun q => c1 q.2, hr5, fun q h6 h7 => (f5 q h6 h7).trans (g0 q h6 h7)⟩
           · refine z_iconst dRow_becomeProduct_41 ?_
             refine z_iret rfl rfl dRow_becomeProduct_42 ?_
             exact Or.inr ⟨rfl, fun q => by have := q.1; omega, ⟨_, hr0⟩, g0⟩
           done)
    · refine z_iconst dRow_becomeProduct_19 ?_
      refine z_goto (tgt := 34) dRow_becomeProduct_20 (by decide) ?_
      first
        | (obtain ⟨v, hv⟩ : ∃ v : Int, v = (L.length : Int) + M.length - 1 := ⟨_, rfl⟩
           rw [← hv]
           have hN : v = (zPn L M : Int) := by unfold zPn; rw [if_neg (by omega)]; omega
           rw [hN]
           have hpl : zPn L M ≤ 32 := by unfold zPn; split <;> omega
           refine z_istore_n dRow_becomeProduct_34 (Nat.le_of_ble_eq_true rfl) ?_
           refine z_iload_n dRow_becomeProduct_35 rfl ?_
           refine z_bipush dRow_becomeProduct_36 rfl ?_
           refine z_icmp_le (tgt := 43) dRow_becomeProduct_38 (by decide) (by omega) (by omega) (fun c38 => ?_) (fun c38 => ?_)
           · refine z_iconst dRow_becomeProduct_43 ?_
             refine z_istore dRow_becomeProduct_44 (Nat.le_of_ble_eq_true rfl) ?_
             refine l_Row_becomeProduct (h := h0) (N := zPn L M) (by omega) (by omega) n1 m1 m2 n2 n3 m3 m4 n4 h1 hm (fun h5 y c1 hr5 f5 => ?_) (fun h5 y c1 hr5 f5 => ?_) 17 0 h0 (by omega) (by omega) (fun j hj => absurd hj (by omega)) hr0 (fun _ _ _ => rfl)
             · refine z_iconst dRow_becomeProduct_74 ?_
               refine z_iret rfl rfl dRow_becomeProduct_75 ?_
               exact Or.inl ⟨rfl, ⟨by omega, c1⟩, hr5, fun q h6 h7 => (f5 q h6 h7).trans (g0 q h6 h7)⟩
             · refine z_iconst dRow_becomeProduct_66 ?_
               refine z_iret rfl rfl dRow_becomeProduct_67 ?_
               exact Or.inr ⟨rfl, fun q => c1 q.2, hr5, fun q h6 h7 => (f5 q h6 h7).trans (g0 q h6 h7)⟩
           · refine z_iconst dRow_becomeProduct_41 ?_
             refine z_iret rfl rfl dRow_becomeProduct_42 ?_
             exact Or.inr ⟨rfl, fun q => by have := q.1; omega, ⟨_, hr0⟩, g0⟩
           done)
        | (have hN : zPn L M = 0 := by unfold zPn; rw [if_pos (by omega)]
           rw [hN]
           refine z_istore_n dRow_becomeProduct_34 (Nat.le_of_ble_eq_true rfl) ?_
           refine z_iload_n dRow_becomeProduct_35 rfl ?_
           refine z_bipush dRow_becomeProduct_36 rfl ?_
           refine z_icmp_le (tgt := 43) dRow_becomeProduct_38 (by decide) (by omega) (by omega) (fun c38 => ?_) (fun c38 => ?_)
           · refine z_iconst dRow_becomeProduct_43 ?_
             refine z_istore dRow_becomeProduct_44 (Nat.le_of_ble_eq_true rfl) ?_
             refine l_Row_becomeProduct (h := h0) (N := 0) (by omega) (by omega) n1 m1 m2 n2 n3 m3 m4 n4 h1 hm (fun h5 y c1 hr5 f5 => ?_) (fun h5 y c1 hr5 f5 => ?_) 17 0 h0 (by omega) (by omega) (fun j hj => absurd hj (by omega)) hr0 (fun _ _ _ => rfl)
             · refine z_iconst dRow_becomeProduct_74 ?_
               refine z_iret rfl rfl dRow_becomeProduct_75 ?_
               exact Or.inl ⟨rfl, ⟨by omega, c1⟩, hr5, fun q h6 h7 => (f5 q h6 h7).trans (g0 q h6 h7)⟩
             · refine z_iconst dRow_becomeProduct_66 ?_
               refine z_iret rfl rfl dRow_becomeProduct_67 ?_
               exact Or.inr ⟨rfl, fun q => c1 q.2, hr5, fun q h6 h7 => (f5 q h6 h7).trans (g0 q h6 h7)⟩
           · refine z_iconst dRow_becomeProduct_41 ?_
             refine z_iret rfl rfl dRow_becomeProduct_42 ?_
             exact Or.inr ⟨rfl, fun q => by have := q.1; omega, ⟨_, hr0⟩, g0⟩
           done)
end ROW5
end
section
/-! ===== what a throw asks of the tables ===== -/
abbrev zE1 : String := "java/lang/IndexOutOfBoundsException"
abbrev zE2 : String := "java/lang/IllegalArgumentException"
abbrev zE3 : String := "java/lang/IllegalStateException"
theorem tw_185 : (∀ w ∈ vx_atS RCls 185 zE2 ["java/lang/RuntimeException", "java/lang/Exception"], w ∈ lw_tbl) ∧ (∀ w ∈ vx_atS RCls 185 zE2 ["java/lang/RuntimeException", "java/lang/Exception"], goodWord w = true ∨ zIsN w = true) ∧ (∀ w ∈ Cond.classLink RCls 181 zE2 :: Cond.initialized zE2 :: vx_atS RCls 185 zE2 ["java/lang/RuntimeException", "java/lang/Exception"], vx_ot w = true) ∧ Bundle.fit zE2 = true ∧ (∀ n ∈ (["java/lang/RuntimeException", "java/lang/Exception"] : List String), Bundle.fit n = true) := ⟨by decide +kernel, by decide +kernel, by decide +kernel, by decide +kernel, by decide +kernel⟩
theorem tw_306 : (∀ w ∈ vx_atS RCls 306 zE1 ["java/lang/RuntimeException", "java/lang/Exception"], w ∈ lw_tbl) ∧ (∀ w ∈ vx_atS RCls 306 zE1 ["java/lang/RuntimeException", "java/lang/Exception"], goodWord w = true ∨ zIsN w = true) ∧ (∀ w ∈ Cond.classLink RCls 302 zE1 :: Cond.initialized zE1 :: vx_atS RCls 306 zE1 ["java/lang/RuntimeException", "java/lang/Exception"], vx_ot w = true) ∧ Bundle.fit zE1 = true ∧ (∀ n ∈ (["java/lang/RuntimeException", "java/lang/Exception"] : List String), Bundle.fit n = true) := ⟨by decide +kernel, by decide +kernel, by decide +kernel, by decide +kernel, by decide +kernel⟩
theorem tw_222 : (∀ w ∈ vx_atS RCls 222 zE3 ["java/lang/RuntimeException", "java/lang/Exception"], w ∈ lw_tbl) ∧ (∀ w ∈ vx_atS RCls 222 zE3 ["java/lang/RuntimeException", "java/lang/Exception"], goodWord w = true ∨ zIsN w = true) ∧ (∀ w ∈ Cond.classLink RCls 218 zE3 :: Cond.initialized zE3 :: vx_atS RCls 222 zE3 ["java/lang/RuntimeException", "java/lang/Exception"], vx_ot w = true) ∧ Bundle.fit zE3 = true ∧ (∀ n ∈ (["java/lang/RuntimeException", "java/lang/Exception"] : List String), Bundle.fit n = true) := ⟨by decide +kernel, by decide +kernel, by decide +kernel, by decide +kernel, by decide +kernel⟩
end
section
/-! ===== the state, and the class's cells ===== -/
/-- the lists; the cursors (there, stale, list, index, last); the keys' order; what was asked; paid, refusals, knocks -/
abbrev zSt : Type := (Nat → List Int) × (Nat → Nat → Int) × List Int × List Int × (Nat → Int)
abbrev zRes : Type := (Int ⊕ String) × zSt
def zsL (S : zSt) (k : Nat) (L : List Int) : zSt := (zup S.1 k L, S.2)
def zsC (S : zSt) (cu : Nat → Nat → Int) : zSt := (S.1, cu, S.2.2)
def zsN (S : zSt) (k : Nat) (x : Int) : zSt := (S.1, S.2.1, S.2.2.1, S.2.2.2.1, zup S.2.2.2.2 k x)
/-- the cursors over list k go stale, but one -/
def zsSt9 (S : zSt) (k but : Int) (m : Nat) : zSt := zsC S (fun c f => if c < m ∧ f = 1 ∧ S.2.1 c 0 = 1 ∧ S.2.1 c 2 = k ∧ (c : Int) ≠ but then 1 else S.2.1 c f)
def zsStale (S : zSt) (k but : Int) : zSt := zsSt9 S k but 3
def zsRef (S : zSt) : zSt := zsN S 1 (S.2.2.2.2 1 + 1)
def zLastOf (A : List Int) : Int := if A.length = 0 then -1 else A.getD (A.length - 1) 0
def zCnt (A : List Int) (k : Int) : Nat := A.countP (fun y => decide (y = k))
abbrev zI32 (x : Int) : Prop := -2147483648 ≤ x ∧ x ≤ 2147483647
/-- a cursor's cell: while it isn't there, what it holds matters to nobody -/
def zCurAt (h : zHp) (a : Nat) (cu : Nat → Int) : Prop := ∃ st li ix la : Int, h a = some (.inr (zkCur, [zi (cu 0), zi st, zi li, zi ix, zi la])) ∧ (cu 0 = 0 ∨ cu 0 = 1) ∧ (st = 0 ∨ st = 1) ∧ zI32 li ∧ zI32 ix ∧ zI32 la ∧ (cu 0 = 1 → st = cu 1 ∧ li = cu 2 ∧ ix = cu 3 ∧ la = cu 4)
def zCls (G : zG) (h : zHp) (ad : Nat → Nat) (S : zSt) : Prop :=
  (∀ i j, i < 20 → j < 20 → ad i = ad j → i = j) ∧
  h (ad 0) = some (.inr (zkCls, [.ref (ad 1), .ref (ad 2), .ref (ad 3), .ref (ad 16), zi (S.2.2.2.2 1), zi (S.2.2.2.2 2)])) ∧
  (∃ g, h (ad 1) = some (zRefs G 5 4 g) ∧ ∀ k, k < 4 → g k = some (ad (8 + 2 * k))) ∧
  (∃ g, h (ad 2) = some (zRefs G 6 3 g) ∧ ∀ c, c < 3 → g c = some (ad (5 + c))) ∧
  h (ad 3) = some (.inr (zkRec, [.ref (ad 18), .ref (ad 4), zi (S.2.2.2.1.length : Int), zi (S.2.2.2.2 0), zi (zLastOf S.2.2.2.1)])) ∧
  (∃ T, h (ad 4) = some (zInts G 8 T) ∧ ∀ k : Nat, k < 8 → T k = (zCnt S.2.2.2.1 k : Int)) ∧
  (∀ c, c < 3 → zCurAt h (ad (5 + c)) (S.2.1 c)) ∧
  (∀ k, k < 4 → zRow G h (ad (8 + 2 * k)) (ad (9 + 2 * k)) (S.1 k)) ∧
  (∃ R, zRow G h (ad 16) (ad 17) R) ∧ zRow G h (ad 18) (ad 19) S.2.2.1
def zFrm (ad : Nat → Nat) (h h' : zHp) : Prop := ∀ q, (∀ i, i < 20 → q ≠ ad i) → h' q = h q
theorem zFrm.rf {ad : Nat → Nat} {h : zHp} : zFrm ad h h := fun _ _ => rfl
theorem zFrm.tr {ad : Nat → Nat} {h h' h'' : zHp} (a : zFrm ad h h') (b : zFrm ad h' h'') : zFrm ad h h'' := fun q hq => (b q hq).trans (a q hq)
theorem zFrm.of2 {ad : Nat → Nat} {h h' : zHp} {i j : Nat} (hi : i < 20) (hj : j < 20) (H : ∀ q, q ≠ ad i → q ≠ ad j → h' q = h q) : zFrm ad h h' := fun q hq => H q (hq i hi) (hq j hj)
theorem zFrm.of1 {ad : Nat → Nat} {h h' : zHp} {i : Nat} (hi : i < 20) (H : ∀ q, q ≠ ad i → h' q = h q) : zFrm ad h h' := fun q hq => H q (hq i hi)
section CLS
variable {G : zG} {l : Launch} {h h' : zHp} {ad : Nat → Nat} {S : zSt}
theorem zCurAt.kept {a : Nat} {cu : Nat → Int} (H : zCurAt h a cu) (e : h' a = h a) : zCurAt h' a cu := by
  obtain ⟨st, li, ix, la, e1, e2⟩ := H
  exact ⟨st, li, ix, la, e.trans e1, e2⟩
theorem zCls.row {k : Nat} {L : List Int} (hC : zCls G h ad S) (hk : k < 4) (hr : zRow G h' (ad (8 + 2 * k)) (ad (9 + 2 * k)) L) (hf : ∀ q, q ≠ ad (8 + 2 * k) → q ≠ ad (9 + 2 * k) → h' q = h q) : zCls G h' ad (zsL S k L) := by
  obtain ⟨c1, c2, ⟨g3, c3, d3⟩, ⟨g4, c4, d4⟩, c5, ⟨T, c6, d6⟩, c7, c8, ⟨R, c9⟩, c10⟩ := hC
  have ne : ∀ i j, i < 20 → j < 20 → i ≠ j → ad i ≠ ad j := fun i j hi hj hne e => hne (c1 i j hi hj e)
  have kp : ∀ i, i < 20 → i ≠ 8 + 2 * k → i ≠ 9 + 2 * k → h' (ad i) = h (ad i) := fun i hi h1 h2 => hf _ (ne _ _ hi (by omega) h1) (ne _ _ hi (by omega) h2)
  refine ⟨c1, (kp 0 (by omega) (by omega) (by omega)).trans c2, ⟨g3, (kp 1 (by omega) (by omega) (by omega)).trans c3, d3⟩, ⟨g4, (kp 2 (by omega) (by omega) (by omega)).trans c4, d4⟩, (kp 3 (by omega) (by omega) (by omega)).trans c5, ⟨T, (kp 4 (by omega) (by omega) (by omega)).trans c6, d6⟩, fun c hc => (c7 c hc).kept (kp _ (by omega) (by omega) (by omega)), fun j hj => ?_, ⟨R, c9.kept (kp 16 (by omega) (by omega) (by omega)) (kp 17 (by omega) (by omega) (by omega))⟩, c10.kept (kp 18 (by omega) (by omega) (by omega)) (kp 19 (by omega) (by omega) (by omega))⟩
  show zRow G h' _ _ (zup S.1 k L j)
  by_cases e : j = k
  · subst e
    rw [zup_same]
    exact hr
  · rw [zup_ne e]
    exact (c8 j hj).kept (kp _ (by omega) (by omega) (by omega)) (kp _ (by omega) (by omega) (by omega))
theorem zCls.res {R' : List Int} (hC : zCls G h ad S) (hr : zRow G h' (ad 16) (ad 17) R') (hf : ∀ q, q ≠ ad 16 → q ≠ ad 17 → h' q = h q) : zCls G h' ad S := by
  obtain ⟨c1, c2, ⟨g3, c3, d3⟩, ⟨g4, c4, d4⟩, c5, ⟨T, c6, d6⟩, c7, c8, ⟨R, c9⟩, c10⟩ := hC
  have ne : ∀ i j, i < 20 → j < 20 → i ≠ j → ad i ≠ ad j := fun i j hi hj hne e => hne (c1 i j hi hj e)
  have kp : ∀ i, i < 20 → i ≠ 16 → i ≠ 17 → h' (ad i) = h (ad i) := fun i hi h1 h2 => hf _ (ne _ _ hi (by omega) h1) (ne _ _ hi (by omega) h2)
  exact ⟨c1, (kp 0 (by omega) (by omega) (by omega)).trans c2, ⟨g3, (kp 1 (by omega) (by omega) (by omega)).trans c3, d3⟩, ⟨g4, (kp 2 (by omega) (by omega) (by omega)).trans c4, d4⟩, (kp 3 (by omega) (by omega) (by omega)).trans c5, ⟨T, (kp 4 (by omega) (by omega) (by omega)).trans c6, d6⟩, fun c hc => (c7 c hc).kept (kp _ (by omega) (by omega) (by omega)), fun j hj => (c8 j hj).kept (kp _ (by omega) (by omega) (by omega)) (kp _ (by omega) (by omega) (by omega)), ⟨R', hr⟩, c10.kept (kp 18 (by omega) (by omega) (by omega)) (kp 19 (by omega) (by omega) (by omega))⟩
theorem zCls.cur {c : Nat} {cu : Nat → Nat → Int} (hC : zCls G h ad S) (hc : c < 3) (hr : zCurAt h' (ad (5 + c)) (cu c)) (ho : ∀ j, j ≠ c → cu j = S.2.1 j) (hf : ∀ q, q ≠ ad (5 + c) → h' q = h q) : zCls G h' ad (zsC S cu) := by
  obtain ⟨c1, c2, ⟨g3, c3, d3⟩, ⟨g4, c4, d4⟩, c5, ⟨T, c6, d6⟩, c7, c8, ⟨R, c9⟩, c10⟩ := hC
  have ne : ∀ i j, i < 20 → j < 20 → i ≠ j → ad i ≠ ad j := fun i j hi hj hne e => hne (c1 i j hi hj e)
  have kp : ∀ i, i < 20 → i ≠ 5 + c → h' (ad i) = h (ad i) := fun i hi h1 => hf _ (ne _ _ hi (by omega) h1)
  refine ⟨c1, (kp 0 (by omega) (by omega)).trans c2, ⟨g3, (kp 1 (by omega) (by omega)).trans c3, d3⟩, ⟨g4, (kp 2 (by omega) (by omega)).trans c4, d4⟩, (kp 3 (by omega) (by omega)).trans c5, ⟨T, (kp 4 (by omega) (by omega)).trans c6, d6⟩, fun j hj => ?_, fun j hj => (c8 j hj).kept (kp _ (by omega) (by omega)) (kp _ (by omega) (by omega)), ⟨R, c9.kept (kp 16 (by omega) (by omega)) (kp 17 (by omega) (by omega))⟩, c10.kept (kp 18 (by omega) (by omega)) (kp 19 (by omega) (by omega))⟩
  show zCurAt h' _ (cu j)
  by_cases e : j = c
  · subst e
    exact hr
  · rw [ho j e]
    exact (c7 j hj).kept (kp _ (by omega) (by omega))
theorem zCls.obj {x y : Int} (hC : zCls G h ad S) (hr : h' (ad 0) = some (.inr (zkCls, [.ref (ad 1), .ref (ad 2), .ref (ad 3), .ref (ad 16), zi x, zi y]))) (hf : ∀ q, q ≠ ad 0 → h' q = h q) : zCls G h' ad (zsN (zsN S 1 x) 2 y) := by
  obtain ⟨c1, c2, ⟨g3, c3, d3⟩, ⟨g4, c4, d4⟩, c5, ⟨T, c6, d6⟩, c7, c8, ⟨R, c9⟩, c10⟩ := hC
  have ne : ∀ i j, i < 20 → j < 20 → i ≠ j → ad i ≠ ad j := fun i j hi hj hne e => hne (c1 i j hi hj e)
  have kp : ∀ i, i < 20 → i ≠ 0 → h' (ad i) = h (ad i) := fun i hi h1 => hf _ (ne _ _ hi (by omega) h1)
  exact ⟨c1, hr, ⟨g3, (kp 1 (by omega) (by omega)).trans c3, d3⟩, ⟨g4, (kp 2 (by omega) (by omega)).trans c4, d4⟩, (kp 3 (by omega) (by omega)).trans c5, ⟨T, (kp 4 (by omega) (by omega)).trans c6, d6⟩, fun c hc => (c7 c hc).kept (kp _ (by omega) (by omega)), fun j hj => (c8 j hj).kept (kp _ (by omega) (by omega)) (kp _ (by omega) (by omega)), ⟨R, c9.kept (kp 16 (by omega) (by omega)) (kp 17 (by omega) (by omega))⟩, c10.kept (kp 18 (by omega) (by omega)) (kp 19 (by omega) (by omega))⟩
theorem zCls.inj (hC : zCls G h ad S) {i j : Nat} (hi : i < 20) (hj : j < 20) (hne : i ≠ j) : ad i ≠ ad j := fun e => hne (hC.1 i j hi hj e)
theorem zCls.ls (hC : zCls G h ad S) {k : Nat} (hk : k < 4) : zRow G h (ad (8 + 2 * k)) (ad (9 + 2 * k)) (S.1 k) := hC.2.2.2.2.2.2.2.1 k hk
theorem zCls.cs (hC : zCls G h ad S) {c : Nat} (hc : c < 3) : zCurAt h (ad (5 + c)) (S.2.1 c) := hC.2.2.2.2.2.2.1 c hc
def zQc (G : zG) (ad : Nat → Nat) (h : zHp) (r : zRes) : Option Value → zHp → Prop := fun v h' => ∃ z S', r = (.inl z, S') ∧ v = some (zi z) ∧ zCls G h' ad S' ∧ zFrm ad h h'
def zXc (G : zG) (ad : Nat → Nat) (h : zHp) (r : zRes) : String → zHp → Prop := fun E h' => ∃ S', r = (.inr E, S') ∧ zCls G h' ad S' ∧ zFrm ad h h'
theorem k_Cls_refuse (hC : zCls G h ad S) : zM G l hCls_refuse yCls_refuse 1 [.ref (ad 0)] h (fun v h' => v = some (zi (-1000009)) ∧ zCls G h' ad (zsRef S) ∧ zFrm ad h h') zNo 0 0 := by
  obtain ⟨c1, c2, ⟨g3, c3, d3⟩, ⟨g4, c4, d4⟩, c5, ⟨T6, c6, d6⟩, c7, c8, ⟨R9, c9⟩, c10⟩ := id hC
  refine zM.of [some (.ref (ad 0))] (by decide +kernel) rfl (by decide) rfl (Nat.le_of_ble_eq_true rfl) rfl ?_
  refine z_aload_n dCls_refuse_0 rfl ?_
  refine z_dup rfl dCls_refuse_1 ?_
  refine z_get (k := 4) fd_Cls (by decide) fl_Cls_259 dCls_refuse_2 (by assumption) (by rfl) ?_
  refine z_iconst dCls_refuse_5 ?_
  refine z_iadd dCls_refuse_6 ?_
  refine z_put (k := 4) fd_Cls (by decide) fl_Cls_259 rfl dCls_refuse_7 (by assumption) (by simp) rfl rfl ?_
  refine z_ldcw (v := (-1000009 : Int32)) dCls_refuse_10 (-1000009) (by decide) ct_Cls_324 ?_
  refine z_iret rfl rfl dCls_refuse_13 ?_
  refine ⟨rfl, ?_, zFrm.of1 (i := 0) (by omega) (fun q hq => zup_ne hq)⟩
  have := hC.obj (h' := zup h (ad 0) (some (.inr (zkCls, [.ref (ad 1), .ref (ad 2), .ref (ad 3), .ref (ad 16), zi (S.2.2.2.2 1 + 1), zi (S.2.2.2.2 2)])))) (x := S.2.2.2.2 1 + 1) (y := S.2.2.2.2 2) (zup_same _ _ _) (fun q hq => zup_ne hq)
  have e : zsN (zsN S 1 (S.2.2.2.2 1 + 1)) 2 (S.2.2.2.2 2) = zsRef S := by
    unfold zsRef zsN
    have e9 : zup (zup S.2.2.2.2 1 (S.2.2.2.2 1 + 1)) 2 (S.2.2.2.2 2) = zup S.2.2.2.2 1 (S.2.2.2.2 1 + 1) := by
      funext j
      by_cases e8 : j = 2
      · subst e8
        rfl
      · exact zup_ne e8
    rw [e9]
  rw [e] at this
  exact this
theorem k_Cls_listAt {p : Int} (hC : zCls G h ad S) (hp : zI32 p) : zM G l hCls_listAt yCls_listAt 7 [.ref (ad 0), zi p] h (fun v h' => v = some (.ref (ad (8 + 2 * p.toNat))) ∧ 0 ≤ p ∧ p < 4 ∧ h = h') (fun E h' => E = zE1 ∧ ¬ (0 ≤ p ∧ p < 4) ∧ h = h') 1 6 := by
  obtain ⟨c1, c2, ⟨g3, c3, d3⟩, ⟨g4, c4, d4⟩, c5, ⟨T6, c6, d6⟩, c7, c8, ⟨R9, c9⟩, c10⟩ := id hC
  refine zM.of [some (.ref (ad 0)), some (zi p)] (by decide +kernel) rfl (by decide) rfl (Nat.le_of_ble_eq_true rfl) rfl ?_
  refine z_iload_n dCls_listAt_0 rfl ?_
  refine z_if_lt (tgt := 9) dCls_listAt_1 (by decide) (by omega) (fun c1 => ?_) (fun c1 => ?_)
  · refine z_throwW (text := "no such list") (names := ["java/lang/RuntimeException", "java/lang/Exception"]) tw_306.2.2.2.1 tw_306.2.2.2.2 cl_Cls_302 in_IndexOutOfBoundsException (by decide +kernel) tw_306.1 tw_306.2.1 tw_306.2.2.1 rfl dCls_listAt_9 dCls_listAt_12 dCls_listAt_13 dCls_listAt_16 dCls_listAt_19 (by decide) (Nat.le_of_ble_eq_true rfl) (by decide) (by decide) ?_
    exact ⟨rfl, by omega, rfl⟩
  · refine z_iload_n dCls_listAt_4 rfl ?_
    refine z_iconst dCls_listAt_5 ?_
    refine z_icmp_lt (tgt := 20) dCls_listAt_6 (by decide) (by omega) (by omega) (fun c6 => ?_) (fun c6 => ?_)
    · refine z_aload_n dCls_listAt_20 rfl ?_
      refine z_get (k := 0) fd_Cls (by decide) fl_Cls_11 dCls_listAt_21 (by assumption) (by rfl) ?_
      refine z_iload_n dCls_listAt_24 rfl ?_
      refine z_aald (t := 5) (ty := .object "Cursorlist$Row") rfl rfl dCls_listAt_25 (by assumption) (by refine ⟨?_, ?_, ?_⟩ <;> omega) ?_
      rw [d3 p.toNat (by omega)]
      refine z_aret (v := .ref (ad (8 + 2 * p.toNat))) rfl (Or.inl ⟨_, rfl⟩) (Or.inr ⟨_, rfl⟩) dCls_listAt_26 ?_
      exact ⟨rfl, by omega, by omega, rfl⟩
    · refine z_throwW (text := "no such list") (names := ["java/lang/RuntimeException", "java/lang/Exception"]) tw_306.2.2.2.1 tw_306.2.2.2.2 cl_Cls_302 in_IndexOutOfBoundsException (by decide +kernel) tw_306.1 tw_306.2.1 tw_306.2.2.1 rfl dCls_listAt_9 dCls_listAt_12 dCls_listAt_13 dCls_listAt_16 dCls_listAt_19 (by decide) (Nat.le_of_ble_eq_true rfl) (by decide) (by decide) ?_
      exact ⟨rfl, by omega, rfl⟩
theorem k_Cls_cursorAt {p : Int} (hC : zCls G h ad S) (hp : zI32 p) : zM G l hCls_cursorAt yCls_cursorAt 7 [.ref (ad 0), zi p] h (fun v h' => v = some (.ref (ad (5 + p.toNat))) ∧ 0 ≤ p ∧ p < 3 ∧ h = h') (fun E h' => E = zE1 ∧ ¬ (0 ≤ p ∧ p < 3) ∧ h = h') 1 6 := by
  obtain ⟨c1, c2, ⟨g3, c3, d3⟩, ⟨g4, c4, d4⟩, c5, ⟨T6, c6, d6⟩, c7, c8, ⟨R9, c9⟩, c10⟩ := id hC
  refine zM.of [some (.ref (ad 0)), some (zi p)] (by decide +kernel) rfl (by decide) rfl (Nat.le_of_ble_eq_true rfl) rfl ?_
  refine z_iload_n dCls_cursorAt_0 rfl ?_
  refine z_if_lt (tgt := 9) dCls_cursorAt_1 (by decide) (by omega) (fun c1 => ?_) (fun c1 => ?_)
  · refine z_throwW (text := "no such cursor") (names := ["java/lang/RuntimeException", "java/lang/Exception"]) tw_306.2.2.2.1 tw_306.2.2.2.2 cl_Cls_302 in_IndexOutOfBoundsException (by decide +kernel) tw_306.1 tw_306.2.1 tw_306.2.2.1 rfl dCls_cursorAt_9 dCls_cursorAt_12 dCls_cursorAt_13 dCls_cursorAt_16 dCls_cursorAt_19 (by decide) (Nat.le_of_ble_eq_true rfl) (by decide) (by decide) ?_
    exact ⟨rfl, by omega, rfl⟩
  · refine z_iload_n dCls_cursorAt_4 rfl ?_
    refine z_iconst dCls_cursorAt_5 ?_
    refine z_icmp_lt (tgt := 20) dCls_cursorAt_6 (by decide) (by omega) (by omega) (fun c6 => ?_) (fun c6 => ?_)
    · refine z_aload_n dCls_cursorAt_20 rfl ?_
      refine z_get (k := 1) fd_Cls (by decide) fl_Cls_17 dCls_cursorAt_21 (by assumption) (by rfl) ?_
      refine z_iload_n dCls_cursorAt_24 rfl ?_
      refine z_aald (t := 6) (ty := .object "Cursorlist$Cursor") rfl rfl dCls_cursorAt_25 (by assumption) (by refine ⟨?_, ?_, ?_⟩ <;> omega) ?_
      rw [d4 p.toNat (by omega)]
      refine z_aret (v := .ref (ad (5 + p.toNat))) rfl (Or.inl ⟨_, rfl⟩) (Or.inr ⟨_, rfl⟩) dCls_cursorAt_26 ?_
      exact ⟨rfl, by omega, by omega, rfl⟩
    · refine z_throwW (text := "no such cursor") (names := ["java/lang/RuntimeException", "java/lang/Exception"]) tw_306.2.2.2.1 tw_306.2.2.2.2 cl_Cls_302 in_IndexOutOfBoundsException (by decide +kernel) tw_306.1 tw_306.2.1 tw_306.2.2.1 rfl dCls_cursorAt_9 dCls_cursorAt_12 dCls_cursorAt_13 dCls_cursorAt_16 dCls_cursorAt_19 (by decide) (Nat.le_of_ble_eq_true rfl) (by decide) (by decide) ?_
      exact ⟨rfl, by omega, rfl⟩
theorem k_Cls_demandWithin {p lo hi : Int} (hp : zI32 p) (h1 : zI32 lo) (h2 : zI32 hi) : zM G l hCls_demandWithin yCls_demandWithin 7 [zi p, zi lo, zi hi] h (fun v h' => v = none ∧ lo ≤ p ∧ p ≤ hi ∧ h = h') (fun E h' => E = zE2 ∧ ¬ (lo ≤ p ∧ p ≤ hi) ∧ h = h') 1 6 := by
  refine zM.of [some (zi p), some (zi lo), some (zi hi)] (by decide +kernel) rfl (by decide) rfl (Nat.le_of_ble_eq_true rfl) rfl ?_
  refine z_iload_n dCls_demandWithin_0 rfl ?_
  refine z_iload_n dCls_demandWithin_1 rfl ?_
  refine z_icmp_lt (tgt := 10) dCls_demandWithin_2 (by decide) (by omega) (by omega) (fun c2 => ?_) (fun c2 => ?_)
  · refine z_throwW (text := "a number out of its range") (names := ["java/lang/RuntimeException", "java/lang/Exception"]) tw_185.2.2.2.1 tw_185.2.2.2.2 cl_Cls_181 in_IllegalArgumentException (by decide +kernel) tw_185.1 tw_185.2.1 tw_185.2.2.1 rfl dCls_demandWithin_10 dCls_demandWithin_13 dCls_demandWithin_14 dCls_demandWithin_17 dCls_demandWithin_20 (by decide) (Nat.le_of_ble_eq_true rfl) (by decide) (by decide) ?_
    exact ⟨rfl, by omega, rfl⟩
  · refine z_iload_n dCls_demandWithin_5 rfl ?_
    refine z_iload_n dCls_demandWithin_6 rfl ?_
    refine z_icmp_le (tgt := 21) dCls_demandWithin_7 (by decide) (by omega) (by omega) (fun c7 => ?_) (fun c7 => ?_)
    · refine z_vret rfl dCls_demandWithin_21 ?_
      exact ⟨rfl, by omega, by omega, rfl⟩
    · refine z_throwW (text := "a number out of its range") (names := ["java/lang/RuntimeException", "java/lang/Exception"]) tw_185.2.2.2.1 tw_185.2.2.2.2 cl_Cls_181 in_IllegalArgumentException (by decide +kernel) tw_185.1 tw_185.2.1 tw_185.2.2.1 rfl dCls_demandWithin_10 dCls_demandWithin_13 dCls_demandWithin_14 dCls_demandWithin_17 dCls_demandWithin_20 (by decide) (Nat.le_of_ble_eq_true rfl) (by decide) (by decide) ?_
      exact ⟨rfl, by omega, rfl⟩
theorem k_Cls_demandItem {p : Int} (hp : zI32 p) : zM G l hCls_demandItem yCls_demandItem 8 [zi p] h (fun v h' => v = none ∧ zIn p ∧ h = h') (fun E h' => E = zE2 ∧ ¬ zIn p ∧ h = h') 1 6 := by
  refine zM.of [some (zi p)] (by decide +kernel) rfl (by decide) rfl (Nat.le_of_ble_eq_true rfl) rfl ?_
  refine z_iload_n dCls_demandItem_0 rfl ?_
  refine z_sipush dCls_demandItem_1 rfl ?_
  refine z_sipush dCls_demandItem_4 rfl ?_
  refine z_callS (bc' := 0) (bs' := 0) MS_Cls_demandWithin lk_Cls_38 dCls_demandItem_7 (k_Cls_demandWithin hp (by omega) (by omega)) rfl rfl (Nat.le_of_ble_eq_true rfl) (Nat.le_of_ble_eq_true rfl) (Nat.le_of_ble_eq_true rfl) (by decide) (by decide) (fun E h9 q9 => z_out rfl (by obtain ⟨rfl, q1, rfl⟩ := q9; exact ⟨rfl, by omega, rfl⟩)) ?_
  rintro _ _ ⟨rfl, k1, k2, rfl⟩
  refine z_vret rfl dCls_demandItem_10 ?_
  exact ⟨rfl, by omega, rfl⟩
theorem k_Cls_demandPlace {r a : Nat} {L : List Int} {p : Int} (hr : zRow G h r a L) (hp : zI32 p) : zM G l hCls_demandPlace yCls_demandPlace 7 [.ref r, zi p] h (fun v h' => v = none ∧ 0 ≤ p ∧ p < (L.length : Int) ∧ h = h') (fun E h' => E = zE1 ∧ ¬ (0 ≤ p ∧ p < (L.length : Int)) ∧ h = h') 1 6 := by
  obtain ⟨f, e1, e2, e3, e4, e5⟩ := id hr
  refine zM.of [some (.ref r), some (zi p)] (by decide +kernel) rfl (by decide) rfl (Nat.le_of_ble_eq_true rfl) rfl ?_
  refine z_aload_n dCls_demandPlace_0 rfl ?_
  refine z_iload_n dCls_demandPlace_1 rfl ?_
  refine z_callVN MV_Row_hasPlace lk_Cls_309 dCls_demandPlace_2 (k_Row_hasPlace hr hp) rfl rfl (Nat.le_of_ble_eq_true rfl) rfl (by assumption) (Nat.le_of_ble_eq_true rfl) (Nat.le_of_ble_eq_true rfl) (Nat.le_of_eq (Nat.zero_add _)) (Nat.le_of_eq (Nat.zero_add _)) (fun _ _ q => q.elim) ?_
  rintro _ _ ⟨b9, rfl, hb9, rfl⟩
  refine z_if_ne (tgt := 19) dCls_demandPlace_5 (by decide) (by omega) (fun c5 => ?_) (fun c5 => ?_)
  · refine z_vret rfl dCls_demandPlace_19 ?_
    exact ⟨rfl, by omega, by omega, rfl⟩
  · refine z_throwW (text := "no such place") (names := ["java/lang/RuntimeException", "java/lang/Exception"]) tw_306.2.2.2.1 tw_306.2.2.2.2 cl_Cls_302 in_IndexOutOfBoundsException (by decide +kernel) tw_306.1 tw_306.2.1 tw_306.2.2.1 rfl dCls_demandPlace_8 dCls_demandPlace_11 dCls_demandPlace_12 dCls_demandPlace_15 dCls_demandPlace_18 (by decide) (Nat.le_of_ble_eq_true rfl) (by decide) (by decide) ?_
    exact ⟨rfl, by omega, rfl⟩
theorem k_Cls_demandGap {r a : Nat} {L : List Int} {p : Int} (hr : zRow G h r a L) (hp : zI32 p) : zM G l hCls_demandGap yCls_demandGap 7 [.ref r, zi p] h (fun v h' => v = none ∧ 0 ≤ p ∧ p ≤ (L.length : Int) ∧ h = h') (fun E h' => E = zE1 ∧ ¬ (0 ≤ p ∧ p ≤ (L.length : Int)) ∧ h = h') 1 6 := by
  obtain ⟨f, e1, e2, e3, e4, e5⟩ := id hr
  refine zM.of [some (.ref r), some (zi p)] (by decide +kernel) rfl (by decide) rfl (Nat.le_of_ble_eq_true rfl) rfl ?_
  refine z_aload_n dCls_demandGap_0 rfl ?_
  refine z_iload_n dCls_demandGap_1 rfl ?_
  refine z_callVN MV_Row_hasGap lk_Cls_315 dCls_demandGap_2 (k_Row_hasGap hr hp) rfl rfl (Nat.le_of_ble_eq_true rfl) rfl (by assumption) (Nat.le_of_ble_eq_true rfl) (Nat.le_of_ble_eq_true rfl) (Nat.le_of_eq (Nat.zero_add _)) (Nat.le_of_eq (Nat.zero_add _)) (fun _ _ q => q.elim) ?_
  rintro _ _ ⟨b9, rfl, hb9, rfl⟩
  refine z_if_ne (tgt := 19) dCls_demandGap_5 (by decide) (by omega) (fun c5 => ?_) (fun c5 => ?_)
  · refine z_vret rfl dCls_demandGap_19 ?_
    exact ⟨rfl, by omega, by omega, rfl⟩
  · refine z_throwW (text := "no such place to stand or to put") (names := ["java/lang/RuntimeException", "java/lang/Exception"]) tw_306.2.2.2.1 tw_306.2.2.2.2 cl_Cls_302 in_IndexOutOfBoundsException (by decide +kernel) tw_306.1 tw_306.2.1 tw_306.2.2.1 rfl dCls_demandGap_8 dCls_demandGap_11 dCls_demandGap_12 dCls_demandGap_15 dCls_demandGap_18 (by decide) (Nat.le_of_ble_eq_true rfl) (by decide) (by decide) ?_
    exact ⟨rfl, by omega, rfl⟩
theorem k_Cls_demandThere {a : Nat} {cu : Nat → Int} (hc : zCurAt h a cu) : zM G l hCls_demandThere yCls_demandThere 7 [.ref a] h (fun v h' => v = none ∧ cu 0 = 1 ∧ h = h') (fun E h' => E = zE3 ∧ ¬ cu 0 = 1 ∧ h = h') 1 6 := by
  obtain ⟨st, li, ix, la, e1, e2, e3, e4, e5, e6, e7⟩ := id hc
  refine zM.of [some (.ref a)] (by decide +kernel) rfl (by decide) rfl (Nat.le_of_ble_eq_true rfl) rfl ?_
  refine z_aload_n dCls_demandThere_0 rfl ?_
  refine z_getN (k := 0) fd_Cur (by decide) fl_Cls_144 dCls_demandThere_1 (by assumption) (by rfl) ?_
  refine z_if_ne (tgt := 18) dCls_demandThere_4 (by decide) (by omega) (fun c4 => ?_) (fun c4 => ?_)
  · refine z_vret rfl dCls_demandThere_18 ?_
    exact ⟨rfl, by omega, rfl⟩
  · refine z_throwW (text := "the cursor is not there") (names := ["java/lang/RuntimeException", "java/lang/Exception"]) tw_222.2.2.2.1 tw_222.2.2.2.2 cl_Cls_218 in_IllegalStateException (by decide +kernel) tw_222.1 tw_222.2.1 tw_222.2.2.1 rfl dCls_demandThere_7 dCls_demandThere_10 dCls_demandThere_11 dCls_demandThere_14 dCls_demandThere_17 (by decide) (Nat.le_of_ble_eq_true rfl) (by decide) (by decide) ?_
    exact ⟨rfl, by omega, rfl⟩
theorem k_Cls_endOf {r a : Nat} {L : List Int} {w : Int} (hr : zRow G h r a L) (hw : zI32 w) : zM G l hCls_endOf yCls_endOf 1 [.ref r, zi w] h (fun v h' => v = some (zi (if w = 1 ∨ w = 3 then (L.length : Int) - 1 else 0)) ∧ h = h') zNo 0 0 := by
  obtain ⟨f, e1, e2, e3, e4, e5⟩ := id hr
  refine zM.of [some (.ref r), some (zi w)] (by decide +kernel) rfl (by decide) rfl (Nat.le_of_ble_eq_true rfl) rfl ?_
  refine z_iload_n dCls_endOf_0 rfl ?_
  refine z_iconst dCls_endOf_1 ?_
  refine z_icmp_eq (tgt := 10) dCls_endOf_2 (by decide) (by omega) (by omega) (fun c2 => ?_) (fun c2 => ?_)
  · refine z_aload_n dCls_endOf_10 rfl ?_
    refine z_getN (k := 1) fd_Row (by decide) fl_Cls_46 dCls_endOf_11 (by assumption) (by rfl) ?_
    refine z_iconst dCls_endOf_14 ?_
    refine z_isub dCls_endOf_15 ?_
    refine z_goto (tgt := 20) dCls_endOf_16 (by decide) ?_
    refine z_iret rfl rfl dCls_endOf_20 ?_
    first
      | (rw [if_pos (by omega)]; exact ⟨rfl, rfl⟩)
      | (rw [if_neg (by omega)]; exact ⟨rfl, rfl⟩)
  · refine z_iload_n dCls_endOf_5 rfl ?_
    refine z_iconst dCls_endOf_6 ?_
    refine z_icmp_ne (tgt := 19) dCls_endOf_7 (by decide) (by omega) (by omega) (fun c7 => ?_) (fun c7 => ?_)
    · refine z_iconst dCls_endOf_19 ?_
      refine z_iret rfl rfl dCls_endOf_20 ?_
      first
        | (rw [if_pos (by omega)]; exact ⟨rfl, rfl⟩)
        | (rw [if_neg (by omega)]; exact ⟨rfl, rfl⟩)
    · refine z_aload_n dCls_endOf_10 rfl ?_
      refine z_getN (k := 1) fd_Row (by decide) fl_Cls_46 dCls_endOf_11 (by assumption) (by rfl) ?_
      refine z_iconst dCls_endOf_14 ?_
      refine z_isub dCls_endOf_15 ?_
      refine z_goto (tgt := 20) dCls_endOf_16 (by decide) ?_
      refine z_iret rfl rfl dCls_endOf_20 ?_
      first
        | (rw [if_pos (by omega)]; exact ⟨rfl, rfl⟩)
        | (rw [if_neg (by omega)]; exact ⟨rfl, rfl⟩)
def zFst (L : List Int) : Int := if L.length = 0 then 10000 else L.getD 0 0
theorem k_Cls_firstOf {r a : Nat} {L : List Int} (hr : zRow G h r a L) : zM G l hCls_firstOf yCls_firstOf 3 [.ref r] h (fun v h' => v = some (zi (zFst L)) ∧ h = h') zNo 0 0 := by
  obtain ⟨f, e1, e2, e3, e4, e5⟩ := id hr
  refine zM.of [some (.ref r)] (by decide +kernel) rfl (by decide) rfl (Nat.le_of_ble_eq_true rfl) rfl ?_
  refine z_aload_n dCls_firstOf_0 rfl ?_
  refine z_getN (k := 1) fd_Row (by decide) fl_Cls_46 dCls_firstOf_1 (by assumption) (by rfl) ?_
  refine z_if_ne (tgt := 13) dCls_firstOf_4 (by decide) (by omega) (fun c4 => ?_) (fun c4 => ?_)
  · refine z_aload_n dCls_firstOf_13 rfl ?_
    refine z_iconst dCls_firstOf_14 ?_
    refine z_callVN MV_Row_itemAt lk_Cls_70 dCls_firstOf_15 (k_Row_itemAt hr (by omega)) rfl rfl (Nat.le_of_ble_eq_true rfl) rfl (by assumption) (Nat.le_of_ble_eq_true rfl) (Nat.le_of_ble_eq_true rfl) (Nat.le_of_eq (Nat.zero_add _)) (Nat.le_of_eq (Nat.zero_add _)) (fun _ _ q => q.elim) ?_
    rintro _ _ ⟨rfl, rfl⟩
    rw [show zAt L 0 = L.getD 0 0 from zAt_nat (i := 0) (by omega)]
    refine z_iret rfl rfl dCls_firstOf_18 ?_
    unfold zFst
    first
      | (rw [if_pos (by omega)]; exact ⟨rfl, rfl⟩)
      | (rw [if_neg (by omega)]; exact ⟨rfl, rfl⟩)
  · refine z_sipush dCls_firstOf_7 rfl ?_
    refine z_goto (tgt := 18) dCls_firstOf_10 (by decide) ?_
    refine z_iret rfl rfl dCls_firstOf_18 ?_
    unfold zFst
    first
      | (rw [if_pos (by omega)]; exact ⟨rfl, rfl⟩)
      | (rw [if_neg (by omega)]; exact ⟨rfl, rfl⟩)
theorem k_Cls_numberOf {b : Int} (hb : b = 0 ∨ b = 1) : zM G l hCls_numberOf yCls_numberOf 1 [zi b] h (fun v h' => v = some (zi b) ∧ h = h') zNo 0 0 := by
  refine zM.of [some (zi b)] (by decide +kernel) rfl (by decide) rfl (Nat.le_of_ble_eq_true rfl) rfl ?_
  refine z_iload_n dCls_numberOf_0 rfl ?_
  refine z_if_eq (tgt := 8) dCls_numberOf_1 (by decide) (by omega) (fun c1 => ?_) (fun c1 => ?_)
  · refine z_iconst dCls_numberOf_8 ?_
    refine z_iret rfl rfl dCls_numberOf_9 ?_
    first
      | exact ⟨by congr 3; omega, rfl⟩
      | exact ⟨by congr 2; congr 1; omega, rfl⟩
  · refine z_iconst dCls_numberOf_4 ?_
    refine z_goto (tgt := 9) dCls_numberOf_5 (by decide) ?_
    refine z_iret rfl rfl dCls_numberOf_9 ?_
    first
      | exact ⟨by congr 3; omega, rfl⟩
      | exact ⟨by congr 2; congr 1; omega, rfl⟩
theorem k_Cls_rowUnder {c : Nat} {cu : Nat → Int} {a : Nat} (hC : zCls G h ad S) (hc : zCurAt h a cu) (ht : cu 0 = 1) (hl : 0 ≤ cu 2 ∧ cu 2 < 4) : zM G l hCls_rowUnder yCls_rowUnder 8 [.ref (ad 0), .ref a] h (fun v h' => v = some (.ref (ad (8 + 2 * (cu 2).toNat))) ∧ h = h') zNo 1 6 := by
  obtain ⟨c1, c2, ⟨g3, c3, d3⟩, ⟨g4, c4, d4⟩, c5, ⟨T6, c6, d6⟩, c7, c8, ⟨R9, c9⟩, c10⟩ := id hC
  obtain ⟨st, li, ix, la, e1, e2, e3, e4, e5, e6, e7⟩ := id hc
  obtain ⟨e71, e72, e73, e74⟩ := e7 ht
  subst e72
  refine zM.of [some (.ref (ad 0)), some (.ref a)] (by decide +kernel) rfl (by decide) rfl (Nat.le_of_ble_eq_true rfl) rfl ?_
  refine z_aload_n dCls_rowUnder_0 rfl ?_
  refine z_aload_n dCls_rowUnder_1 rfl ?_
  refine z_getN (k := 2) fd_Cur (by decide) fl_Cls_169 dCls_rowUnder_2 e1 (by rfl) ?_
  refine z_callV (bc' := 0) (bs' := 0) MV_Cls_listAt lk_Cls_34 dCls_rowUnder_5 (k_Cls_listAt hC (by omega)) rfl rfl (Nat.le_of_ble_eq_true rfl) rfl c2 (Nat.le_of_ble_eq_true rfl) (Nat.le_of_ble_eq_true rfl) (by decide) (by decide) (fun E h9 q9 => absurd (by omega) q9.2.1) ?_
  rintro _ _ ⟨rfl, k1, k2, rfl⟩
  refine z_aret (v := .ref (ad (8 + 2 * (cu 2).toNat))) rfl (Or.inl ⟨_, rfl⟩) (Or.inr ⟨_, rfl⟩) dCls_rowUnder_8 ?_
  exact ⟨rfl, rfl⟩
end CLS
end
section
section CLS2
variable {G : zG} {l : Launch} {h h' : zHp} {ad : Nat → Nat} {S : zSt}
theorem zsSt9_same {k but : Int} {m : Nat} (hn : ¬ (S.2.1 m 0 = 1 ∧ S.2.1 m 2 = k ∧ (m : Int) ≠ but)) : zsSt9 S k but (m + 1) = zsSt9 S k but m := by
  unfold zsSt9
  congr 1
  funext c f
  by_cases e : c = m
  · subst e
    rw [if_neg (fun q => hn q.2.2), if_neg (fun q => absurd q.1 (Nat.lt_irrefl _))]
  · by_cases q : c < m
    · simp only [q, show c < m + 1 by omega]
    · simp only [q, show ¬ c < m + 1 by omega]
theorem zsSt9_at {k but : Int} {m : Nat} : (zsSt9 S k but m).2.1 m = S.2.1 m := by
  funext f
  show (if m < m ∧ _ then _ else _) = _
  rw [if_neg (fun q => absurd q.1 (Nat.lt_irrefl _))]
theorem zCls.stale {k but : Int} {m : Nat} {st li ix la : Int} {h1 : zHp} (hC : zCls G h1 ad (zsSt9 S k but m)) (hm : m < 3) (e1 : h1 (ad (5 + m)) = some (.inr (zkCur, [zi (S.2.1 m 0), zi st, zi li, zi ix, zi la]))) (e2 : S.2.1 m 0 = 0 ∨ S.2.1 m 0 = 1) (e4 : zI32 li) (e5 : zI32 ix) (e6 : zI32 la) (e7 : S.2.1 m 0 = 1 → st = S.2.1 m 1 ∧ li = S.2.1 m 2 ∧ ix = S.2.1 m 3 ∧ la = S.2.1 m 4) (hli : li = k) (hb : (m : Int) ≠ but) :
    zCls G (zup h1 (ad (5 + m)) (some (.inr (zkCur, [zi (S.2.1 m 0), zi 1, zi li, zi ix, zi la])))) ad (zsSt9 S k but (m + 1)) := by
  refine hC.cur (c := m) (cu := (zsSt9 S k but (m + 1)).2.1) hm ?_ ?_ (fun q hq => zup_ne hq)
  · have f0 : ∀ f, f ≠ 1 → (zsSt9 S k but (m + 1)).2.1 m f = S.2.1 m f := fun f hf => by
      show (if m < m + 1 ∧ f = 1 ∧ _ then _ else _) = _
      rw [if_neg (fun q => hf q.2.1)]
    refine ⟨1, li, ix, la, ?_, ?_, Or.inr rfl, e4, e5, e6, fun ht => ?_⟩
    · rw [zup_same, f0 0 (by omega)]
    · rw [f0 0 (by omega)]; exact e2
    · rw [f0 0 (by omega)] at ht
      obtain ⟨a1, a2, a3, a4⟩ := e7 ht
      rw [f0 2 (by omega), f0 3 (by omega), f0 4 (by omega)]
      refine ⟨?_, a2, a3, a4⟩
      show (1 : Int) = if m < m + 1 ∧ (1 : Nat) = 1 ∧ S.2.1 m 0 = 1 ∧ S.2.1 m 2 = k ∧ (m : Int) ≠ but then 1 else S.2.1 m 1
      rw [if_pos ⟨by omega, rfl, ht, by omega, hb⟩]
  · intro j hj
    funext f
    show (if j < m + 1 ∧ _ then _ else _) = (if j < m ∧ _ then _ else _)
    by_cases q : j < m
    · simp only [q, show j < m + 1 by omega]
    · simp only [q, show ¬ j < m + 1 by omega]
theorem l_Cls_makeStale {d mc ms bc bs : Nat} {Qn : Option Value → zHp → Prop} {Qx : String → zHp → Prop} {k but : Int} (hk : zI32 k) (hb : zI32 but)
    (K : ∀ (h1 : zHp) y, zCls G h1 ad (zsStale S k but) → zFrm ad h h1 → zR G l (zMJ G hCls_makeStale d Qn Qx mc ms) bc bs h1 41 [some (.ref (ad 0)), some (zi k), some (zi but), y] []) :
    ∀ (n : Nat) (m : Nat) (h1 : zHp), 3 - m < n → m ≤ 3 → zCls G h1 ad (zsSt9 S k but m) → zFrm ad h h1 →
      zR G l (zMJ G hCls_makeStale d Qn Qx mc ms) bc bs h1 2 [some (.ref (ad 0)), some (zi k), some (zi but), some (zi (m : Int))] [] := by
  intro n
  induction n with
  | zero => intro m h1 q1 q2 hC1 hf; omega
  | succ n ih =>
  intro m h1 q1 q2 hC1 hf
  obtain ⟨c1, c2, ⟨g3, c3, d3⟩, ⟨g4, hc4, d4⟩, -⟩ := id hC1
  refine z_iload_n dCls_makeStale_2 rfl ?_
  refine z_iconst dCls_makeStale_3 ?_
  refine z_icmp_ge (tgt := 41) dCls_makeStale_4 (by decide) (by omega) (by omega) (fun c4 => ?_) (fun c4 => ?_)
  · have em : m = 3 := by omega
    subst em
    exact K h1 _ hC1 hf
  · have hlt : m < 3 := by omega
    obtain ⟨st, li, ix, la, e1, e2, e3, e4, e5, e6, e7⟩ := hC1.cs hlt
    rw [zsSt9_at] at e1 e2 e7
    refine z_iload_n dCls_makeStale_7 rfl ?_
    refine z_iload_n dCls_makeStale_8 rfl ?_
    refine z_icmp_eq (tgt := 35) dCls_makeStale_9 (by decide) (by omega) (by omega) (fun c9 => ?_) (fun c9 => ?_)
    · refine z_iinc dCls_makeStale_35 rfl (Nat.le_of_ble_eq_true rfl) ?_
      refine z_goto (tgt := 2) dCls_makeStale_38 (by decide) ?_
      first
        | (have e9 := zsSt9_same (S := S) (k := k) (but := but) (m := m) (fun q => by have := e7 q.1; omega)
           rw [← e9] at hC1
           exact ih (m + 1) h1 (by omega) (by omega) hC1 hf)
        | (have e9 := zsSt9_same (S := S) (k := k) (but := but) (m := m) (fun q => q.2.2 (by omega))
           rw [← e9] at hC1
           exact ih (m + 1) h1 (by omega) (by omega) hC1 hf)
        | exact ih (m + 1) _ (by omega) (by omega) (hC1.stale hlt e1 e2 e4 e5 e6 e7 (by omega) (by omega)) (hf.tr (zFrm.of1 (i := 5 + m) (by omega) (fun q hq => zup_ne hq)))
    · refine z_aload_n dCls_makeStale_12 rfl ?_
      refine z_get (k := 1) fd_Cls (by decide) fl_Cls_17 dCls_makeStale_13 (by assumption) (by rfl) ?_
      refine z_iload_n dCls_makeStale_16 rfl ?_
      refine z_aald (t := 6) (ty := .object "Cursorlist$Cursor") rfl rfl dCls_makeStale_17 hc4 (by refine ⟨?_, ?_, ?_⟩ <;> omega) ?_
      rw [show (m : Int).toNat = m by omega, d4 m (by omega)]
      refine z_getN (k := 2) fd_Cur (by decide) fl_Cls_169 dCls_makeStale_18 e1 (by rfl) ?_
      refine z_iload_n dCls_makeStale_21 rfl ?_
      refine z_icmp_ne (tgt := 35) dCls_makeStale_22 (by decide) (by omega) (by omega) (fun c22 => ?_) (fun c22 => ?_)
      · refine z_iinc dCls_makeStale_35 rfl (Nat.le_of_ble_eq_true rfl) ?_
        refine z_goto (tgt := 2) dCls_makeStale_38 (by decide) ?_
        first
          | (have e9 := zsSt9_same (S := S) (k := k) (but := but) (m := m) (fun q => by have := e7 q.1; omega)
             rw [← e9] at hC1
             exact ih (m + 1) h1 (by omega) (by omega) hC1 hf)
          | (have e9 := zsSt9_same (S := S) (k := k) (but := but) (m := m) (fun q => q.2.2 (by omega))
             rw [← e9] at hC1
             exact ih (m + 1) h1 (by omega) (by omega) hC1 hf)
          | exact ih (m + 1) _ (by omega) (by omega) (hC1.stale hlt e1 e2 e4 e5 e6 e7 (by omega) (by omega)) (hf.tr (zFrm.of1 (i := 5 + m) (by omega) (fun q hq => zup_ne hq)))
      · refine z_aload_n dCls_makeStale_25 rfl ?_
        refine z_get (k := 1) fd_Cls (by decide) fl_Cls_17 dCls_makeStale_26 (by assumption) (by rfl) ?_
        refine z_iload_n dCls_makeStale_29 rfl ?_
        refine z_aald (t := 6) (ty := .object "Cursorlist$Cursor") rfl rfl dCls_makeStale_30 hc4 (by refine ⟨?_, ?_, ?_⟩ <;> omega) ?_
        rw [show (m : Int).toNat = m by omega, d4 m (by omega)]
        refine z_iconst dCls_makeStale_31 ?_
        refine z_putN (k := 1) fd_Cur (by decide) fl_Cls_152 rfl dCls_makeStale_32 e1 (by simp) rfl rfl ?_
        refine z_iinc dCls_makeStale_35 rfl (Nat.le_of_ble_eq_true rfl) ?_
        refine z_goto (tgt := 2) dCls_makeStale_38 (by decide) ?_
        first
          | (have e9 := zsSt9_same (S := S) (k := k) (but := but) (m := m) (fun q => by have := e7 q.1; omega)
             rw [← e9] at hC1
             exact ih (m + 1) h1 (by omega) (by omega) hC1 hf)
          | (have e9 := zsSt9_same (S := S) (k := k) (but := but) (m := m) (fun q => q.2.2 (by omega))
             rw [← e9] at hC1
             exact ih (m + 1) h1 (by omega) (by omega) hC1 hf)
          | exact ih (m + 1) _ (by omega) (by omega) (hC1.stale hlt e1 e2 e4 e5 e6 e7 (by omega) (by omega)) (hf.tr (zFrm.of1 (i := 5 + m) (by omega) (fun q hq => zup_ne hq)))
theorem k_Cls_makeStale {k but : Int} (hC : zCls G h ad S) (hk : zI32 k) (hb : zI32 but) : zM G l hCls_makeStale yCls_makeStale 1 [.ref (ad 0), zi k, zi but] h (fun v h' => v = none ∧ zCls G h' ad (zsStale S k but) ∧ zFrm ad h h') zNo 0 0 := by
  refine zM.of [some (.ref (ad 0)), some (zi k), some (zi but), none] (by decide +kernel) rfl (by decide) rfl (Nat.le_of_ble_eq_true rfl) rfl ?_
  refine z_iconst dCls_makeStale_0 ?_
  refine z_istore_n dCls_makeStale_1 (Nat.le_of_ble_eq_true rfl) ?_
  have e0 : zsSt9 S k but 0 = S := by
    unfold zsSt9 zsC
    congr 2
  refine l_Cls_makeStale (S := S) (h := h) hk hb (fun h1 y hC1 f1 => ?_) 4 0 h (by omega) (by omega) (by rw [e0]; exact hC) zFrm.rf
  refine z_vret rfl dCls_makeStale_41 ?_
  exact ⟨rfl, hC1, f1⟩
theorem l_Cls_makeStaleR {d mc ms bc bs : Nat} {Qn : Option Value → zHp → Prop} {Qx : String → zHp → Prop} {k but : Int} {R : List Int} (hk : zI32 k) (hb : zI32 but)
    (K : ∀ (h1 : zHp) y, zCls G h1 ad (zsStale S k but) → zRow G h1 (ad 16) (ad 17) R → zFrm ad h h1 → zR G l (zMJ G hCls_makeStale d Qn Qx mc ms) bc bs h1 41 [some (.ref (ad 0)), some (zi k), some (zi but), y] []) :
    ∀ (n : Nat) (m : Nat) (h1 : zHp), 3 - m < n → m ≤ 3 → zCls G h1 ad (zsSt9 S k but m) → zRow G h1 (ad 16) (ad 17) R → zFrm ad h h1 →
      zR G l (zMJ G hCls_makeStale d Qn Qx mc ms) bc bs h1 2 [some (.ref (ad 0)), some (zi k), some (zi but), some (zi (m : Int))] [] := by
  intro n
  induction n with
  | zero => intro m h1 q1 q2 hC1 hR hf; omega
  | succ n ih =>
  intro m h1 q1 q2 hC1 hR hf
  obtain ⟨c1, c2, ⟨g3, c3, d3⟩, ⟨g4, hc4, d4⟩, -⟩ := id hC1
  refine z_iload_n dCls_makeStale_2 rfl ?_
  refine z_iconst dCls_makeStale_3 ?_
  refine z_icmp_ge (tgt := 41) dCls_makeStale_4 (by decide) (by omega) (by omega) (fun c4 => ?_) (fun c4 => ?_)
  · have em : m = 3 := by omega
    subst em
    exact K h1 _ hC1 hR hf
  · have hlt : m < 3 := by omega
    obtain ⟨st, li, ix, la, e1, e2, e3, e4, e5, e6, e7⟩ := hC1.cs hlt
    rw [zsSt9_at] at e1 e2 e7
    refine z_iload_n dCls_makeStale_7 rfl ?_
    refine z_iload_n dCls_makeStale_8 rfl ?_
    refine z_icmp_eq (tgt := 35) dCls_makeStale_9 (by decide) (by omega) (by omega) (fun c9 => ?_) (fun c9 => ?_)
    · refine z_iinc dCls_makeStale_35 rfl (Nat.le_of_ble_eq_true rfl) ?_
      refine z_goto (tgt := 2) dCls_makeStale_38 (by decide) ?_
      first
        | (have e9 := zsSt9_same (S := S) (k := k) (but := but) (m := m) (fun q => by have := e7 q.1; omega)
           rw [← e9] at hC1
           exact ih (m + 1) h1 (by omega) (by omega) hC1 hR hf)
        | (have e9 := zsSt9_same (S := S) (k := k) (but := but) (m := m) (fun q => q.2.2 (by omega))
           rw [← e9] at hC1
           exact ih (m + 1) h1 (by omega) (by omega) hC1 hR hf)
        | exact ih (m + 1) _ (by omega) (by omega) (hC1.stale hlt e1 e2 e4 e5 e6 e7 (by omega) (by omega)) (hR.kept (zup_ne (hC1.inj (by omega) (by omega) (by omega))) (zup_ne (hC1.inj (by omega) (by omega) (by omega)))) (hf.tr (zFrm.of1 (i := 5 + m) (by omega) (fun q hq => zup_ne hq)))
    · refine z_aload_n dCls_makeStale_12 rfl ?_
      refine z_get (k := 1) fd_Cls (by decide) fl_Cls_17 dCls_makeStale_13 (by assumption) (by rfl) ?_
      refine z_iload_n dCls_makeStale_16 rfl ?_
      refine z_aald (t := 6) (ty := .object "Cursorlist$Cursor") rfl rfl dCls_makeStale_17 hc4 (by refine ⟨?_, ?_, ?_⟩ <;> omega) ?_
      rw [show (m : Int).toNat = m by omega, d4 m (by omega)]
      refine z_getN (k := 2) fd_Cur (by decide) fl_Cls_169 dCls_makeStale_18 e1 (by rfl) ?_
      refine z_iload_n dCls_makeStale_21 rfl ?_
      refine z_icmp_ne (tgt := 35) dCls_makeStale_22 (by decide) (by omega) (by omega) (fun c22 => ?_) (fun c22 => ?_)
      · refine z_iinc dCls_makeStale_35 rfl (Nat.le_of_ble_eq_true rfl) ?_
        refine z_goto (tgt := 2) dCls_makeStale_38 (by decide) ?_
        first
          | (have e9 := zsSt9_same (S := S) (k := k) (but := but) (m := m) (fun q => by have := e7 q.1; omega)
             rw [← e9] at hC1
             exact ih (m + 1) h1 (by omega) (by omega) hC1 hR hf)
          | (have e9 := zsSt9_same (S := S) (k := k) (but := but) (m := m) (fun q => q.2.2 (by omega))
             rw [← e9] at hC1
             exact ih (m + 1) h1 (by omega) (by omega) hC1 hR hf)
          | exact ih (m + 1) _ (by omega) (by omega) (hC1.stale hlt e1 e2 e4 e5 e6 e7 (by omega) (by omega)) (hR.kept (zup_ne (hC1.inj (by omega) (by omega) (by omega))) (zup_ne (hC1.inj (by omega) (by omega) (by omega)))) (hf.tr (zFrm.of1 (i := 5 + m) (by omega) (fun q hq => zup_ne hq)))
      · refine z_aload_n dCls_makeStale_25 rfl ?_
        refine z_get (k := 1) fd_Cls (by decide) fl_Cls_17 dCls_makeStale_26 (by assumption) (by rfl) ?_
        refine z_iload_n dCls_makeStale_29 rfl ?_
        refine z_aald (t := 6) (ty := .object "Cursorlist$Cursor") rfl rfl dCls_makeStale_30 hc4 (by refine ⟨?_, ?_, ?_⟩ <;> omega) ?_
        rw [show (m : Int).toNat = m by omega, d4 m (by omega)]
        refine z_iconst dCls_makeStale_31 ?_
        refine z_putN (k := 1) fd_Cur (by decide) fl_Cls_152 rfl dCls_makeStale_32 e1 (by simp) rfl rfl ?_
        refine z_iinc dCls_makeStale_35 rfl (Nat.le_of_ble_eq_true rfl) ?_
        refine z_goto (tgt := 2) dCls_makeStale_38 (by decide) ?_
        first
          | (have e9 := zsSt9_same (S := S) (k := k) (but := but) (m := m) (fun q => by have := e7 q.1; omega)
             rw [← e9] at hC1
             exact ih (m + 1) h1 (by omega) (by omega) hC1 hR hf)
          | (have e9 := zsSt9_same (S := S) (k := k) (but := but) (m := m) (fun q => q.2.2 (by omega))
             rw [← e9] at hC1
             exact ih (m + 1) h1 (by omega) (by omega) hC1 hR hf)
          | exact ih (m + 1) _ (by omega) (by omega) (hC1.stale hlt e1 e2 e4 e5 e6 e7 (by omega) (by omega)) (hR.kept (zup_ne (hC1.inj (by omega) (by omega) (by omega))) (zup_ne (hC1.inj (by omega) (by omega) (by omega)))) (hf.tr (zFrm.of1 (i := 5 + m) (by omega) (fun q hq => zup_ne hq)))
theorem k_Cls_makeStaleR {k but : Int} {R : List Int} (hC : zCls G h ad S) (hR : zRow G h (ad 16) (ad 17) R) (hk : zI32 k) (hb : zI32 but) : zM G l hCls_makeStale yCls_makeStale 1 [.ref (ad 0), zi k, zi but] h (fun v h' => v = none ∧ zCls G h' ad (zsStale S k but) ∧ zRow G h' (ad 16) (ad 17) R ∧ zFrm ad h h') zNo 0 0 := by
  refine zM.of [some (.ref (ad 0)), some (zi k), some (zi but), none] (by decide +kernel) rfl (by decide) rfl (Nat.le_of_ble_eq_true rfl) rfl ?_
  refine z_iconst dCls_makeStale_0 ?_
  refine z_istore_n dCls_makeStale_1 (Nat.le_of_ble_eq_true rfl) ?_
  have e0 : zsSt9 S k but 0 = S := by
    unfold zsSt9 zsC
    congr 2
  refine l_Cls_makeStaleR (S := S) (R := R) (h := h) hk hb (fun h1 y hC1 hR1 f1 => ?_) 4 0 h (by omega) (by omega) (by rw [e0]; exact hC) hR zFrm.rf
  refine z_vret rfl dCls_makeStale_41 ?_
  exact ⟨rfl, hC1, hR1, f1⟩
theorem k_Cls_putInto {k : Nat} {p x : Int} (hC : zCls G h ad S) (hk : k < 4) (hp : zI32 p) (hx : zIn x) : zM G l hCls_putInto yCls_putInto 8 [.ref (ad 0), zi (k : Int), zi p, zi x] h (fun v h' => ((v = some (zi ((S.1 k).length + 1)) ∧ (S.1 k).length < 16 ∧ 0 ≤ p ∧ p ≤ (S.1 k).length ∧ zCls G h' ad (zsStale (zsL S k (zIns (S.1 k) p x)) k (-1))) ∨ (v = some (zi (-1000009)) ∧ ¬ ((S.1 k).length < 16 ∧ 0 ≤ p ∧ p ≤ (S.1 k).length) ∧ zCls G h' ad (zsRef S))) ∧ zFrm ad h h') zNo 1 6 := by
  obtain ⟨c1, c2, ⟨g3, c3, d3⟩, ⟨g4, c4, d4⟩, c5, ⟨T6, c6, d6⟩, c7, c8, ⟨R9, c9⟩, c10⟩ := id hC
  have hr := hC.ls hk
  obtain ⟨f, e1, e2, e3, e4, e5⟩ := id hr
  refine zM.of [some (.ref (ad 0)), some (zi (k : Int)), some (zi p), some (zi x), none] (by decide +kernel) rfl (by decide) rfl (Nat.le_of_ble_eq_true rfl) rfl ?_
  refine z_aload_n dCls_putInto_0 rfl ?_
  refine z_iload_n dCls_putInto_1 rfl ?_
  refine z_callV (bc' := 0) (bs' := 0) MV_Cls_listAt lk_Cls_34 dCls_putInto_2 (k_Cls_listAt hC (by omega)) rfl rfl (Nat.le_of_ble_eq_true rfl) rfl c2 (Nat.le_of_ble_eq_true rfl) (Nat.le_of_ble_eq_true rfl) (by decide) (by decide) (fun E h9 q9 => absurd (by omega) q9.2.1) ?_
  rintro _ _ ⟨rfl, k1, k2, rfl⟩
  rw [show (k : Int).toNat = k by omega]
  refine z_astore dCls_putInto_5 (Nat.le_of_ble_eq_true rfl) ?_
  refine z_aload dCls_putInto_7 rfl ?_
  refine z_iload_n dCls_putInto_9 rfl ?_
  refine z_iload_n dCls_putInto_10 rfl ?_
  refine z_callVN MV_Row_putIn lk_Cls_119 dCls_putInto_11 (k_Row_putIn hr hp hx) rfl rfl (Nat.le_of_ble_eq_true rfl) rfl e1 (Nat.le_of_ble_eq_true rfl) (Nat.le_of_ble_eq_true rfl) (Nat.le_of_eq (Nat.zero_add _)) (Nat.le_of_eq (Nat.zero_add _)) (fun _ _ q => q.elim) ?_
  rintro _ h1 (⟨rfl, k3, k4, k5, hr1, f1⟩ | ⟨rfl, k3, rfl⟩)
  · refine z_if_ne (tgt := 22) dCls_putInto_14 (by decide) (by omega) (fun c14 => ?_) (fun c14 => ?_)
    · have hC1 := hC.row hk hr1 f1
      obtain ⟨c21, c22, -⟩ := id hC1
      refine z_aload_n dCls_putInto_22 rfl ?_
      refine z_iload_n dCls_putInto_23 rfl ?_
      refine z_iconst dCls_putInto_24 ?_
      refine z_callV MV_Cls_makeStale lk_Cls_58 dCls_putInto_25 (k_Cls_makeStale hC1 (by omega) (by omega)) rfl rfl (Nat.le_of_ble_eq_true rfl) rfl c22 (Nat.le_of_ble_eq_true rfl) (Nat.le_of_ble_eq_true rfl) (Nat.le_of_eq (Nat.zero_add _)) (Nat.le_of_eq (Nat.zero_add _)) (fun _ _ q => q.elim) ?_
      rintro _ h2 ⟨rfl, hC2, f2⟩
      have hr2 := hC2.ls hk
      rw [show (zsStale (zsL S k (zIns (S.1 k) p x)) (k : Int) (-1)).1 k = zIns (S.1 k) p x from zup_same _ _ _] at hr2
      obtain ⟨g, a1, -⟩ := hr2
      rw [zIns_len] at a1
      refine z_aload dCls_putInto_28 rfl ?_
      refine z_getN (k := 1) fd_Row (by decide) fl_Cls_46 dCls_putInto_30 a1 (by rfl) ?_
      refine z_iret rfl rfl dCls_putInto_33 ?_
      exact ⟨Or.inl ⟨by congr 2, k3, k4, k5, hC2⟩, (zFrm.of2 (i := 8 + 2 * k) (j := 9 + 2 * k) (by omega) (by omega) f1).tr f2⟩
    · exact absurd c14 (by decide)
  · refine z_if_ne (tgt := 22) dCls_putInto_14 (by decide) (by omega) (fun c14 => ?_) (fun c14 => ?_)
    · exact absurd rfl c14
    · refine z_aload_n dCls_putInto_17 rfl ?_
      refine z_callV MV_Cls_refuse lk_Cls_54 dCls_putInto_18 (k_Cls_refuse hC) rfl rfl (Nat.le_of_ble_eq_true rfl) rfl c2 (Nat.le_of_ble_eq_true rfl) (Nat.le_of_ble_eq_true rfl) (Nat.le_of_eq (Nat.zero_add _)) (Nat.le_of_eq (Nat.zero_add _)) (fun _ _ q => q.elim) ?_
      rintro _ h2 ⟨rfl, hC2, f2⟩
      refine z_iret rfl rfl dCls_putInto_21 ?_
      exact ⟨Or.inr ⟨rfl, k3, hC2⟩, f2⟩
theorem k_Cls_takeFrom {k : Nat} {p : Int} (hC : zCls G h ad S) (hk : k < 4) (hp : 0 ≤ p ∧ p < (S.1 k).length) : zM G l hCls_takeFrom yCls_takeFrom 8 [.ref (ad 0), zi (k : Int), zi p] h (fun v h' => v = some (zi ((S.1 k).getD p.toNat 0)) ∧ zCls G h' ad (zsStale (zsL S k (zDel (S.1 k) p)) k (-1)) ∧ zFrm ad h h') zNo 1 6 := by
  obtain ⟨c1, c2, ⟨g3, c3, d3⟩, ⟨g4, c4, d4⟩, c5, ⟨T6, c6, d6⟩, c7, c8, ⟨R9, c9⟩, c10⟩ := id hC
  have hr := hC.ls hk
  obtain ⟨f, e1, e2, e3, e4, e5⟩ := id hr
  refine zM.of [some (.ref (ad 0)), some (zi (k : Int)), some (zi p), none] (by decide +kernel) rfl (by decide) rfl (Nat.le_of_ble_eq_true rfl) rfl ?_
  refine z_aload_n dCls_takeFrom_0 rfl ?_
  refine z_iload_n dCls_takeFrom_1 rfl ?_
  refine z_callV (bc' := 0) (bs' := 0) MV_Cls_listAt lk_Cls_34 dCls_takeFrom_2 (k_Cls_listAt hC (by omega)) rfl rfl (Nat.le_of_ble_eq_true rfl) rfl c2 (Nat.le_of_ble_eq_true rfl) (Nat.le_of_ble_eq_true rfl) (by decide) (by decide) (fun E h9 q9 => absurd (by omega) q9.2.1) ?_
  rintro _ _ ⟨rfl, k1, k2, rfl⟩
  rw [show (k : Int).toNat = k by omega]
  refine z_iload_n dCls_takeFrom_5 rfl ?_
  refine z_callVN MV_Row_takeOut lk_Cls_88 dCls_takeFrom_6 (k_Row_takeOut hr (by omega)) rfl rfl (Nat.le_of_ble_eq_true rfl) rfl e1 (Nat.le_of_ble_eq_true rfl) (Nat.le_of_ble_eq_true rfl) (Nat.le_of_eq (Nat.zero_add _)) (Nat.le_of_eq (Nat.zero_add _)) (fun _ _ q => q.elim) ?_
  rintro _ h1 (⟨rfl, k3, k4, hr1, f1⟩ | ⟨rfl, k3, rfl⟩)
  rotate_left
  · exact absurd hp k3
  have hC1 := hC.row hk hr1 f1
  obtain ⟨c21, c22, -⟩ := id hC1
  refine z_istore_n dCls_takeFrom_9 (Nat.le_of_ble_eq_true rfl) ?_
  refine z_aload_n dCls_takeFrom_10 rfl ?_
  refine z_iload_n dCls_takeFrom_11 rfl ?_
  refine z_iconst dCls_takeFrom_12 ?_
  refine z_callV MV_Cls_makeStale lk_Cls_58 dCls_takeFrom_13 (k_Cls_makeStale hC1 (by omega) (by omega)) rfl rfl (Nat.le_of_ble_eq_true rfl) rfl c22 (Nat.le_of_ble_eq_true rfl) (Nat.le_of_ble_eq_true rfl) (Nat.le_of_eq (Nat.zero_add _)) (Nat.le_of_eq (Nat.zero_add _)) (fun _ _ q => q.elim) ?_
  rintro _ h2 ⟨rfl, hC2, f2⟩
  refine z_iload_n dCls_takeFrom_16 rfl ?_
  refine z_iret rfl rfl dCls_takeFrom_17 ?_
  exact ⟨rfl, hC2, (zFrm.of2 (i := 8 + 2 * k) (j := 9 + 2 * k) (by omega) (by omega) f1).tr f2⟩
theorem k_Cls_becomeResult {k : Nat} {b : Int} {R : List Int} (hC : zCls G h ad S) (hk : k < 4) (hR : zRow G h (ad 16) (ad 17) R) (hb : b = 0 ∨ b = 1) : zM G l hCls_becomeResult yCls_becomeResult 8 [.ref (ad 0), zi (k : Int), zi b] h (fun v h' => ((b = 1 ∧ v = some (zi (R.length : Int)) ∧ zCls G h' ad (zsStale (zsL S k R) k (-1))) ∨ (b = 0 ∧ v = some (zi (-1000009)) ∧ zCls G h' ad (zsRef S))) ∧ zFrm ad h h') zNo 1 6 := by
  obtain ⟨c1, c2, ⟨g3, c3, d3⟩, ⟨g4, c4, d4⟩, c5, ⟨T6, c6, d6⟩, c7, c8, ⟨R9, c9⟩, c10⟩ := id hC
  have hr := hC.ls hk
  obtain ⟨f, e1, e2, e3, e4, e5⟩ := id hr
  obtain ⟨f9, b1, b2, b3, b4, b5⟩ := id hR
  refine zM.of [some (.ref (ad 0)), some (zi (k : Int)), some (zi b)] (by decide +kernel) rfl (by decide) rfl (Nat.le_of_ble_eq_true rfl) rfl ?_
  refine z_iload_n dCls_becomeResult_0 rfl ?_
  refine z_if_ne (tgt := 9) dCls_becomeResult_1 (by decide) (by omega) (fun c1 => ?_) (fun c1 => ?_)
  · refine z_aload_n dCls_becomeResult_9 rfl ?_
    refine z_iload_n dCls_becomeResult_10 rfl ?_
    refine z_callV (bc' := 0) (bs' := 0) MV_Cls_listAt lk_Cls_34 dCls_becomeResult_11 (k_Cls_listAt hC (by omega)) rfl rfl (Nat.le_of_ble_eq_true rfl) rfl c2 (Nat.le_of_ble_eq_true rfl) (Nat.le_of_ble_eq_true rfl) (by decide) (by decide) (fun E h9 q9 => absurd (by omega) q9.2.1) ?_
    rintro _ _ ⟨rfl, k1, k2, rfl⟩
    rw [show (k : Int).toNat = k by omega]
    refine z_aload_n dCls_becomeResult_14 rfl ?_
    refine z_get (k := 3) fd_Cls (by decide) fl_Cls_29 dCls_becomeResult_15 c2 (by rfl) ?_
    refine z_callVN MV_Row_become lk_Cls_105 dCls_becomeResult_18 (k_Row_become hr hR (hC.inj (by omega) (by omega) (by omega)) (hC.inj (by omega) (by omega) (by omega))) rfl rfl (Nat.le_of_ble_eq_true rfl) rfl e1 (Nat.le_of_ble_eq_true rfl) (Nat.le_of_ble_eq_true rfl) (Nat.le_of_eq (Nat.zero_add _)) (Nat.le_of_eq (Nat.zero_add _)) (fun _ _ q => q.elim) ?_
    rintro _ h1 ⟨rfl, hr1, f1⟩
    have hC1 := hC.row hk hr1 f1
    have hR1 : zRow G h1 (ad 16) (ad 17) R := hR.kept (f1 _ (hC.inj (by omega) (by omega) (by omega)) (hC.inj (by omega) (by omega) (by omega))) (f1 _ (hC.inj (by omega) (by omega) (by omega)) (hC.inj (by omega) (by omega) (by omega)))
    obtain ⟨c21, c22, -⟩ := id hC1
    refine z_aload_n dCls_becomeResult_21 rfl ?_
    refine z_iload_n dCls_becomeResult_22 rfl ?_
    refine z_iconst dCls_becomeResult_23 ?_
    refine z_callV MV_Cls_makeStale lk_Cls_58 dCls_becomeResult_24 (k_Cls_makeStaleR hC1 hR1 (by omega) (by omega)) rfl rfl (Nat.le_of_ble_eq_true rfl) rfl c22 (Nat.le_of_ble_eq_true rfl) (Nat.le_of_ble_eq_true rfl) (Nat.le_of_eq (Nat.zero_add _)) (Nat.le_of_eq (Nat.zero_add _)) (fun _ _ q => q.elim) ?_
    rintro _ h2 ⟨rfl, hC2, hR2, f2⟩
    obtain ⟨c31, c32, -⟩ := id hC2
    obtain ⟨f8, a1, a2, a3, a4, a5⟩ := id hR2
    refine z_aload_n dCls_becomeResult_27 rfl ?_
    refine z_get (k := 3) fd_Cls (by decide) fl_Cls_29 dCls_becomeResult_28 c32 (by rfl) ?_
    refine z_getN (k := 1) fd_Row (by decide) fl_Cls_46 dCls_becomeResult_31 a1 (by rfl) ?_
    refine z_iret rfl rfl dCls_becomeResult_34 ?_
    exact ⟨Or.inl ⟨by omega, rfl, hC2⟩, (zFrm.of2 (i := 8 + 2 * k) (j := 9 + 2 * k) (by omega) (by omega) f1).tr f2⟩
  · refine z_aload_n dCls_becomeResult_4 rfl ?_
    refine z_callV MV_Cls_refuse lk_Cls_54 dCls_becomeResult_5 (k_Cls_refuse hC) rfl rfl (Nat.le_of_ble_eq_true rfl) rfl c2 (Nat.le_of_ble_eq_true rfl) (Nat.le_of_ble_eq_true rfl) (Nat.le_of_eq (Nat.zero_add _)) (Nat.le_of_eq (Nat.zero_add _)) (fun _ _ q => q.elim) ?_
    rintro _ h2 ⟨rfl, hC2, f2⟩
    refine z_iret rfl rfl dCls_becomeResult_8 ?_
    exact ⟨Or.inr ⟨by omega, rfl, hC2⟩, f2⟩
end CLS2
end
section
section CLS3
variable {G : zG} {l : Launch} {h h' : zHp} {ad : Nat → Nat} {S : zSt}
theorem z_hx {J : zJ} {bc bs : Nat} {a : Nat} {e : Option va_E} {pc : Nat} {ls : List (Option Value)} {st : List Value} (k : ∀ h1, h1 a = e → (∀ q, q ≠ a → h1 q = h q) → zR G l J bc bs h1 pc ls st) : zR G l J bc bs (zup h a e) pc ls st :=
  k _ (zup_same _ _ _) (fun _ hq => zup_ne hq)
/-- a cursor's cell as it stands -/
def zCe (h : zHp) (a : Nat) (th st li ix la : Int) : Prop := h a = some (.inr (zkCur, [zi th, zi st, zi li, zi ix, zi la]))
theorem k_Cur_init {a : Nat} (e : h a = some (.inr (zkCur, [zi 0, zi 0, zi 0, zi 0, zi 0]))) : zM G l hCur_init yCur_init 2 [.ref a] h (fun v h' => v = none ∧ zCe h' a 0 0 0 0 (-1) ∧ ∀ q, q ≠ a → h' q = h q) zNo 0 0 := by
  refine zM.of [some (.ref a)] (by decide +kernel) rfl (by decide) rfl (Nat.le_of_ble_eq_true rfl) rfl ?_
  refine z_aload_n dCur_init_0 rfl ?_
  refine z_obj lk_Cur_3 ob_i ob_c dCur_init_1 (Nat.le_of_ble_eq_true rfl) (Nat.le_of_ble_eq_true rfl) (Nat.le_of_ble_eq_true rfl) ?_
  refine z_aload_n dCur_init_4 rfl ?_
  refine z_iconst dCur_init_5 ?_
  refine z_put (k := 4) fd_Cur (by decide) fl_Cur_9 rfl dCur_init_6 (by assumption) (by simp) rfl rfl ?_
  refine z_hx (fun h1 p1 f1 => ?_)
  refine z_vret rfl dCur_init_9 ?_
  exact ⟨rfl, p1, f1⟩
theorem k_Cur_begin {a : Nat} {th st li ix la k p : Int} (e : zCe h a th st li ix la) : zM G l hCur_begin yCur_begin 1 [.ref a, zi k, zi p] h (fun v h' => v = none ∧ zCe h' a 1 0 k p (-1) ∧ ∀ q, q ≠ a → h' q = h q) zNo 0 0 := by
  unfold zCe at e
  refine zM.of [some (.ref a), some (zi k), some (zi p)] (by decide +kernel) rfl (by decide) rfl (Nat.le_of_ble_eq_true rfl) rfl ?_
  refine z_aload_n dCur_begin_0 rfl ?_
  refine z_iconst dCur_begin_1 ?_
  refine z_put (k := 0) fd_Cur (by decide) fl_Cur_15 rfl dCur_begin_2 (by assumption) (by simp) rfl rfl ?_
  refine z_hx (fun h1 p1 f1 => ?_)
  refine z_aload_n dCur_begin_5 rfl ?_
  refine z_iconst dCur_begin_6 ?_
  refine z_put (k := 1) fd_Cur (by decide) fl_Cur_19 rfl dCur_begin_7 (by assumption) (by simp) rfl rfl ?_
  refine z_hx (fun h2 p2 f2 => ?_)
  refine z_aload_n dCur_begin_10 rfl ?_
  refine z_iload_n dCur_begin_11 rfl ?_
  refine z_put (k := 2) fd_Cur (by decide) fl_Cur_22 rfl dCur_begin_12 (by assumption) (by simp) rfl rfl ?_
  refine z_hx (fun h3 p3 f3 => ?_)
  refine z_aload_n dCur_begin_15 rfl ?_
  refine z_iload_n dCur_begin_16 rfl ?_
  refine z_put (k := 3) fd_Cur (by decide) fl_Cur_25 rfl dCur_begin_17 (by assumption) (by simp) rfl rfl ?_
  refine z_hx (fun h4 p4 f4 => ?_)
  refine z_aload_n dCur_begin_20 rfl ?_
  refine z_iconst dCur_begin_21 ?_
  refine z_put (k := 4) fd_Cur (by decide) fl_Cur_9 rfl dCur_begin_22 (by assumption) (by simp) rfl rfl ?_
  refine z_hx (fun h5 p5 f5 => ?_)
  refine z_vret rfl dCur_begin_25 ?_
  exact ⟨rfl, p5, (fun q hq => (f5 q hq).trans ((f4 q hq).trans ((f3 q hq).trans ((f2 q hq).trans (f1 q hq)))))⟩
theorem k_Cur_stepForth {a r ar : Nat} {L : List Int} {th st li ix la : Int} (e : zCe h a th st li ix la) (hr : zRow G h r ar L) (na : r ≠ a) (nb : ar ≠ a) (hix : 0 ≤ ix ∧ ix ≤ 99) : zM G l hCur_stepForth yCur_stepForth 3 [.ref a, .ref r] h (fun v h' => ((v = some (zi (zAt L ix)) ∧ (0 ≤ ix ∧ ix < (L.length : Int)) ∧ zCe h' a th st li (ix + 1) ix) ∨ (v = some (zi 10000) ∧ ¬ (0 ≤ ix ∧ ix < (L.length : Int)) ∧ h' = h)) ∧ ∀ q, q ≠ a → h' q = h q) zNo 0 0 := by
  unfold zCe at e
  obtain ⟨fr, er, -⟩ := id hr
  have hl := hr.len
  refine zM.of [some (.ref a), some (.ref r)] (by decide +kernel) rfl (by decide) rfl (Nat.le_of_ble_eq_true rfl) rfl ?_
  refine z_aload_n dCur_stepForth_0 rfl ?_
  refine z_aload_n dCur_stepForth_1 rfl ?_
  refine z_get (k := 3) fd_Cur (by decide) fl_Cur_25 dCur_stepForth_2 (by assumption) (by rfl) ?_
  refine z_callVN MV_Row_hasPlace lk_Cur_28 dCur_stepForth_5 (k_Row_hasPlace hr (by omega)) rfl rfl (Nat.le_of_ble_eq_true rfl) rfl (by assumption) (Nat.le_of_ble_eq_true rfl) (Nat.le_of_ble_eq_true rfl) (Nat.le_of_eq (Nat.zero_add _)) (Nat.le_of_eq (Nat.zero_add _)) (fun _ _ q => q.elim) ?_
  rintro _ _ ⟨b9, rfl, hb9, rfl⟩
  refine z_if_ne (tgt := 15) dCur_stepForth_8 (by decide) (by omega) (fun c8 => ?_) (fun c8 => ?_)
  · refine z_aload_n dCur_stepForth_15 rfl ?_
    refine z_aload_n dCur_stepForth_16 rfl ?_
    refine z_get (k := 3) fd_Cur (by decide) fl_Cur_25 dCur_stepForth_17 (by assumption) (by rfl) ?_
    refine z_put (k := 4) fd_Cur (by decide) fl_Cur_9 rfl dCur_stepForth_20 (by assumption) (by simp) rfl rfl ?_
    refine z_hx (fun h1 p1 f1 => ?_)
    refine z_aload_n dCur_stepForth_23 rfl ?_
    refine z_dup rfl dCur_stepForth_24 ?_
    refine z_get (k := 3) fd_Cur (by decide) fl_Cur_25 dCur_stepForth_25 (by assumption) (by rfl) ?_
    refine z_iconst dCur_stepForth_28 ?_
    refine z_iadd dCur_stepForth_29 ?_
    refine z_put (k := 3) fd_Cur (by decide) fl_Cur_25 rfl dCur_stepForth_30 (by assumption) (by simp) rfl rfl ?_
    refine z_hx (fun h2 p2 f2 => ?_)
    have er2 := ((f2 _ na).trans (f1 _ na)).trans er
    refine z_aload_n dCur_stepForth_33 rfl ?_
    refine z_aload_n dCur_stepForth_34 rfl ?_
    refine z_get (k := 4) fd_Cur (by decide) fl_Cur_9 dCur_stepForth_35 (by assumption) (by rfl) ?_
    refine z_callVN MV_Row_itemAt lk_Cur_34 dCur_stepForth_38 (k_Row_itemAt (hr.kept ((f2 _ na).trans (f1 _ na)) ((f2 _ nb).trans (f1 _ nb))) (by omega)) rfl rfl (Nat.le_of_ble_eq_true rfl) rfl (by assumption) (Nat.le_of_ble_eq_true rfl) (Nat.le_of_ble_eq_true rfl) (Nat.le_of_eq (Nat.zero_add _)) (Nat.le_of_eq (Nat.zero_add _)) (fun _ _ q => q.elim) ?_
    rintro _ _ ⟨rfl, rfl⟩
    refine z_iret rfl rfl dCur_stepForth_41 ?_
    exact ⟨Or.inl ⟨rfl, by omega, p2⟩, (fun q hq => (f2 q hq).trans (f1 q hq))⟩
  · refine z_sipush dCur_stepForth_11 rfl ?_
    refine z_iret rfl rfl dCur_stepForth_14 ?_
    exact ⟨Or.inr ⟨rfl, by omega, rfl⟩, fun q hq => rfl⟩
theorem k_Cur_stepBack {a r ar : Nat} {L : List Int} {th st li ix la : Int} (e : zCe h a th st li ix la) (hr : zRow G h r ar L) (na : r ≠ a) (nb : ar ≠ a) (hix : 0 ≤ ix ∧ ix ≤ 99) : zM G l hCur_stepBack yCur_stepBack 3 [.ref a, .ref r] h (fun v h' => ((v = some (zi (zAt L (ix - 1))) ∧ (0 ≤ ix - 1 ∧ ix - 1 < (L.length : Int)) ∧ zCe h' a th st li (ix - 1) (ix - 1)) ∨ (v = some (zi 10000) ∧ ¬ (0 ≤ ix - 1 ∧ ix - 1 < (L.length : Int)) ∧ h' = h)) ∧ ∀ q, q ≠ a → h' q = h q) zNo 0 0 := by
  unfold zCe at e
  obtain ⟨fr, er, -⟩ := id hr
  have hl := hr.len
  refine zM.of [some (.ref a), some (.ref r)] (by decide +kernel) rfl (by decide) rfl (Nat.le_of_ble_eq_true rfl) rfl ?_
  refine z_aload_n dCur_stepBack_0 rfl ?_
  refine z_aload_n dCur_stepBack_1 rfl ?_
  refine z_get (k := 3) fd_Cur (by decide) fl_Cur_25 dCur_stepBack_2 (by assumption) (by rfl) ?_
  refine z_iconst dCur_stepBack_5 ?_
  refine z_isub dCur_stepBack_6 ?_
  refine z_callVN MV_Row_hasPlace lk_Cur_28 dCur_stepBack_7 (k_Row_hasPlace hr (by omega)) rfl rfl (Nat.le_of_ble_eq_true rfl) rfl (by assumption) (Nat.le_of_ble_eq_true rfl) (Nat.le_of_ble_eq_true rfl) (Nat.le_of_eq (Nat.zero_add _)) (Nat.le_of_eq (Nat.zero_add _)) (fun _ _ q => q.elim) ?_
  rintro _ _ ⟨b9, rfl, hb9, rfl⟩
  refine z_if_ne (tgt := 17) dCur_stepBack_10 (by decide) (by omega) (fun c10 => ?_) (fun c10 => ?_)
  · refine z_aload_n dCur_stepBack_17 rfl ?_
    refine z_dup rfl dCur_stepBack_18 ?_
    refine z_get (k := 3) fd_Cur (by decide) fl_Cur_25 dCur_stepBack_19 (by assumption) (by rfl) ?_
    refine z_iconst dCur_stepBack_22 ?_
    refine z_isub dCur_stepBack_23 ?_
    refine z_put (k := 3) fd_Cur (by decide) fl_Cur_25 rfl dCur_stepBack_24 (by assumption) (by simp) rfl rfl ?_
    refine z_hx (fun h1 p1 f1 => ?_)
    refine z_aload_n dCur_stepBack_27 rfl ?_
    refine z_aload_n dCur_stepBack_28 rfl ?_
    refine z_get (k := 3) fd_Cur (by decide) fl_Cur_25 dCur_stepBack_29 (by assumption) (by rfl) ?_
    refine z_put (k := 4) fd_Cur (by decide) fl_Cur_9 rfl dCur_stepBack_32 (by assumption) (by simp) rfl rfl ?_
    refine z_hx (fun h2 p2 f2 => ?_)
    have er2 := ((f2 _ na).trans (f1 _ na)).trans er
    refine z_aload_n dCur_stepBack_35 rfl ?_
    refine z_aload_n dCur_stepBack_36 rfl ?_
    refine z_get (k := 4) fd_Cur (by decide) fl_Cur_9 dCur_stepBack_37 (by assumption) (by rfl) ?_
    refine z_callVN MV_Row_itemAt lk_Cur_34 dCur_stepBack_40 (k_Row_itemAt (hr.kept ((f2 _ na).trans (f1 _ na)) ((f2 _ nb).trans (f1 _ nb))) (by omega)) rfl rfl (Nat.le_of_ble_eq_true rfl) rfl (by assumption) (Nat.le_of_ble_eq_true rfl) (Nat.le_of_ble_eq_true rfl) (Nat.le_of_eq (Nat.zero_add _)) (Nat.le_of_eq (Nat.zero_add _)) (fun _ _ q => q.elim) ?_
    rintro _ _ ⟨rfl, rfl⟩
    refine z_iret rfl rfl dCur_stepBack_43 ?_
    exact ⟨Or.inl ⟨rfl, by omega, p2⟩, (fun q hq => (f2 q hq).trans (f1 q hq))⟩
  · refine z_sipush dCur_stepBack_13 rfl ?_
    refine z_iret rfl rfl dCur_stepBack_16 ?_
    exact ⟨Or.inr ⟨rfl, by omega, rfl⟩, fun q hq => rfl⟩
theorem k_Cur_putHere {a r ar : Nat} {L : List Int} {x th st li ix la : Int} (e : zCe h a th st li ix la) (hr : zRow G h r ar L) (na : r ≠ a) (nb : ar ≠ a) (hix : 0 ≤ ix ∧ ix ≤ 99) (hx : zIn x) : zM G l hCur_putHere yCur_putHere 3 [.ref a, .ref r, zi x] h (fun v h' => ((v = some (zi 1) ∧ (L.length < 16 ∧ 0 ≤ ix ∧ ix ≤ L.length) ∧ zRow G h' r ar (zIns L ix x) ∧ zCe h' a th st li (ix + 1) (-1)) ∨ (v = some (zi 0) ∧ ¬ (L.length < 16 ∧ 0 ≤ ix ∧ ix ≤ L.length) ∧ h' = h)) ∧ ∀ q, q ≠ a → q ≠ r → q ≠ ar → h' q = h q) zNo 0 0 := by
  unfold zCe at e
  obtain ⟨fr, er, -⟩ := id hr
  have hl := hr.len
  refine zM.of [some (.ref a), some (.ref r), some (zi x)] (by decide +kernel) rfl (by decide) rfl (Nat.le_of_ble_eq_true rfl) rfl ?_
  refine z_aload_n dCur_putHere_0 rfl ?_
  refine z_aload_n dCur_putHere_1 rfl ?_
  refine z_get (k := 3) fd_Cur (by decide) fl_Cur_25 dCur_putHere_2 (by assumption) (by rfl) ?_
  refine z_iload_n dCur_putHere_5 rfl ?_
  refine z_callVN MV_Row_putIn lk_Cur_38 dCur_putHere_6 (k_Row_putIn hr (by omega) hx) rfl rfl (Nat.le_of_ble_eq_true rfl) rfl er (Nat.le_of_ble_eq_true rfl) (Nat.le_of_ble_eq_true rfl) (Nat.le_of_eq (Nat.zero_add _)) (Nat.le_of_eq (Nat.zero_add _)) (fun _ _ q => q.elim) ?_
  rintro _ h1 (⟨rfl, k3, k4, k5, hr1, f1⟩ | ⟨rfl, k3, rfl⟩)
  · refine z_if_ne (tgt := 14) dCur_putHere_9 (by decide) (by omega) (fun c9 => ?_) (fun c9 => ?_)
    · have p1 := (f1 a na.symm nb.symm).trans e
      refine z_aload_n dCur_putHere_14 rfl ?_
      refine z_dup rfl dCur_putHere_15 ?_
      refine z_get (k := 3) fd_Cur (by decide) fl_Cur_25 dCur_putHere_16 (by assumption) (by rfl) ?_
      refine z_iconst dCur_putHere_19 ?_
      refine z_iadd dCur_putHere_20 ?_
      refine z_put (k := 3) fd_Cur (by decide) fl_Cur_25 rfl dCur_putHere_21 (by assumption) (by simp) rfl rfl ?_
      refine z_hx (fun h2 p2 f2 => ?_)
      refine z_aload_n dCur_putHere_24 rfl ?_
      refine z_iconst dCur_putHere_25 ?_
      refine z_put (k := 4) fd_Cur (by decide) fl_Cur_9 rfl dCur_putHere_26 (by assumption) (by simp) rfl rfl ?_
      refine z_hx (fun h3 p3 f3 => ?_)
      refine z_iconst dCur_putHere_29 ?_
      refine z_iret rfl rfl dCur_putHere_30 ?_
      exact ⟨Or.inl ⟨rfl, by omega, hr1.kept ((f3 _ na).trans (f2 _ na)) ((f3 _ nb).trans (f2 _ nb)), p3⟩, fun q h1 h2 h3 => (f3 q h1).trans ((f2 q h1).trans (f1 q h2 h3))⟩
    · exact absurd c9 (by decide)
  · refine z_if_ne (tgt := 14) dCur_putHere_9 (by decide) (by omega) (fun c9 => ?_) (fun c9 => ?_)
    · exact absurd rfl c9
    · refine z_iconst dCur_putHere_12 ?_
      refine z_iret rfl rfl dCur_putHere_13 ?_
      exact ⟨Or.inr ⟨rfl, by omega, rfl⟩, fun q _ _ _ => rfl⟩
theorem k_Cur_cutLast {a r ar : Nat} {L : List Int} {th st li ix la : Int} (e : zCe h a th st li ix la) (hr : zRow G h r ar L) (na : r ≠ a) (nb : ar ≠ a) (hix : 0 ≤ ix ∧ ix ≤ 99) (hla : 0 ≤ la ∧ la < L.length) : zM G l hCur_cutLast yCur_cutLast 3 [.ref a, .ref r] h (fun v h' => v = none ∧ zRow G h' r ar (zDel L la) ∧ zCe h' a th st li (if la < ix then ix - 1 else ix) (-1) ∧ ∀ q, q ≠ a → q ≠ r → q ≠ ar → h' q = h q) zNo 0 0 := by
  unfold zCe at e
  obtain ⟨fr, er, -⟩ := id hr
  have hl := hr.len
  refine zM.of [some (.ref a), some (.ref r)] (by decide +kernel) rfl (by decide) rfl (Nat.le_of_ble_eq_true rfl) rfl ?_
  refine z_aload_n dCur_cutLast_0 rfl ?_
  refine z_aload_n dCur_cutLast_1 rfl ?_
  refine z_get (k := 4) fd_Cur (by decide) fl_Cur_9 dCur_cutLast_2 (by assumption) (by rfl) ?_
  refine z_callVN MV_Row_takeOut lk_Cur_42 dCur_cutLast_5 (k_Row_takeOut hr (by omega)) rfl rfl (Nat.le_of_ble_eq_true rfl) rfl er (Nat.le_of_ble_eq_true rfl) (Nat.le_of_ble_eq_true rfl) (Nat.le_of_eq (Nat.zero_add _)) (Nat.le_of_eq (Nat.zero_add _)) (fun _ _ q => q.elim) ?_
  rintro _ h1 (⟨rfl, k3, k4, hr1, f1⟩ | ⟨rfl, k3, rfl⟩)
  rotate_left
  · exact absurd hla k3
  have p1 := (f1 a na.symm nb.symm).trans e
  refine z_pop rfl dCur_cutLast_8 ?_
  refine z_aload_n dCur_cutLast_9 rfl ?_
  refine z_get (k := 4) fd_Cur (by decide) fl_Cur_9 dCur_cutLast_10 (by assumption) (by rfl) ?_
  refine z_aload_n dCur_cutLast_13 rfl ?_
  refine z_get (k := 3) fd_Cur (by decide) fl_Cur_25 dCur_cutLast_14 (by assumption) (by rfl) ?_
  refine z_icmp_ge (tgt := 30) dCur_cutLast_17 (by decide) (by omega) (by omega) (fun c17 => ?_) (fun c17 => ?_)
  · refine z_aload_n dCur_cutLast_30 rfl ?_
    refine z_iconst dCur_cutLast_31 ?_
    refine z_put (k := 4) fd_Cur (by decide) fl_Cur_9 rfl dCur_cutLast_32 (by assumption) (by simp) rfl rfl ?_
    refine z_hx (fun h3 p3 f3 => ?_)
    refine z_vret rfl dCur_cutLast_35 ?_
    exact ⟨rfl, hr1.kept (f3 _ na) (f3 _ nb), by rw [if_neg (by omega)]; exact p3, fun q h1 h2 h3 => (f3 q h1).trans (f1 q h2 h3)⟩
  · refine z_aload_n dCur_cutLast_20 rfl ?_
    refine z_dup rfl dCur_cutLast_21 ?_
    refine z_get (k := 3) fd_Cur (by decide) fl_Cur_25 dCur_cutLast_22 (by assumption) (by rfl) ?_
    refine z_iconst dCur_cutLast_25 ?_
    refine z_isub dCur_cutLast_26 ?_
    refine z_put (k := 3) fd_Cur (by decide) fl_Cur_25 rfl dCur_cutLast_27 (by assumption) (by simp) rfl rfl ?_
    refine z_hx (fun h2 p2 f2 => ?_)
    refine z_aload_n dCur_cutLast_30 rfl ?_
    refine z_iconst dCur_cutLast_31 ?_
    refine z_put (k := 4) fd_Cur (by decide) fl_Cur_9 rfl dCur_cutLast_32 (by assumption) (by simp) rfl rfl ?_
    refine z_hx (fun h3 p3 f3 => ?_)
    refine z_vret rfl dCur_cutLast_35 ?_
    exact ⟨rfl, hr1.kept ((f3 _ na).trans (f2 _ na)) ((f3 _ nb).trans (f2 _ nb)), by rw [if_pos (by omega)]; exact p3, fun q h1 h2 h3 => (f3 q h1).trans ((f2 q h1).trans (f1 q h2 h3))⟩
end CLS3
end
section
section CLS4
variable {G : zG} {l : Launch} {h h' : zHp} {ad : Nat → Nat} {S : zSt}
theorem l_Rec_begin {d mc ms bc bs : Nat} {Qn : Option Value → zHp → Prop} {Qx : String → zHp → Prop} {r t q : Nat} {a b c : Int} (n5 : r ≠ t) (e : h r = some (.inr (zkRec, [.ref q, .ref t, zi a, zi b, zi c])))
    (K : ∀ (h1 : zHp) (T' : Nat → Int) y, h1 t = some (zInts G 8 T') → (∀ k : Nat, k < 8 → T' k = 0) → (∀ x, x ≠ t → h1 x = h x) → zR G l (zMJ G hRec_begin d Qn Qx mc ms) bc bs h1 30 [some (.ref r), y] []) :
    ∀ (n : Nat) (m : Nat) (h1 : zHp) (T' : Nat → Int), 8 - m < n → m ≤ 8 → h1 t = some (zInts G 8 T') → (∀ k : Nat, k < m → T' k = 0) → (∀ x, x ≠ t → h1 x = h x) →
      zR G l (zMJ G hRec_begin d Qn Qx mc ms) bc bs h1 11 [some (.ref r), some (zi (m : Int))] [] := by
  intro n
  induction n with
  | zero => intro m h1 T' q1 q2 et hT hf; omega
  | succ n ih =>
  intro m h1 T' q1 q2 et hT hf
  have e1 := (hf r n5).trans e
  refine z_iload_n dRec_begin_11 rfl ?_
  refine z_bipush dRec_begin_12 rfl ?_
  refine z_icmp_ge (tgt := 30) dRec_begin_14 (by decide) (by omega) (by omega) (fun c14 => ?_) (fun c14 => ?_)
  · exact K h1 T' _ et (fun k hk => hT k (by omega)) hf
  · refine z_aload_n dRec_begin_17 rfl ?_
    refine z_get (k := 1) fd_Rec (by decide) fl_Rec_18 dRec_begin_18 (by assumption) (by rfl) ?_
    refine z_iload_n dRec_begin_21 rfl ?_
    refine z_iconst dRec_begin_22 ?_
    refine z_iast dRec_begin_23 (by assumption) (by refine ⟨?_, ?_, ?_⟩ <;> omega) ?_
    refine z_hx (fun h2 p2 f2 => ?_)
    refine z_iinc dRec_begin_24 rfl (Nat.le_of_ble_eq_true rfl) ?_
    refine z_goto (tgt := 11) dRec_begin_27 (by decide) ?_
    refine ih (m + 1) h2 _ (by omega) (by omega) p2 (fun k hk => ?_) (fun x hx => (f2 x hx).trans (hf x hx))
    by_cases e9 : k = m
    · subst e9
      exact if_pos (by omega)
    · exact (if_neg (by omega)).trans (hT k (by omega))
theorem k_Rec_begin {r t q qa : Nat} {K : List Int} {T : Nat → Int} {a b c : Int} (e : h r = some (.inr (zkRec, [.ref q, .ref t, zi a, zi b, zi c]))) (et : h t = some (zInts G 8 T)) (hq : zRow G h q qa K) (n1 : r ≠ q) (n2 : r ≠ qa) (n3 : t ≠ q) (n4 : t ≠ qa) (n5 : r ≠ t) : zM G l hRec_begin yRec_begin 5 [.ref r] h (fun v h' => v = none ∧ h' r = some (.inr (zkRec, [.ref q, .ref t, zi 0, zi 0, zi (-1)])) ∧ (∃ T', h' t = some (zInts G 8 T') ∧ ∀ k : Nat, k < 8 → T' k = 0) ∧ zRow G h' q qa (zPl9 8) ∧ ∀ x, x ≠ r → x ≠ t → x ≠ q → x ≠ qa → h' x = h x) zNo 0 0 := by
  obtain ⟨fr, er, -⟩ := id hq
  refine zM.of [some (.ref r), none] (by decide +kernel) rfl (by decide) rfl (Nat.le_of_ble_eq_true rfl) rfl ?_
  refine z_aload_n dRec_begin_0 rfl ?_
  refine z_get (k := 0) fd_Rec (by decide) fl_Rec_12 dRec_begin_1 (by assumption) (by rfl) ?_
  refine z_bipush dRec_begin_4 rfl ?_
  refine z_callVN MV_Row_becomePlaces lk_Rec_25 dRec_begin_6 (k_Row_becomePlaces (N := 8) hq (by omega)) rfl rfl (Nat.le_of_ble_eq_true rfl) rfl er (Nat.le_of_ble_eq_true rfl) (Nat.le_of_ble_eq_true rfl) (Nat.le_of_eq (Nat.zero_add _)) (Nat.le_of_eq (Nat.zero_add _)) (fun _ _ q => q.elim) ?_
  rintro _ h1 ⟨rfl, hr1, f1⟩
  have e1 := (f1 r n1 n2).trans e
  have et1 := (f1 t n3 n4).trans et
  refine z_iconst dRec_begin_9 ?_
  refine z_istore_n dRec_begin_10 (Nat.le_of_ble_eq_true rfl) ?_
  refine l_Rec_begin n5 e1 (fun h2 T' y et2 hT2 f2 => ?_) 9 0 h1 T (by omega) (by omega) et1 (fun k hk => absurd hk (by omega)) (fun x hx => rfl)
  have e2 := (f2 r n5).trans e1
  refine z_aload_n dRec_begin_30 rfl ?_
  refine z_iconst dRec_begin_31 ?_
  refine z_put (k := 2) fd_Rec (by decide) fl_Rec_29 rfl dRec_begin_32 (by assumption) (by simp) rfl rfl ?_
  refine z_hx (fun h3 p3 f3 => ?_)
  refine z_aload_n dRec_begin_35 rfl ?_
  refine z_iconst dRec_begin_36 ?_
  refine z_put (k := 3) fd_Rec (by decide) fl_Rec_33 rfl dRec_begin_37 (by assumption) (by simp) rfl rfl ?_
  refine z_hx (fun h4 p4 f4 => ?_)
  refine z_aload_n dRec_begin_40 rfl ?_
  refine z_iconst dRec_begin_41 ?_
  refine z_put (k := 4) fd_Rec (by decide) fl_Rec_36 rfl dRec_begin_42 (by assumption) (by simp) rfl rfl ?_
  refine z_hx (fun h5 p5 f5 => ?_)
  refine z_vret rfl dRec_begin_45 ?_
  have g5 : ∀ x, x ≠ r → h5 x = h2 x := fun x hx => ((f5 x hx).trans (f4 x hx)).trans (f3 x hx)
  exact ⟨rfl, p5, ⟨T', (g5 t n5.symm).trans et2, hT2⟩, hr1.kept ((g5 q n1.symm).trans (f2 q n3.symm)) ((g5 qa n2.symm).trans (f2 qa n4.symm)), fun x x1 x2 x3 x4 => ((g5 x x1).trans (f2 x x2)).trans (f1 x x3 x4)⟩
theorem k_Rec_bringAhead {r t q qa : Nat} {K : List Int} {T : Nat → Int} {a b c : Int} {key : Int} (e : h r = some (.inr (zkRec, [.ref q, .ref t, zi a, zi b, zi c]))) (et : h t = some (zInts G 8 T)) (hq : zRow G h q qa K) (n1 : r ≠ q) (n2 : r ≠ qa) (n3 : t ≠ q) (n4 : t ≠ qa) (n5 : r ≠ t) (hk : 0 ≤ key ∧ key < 8) (hp : 0 ≤ zFind K key 0) : zM G l hRec_bringAhead yRec_bringAhead 4 [.ref r, zi key] h (fun v h' => v = some (zi (zFind K key 0 + 1)) ∧ h' r = some (.inr (zkRec, [.ref q, .ref t, zi (a + 1), zi (b + (zFind K key 0 + 1)), zi key])) ∧ h' t = some (zInts G 8 (zup T key.toNat (T key.toNat + 1))) ∧ zRow G h' q qa (zIns (zDel K (zFind K key 0)) 0 key) ∧ ∀ x, x ≠ r → x ≠ t → x ≠ q → x ≠ qa → h' x = h x) zNo 0 0 := by
  obtain ⟨fr, er, -⟩ := id hq
  have hl := hq.len
  have hz := zFind_in K key 0
  have hd := zDel_len K (zFind K key 0)
  refine zM.of [some (.ref r), some (zi key), none] (by decide +kernel) rfl (by decide) rfl (Nat.le_of_ble_eq_true rfl) rfl ?_
  refine z_aload_n dRec_bringAhead_0 rfl ?_
  refine z_get (k := 0) fd_Rec (by decide) fl_Rec_12 dRec_bringAhead_1 (by assumption) (by rfl) ?_
  refine z_iload_n dRec_bringAhead_4 rfl ?_
  refine z_iconst dRec_bringAhead_5 ?_
  refine z_callVN MV_Row_placeOf lk_Rec_39 dRec_bringAhead_6 (k_Row_placeOf hq (by omega) (by omega)) rfl rfl (Nat.le_of_ble_eq_true rfl) rfl er (Nat.le_of_ble_eq_true rfl) (Nat.le_of_ble_eq_true rfl) (Nat.le_of_eq (Nat.zero_add _)) (Nat.le_of_eq (Nat.zero_add _)) (fun _ _ q => q.elim) ?_
  rintro _ _ ⟨rfl, rfl⟩
  refine z_istore_n dRec_bringAhead_9 (Nat.le_of_ble_eq_true rfl) ?_
  refine z_aload_n dRec_bringAhead_10 rfl ?_
  refine z_get (k := 0) fd_Rec (by decide) fl_Rec_12 dRec_bringAhead_11 (by assumption) (by rfl) ?_
  refine z_iload_n dRec_bringAhead_14 rfl ?_
  refine z_callVN MV_Row_takeOut lk_Rec_43 dRec_bringAhead_15 (k_Row_takeOut hq (by omega)) rfl rfl (Nat.le_of_ble_eq_true rfl) rfl er (Nat.le_of_ble_eq_true rfl) (Nat.le_of_ble_eq_true rfl) (Nat.le_of_eq (Nat.zero_add _)) (Nat.le_of_eq (Nat.zero_add _)) (fun _ _ q => q.elim) ?_
  rintro _ h1 (⟨rfl, k3, k4, hr1, f1⟩ | ⟨rfl, k3, rfl⟩)
  rotate_left
  · exact absurd ⟨hp, hz.2⟩ k3
  have e1 := (f1 r n1 n2).trans e
  obtain ⟨fr1, er1, -⟩ := id hr1
  refine z_pop rfl dRec_bringAhead_18 ?_
  refine z_aload_n dRec_bringAhead_19 rfl ?_
  refine z_get (k := 0) fd_Rec (by decide) fl_Rec_12 dRec_bringAhead_20 (by assumption) (by rfl) ?_
  refine z_iconst dRec_bringAhead_23 ?_
  refine z_iload_n dRec_bringAhead_24 rfl ?_
  refine z_callVN MV_Row_putIn lk_Rec_47 dRec_bringAhead_25 (k_Row_putIn hr1 (by omega) (by omega)) rfl rfl (Nat.le_of_ble_eq_true rfl) rfl er1 (Nat.le_of_ble_eq_true rfl) (Nat.le_of_ble_eq_true rfl) (Nat.le_of_eq (Nat.zero_add _)) (Nat.le_of_eq (Nat.zero_add _)) (fun _ _ q => q.elim) ?_
  rintro _ h2 (⟨rfl, k5, k6, k7, hr2, f2⟩ | ⟨rfl, k5, rfl⟩)
  rotate_left
  · exact absurd (by omega) k5
  have e2 := (f2 r n1 n2).trans e1
  have et2 := (f2 t n3 n4).trans ((f1 t n3 n4).trans et)
  refine z_pop rfl dRec_bringAhead_28 ?_
  refine z_iload_n dRec_bringAhead_29 rfl ?_
  refine z_if_lt (tgt := 49) dRec_bringAhead_30 (by decide) (by omega) (fun c30 => ?_) (fun c30 => ?_)
  · exact absurd c30 (by omega)
  refine z_iload_n dRec_bringAhead_33 rfl ?_
  refine z_bipush dRec_bringAhead_34 rfl ?_
  refine z_icmp_ge (tgt := 49) dRec_bringAhead_36 (by decide) (by omega) (by omega) (fun c36 => ?_) (fun c36 => ?_)
  · exact absurd c36 (by omega)
  refine z_aload_n dRec_bringAhead_39 rfl ?_
  refine z_get (k := 1) fd_Rec (by decide) fl_Rec_18 dRec_bringAhead_40 (by assumption) (by rfl) ?_
  refine z_iload_n dRec_bringAhead_43 rfl ?_
  refine z_dup2 rfl rfl dRec_bringAhead_44 ?_
  refine z_iald dRec_bringAhead_45 (by assumption) (by refine ⟨?_, ?_, ?_⟩ <;> omega) ?_
  refine z_iconst dRec_bringAhead_46 ?_
  refine z_iadd dRec_bringAhead_47 ?_
  refine z_iast dRec_bringAhead_48 (by assumption) (by refine ⟨?_, ?_, ?_⟩ <;> omega) ?_
  refine z_hx (fun h3 p3 f3 => ?_)
  have e3 := (f3 r n5).trans e2
  refine z_aload_n dRec_bringAhead_49 rfl ?_
  refine z_dup rfl dRec_bringAhead_50 ?_
  refine z_get (k := 2) fd_Rec (by decide) fl_Rec_29 dRec_bringAhead_51 (by assumption) (by rfl) ?_
  refine z_iconst dRec_bringAhead_54 ?_
  refine z_iadd dRec_bringAhead_55 ?_
  refine z_put (k := 2) fd_Rec (by decide) fl_Rec_29 rfl dRec_bringAhead_56 (by assumption) (by simp) rfl rfl ?_
  refine z_hx (fun h4 p4 f4 => ?_)
  refine z_aload_n dRec_bringAhead_59 rfl ?_
  refine z_dup rfl dRec_bringAhead_60 ?_
  refine z_get (k := 3) fd_Rec (by decide) fl_Rec_33 dRec_bringAhead_61 (by assumption) (by rfl) ?_
  refine z_iload_n dRec_bringAhead_64 rfl ?_
  refine z_iconst dRec_bringAhead_65 ?_
  refine z_iadd dRec_bringAhead_66 ?_
  refine z_iadd dRec_bringAhead_67 ?_
  refine z_put (k := 3) fd_Rec (by decide) fl_Rec_33 rfl dRec_bringAhead_68 (by assumption) (by simp) rfl rfl ?_
  refine z_hx (fun h5 p5 f5 => ?_)
  refine z_aload_n dRec_bringAhead_71 rfl ?_
  refine z_iload_n dRec_bringAhead_72 rfl ?_
  refine z_put (k := 4) fd_Rec (by decide) fl_Rec_36 rfl dRec_bringAhead_73 (by assumption) (by simp) rfl rfl ?_
  refine z_hx (fun h6 p6 f6 => ?_)
  refine z_iload_n dRec_bringAhead_76 rfl ?_
  refine z_iconst dRec_bringAhead_77 ?_
  refine z_iadd dRec_bringAhead_78 ?_
  refine z_iret rfl rfl dRec_bringAhead_79 ?_
  have g6 : ∀ x, x ≠ r → h6 x = h3 x := fun x hx => ((f6 x hx).trans (f5 x hx)).trans (f4 x hx)
  exact ⟨rfl, p6, (g6 t n5.symm).trans p3, hr2.kept ((g6 q n1.symm).trans (f3 q n3.symm)) ((g6 qa n2.symm).trans (f3 qa n4.symm)), fun x x1 x2 x3 x4 => ((g6 x x1).trans (f3 x x2)).trans ((f2 x x3 x4).trans (f1 x x3 x4))⟩
def zCost (T : Nat → Int) (L : List Int) : Nat → Int
  | 0 => 0
  | n + 1 => zCost T L n + T n * (zFind L n 0 + 1)
theorem l_Rec_costBy {d mc ms bc bs : Nat} {Qn : Option Value → zHp → Prop} {Qx : String → zHp → Prop} {r t : Nat} {T : Nat → Int} {q : Value} {a b c : Int} {ro ra : Nat} {L : List Int} (ho : zRow G h ro ra L) (hd : 3 ≤ d) (e : h r = some (.inr (zkRec, [q, .ref t, zi a, zi b, zi c]))) (et : h t = some (zInts G 8 T))
    (K : ∀ y, zR G l (zMJ G hRec_costBy d Qn Qx mc ms) bc bs h 34 [some (.ref r), some (.ref ro), some (zi (zCost T L 8)), y] []) :
    ∀ (n : Nat) (m : Nat), 8 - m < n → m ≤ 8 →
      zR G l (zMJ G hRec_costBy d Qn Qx mc ms) bc bs h 4 [some (.ref r), some (.ref ro), some (zi (zCost T L m)), some (zi (m : Int))] [] := by
  intro n
  induction n with
  | zero => intro m q1 q2; omega
  | succ n ih =>
  intro m q1 q2
  obtain ⟨fo, eo, -⟩ := id ho
  refine z_iload_n dRec_costBy_4 rfl ?_
  refine z_bipush dRec_costBy_5 rfl ?_
  refine z_icmp_ge (tgt := 34) dRec_costBy_7 (by decide) (by omega) (by omega) (fun c7 => ?_) (fun c7 => ?_)
  · have em : m = 8 := by omega
    subst em
    exact K _
  · refine z_iload_n dRec_costBy_10 rfl ?_
    refine z_aload_n dRec_costBy_11 rfl ?_
    refine z_get (k := 1) fd_Rec (by decide) fl_Rec_18 dRec_costBy_12 (by assumption) (by rfl) ?_
    refine z_iload_n dRec_costBy_15 rfl ?_
    refine z_iald dRec_costBy_16 (by assumption) (by refine ⟨?_, ?_, ?_⟩ <;> omega) ?_
    refine z_aload_n dRec_costBy_17 rfl ?_
    refine z_iload_n dRec_costBy_18 rfl ?_
    refine z_iconst dRec_costBy_19 ?_
    refine z_callVN MV_Row_placeOf lk_Rec_39 dRec_costBy_20 (k_Row_placeOf ho (by omega) (by omega)) rfl rfl (Nat.le_of_ble_eq_true rfl) rfl eo (by show 1 + 1 ≤ d; omega) (by show 1 * 64 + 64 ≤ d * 64; omega) (Nat.le_of_eq (Nat.zero_add _)) (Nat.le_of_eq (Nat.zero_add _)) (fun _ _ q => q.elim) ?_
    rintro _ _ ⟨rfl, rfl⟩
    refine z_iconst dRec_costBy_23 ?_
    refine z_iadd dRec_costBy_24 ?_
    refine z_imul dRec_costBy_25 ?_
    refine z_iadd dRec_costBy_26 ?_
    refine z_istore_n dRec_costBy_27 (Nat.le_of_ble_eq_true rfl) ?_
    refine z_iinc dRec_costBy_28 rfl (Nat.le_of_ble_eq_true rfl) ?_
    refine z_goto (tgt := 4) dRec_costBy_31 (by decide) ?_
    exact ih (m + 1) (by omega) (by omega)
theorem k_Rec_costBy {r t : Nat} {T : Nat → Int} {q : Value} {a b c : Int} {ro ra : Nat} {L : List Int} (ho : zRow G h ro ra L) (e : h r = some (.inr (zkRec, [q, .ref t, zi a, zi b, zi c]))) (et : h t = some (zInts G 8 T)) : zM G l hRec_costBy yRec_costBy 3 [.ref r, .ref ro] h (fun v h' => v = some (zi (zCost T L 8)) ∧ h = h') zNo 0 0 := by
  refine zM.of [some (.ref r), some (.ref ro), none, none] (by decide +kernel) rfl (by decide) rfl (Nat.le_of_ble_eq_true rfl) rfl ?_
  refine z_iconst dRec_costBy_0 ?_
  refine z_istore_n dRec_costBy_1 (Nat.le_of_ble_eq_true rfl) ?_
  refine z_iconst dRec_costBy_2 ?_
  refine z_istore_n dRec_costBy_3 (Nat.le_of_ble_eq_true rfl) ?_
  refine l_Rec_costBy ho (by omega) e et (fun y => ?_) 9 0 (by omega) (by omega)
  refine z_iload_n dRec_costBy_34 rfl ?_
  refine z_iret rfl rfl dRec_costBy_35 ?_
  exact ⟨rfl, rfl⟩
theorem k_Rec_boundBy {r t : Nat} {T : Nat → Int} {q : Value} {a b c : Int} {ro ra : Nat} {L : List Int} (ho : zRow G h ro ra L) (e : h r = some (.inr (zkRec, [q, .ref t, zi a, zi b, zi c]))) (et : h t = some (zInts G 8 T)) : zM G l hRec_boundBy yRec_boundBy 4 [.ref r, .ref ro] h (fun v h' => v = some (zi (2 * zCost T L 8 - a + zInv L)) ∧ h = h') zNo 0 0 := by
  obtain ⟨fo, eo, -⟩ := id ho
  refine zM.of [some (.ref r), some (.ref ro)] (by decide +kernel) rfl (by decide) rfl (Nat.le_of_ble_eq_true rfl) rfl ?_
  refine z_iconst dRec_boundBy_0 ?_
  refine z_aload_n dRec_boundBy_1 rfl ?_
  refine z_aload_n dRec_boundBy_2 rfl ?_
  refine z_callV MV_Rec_costBy lk_Rec_51 dRec_boundBy_3 (k_Rec_costBy ho e et) rfl rfl (Nat.le_of_ble_eq_true rfl) rfl e (Nat.le_of_ble_eq_true rfl) (Nat.le_of_ble_eq_true rfl) (Nat.le_of_eq (Nat.zero_add _)) (Nat.le_of_eq (Nat.zero_add _)) (fun _ _ q => q.elim) ?_
  rintro _ _ ⟨rfl, rfl⟩
  refine z_imul dRec_boundBy_6 ?_
  refine z_aload_n dRec_boundBy_7 rfl ?_
  refine z_get (k := 2) fd_Rec (by decide) fl_Rec_29 dRec_boundBy_8 (by assumption) (by rfl) ?_
  refine z_isub dRec_boundBy_11 ?_
  refine z_aload_n dRec_boundBy_12 rfl ?_
  refine z_callVN MV_Row_inversions lk_Rec_55 dRec_boundBy_13 (k_Row_inversions ho) rfl rfl (Nat.le_of_ble_eq_true rfl) rfl eo (Nat.le_of_ble_eq_true rfl) (Nat.le_of_ble_eq_true rfl) (Nat.le_of_eq (Nat.zero_add _)) (Nat.le_of_eq (Nat.zero_add _)) (fun _ _ q => q.elim) ?_
  rintro _ _ ⟨rfl, rfl⟩
  refine z_iadd dRec_boundBy_16 ?_
  refine z_iret rfl rfl dRec_boundBy_17 ?_
  exact ⟨rfl, rfl⟩
theorem zCls.rc {K' A' : List Int} {x : Int} {T' : Nat → Int} (hC : zCls G h ad S) (e3 : h' (ad 3) = some (.inr (zkRec, [.ref (ad 18), .ref (ad 4), zi (A'.length : Int), zi x, zi (zLastOf A')]))) (e4 : h' (ad 4) = some (zInts G 8 T')) (d4 : ∀ k : Nat, k < 8 → T' k = (zCnt A' k : Int)) (hq : zRow G h' (ad 18) (ad 19) K') (hf : ∀ q, q ≠ ad 3 → q ≠ ad 4 → q ≠ ad 18 → q ≠ ad 19 → h' q = h q) : zCls G h' ad (S.1, S.2.1, K', A', zup S.2.2.2.2 0 x) := by
  obtain ⟨c1, c2, ⟨g3, c3, d3⟩, ⟨g4, c4, d4'⟩, c5, ⟨T, c6, d6⟩, c7, c8, ⟨R, c9⟩, c10⟩ := hC
  have ne : ∀ i j, i < 20 → j < 20 → i ≠ j → ad i ≠ ad j := fun i j hi hj hne e => hne (c1 i j hi hj e)
  have kp : ∀ i, i < 20 → i ≠ 3 → i ≠ 4 → i ≠ 18 → i ≠ 19 → h' (ad i) = h (ad i) := fun i hi h1 h2 h3 h4 => hf _ (ne _ _ hi (by omega) h1) (ne _ _ hi (by omega) h2) (ne _ _ hi (by omega) h3) (ne _ _ hi (by omega) h4)
  exact ⟨c1, (kp 0 (by omega) (by omega) (by omega) (by omega) (by omega)).trans c2, ⟨g3, (kp 1 (by omega) (by omega) (by omega) (by omega) (by omega)).trans c3, d3⟩, ⟨g4, (kp 2 (by omega) (by omega) (by omega) (by omega) (by omega)).trans c4, d4'⟩, e3, ⟨T', e4, d4⟩, fun c hc => (c7 c hc).kept (kp _ (by omega) (by omega) (by omega) (by omega) (by omega)), fun j hj => (c8 j hj).kept (kp _ (by omega) (by omega) (by omega) (by omega) (by omega)) (kp _ (by omega) (by omega) (by omega) (by omega) (by omega)), ⟨R, c9.kept (kp 16 (by omega) (by omega) (by omega) (by omega) (by omega)) (kp 17 (by omega) (by omega) (by omega) (by omega) (by omega))⟩, hq⟩
theorem zFrm.of4 (hf : ∀ q, q ≠ ad 3 → q ≠ ad 4 → q ≠ ad 18 → q ≠ ad 19 → h' q = h q) : zFrm ad h h' := fun q hq => hf q (hq 3 (by omega)) (hq 4 (by omega)) (hq 18 (by omega)) (hq 19 (by omega))
theorem zLastOf_app (A : List Int) (x : Int) : zLastOf (A ++ [x]) = x := by
  unfold zLastOf
  rw [if_neg (by simp)]
  simp
theorem zCnt_app (A : List Int) (x k : Int) : (zCnt (A ++ [x]) k : Int) = zCnt A k + (if k = x then 1 else 0) := by
  unfold zCnt
  by_cases e : k = x
  · subst e
    simp
  · simp [e, Ne.symm e]
end CLS4
end
section
/-! ===== what each act answers, and the state after it ===== -/
section SPEC
variable {G9 : zG}
abbrev spRef (S : zSt) : zRes := (.inl (-1000009), zsRef S)
def spPut (S : zSt) (k : Nat) (q x : Int) : zRes := if (S.1 k).length < 16 ∧ 0 ≤ q ∧ q ≤ (S.1 k).length then (.inl ((S.1 k).length + 1), zsStale (zsL S k (zIns (S.1 k) q x)) k (-1)) else spRef S
abbrev spTake (S : zSt) (k : Nat) (q : Int) : zRes := (.inl ((S.1 k).getD q.toNat 0), zsStale (zsL S k (zDel (S.1 k) q)) k (-1))
abbrev spBec (S : zSt) (k : Nat) (L : List Int) : zRes := (.inl (L.length : Int), zsStale (zsL S k L) k (-1))
def sp_put (S : zSt) (p w x : Int) : zRes := if 0 ≤ p ∧ p < 4 then (if 0 ≤ w ∧ w ≤ 5 then (if zIn x then (if w = 1 ∨ w = 3 ∨ w = 5 then spPut S p.toNat ((S.1 p.toNat).length : Int) x else spPut S p.toNat 0 x) else (.inr zE2, S)) else (.inr zE2, S)) else (.inr zE1, S)
def sp_take (S : zSt) (p w : Int) : zRes := if 0 ≤ p ∧ p < 4 then (if 0 ≤ w ∧ w ≤ 6 then (if (S.1 p.toNat).length = 0 then (if w = 0 ∨ w = 1 ∨ w = 4 ∨ w = 5 then spRef S else (.inl 10000, zsStale S p.toNat (-1))) else spTake S p.toNat (if w = 1 ∨ w = 3 then ((S.1 p.toNat).length : Int) - 1 else 0)) else (.inr zE2, S)) else (.inr zE1, S)
def sp_look (S : zSt) (p w : Int) : zRes := if 0 ≤ p ∧ p < 4 then (if 0 ≤ w ∧ w ≤ 5 then (if (S.1 p.toNat).length = 0 then (if w = 0 ∨ w = 1 ∨ w = 4 then spRef S else (.inl 10000, S)) else (.inl (zAt (S.1 p.toNat) (if w = 1 ∨ w = 3 then ((S.1 p.toNat).length : Int) - 1 else 0)), S)) else (.inr zE2, S)) else (.inr zE1, S)
def sp_get (S : zSt) (p q : Int) : zRes := if 0 ≤ p ∧ p < 4 then (if 0 ≤ q ∧ q < ((S.1 p.toNat).length : Int) then (.inl (zAt (S.1 p.toNat) q), S) else (.inr zE1, S)) else (.inr zE1, S)
def sp_set (S : zSt) (p q x : Int) : zRes := if 0 ≤ p ∧ p < 4 then (if 0 ≤ q ∧ q < ((S.1 p.toNat).length : Int) then (if zIn x then (.inl (zAt (S.1 p.toNat) q), zsL S p.toNat (zSet (S.1 p.toNat) q x)) else (.inr zE2, S)) else (.inr zE1, S)) else (.inr zE1, S)
def sp_insert (S : zSt) (p q x : Int) : zRes := if 0 ≤ p ∧ p < 4 then (if 0 ≤ q ∧ q ≤ ((S.1 p.toNat).length : Int) then (if zIn x then (spPut S p.toNat q x) else (.inr zE2, S)) else (.inr zE1, S)) else (.inr zE1, S)
def sp_removeAt (S : zSt) (p q : Int) : zRes := if 0 ≤ p ∧ p < 4 then (if 0 ≤ q ∧ q < ((S.1 p.toNat).length : Int) then (spTake S p.toNat q) else (.inr zE1, S)) else (.inr zE1, S)
def sp_drop (S : zSt) (p x b : Int) : zRes := if 0 ≤ p ∧ p < 4 then (if 0 ≤ zFind (S.1 p.toNat) x b then (.inl 1, zsStale (zsL S p.toNat (zDel (S.1 p.toNat) (zFind (S.1 p.toNat) x b))) p.toNat (-1)) else (.inl 0, zsStale S p.toNat (-1))) else (.inr zE1, S)
def sp_thin (S : zSt) (p x : Int) : zRes := if 0 ≤ p ∧ p < 4 then (.inl (((S.1 p.toNat).length : Int) - (zFl (S.1 p.toNat) x).length), zsStale (zsL S p.toNat (zFl (S.1 p.toNat) x)) p.toNat (-1)) else (.inr zE1, S)
def sp_indexOf (S : zSt) (p x b : Int) : zRes := if 0 ≤ p ∧ p < 4 then (.inl (zFind (S.1 p.toNat) x b), S) else (.inr zE1, S)
def sp_has (S : zSt) (p x : Int) : zRes := if 0 ≤ p ∧ p < 4 then (if zFind (S.1 p.toNat) x 0 = -1 then (.inl 0, S) else (.inl 1, S)) else (.inr zE1, S)
def sp_size (S : zSt) (p : Int) : zRes := if 0 ≤ p ∧ p < 4 then (.inl ((S.1 p.toNat).length : Int), S) else (.inr zE1, S)
def sp_clear (S : zSt) (p : Int) : zRes := if 0 ≤ p ∧ p < 4 then (.inl ((S.1 p.toNat).length : Int), zsStale (zsL S p.toNat []) p.toNat (-1)) else (.inr zE1, S)
def sp_append (S : zSt) (p f : Int) : zRes := if 0 ≤ p ∧ p < 4 then (if 0 ≤ f ∧ f < 4 then (if (S.1 p.toNat).length + (S.1 f.toNat).length ≤ 16 then spBec S p.toNat (zJn (S.1 p.toNat) ((S.1 p.toNat).length : Int) (S.1 f.toNat) (S.1 f.toNat).length) else spRef S) else (.inr zE1, S)) else (.inr zE1, S)
def sp_appendAt (S : zSt) (p q f : Int) : zRes := if 0 ≤ p ∧ p < 4 then (if 0 ≤ f ∧ f < 4 then (if 0 ≤ q ∧ q ≤ ((S.1 p.toNat).length : Int) then (if (S.1 p.toNat).length + (S.1 f.toNat).length ≤ 16 then spBec S p.toNat (zJn (S.1 p.toNat) q (S.1 f.toNat) (S.1 f.toNat).length) else spRef S) else (.inr zE1, S)) else (.inr zE1, S)) else (.inr zE1, S)
def sp_copy (S : zSt) (p i : Int) : zRes := if 0 ≤ p ∧ p < 4 then (if 0 ≤ i ∧ i < 4 then (spBec S i.toNat (S.1 p.toNat)) else (.inr zE1, S)) else (.inr zE1, S)
def sp_places (S : zSt) (p m : Int) : zRes := if 0 ≤ p ∧ p < 4 then (if 0 ≤ m ∧ m ≤ 16 then (spBec S p.toNat (zPl9 m.toNat)) else (.inr zE2, S)) else (.inr zE1, S)
def sp_rotate (S : zSt) (p b : Int) : zRes := if 0 ≤ p ∧ p < 4 then (if -99 ≤ b ∧ b ≤ 99 then (.inl (zFst (zRot (S.1 p.toNat) b)), zsStale (zsL S p.toNat (zRot (S.1 p.toNat) b)) p.toNat (-1)) else (.inr zE2, S)) else (.inr zE1, S)
def sp_move (S : zSt) (p f t : Int) : zRes := if 0 ≤ p ∧ p < 4 then (if 0 ≤ f ∧ f < ((S.1 p.toNat).length : Int) then (if 0 ≤ t ∧ t < ((S.1 p.toNat).length : Int) then (.inl ((S.1 p.toNat).getD f.toNat 0), zsStale (zsL S p.toNat (zIns (zDel (S.1 p.toNat) f) t ((S.1 p.toNat).getD f.toNat 0))) p.toNat (-1)) else (.inr zE1, S)) else (.inr zE1, S)) else (.inr zE1, S)
def sp_swap (S : zSt) (p i j : Int) : zRes := if 0 ≤ p ∧ p < 4 then (if 0 ≤ i ∧ i < ((S.1 p.toNat).length : Int) then (if 0 ≤ j ∧ j < ((S.1 p.toNat).length : Int) then (.inl (zAt (zSwp (S.1 p.toNat) i j) i), zsL S p.toNat (zSwp (S.1 p.toNat) i j)) else (.inr zE1, S)) else (.inr zE1, S)) else (.inr zE1, S)
def sp_reverse (S : zSt) (p : Int) : zRes := if 0 ≤ p ∧ p < 4 then (.inl (zFst (zRev (S.1 p.toNat))), zsL S p.toNat (zRev (S.1 p.toNat))) else (.inr zE1, S)
def sp_through (S : zSt) (p m i : Int) : zRes := if 0 ≤ p ∧ p < 4 then (if 0 ≤ m ∧ m < 4 then (if 0 ≤ i ∧ i < 4 then (if (∀ j : Nat, j < (S.1 m.toNat).length → 0 ≤ (S.1 m.toNat).getD j 0 ∧ (S.1 m.toNat).getD j 0 < (S.1 p.toNat).length) then spBec S i.toNat (zmk (S.1 m.toNat).length (fun j => zAt (S.1 p.toNat) ((S.1 m.toNat).getD j 0))) else spRef S) else (.inr zE1, S)) else (.inr zE1, S)) else (.inr zE1, S)
def sp_areSame (S : zSt) (p o : Int) : zRes := if 0 ≤ p ∧ p < 4 then (if 0 ≤ o ∧ o < 4 then (if (S.1 p.toNat) = (S.1 o.toNat) then (.inl 1, S) else (.inl 0, S)) else (.inr zE1, S)) else (.inr zE1, S)
def sp_isMirror (S : zSt) (p : Int) : zRes := if 0 ≤ p ∧ p < 4 then (if zRev (S.1 p.toNat) = (S.1 p.toNat) then (.inl 1, S) else (.inl 0, S)) else (.inr zE1, S)
def sp_plus (S : zSt) (p o : Int) : zRes := if 0 ≤ p ∧ p < 4 then (if 0 ≤ o ∧ o < 4 then (if (∀ j : Nat, j < (if ((S.1 p.toNat).length : Int) < (S.1 o.toNat).length then (S.1 o.toNat).length else (S.1 p.toNat).length) → zIn (zAt (S.1 p.toNat) j + zAt (S.1 o.toNat) j)) then spBec S p.toNat (zmk (if ((S.1 p.toNat).length : Int) < (S.1 o.toNat).length then (S.1 o.toNat).length else (S.1 p.toNat).length) (fun j => zAt (S.1 p.toNat) j + zAt (S.1 o.toNat) j)) else spRef S) else (.inr zE1, S)) else (.inr zE1, S)
def sp_times (S : zSt) (p o : Int) : zRes := if 0 ≤ p ∧ p < 4 then (if 0 ≤ o ∧ o < 4 then (if (zPn (S.1 p.toNat) (S.1 o.toNat) ≤ 16 ∧ ∀ j : Nat, j < zPn (S.1 p.toNat) (S.1 o.toNat) → zIn (zCf (S.1 p.toNat) (S.1 o.toNat) j (j + 1))) then spBec S p.toNat (zmk (zPn (S.1 p.toNat) (S.1 o.toNat)) (fun j => zCf (S.1 p.toNat) (S.1 o.toNat) j (j + 1))) else spRef S) else (.inr zE1, S)) else (.inr zE1, S)
def sp_shift (S : zSt) (p : Int) : zRes := if 0 ≤ p ∧ p < 4 then (if (S.1 p.toNat).length = 0 then (.inl 0, zsStale S p.toNat (-1)) else if (S.1 p.toNat).length < 16 then spBec S p.toNat (zIns (S.1 p.toNat) 0 0) else spRef S) else (.inr zE1, S)
def sp_trim (S : zSt) (p : Int) : zRes := if 0 ≤ p ∧ p < 4 then (.inl (((S.1 p.toNat).length : Int) - (zLnz (S.1 p.toNat) + 1)), zsStale (zsL S p.toNat ((S.1 p.toNat).take (zLnz (S.1 p.toNat) + 1).toNat)) p.toNat (-1)) else (.inr zE1, S)
def sp_derive (S : zSt) (p : Int) : zRes := if 0 ≤ p ∧ p < 4 then (if (∀ j : Nat, j < (S.1 p.toNat).length - 1 → zIn ((S.1 p.toNat).getD (j + 1) 0 * ((j : Int) + 1))) then spBec S p.toNat (zmk ((S.1 p.toNat).length - 1) (fun j => (S.1 p.toNat).getD (j + 1) 0 * ((j : Int) + 1))) else spRef S) else (.inr zE1, S)
def sp_value (S : zSt) (p x : Int) : zRes := if 0 ≤ p ∧ p < 4 then (if -99 ≤ x ∧ x ≤ 99 then (.inl (zHr (S.1 p.toNat) x (S.1 p.toNat).length), S) else (.inr zE2, S)) else (.inr zE1, S)
def sp_degree (S : zSt) (p : Int) : zRes := if 0 ≤ p ∧ p < 4 then (.inl (zLnz (S.1 p.toNat)), S) else (.inr zE1, S)
end SPEC
section CLS5
variable {G : zG} {l : Launch} {h h' : zHp} {ad : Nat → Nat} {S : zSt}
theorem zQc.mk {z : Int} {S' : zSt} {r : zRes} (hC : zCls G h' ad S') (hf : zFrm ad h h') (e : r = (.inl z, S')) : zQc G ad h r (some (zi z)) h' := ⟨z, S', e, rfl, hC, hf⟩
theorem zXc.mk {E : String} {S' : zSt} {r : zRes} (hC : zCls G h' ad S') (hf : zFrm ad h h') (e : r = (.inr E, S')) : zXc G ad h r E h' := ⟨S', e, hC, hf⟩
theorem zsS_l {k : Nat} {i b : Int} {L : List Int} : (zsStale (zsL S k L) i b).1 k = L := zup_same _ _ _
theorem zsS_0 {i b : Int} {k : Nat} : (zsStale S i b).1 k = S.1 k := rfl
theorem zsL_l {k : Nat} {L : List Int} : (zsL S k L).1 k = L := zup_same _ _ _
theorem k_Cls_put {p w x : Int}  (hC : zCls G h ad S) (z_p : zI32 p) (z_w : zI32 w) (z_x : zI32 x) : zM G l hCls_put yCls_put 9 [.ref (ad 0), zi p, zi w, zi x] h (zQc G ad h (sp_put S p w x)) (zXc G ad h (sp_put S p w x)) 6 36 := by
  obtain ⟨c1, c2, ⟨g3, c3, d3⟩, ⟨g4, c4, d4⟩, c5, ⟨T6, c6, d6⟩, c7, c8, ⟨R9, c9⟩, c10⟩ := id hC
  refine zM.of [some (.ref (ad 0)), some (zi p), some (zi w), some (zi x), none, none] (by decide +kernel) rfl (by decide) rfl (Nat.le_of_ble_eq_true rfl) rfl ?_
  refine z_aload_n dCls_put_0 rfl ?_
  refine z_iload_n dCls_put_1 rfl ?_
  refine z_callV (bc' := 5) (bs' := 30) MV_Cls_listAt lk_Cls_34 dCls_put_2 (k_Cls_listAt (by assumption) (by omega)) rfl rfl (Nat.le_of_ble_eq_true rfl) rfl (by assumption) (Nat.le_of_ble_eq_true rfl) (Nat.le_of_ble_eq_true rfl) (by decide) (by decide) (fun E h9 q9 => z_out rfl (by obtain ⟨rfl, q1, rfl⟩ := q9; exact zXc.mk (by assumption) (by first | exact zFrm.rf | assumption) (by unfold sp_put; (try unfold spPut); (try simp only [Int.toNat_natCast]); (repeat (first | rw [if_pos (by omega)] | rw [if_neg (by omega)] | rw [if_pos (by assumption)] | rw [if_neg (by assumption)])); all_goals (first | rfl | (congr 2; omega) | (congr 1; congr 1; omega))))) ?_
  rintro _ _ ⟨rfl, aA1, aA2, rfl⟩
  obtain ⟨kA, rfl⟩ := Int.eq_ofNat_of_zero_le aA1
  simp only [Int.toNat_natCast]
  have hkA : kA < 4 := by omega
  have hrA := hC.ls hkA
  obtain ⟨fA, eA, -⟩ := id hrA
  have hlA := hrA.len
  refine z_astore dCls_put_5 (Nat.le_of_ble_eq_true rfl) ?_
  refine z_iload_n dCls_put_7 rfl ?_
  refine z_iconst dCls_put_8 ?_
  refine z_iconst dCls_put_9 ?_
  refine z_callS (bc' := 4) (bs' := 24) MS_Cls_demandWithin lk_Cls_38 dCls_put_10 (k_Cls_demandWithin (by omega) (by omega) (by omega)) rfl rfl (Nat.le_of_ble_eq_true rfl)  (Nat.le_of_ble_eq_true rfl) (Nat.le_of_ble_eq_true rfl) (by decide) (by decide) (fun E h9 q9 => z_out rfl (by obtain ⟨rfl, q1, rfl⟩ := q9; exact zXc.mk (by assumption) (by first | exact zFrm.rf | assumption) (by unfold sp_put; (try unfold spPut); (try simp only [Int.toNat_natCast]); (repeat (first | rw [if_pos (by omega)] | rw [if_neg (by omega)] | rw [if_pos (by assumption)] | rw [if_neg (by assumption)])); all_goals (first | rfl | (congr 2; omega) | (congr 1; congr 1; omega))))) ?_
  rintro _ _ ⟨rfl, w1, w2, rfl⟩
  refine z_iload_n dCls_put_13 rfl ?_
  refine z_callS (bc' := 3) (bs' := 18) MS_Cls_demandItem lk_Cls_42 dCls_put_14 (k_Cls_demandItem (by omega)) rfl rfl (Nat.le_of_ble_eq_true rfl)  (Nat.le_of_ble_eq_true rfl) (Nat.le_of_ble_eq_true rfl) (by decide) (by decide) (fun E h9 q9 => z_out rfl (by obtain ⟨rfl, q1, rfl⟩ := q9; exact zXc.mk (by assumption) (by first | exact zFrm.rf | assumption) (by unfold sp_put; (try unfold spPut); (try simp only [Int.toNat_natCast]); (repeat (first | rw [if_pos (by omega)] | rw [if_neg (by omega)] | rw [if_pos (by assumption)] | rw [if_neg (by assumption)])); all_goals (first | rfl | (congr 2; omega) | (congr 1; congr 1; omega))))) ?_
  rintro _ _ ⟨rfl, hx9, rfl⟩
  refine z_iload_n dCls_put_17 rfl ?_
  refine z_iconst dCls_put_18 ?_
  refine z_icmp_eq (tgt := 32) dCls_put_19 (by decide) (by omega) (by omega) (fun c19 => ?_) (fun c19 => ?_)
  · refine z_iconst dCls_put_32 ?_
    refine z_goto (tgt := 37) dCls_put_33 (by decide) ?_
    refine z_istore dCls_put_37 (Nat.le_of_ble_eq_true rfl) ?_
    refine z_aload_n dCls_put_39 rfl ?_
    refine z_iload_n dCls_put_40 rfl ?_
    refine z_iload dCls_put_41 rfl ?_
    refine z_if_eq (tgt := 54) dCls_put_43 (by decide) (by omega) (fun c43 => ?_) (fun c43 => ?_)
    · refine z_iconst dCls_put_54 ?_
      refine z_iload_n dCls_put_55 rfl ?_
      refine z_callV (bc' := 2) (bs' := 12) MV_Cls_putInto lk_Cls_50 dCls_put_56 (k_Cls_putInto (by assumption) (by omega) (by omega) (by omega)) rfl rfl (Nat.le_of_ble_eq_true rfl) rfl (by assumption) (Nat.le_of_ble_eq_true rfl) (Nat.le_of_ble_eq_true rfl) (by decide) (by decide) (fun _ _ q => q.elim) ?_
      rintro _ h9 ⟨(⟨rfl, m1, m2, m3, hC9⟩ | ⟨rfl, m1, hC9⟩), fz9⟩
      · refine z_iret rfl rfl dCls_put_59 ?_
        first
          | (exfalso; omega)
          | exact zQc.mk (by assumption) (by first | exact zFrm.rf | assumption) (by unfold sp_put; (try unfold spPut); (try simp only [Int.toNat_natCast]); (repeat (first | rw [if_pos (by omega)] | rw [if_neg (by omega)] | rw [if_pos (by assumption)] | rw [if_neg (by assumption)])); all_goals (first | rfl | (congr 2; omega) | (congr 1; congr 1; omega)))
      · refine z_iret rfl rfl dCls_put_59 ?_
        first
          | (exfalso; omega)
          | exact zQc.mk (by assumption) (by first | exact zFrm.rf | assumption) (by unfold sp_put; (try unfold spPut); (try simp only [Int.toNat_natCast]); (repeat (first | rw [if_pos (by omega)] | rw [if_neg (by omega)] | rw [if_pos (by assumption)] | rw [if_neg (by assumption)])); all_goals (first | rfl | (congr 2; omega) | (congr 1; congr 1; omega)))
    · refine z_aload dCls_put_46 rfl ?_
      refine z_getN (k := 1) fd_Row (by decide) fl_Cls_46 dCls_put_48 (by assumption) (by rfl) ?_
      refine z_goto (tgt := 55) dCls_put_51 (by decide) ?_
      refine z_iload_n dCls_put_55 rfl ?_
      refine z_callV (bc' := 2) (bs' := 12) MV_Cls_putInto lk_Cls_50 dCls_put_56 (k_Cls_putInto (by assumption) (by omega) (by omega) (by omega)) rfl rfl (Nat.le_of_ble_eq_true rfl) rfl (by assumption) (Nat.le_of_ble_eq_true rfl) (Nat.le_of_ble_eq_true rfl) (by decide) (by decide) (fun _ _ q => q.elim) ?_
      rintro _ h9 ⟨(⟨rfl, m1, m2, m3, hC9⟩ | ⟨rfl, m1, hC9⟩), fz9⟩
      · refine z_iret rfl rfl dCls_put_59 ?_
        first
          | (exfalso; omega)
          | exact zQc.mk (by assumption) (by first | exact zFrm.rf | assumption) (by unfold sp_put; (try unfold spPut); (try simp only [Int.toNat_natCast]); (repeat (first | rw [if_pos (by omega)] | rw [if_neg (by omega)] | rw [if_pos (by assumption)] | rw [if_neg (by assumption)])); all_goals (first | rfl | (congr 2; omega) | (congr 1; congr 1; omega)))
      · refine z_iret rfl rfl dCls_put_59 ?_
        first
          | (exfalso; omega)
          | exact zQc.mk (by assumption) (by first | exact zFrm.rf | assumption) (by unfold sp_put; (try unfold spPut); (try simp only [Int.toNat_natCast]); (repeat (first | rw [if_pos (by omega)] | rw [if_neg (by omega)] | rw [if_pos (by assumption)] | rw [if_neg (by assumption)])); all_goals (first | rfl | (congr 2; omega) | (congr 1; congr 1; omega)))
  · refine z_iload_n dCls_put_22 rfl ?_
    refine z_iconst dCls_put_23 ?_
    refine z_icmp_eq (tgt := 32) dCls_put_24 (by decide) (by omega) (by omega) (fun c24 => ?_) (fun c24 => ?_)
    · refine z_iconst dCls_put_32 ?_
      refine z_goto (tgt := 37) dCls_put_33 (by decide) ?_
      refine z_istore dCls_put_37 (Nat.le_of_ble_eq_true rfl) ?_
      refine z_aload_n dCls_put_39 rfl ?_
      refine z_iload_n dCls_put_40 rfl ?_
      refine z_iload dCls_put_41 rfl ?_
      refine z_if_eq (tgt := 54) dCls_put_43 (by decide) (by omega) (fun c43 => ?_) (fun c43 => ?_)
      · refine z_iconst dCls_put_54 ?_
        refine z_iload_n dCls_put_55 rfl ?_
        refine z_callV (bc' := 2) (bs' := 12) MV_Cls_putInto lk_Cls_50 dCls_put_56 (k_Cls_putInto (by assumption) (by omega) (by omega) (by omega)) rfl rfl (Nat.le_of_ble_eq_true rfl) rfl (by assumption) (Nat.le_of_ble_eq_true rfl) (Nat.le_of_ble_eq_true rfl) (by decide) (by decide) (fun _ _ q => q.elim) ?_
        rintro _ h9 ⟨(⟨rfl, m1, m2, m3, hC9⟩ | ⟨rfl, m1, hC9⟩), fz9⟩
        · refine z_iret rfl rfl dCls_put_59 ?_
          first
            | (exfalso; omega)
            | exact zQc.mk (by assumption) (by first | exact zFrm.rf | assumption) (by unfold sp_put; (try unfold spPut); (try simp only [Int.toNat_natCast]); (repeat (first | rw [if_pos (by omega)] | rw [if_neg (by omega)] | rw [if_pos (by assumption)] | rw [if_neg (by assumption)])); all_goals (first | rfl | (congr 2; omega) | (congr 1; congr 1; omega)))
        · refine z_iret rfl rfl dCls_put_59 ?_
          first
            | (exfalso; omega)
            | exact zQc.mk (by assumption) (by first | exact zFrm.rf | assumption) (by unfold sp_put; (try unfold spPut); (try simp only [Int.toNat_natCast]); (repeat (first | rw [if_pos (by omega)] | rw [if_neg (by omega)] | rw [if_pos (by assumption)] | rw [if_neg (by assumption)])); all_goals (first | rfl | (congr 2; omega) | (congr 1; congr 1; omega)))
      · refine z_aload dCls_put_46 rfl ?_
        refine z_getN (k := 1) fd_Row (by decide) fl_Cls_46 dCls_put_48 (by assumption) (by rfl) ?_
        refine z_goto (tgt := 55) dCls_put_51 (by decide) ?_
        refine z_iload_n dCls_put_55 rfl ?_
        refine z_callV (bc' := 2) (bs' := 12) MV_Cls_putInto lk_Cls_50 dCls_put_56 (k_Cls_putInto (by assumption) (by omega) (by omega) (by omega)) rfl rfl (Nat.le_of_ble_eq_true rfl) rfl (by assumption) (Nat.le_of_ble_eq_true rfl) (Nat.le_of_ble_eq_true rfl) (by decide) (by decide) (fun _ _ q => q.elim) ?_
        rintro _ h9 ⟨(⟨rfl, m1, m2, m3, hC9⟩ | ⟨rfl, m1, hC9⟩), fz9⟩
        · refine z_iret rfl rfl dCls_put_59 ?_
          first
            | (exfalso; omega)
            | exact zQc.mk (by assumption) (by first | exact zFrm.rf | assumption) (by unfold sp_put; (try unfold spPut); (try simp only [Int.toNat_natCast]); (repeat (first | rw [if_pos (by omega)] | rw [if_neg (by omega)] | rw [if_pos (by assumption)] | rw [if_neg (by assumption)])); all_goals (first | rfl | (congr 2; omega) | (congr 1; congr 1; omega)))
        · refine z_iret rfl rfl dCls_put_59 ?_
          first
            | (exfalso; omega)
            | exact zQc.mk (by assumption) (by first | exact zFrm.rf | assumption) (by unfold sp_put; (try unfold spPut); (try simp only [Int.toNat_natCast]); (repeat (first | rw [if_pos (by omega)] | rw [if_neg (by omega)] | rw [if_pos (by assumption)] | rw [if_neg (by assumption)])); all_goals (first | rfl | (congr 2; omega) | (congr 1; congr 1; omega)))
    · refine z_iload_n dCls_put_27 rfl ?_
      refine z_iconst dCls_put_28 ?_
      refine z_icmp_ne (tgt := 36) dCls_put_29 (by decide) (by omega) (by omega) (fun c29 => ?_) (fun c29 => ?_)
      · refine z_iconst dCls_put_36 ?_
        refine z_istore dCls_put_37 (Nat.le_of_ble_eq_true rfl) ?_
        refine z_aload_n dCls_put_39 rfl ?_
        refine z_iload_n dCls_put_40 rfl ?_
        refine z_iload dCls_put_41 rfl ?_
        refine z_if_eq (tgt := 54) dCls_put_43 (by decide) (by omega) (fun c43 => ?_) (fun c43 => ?_)
        · refine z_iconst dCls_put_54 ?_
          refine z_iload_n dCls_put_55 rfl ?_
          refine z_callV (bc' := 2) (bs' := 12) MV_Cls_putInto lk_Cls_50 dCls_put_56 (k_Cls_putInto (by assumption) (by omega) (by omega) (by omega)) rfl rfl (Nat.le_of_ble_eq_true rfl) rfl (by assumption) (Nat.le_of_ble_eq_true rfl) (Nat.le_of_ble_eq_true rfl) (by decide) (by decide) (fun _ _ q => q.elim) ?_
          rintro _ h9 ⟨(⟨rfl, m1, m2, m3, hC9⟩ | ⟨rfl, m1, hC9⟩), fz9⟩
          · refine z_iret rfl rfl dCls_put_59 ?_
            first
              | (exfalso; omega)
              | exact zQc.mk (by assumption) (by first | exact zFrm.rf | assumption) (by unfold sp_put; (try unfold spPut); (try simp only [Int.toNat_natCast]); (repeat (first | rw [if_pos (by omega)] | rw [if_neg (by omega)] | rw [if_pos (by assumption)] | rw [if_neg (by assumption)])); all_goals (first | rfl | (congr 2; omega) | (congr 1; congr 1; omega)))
          · refine z_iret rfl rfl dCls_put_59 ?_
            first
              | (exfalso; omega)
              | exact zQc.mk (by assumption) (by first | exact zFrm.rf | assumption) (by unfold sp_put; (try unfold spPut); (try simp only [Int.toNat_natCast]); (repeat (first | rw [if_pos (by omega)] | rw [if_neg (by omega)] | rw [if_pos (by assumption)] | rw [if_neg (by assumption)])); all_goals (first | rfl | (congr 2; omega) | (congr 1; congr 1; omega)))
        · refine z_aload dCls_put_46 rfl ?_
          refine z_getN (k := 1) fd_Row (by decide) fl_Cls_46 dCls_put_48 (by assumption) (by rfl) ?_
          refine z_goto (tgt := 55) dCls_put_51 (by decide) ?_
          refine z_iload_n dCls_put_55 rfl ?_
          refine z_callV (bc' := 2) (bs' := 12) MV_Cls_putInto lk_Cls_50 dCls_put_56 (k_Cls_putInto (by assumption) (by omega) (by omega) (by omega)) rfl rfl (Nat.le_of_ble_eq_true rfl) rfl (by assumption) (Nat.le_of_ble_eq_true rfl) (Nat.le_of_ble_eq_true rfl) (by decide) (by decide) (fun _ _ q => q.elim) ?_
          rintro _ h9 ⟨(⟨rfl, m1, m2, m3, hC9⟩ | ⟨rfl, m1, hC9⟩), fz9⟩
          · refine z_iret rfl rfl dCls_put_59 ?_
            first
              | (exfalso; omega)
              | exact zQc.mk (by assumption) (by first | exact zFrm.rf | assumption) (by unfold sp_put; (try unfold spPut); (try simp only [Int.toNat_natCast]); (repeat (first | rw [if_pos (by omega)] | rw [if_neg (by omega)] | rw [if_pos (by assumption)] | rw [if_neg (by assumption)])); all_goals (first | rfl | (congr 2; omega) | (congr 1; congr 1; omega)))
          · refine z_iret rfl rfl dCls_put_59 ?_
            first
              | (exfalso; omega)
              | exact zQc.mk (by assumption) (by first | exact zFrm.rf | assumption) (by unfold sp_put; (try unfold spPut); (try simp only [Int.toNat_natCast]); (repeat (first | rw [if_pos (by omega)] | rw [if_neg (by omega)] | rw [if_pos (by assumption)] | rw [if_neg (by assumption)])); all_goals (first | rfl | (congr 2; omega) | (congr 1; congr 1; omega)))
      · refine z_iconst dCls_put_32 ?_
        refine z_goto (tgt := 37) dCls_put_33 (by decide) ?_
        refine z_istore dCls_put_37 (Nat.le_of_ble_eq_true rfl) ?_
        refine z_aload_n dCls_put_39 rfl ?_
        refine z_iload_n dCls_put_40 rfl ?_
        refine z_iload dCls_put_41 rfl ?_
        refine z_if_eq (tgt := 54) dCls_put_43 (by decide) (by omega) (fun c43 => ?_) (fun c43 => ?_)
        · refine z_iconst dCls_put_54 ?_
          refine z_iload_n dCls_put_55 rfl ?_
          refine z_callV (bc' := 2) (bs' := 12) MV_Cls_putInto lk_Cls_50 dCls_put_56 (k_Cls_putInto (by assumption) (by omega) (by omega) (by omega)) rfl rfl (Nat.le_of_ble_eq_true rfl) rfl (by assumption) (Nat.le_of_ble_eq_true rfl) (Nat.le_of_ble_eq_true rfl) (by decide) (by decide) (fun _ _ q => q.elim) ?_
          rintro _ h9 ⟨(⟨rfl, m1, m2, m3, hC9⟩ | ⟨rfl, m1, hC9⟩), fz9⟩
          · refine z_iret rfl rfl dCls_put_59 ?_
            first
              | (exfalso; omega)
              | exact zQc.mk (by assumption) (by first | exact zFrm.rf | assumption) (by unfold sp_put; (try unfold spPut); (try simp only [Int.toNat_natCast]); (repeat (first | rw [if_pos (by omega)] | rw [if_neg (by omega)] | rw [if_pos (by assumption)] | rw [if_neg (by assumption)])); all_goals (first | rfl | (congr 2; omega) | (congr 1; congr 1; omega)))
          · refine z_iret rfl rfl dCls_put_59 ?_
            first
              | (exfalso; omega)
              | exact zQc.mk (by assumption) (by first | exact zFrm.rf | assumption) (by unfold sp_put; (try unfold spPut); (try simp only [Int.toNat_natCast]); (repeat (first | rw [if_pos (by omega)] | rw [if_neg (by omega)] | rw [if_pos (by assumption)] | rw [if_neg (by assumption)])); all_goals (first | rfl | (congr 2; omega) | (congr 1; congr 1; omega)))
        · refine z_aload dCls_put_46 rfl ?_
          refine z_getN (k := 1) fd_Row (by decide) fl_Cls_46 dCls_put_48 (by assumption) (by rfl) ?_
          refine z_goto (tgt := 55) dCls_put_51 (by decide) ?_
          refine z_iload_n dCls_put_55 rfl ?_
          refine z_callV (bc' := 2) (bs' := 12) MV_Cls_putInto lk_Cls_50 dCls_put_56 (k_Cls_putInto (by assumption) (by omega) (by omega) (by omega)) rfl rfl (Nat.le_of_ble_eq_true rfl) rfl (by assumption) (Nat.le_of_ble_eq_true rfl) (Nat.le_of_ble_eq_true rfl) (by decide) (by decide) (fun _ _ q => q.elim) ?_
          rintro _ h9 ⟨(⟨rfl, m1, m2, m3, hC9⟩ | ⟨rfl, m1, hC9⟩), fz9⟩
          · refine z_iret rfl rfl dCls_put_59 ?_
            first
              | (exfalso; omega)
              | exact zQc.mk (by assumption) (by first | exact zFrm.rf | assumption) (by unfold sp_put; (try unfold spPut); (try simp only [Int.toNat_natCast]); (repeat (first | rw [if_pos (by omega)] | rw [if_neg (by omega)] | rw [if_pos (by assumption)] | rw [if_neg (by assumption)])); all_goals (first | rfl | (congr 2; omega) | (congr 1; congr 1; omega)))
          · refine z_iret rfl rfl dCls_put_59 ?_
            first
              | (exfalso; omega)
              | exact zQc.mk (by assumption) (by first | exact zFrm.rf | assumption) (by unfold sp_put; (try unfold spPut); (try simp only [Int.toNat_natCast]); (repeat (first | rw [if_pos (by omega)] | rw [if_neg (by omega)] | rw [if_pos (by assumption)] | rw [if_neg (by assumption)])); all_goals (first | rfl | (congr 2; omega) | (congr 1; congr 1; omega)))
theorem k_Cls_take {p w : Int}  (hC : zCls G h ad S) (z_p : zI32 p) (z_w : zI32 w) : zM G l hCls_take yCls_take 9 [.ref (ad 0), zi p, zi w] h (zQc G ad h (sp_take S p w)) (zXc G ad h (sp_take S p w)) 6 36 := by
  obtain ⟨c1, c2, ⟨g3, c3, d3⟩, ⟨g4, c4, d4⟩, c5, ⟨T6, c6, d6⟩, c7, c8, ⟨R9, c9⟩, c10⟩ := id hC
  refine zM.of [some (.ref (ad 0)), some (zi p), some (zi w), none] (by decide +kernel) rfl (by decide) rfl (Nat.le_of_ble_eq_true rfl) rfl ?_
  refine z_aload_n dCls_take_0 rfl ?_
  refine z_iload_n dCls_take_1 rfl ?_
  refine z_callV (bc' := 5) (bs' := 30) MV_Cls_listAt lk_Cls_34 dCls_take_2 (k_Cls_listAt (by assumption) (by omega)) rfl rfl (Nat.le_of_ble_eq_true rfl) rfl (by assumption) (Nat.le_of_ble_eq_true rfl) (Nat.le_of_ble_eq_true rfl) (by decide) (by decide) (fun E h9 q9 => z_out rfl (by obtain ⟨rfl, q1, rfl⟩ := q9; exact zXc.mk (by assumption) (by first | exact zFrm.rf | assumption) (by unfold sp_take; (try unfold spPut); (try simp only [Int.toNat_natCast]); (repeat (first | rw [if_pos (by omega)] | rw [if_neg (by omega)] | rw [if_pos (by assumption)] | rw [if_neg (by assumption)])); all_goals (first | rfl | (congr 2; omega) | (congr 1; congr 1; omega))))) ?_
  rintro _ _ ⟨rfl, aA1, aA2, rfl⟩
  obtain ⟨kA, rfl⟩ := Int.eq_ofNat_of_zero_le aA1
  simp only [Int.toNat_natCast]
  have hkA : kA < 4 := by omega
  have hrA := hC.ls hkA
  obtain ⟨fA, eA, -⟩ := id hrA
  have hlA := hrA.len
  refine z_astore_n dCls_take_5 (Nat.le_of_ble_eq_true rfl) ?_
  refine z_iload_n dCls_take_6 rfl ?_
  refine z_iconst dCls_take_7 ?_
  refine z_bipush dCls_take_8 rfl ?_
  refine z_callS (bc' := 4) (bs' := 24) MS_Cls_demandWithin lk_Cls_38 dCls_take_10 (k_Cls_demandWithin (by omega) (by omega) (by omega)) rfl rfl (Nat.le_of_ble_eq_true rfl)  (Nat.le_of_ble_eq_true rfl) (Nat.le_of_ble_eq_true rfl) (by decide) (by decide) (fun E h9 q9 => z_out rfl (by obtain ⟨rfl, q1, rfl⟩ := q9; exact zXc.mk (by assumption) (by first | exact zFrm.rf | assumption) (by unfold sp_take; (try unfold spPut); (try simp only [Int.toNat_natCast]); (repeat (first | rw [if_pos (by omega)] | rw [if_neg (by omega)] | rw [if_pos (by assumption)] | rw [if_neg (by assumption)])); all_goals (first | rfl | (congr 2; omega) | (congr 1; congr 1; omega))))) ?_
  rintro _ _ ⟨rfl, w1, w2, rfl⟩
  refine z_aload_n dCls_take_13 rfl ?_
  refine z_getN (k := 1) fd_Row (by decide) fl_Cls_46 dCls_take_14 (by assumption) (by rfl) ?_
  refine z_if_ne (tgt := 54) dCls_take_17 (by decide) (by omega) (fun c17 => ?_) (fun c17 => ?_)
  · refine z_aload_n dCls_take_54 rfl ?_
    refine z_iload_n dCls_take_55 rfl ?_
    refine z_aload_n dCls_take_56 rfl ?_
    refine z_iload_n dCls_take_57 rfl ?_
    refine z_callS MS_Cls_endOf lk_Cls_62 dCls_take_58 (k_Cls_endOf hrA (by omega)) rfl rfl (Nat.le_of_ble_eq_true rfl)  (Nat.le_of_ble_eq_true rfl) (Nat.le_of_ble_eq_true rfl) (Nat.le_of_eq (Nat.zero_add _)) (Nat.le_of_eq (Nat.zero_add _)) (fun _ _ q => q.elim) ?_
    rintro _ _ ⟨rfl, rfl⟩
    refine z_callV (bc' := 3) (bs' := 18) MV_Cls_takeFrom lk_Cls_66 dCls_take_61 (k_Cls_takeFrom (by assumption) (by omega) (by split <;> omega)) rfl rfl (Nat.le_of_ble_eq_true rfl) rfl (by assumption) (Nat.le_of_ble_eq_true rfl) (Nat.le_of_ble_eq_true rfl) (by decide) (by decide) (fun _ _ q => q.elim) ?_
    rintro _ h9 ⟨rfl, hC9, fz9⟩
    refine z_iret rfl rfl dCls_take_64 ?_
    first
      | (exfalso; omega)
      | exact zQc.mk (by assumption) (by first | exact zFrm.rf | assumption) (by unfold sp_take; (try unfold spPut); (try simp only [Int.toNat_natCast]); (repeat (first | rw [if_pos (by omega)] | rw [if_neg (by omega)] | rw [if_pos (by assumption)] | rw [if_neg (by assumption)])); all_goals (first | rfl | (congr 2; omega) | (congr 1; congr 1; omega)))
  · refine z_iload_n dCls_take_20 rfl ?_
    refine z_if_eq (tgt := 39) dCls_take_21 (by decide) (by omega) (fun c21 => ?_) (fun c21 => ?_)
    · refine z_aload_n dCls_take_39 rfl ?_
      refine z_callV MV_Cls_refuse lk_Cls_54 dCls_take_40 (k_Cls_refuse (by assumption)) rfl rfl (Nat.le_of_ble_eq_true rfl) rfl (by assumption) (Nat.le_of_ble_eq_true rfl) (Nat.le_of_ble_eq_true rfl) (Nat.le_of_eq (Nat.zero_add _)) (Nat.le_of_eq (Nat.zero_add _)) (fun _ _ q => q.elim) ?_
      rintro _ h9 ⟨rfl, hC9, fz9⟩
      refine z_iret rfl rfl dCls_take_43 ?_
      first
        | (exfalso; omega)
        | exact zQc.mk (by assumption) (by first | exact zFrm.rf | assumption) (by unfold sp_take; (try unfold spPut); (try simp only [Int.toNat_natCast]); (repeat (first | rw [if_pos (by omega)] | rw [if_neg (by omega)] | rw [if_pos (by assumption)] | rw [if_neg (by assumption)])); all_goals (first | rfl | (congr 2; omega) | (congr 1; congr 1; omega)))
    · refine z_iload_n dCls_take_24 rfl ?_
      refine z_iconst dCls_take_25 ?_
      refine z_icmp_eq (tgt := 39) dCls_take_26 (by decide) (by omega) (by omega) (fun c26 => ?_) (fun c26 => ?_)
      · refine z_aload_n dCls_take_39 rfl ?_
        refine z_callV MV_Cls_refuse lk_Cls_54 dCls_take_40 (k_Cls_refuse (by assumption)) rfl rfl (Nat.le_of_ble_eq_true rfl) rfl (by assumption) (Nat.le_of_ble_eq_true rfl) (Nat.le_of_ble_eq_true rfl) (Nat.le_of_eq (Nat.zero_add _)) (Nat.le_of_eq (Nat.zero_add _)) (fun _ _ q => q.elim) ?_
        rintro _ h9 ⟨rfl, hC9, fz9⟩
        refine z_iret rfl rfl dCls_take_43 ?_
        first
          | (exfalso; omega)
          | exact zQc.mk (by assumption) (by first | exact zFrm.rf | assumption) (by unfold sp_take; (try unfold spPut); (try simp only [Int.toNat_natCast]); (repeat (first | rw [if_pos (by omega)] | rw [if_neg (by omega)] | rw [if_pos (by assumption)] | rw [if_neg (by assumption)])); all_goals (first | rfl | (congr 2; omega) | (congr 1; congr 1; omega)))
      · refine z_iload_n dCls_take_29 rfl ?_
        refine z_iconst dCls_take_30 ?_
        refine z_icmp_eq (tgt := 39) dCls_take_31 (by decide) (by omega) (by omega) (fun c31 => ?_) (fun c31 => ?_)
        · refine z_aload_n dCls_take_39 rfl ?_
          refine z_callV MV_Cls_refuse lk_Cls_54 dCls_take_40 (k_Cls_refuse (by assumption)) rfl rfl (Nat.le_of_ble_eq_true rfl) rfl (by assumption) (Nat.le_of_ble_eq_true rfl) (Nat.le_of_ble_eq_true rfl) (Nat.le_of_eq (Nat.zero_add _)) (Nat.le_of_eq (Nat.zero_add _)) (fun _ _ q => q.elim) ?_
          rintro _ h9 ⟨rfl, hC9, fz9⟩
          refine z_iret rfl rfl dCls_take_43 ?_
          first
            | (exfalso; omega)
            | exact zQc.mk (by assumption) (by first | exact zFrm.rf | assumption) (by unfold sp_take; (try unfold spPut); (try simp only [Int.toNat_natCast]); (repeat (first | rw [if_pos (by omega)] | rw [if_neg (by omega)] | rw [if_pos (by assumption)] | rw [if_neg (by assumption)])); all_goals (first | rfl | (congr 2; omega) | (congr 1; congr 1; omega)))
        · refine z_iload_n dCls_take_34 rfl ?_
          refine z_iconst dCls_take_35 ?_
          refine z_icmp_ne (tgt := 44) dCls_take_36 (by decide) (by omega) (by omega) (fun c36 => ?_) (fun c36 => ?_)
          · refine z_aload_n dCls_take_44 rfl ?_
            refine z_iload_n dCls_take_45 rfl ?_
            refine z_iconst dCls_take_46 ?_
            refine z_callV MV_Cls_makeStale lk_Cls_58 dCls_take_47 (k_Cls_makeStale (by assumption) (by omega) (by omega)) rfl rfl (Nat.le_of_ble_eq_true rfl) rfl (by assumption) (Nat.le_of_ble_eq_true rfl) (Nat.le_of_ble_eq_true rfl) (Nat.le_of_eq (Nat.zero_add _)) (Nat.le_of_eq (Nat.zero_add _)) (fun _ _ q => q.elim) ?_
            rintro _ h2 ⟨rfl, hC2, gz2⟩
            obtain ⟨-, d2, -⟩ := id hC2
            have fz2 := gz2
            have hm2 := hC2.ls hkA
            simp only [zsS_l, zsS_0] at hm2
            obtain ⟨fm2, em2, -⟩ := id hm2
            refine z_sipush dCls_take_50 rfl ?_
            refine z_iret rfl rfl dCls_take_53 ?_
            first
              | (exfalso; omega)
              | exact zQc.mk (by assumption) (by first | exact zFrm.rf | assumption) (by unfold sp_take; (try unfold spPut); (try simp only [Int.toNat_natCast]); (repeat (first | rw [if_pos (by omega)] | rw [if_neg (by omega)] | rw [if_pos (by assumption)] | rw [if_neg (by assumption)])); all_goals (first | rfl | (congr 2; omega) | (congr 1; congr 1; omega)))
          · refine z_aload_n dCls_take_39 rfl ?_
            refine z_callV MV_Cls_refuse lk_Cls_54 dCls_take_40 (k_Cls_refuse (by assumption)) rfl rfl (Nat.le_of_ble_eq_true rfl) rfl (by assumption) (Nat.le_of_ble_eq_true rfl) (Nat.le_of_ble_eq_true rfl) (Nat.le_of_eq (Nat.zero_add _)) (Nat.le_of_eq (Nat.zero_add _)) (fun _ _ q => q.elim) ?_
            rintro _ h9 ⟨rfl, hC9, fz9⟩
            refine z_iret rfl rfl dCls_take_43 ?_
            first
              | (exfalso; omega)
              | exact zQc.mk (by assumption) (by first | exact zFrm.rf | assumption) (by unfold sp_take; (try unfold spPut); (try simp only [Int.toNat_natCast]); (repeat (first | rw [if_pos (by omega)] | rw [if_neg (by omega)] | rw [if_pos (by assumption)] | rw [if_neg (by assumption)])); all_goals (first | rfl | (congr 2; omega) | (congr 1; congr 1; omega)))
theorem k_Cls_look {p w : Int}  (hC : zCls G h ad S) (z_p : zI32 p) (z_w : zI32 w) : zM G l hCls_look yCls_look 9 [.ref (ad 0), zi p, zi w] h (zQc G ad h (sp_look S p w)) (zXc G ad h (sp_look S p w)) 6 36 := by
  obtain ⟨c1, c2, ⟨g3, c3, d3⟩, ⟨g4, c4, d4⟩, c5, ⟨T6, c6, d6⟩, c7, c8, ⟨R9, c9⟩, c10⟩ := id hC
  refine zM.of [some (.ref (ad 0)), some (zi p), some (zi w), none] (by decide +kernel) rfl (by decide) rfl (Nat.le_of_ble_eq_true rfl) rfl ?_
  refine z_aload_n dCls_look_0 rfl ?_
  refine z_iload_n dCls_look_1 rfl ?_
  refine z_callV (bc' := 5) (bs' := 30) MV_Cls_listAt lk_Cls_34 dCls_look_2 (k_Cls_listAt (by assumption) (by omega)) rfl rfl (Nat.le_of_ble_eq_true rfl) rfl (by assumption) (Nat.le_of_ble_eq_true rfl) (Nat.le_of_ble_eq_true rfl) (by decide) (by decide) (fun E h9 q9 => z_out rfl (by obtain ⟨rfl, q1, rfl⟩ := q9; exact zXc.mk (by assumption) (by first | exact zFrm.rf | assumption) (by unfold sp_look; (try unfold spPut); (try simp only [Int.toNat_natCast]); (repeat (first | rw [if_pos (by omega)] | rw [if_neg (by omega)] | rw [if_pos (by assumption)] | rw [if_neg (by assumption)])); all_goals (first | rfl | (congr 2; omega) | (congr 1; congr 1; omega))))) ?_
  rintro _ _ ⟨rfl, aA1, aA2, rfl⟩
  obtain ⟨kA, rfl⟩ := Int.eq_ofNat_of_zero_le aA1
  simp only [Int.toNat_natCast]
  have hkA : kA < 4 := by omega
  have hrA := hC.ls hkA
  obtain ⟨fA, eA, -⟩ := id hrA
  have hlA := hrA.len
  refine z_astore_n dCls_look_5 (Nat.le_of_ble_eq_true rfl) ?_
  refine z_iload_n dCls_look_6 rfl ?_
  refine z_iconst dCls_look_7 ?_
  refine z_iconst dCls_look_8 ?_
  refine z_callS (bc' := 4) (bs' := 24) MS_Cls_demandWithin lk_Cls_38 dCls_look_9 (k_Cls_demandWithin (by omega) (by omega) (by omega)) rfl rfl (Nat.le_of_ble_eq_true rfl)  (Nat.le_of_ble_eq_true rfl) (Nat.le_of_ble_eq_true rfl) (by decide) (by decide) (fun E h9 q9 => z_out rfl (by obtain ⟨rfl, q1, rfl⟩ := q9; exact zXc.mk (by assumption) (by first | exact zFrm.rf | assumption) (by unfold sp_look; (try unfold spPut); (try simp only [Int.toNat_natCast]); (repeat (first | rw [if_pos (by omega)] | rw [if_neg (by omega)] | rw [if_pos (by assumption)] | rw [if_neg (by assumption)])); all_goals (first | rfl | (congr 2; omega) | (congr 1; congr 1; omega))))) ?_
  rintro _ _ ⟨rfl, w1, w2, rfl⟩
  refine z_aload_n dCls_look_12 rfl ?_
  refine z_getN (k := 1) fd_Row (by decide) fl_Cls_46 dCls_look_13 (by assumption) (by rfl) ?_
  refine z_if_ne (tgt := 44) dCls_look_16 (by decide) (by omega) (fun c16 => ?_) (fun c16 => ?_)
  · refine z_aload_n dCls_look_44 rfl ?_
    refine z_aload_n dCls_look_45 rfl ?_
    refine z_iload_n dCls_look_46 rfl ?_
    refine z_callS MS_Cls_endOf lk_Cls_62 dCls_look_47 (k_Cls_endOf hrA (by omega)) rfl rfl (Nat.le_of_ble_eq_true rfl)  (Nat.le_of_ble_eq_true rfl) (Nat.le_of_ble_eq_true rfl) (Nat.le_of_eq (Nat.zero_add _)) (Nat.le_of_eq (Nat.zero_add _)) (fun _ _ q => q.elim) ?_
    rintro _ _ ⟨rfl, rfl⟩
    refine z_callVN MV_Row_itemAt lk_Cls_70 dCls_look_50 (k_Row_itemAt hrA (by split <;> omega)) rfl rfl (Nat.le_of_ble_eq_true rfl) rfl (by assumption) (Nat.le_of_ble_eq_true rfl) (Nat.le_of_ble_eq_true rfl) (Nat.le_of_eq (Nat.zero_add _)) (Nat.le_of_eq (Nat.zero_add _)) (fun _ _ q => q.elim) ?_
    rintro _ _ ⟨rfl, rfl⟩
    refine z_iret rfl rfl dCls_look_53 ?_
    first
      | (exfalso; omega)
      | exact zQc.mk (by assumption) (by first | exact zFrm.rf | assumption) (by unfold sp_look; (try unfold spPut); (try simp only [Int.toNat_natCast]); (repeat (first | rw [if_pos (by omega)] | rw [if_neg (by omega)] | rw [if_pos (by assumption)] | rw [if_neg (by assumption)])); all_goals (first | rfl | (congr 2; omega) | (congr 1; congr 1; omega)))
  · refine z_iload_n dCls_look_19 rfl ?_
    refine z_if_eq (tgt := 33) dCls_look_20 (by decide) (by omega) (fun c20 => ?_) (fun c20 => ?_)
    · refine z_aload_n dCls_look_33 rfl ?_
      refine z_callV MV_Cls_refuse lk_Cls_54 dCls_look_34 (k_Cls_refuse (by assumption)) rfl rfl (Nat.le_of_ble_eq_true rfl) rfl (by assumption) (Nat.le_of_ble_eq_true rfl) (Nat.le_of_ble_eq_true rfl) (Nat.le_of_eq (Nat.zero_add _)) (Nat.le_of_eq (Nat.zero_add _)) (fun _ _ q => q.elim) ?_
      rintro _ h9 ⟨rfl, hC9, fz9⟩
      refine z_goto (tgt := 43) dCls_look_37 (by decide) ?_
      refine z_iret rfl rfl dCls_look_43 ?_
      first
        | (exfalso; omega)
        | exact zQc.mk (by assumption) (by first | exact zFrm.rf | assumption) (by unfold sp_look; (try unfold spPut); (try simp only [Int.toNat_natCast]); (repeat (first | rw [if_pos (by omega)] | rw [if_neg (by omega)] | rw [if_pos (by assumption)] | rw [if_neg (by assumption)])); all_goals (first | rfl | (congr 2; omega) | (congr 1; congr 1; omega)))
    · refine z_iload_n dCls_look_23 rfl ?_
      refine z_iconst dCls_look_24 ?_
      refine z_icmp_eq (tgt := 33) dCls_look_25 (by decide) (by omega) (by omega) (fun c25 => ?_) (fun c25 => ?_)
      · refine z_aload_n dCls_look_33 rfl ?_
        refine z_callV MV_Cls_refuse lk_Cls_54 dCls_look_34 (k_Cls_refuse (by assumption)) rfl rfl (Nat.le_of_ble_eq_true rfl) rfl (by assumption) (Nat.le_of_ble_eq_true rfl) (Nat.le_of_ble_eq_true rfl) (Nat.le_of_eq (Nat.zero_add _)) (Nat.le_of_eq (Nat.zero_add _)) (fun _ _ q => q.elim) ?_
        rintro _ h9 ⟨rfl, hC9, fz9⟩
        refine z_goto (tgt := 43) dCls_look_37 (by decide) ?_
        refine z_iret rfl rfl dCls_look_43 ?_
        first
          | (exfalso; omega)
          | exact zQc.mk (by assumption) (by first | exact zFrm.rf | assumption) (by unfold sp_look; (try unfold spPut); (try simp only [Int.toNat_natCast]); (repeat (first | rw [if_pos (by omega)] | rw [if_neg (by omega)] | rw [if_pos (by assumption)] | rw [if_neg (by assumption)])); all_goals (first | rfl | (congr 2; omega) | (congr 1; congr 1; omega)))
      · refine z_iload_n dCls_look_28 rfl ?_
        refine z_iconst dCls_look_29 ?_
        refine z_icmp_ne (tgt := 40) dCls_look_30 (by decide) (by omega) (by omega) (fun c30 => ?_) (fun c30 => ?_)
        · refine z_sipush dCls_look_40 rfl ?_
          refine z_iret rfl rfl dCls_look_43 ?_
          first
            | (exfalso; omega)
            | exact zQc.mk (by assumption) (by first | exact zFrm.rf | assumption) (by unfold sp_look; (try unfold spPut); (try simp only [Int.toNat_natCast]); (repeat (first | rw [if_pos (by omega)] | rw [if_neg (by omega)] | rw [if_pos (by assumption)] | rw [if_neg (by assumption)])); all_goals (first | rfl | (congr 2; omega) | (congr 1; congr 1; omega)))
        · refine z_aload_n dCls_look_33 rfl ?_
          refine z_callV MV_Cls_refuse lk_Cls_54 dCls_look_34 (k_Cls_refuse (by assumption)) rfl rfl (Nat.le_of_ble_eq_true rfl) rfl (by assumption) (Nat.le_of_ble_eq_true rfl) (Nat.le_of_ble_eq_true rfl) (Nat.le_of_eq (Nat.zero_add _)) (Nat.le_of_eq (Nat.zero_add _)) (fun _ _ q => q.elim) ?_
          rintro _ h9 ⟨rfl, hC9, fz9⟩
          refine z_goto (tgt := 43) dCls_look_37 (by decide) ?_
          refine z_iret rfl rfl dCls_look_43 ?_
          first
            | (exfalso; omega)
            | exact zQc.mk (by assumption) (by first | exact zFrm.rf | assumption) (by unfold sp_look; (try unfold spPut); (try simp only [Int.toNat_natCast]); (repeat (first | rw [if_pos (by omega)] | rw [if_neg (by omega)] | rw [if_pos (by assumption)] | rw [if_neg (by assumption)])); all_goals (first | rfl | (congr 2; omega) | (congr 1; congr 1; omega)))
theorem k_Cls_get {p q : Int}  (hC : zCls G h ad S) (z_p : zI32 p) (z_q : zI32 q) : zM G l hCls_get yCls_get 9 [.ref (ad 0), zi p, zi q] h (zQc G ad h (sp_get S p q)) (zXc G ad h (sp_get S p q)) 6 36 := by
  obtain ⟨c1, c2, ⟨g3, c3, d3⟩, ⟨g4, c4, d4⟩, c5, ⟨T6, c6, d6⟩, c7, c8, ⟨R9, c9⟩, c10⟩ := id hC
  refine zM.of [some (.ref (ad 0)), some (zi p), some (zi q), none] (by decide +kernel) rfl (by decide) rfl (Nat.le_of_ble_eq_true rfl) rfl ?_
  refine z_aload_n dCls_get_0 rfl ?_
  refine z_iload_n dCls_get_1 rfl ?_
  refine z_callV (bc' := 5) (bs' := 30) MV_Cls_listAt lk_Cls_34 dCls_get_2 (k_Cls_listAt (by assumption) (by omega)) rfl rfl (Nat.le_of_ble_eq_true rfl) rfl (by assumption) (Nat.le_of_ble_eq_true rfl) (Nat.le_of_ble_eq_true rfl) (by decide) (by decide) (fun E h9 q9 => z_out rfl (by obtain ⟨rfl, q1, rfl⟩ := q9; exact zXc.mk (by assumption) (by first | exact zFrm.rf | assumption) (by unfold sp_get; (try unfold spPut); (try simp only [Int.toNat_natCast]); (repeat (first | rw [if_pos (by omega)] | rw [if_neg (by omega)] | rw [if_pos (by assumption)] | rw [if_neg (by assumption)])); all_goals (first | rfl | (congr 2; omega) | (congr 1; congr 1; omega))))) ?_
  rintro _ _ ⟨rfl, aA1, aA2, rfl⟩
  obtain ⟨kA, rfl⟩ := Int.eq_ofNat_of_zero_le aA1
  simp only [Int.toNat_natCast]
  have hkA : kA < 4 := by omega
  have hrA := hC.ls hkA
  obtain ⟨fA, eA, -⟩ := id hrA
  have hlA := hrA.len
  refine z_astore_n dCls_get_5 (Nat.le_of_ble_eq_true rfl) ?_
  refine z_aload_n dCls_get_6 rfl ?_
  refine z_iload_n dCls_get_7 rfl ?_
  refine z_callS (bc' := 4) (bs' := 24) MS_Cls_demandPlace lk_Cls_74 dCls_get_8 (k_Cls_demandPlace hrA (by omega)) rfl rfl (Nat.le_of_ble_eq_true rfl)  (Nat.le_of_ble_eq_true rfl) (Nat.le_of_ble_eq_true rfl) (by decide) (by decide) (fun E h9 q9 => z_out rfl (by obtain ⟨rfl, q1, rfl⟩ := q9; exact zXc.mk (by assumption) (by first | exact zFrm.rf | assumption) (by unfold sp_get; (try unfold spPut); (try simp only [Int.toNat_natCast]); (repeat (first | rw [if_pos (by omega)] | rw [if_neg (by omega)] | rw [if_pos (by assumption)] | rw [if_neg (by assumption)])); all_goals (first | rfl | (congr 2; omega) | (congr 1; congr 1; omega))))) ?_
  rintro _ _ ⟨rfl, v1, v2, rfl⟩
  refine z_aload_n dCls_get_11 rfl ?_
  refine z_iload_n dCls_get_12 rfl ?_
  refine z_callVN MV_Row_itemAt lk_Cls_70 dCls_get_13 (k_Row_itemAt hrA (by omega)) rfl rfl (Nat.le_of_ble_eq_true rfl) rfl (by assumption) (Nat.le_of_ble_eq_true rfl) (Nat.le_of_ble_eq_true rfl) (Nat.le_of_eq (Nat.zero_add _)) (Nat.le_of_eq (Nat.zero_add _)) (fun _ _ q => q.elim) ?_
  rintro _ _ ⟨rfl, rfl⟩
  refine z_iret rfl rfl dCls_get_16 ?_
  first
    | (exfalso; omega)
    | exact zQc.mk (by assumption) (by first | exact zFrm.rf | assumption) (by unfold sp_get; (try unfold spPut); (try simp only [Int.toNat_natCast]); (repeat (first | rw [if_pos (by omega)] | rw [if_neg (by omega)] | rw [if_pos (by assumption)] | rw [if_neg (by assumption)])); all_goals (first | rfl | (congr 2; omega) | (congr 1; congr 1; omega)))
theorem k_Cls_set {p q x : Int}  (hC : zCls G h ad S) (z_p : zI32 p) (z_q : zI32 q) (z_x : zI32 x) : zM G l hCls_set yCls_set 9 [.ref (ad 0), zi p, zi q, zi x] h (zQc G ad h (sp_set S p q x)) (zXc G ad h (sp_set S p q x)) 6 36 := by
  obtain ⟨c1, c2, ⟨g3, c3, d3⟩, ⟨g4, c4, d4⟩, c5, ⟨T6, c6, d6⟩, c7, c8, ⟨R9, c9⟩, c10⟩ := id hC
  refine zM.of [some (.ref (ad 0)), some (zi p), some (zi q), some (zi x), none, none] (by decide +kernel) rfl (by decide) rfl (Nat.le_of_ble_eq_true rfl) rfl ?_
  refine z_aload_n dCls_set_0 rfl ?_
  refine z_iload_n dCls_set_1 rfl ?_
  refine z_callV (bc' := 5) (bs' := 30) MV_Cls_listAt lk_Cls_34 dCls_set_2 (k_Cls_listAt (by assumption) (by omega)) rfl rfl (Nat.le_of_ble_eq_true rfl) rfl (by assumption) (Nat.le_of_ble_eq_true rfl) (Nat.le_of_ble_eq_true rfl) (by decide) (by decide) (fun E h9 q9 => z_out rfl (by obtain ⟨rfl, q1, rfl⟩ := q9; exact zXc.mk (by assumption) (by first | exact zFrm.rf | assumption) (by unfold sp_set; (try unfold spPut); (try simp only [Int.toNat_natCast]); (repeat (first | rw [if_pos (by omega)] | rw [if_neg (by omega)] | rw [if_pos (by assumption)] | rw [if_neg (by assumption)])); all_goals (first | rfl | (congr 2; omega) | (congr 1; congr 1; omega))))) ?_
  rintro _ _ ⟨rfl, aA1, aA2, rfl⟩
  obtain ⟨kA, rfl⟩ := Int.eq_ofNat_of_zero_le aA1
  simp only [Int.toNat_natCast]
  have hkA : kA < 4 := by omega
  have hrA := hC.ls hkA
  obtain ⟨fA, eA, -⟩ := id hrA
  have hlA := hrA.len
  refine z_astore dCls_set_5 (Nat.le_of_ble_eq_true rfl) ?_
  refine z_aload dCls_set_7 rfl ?_
  refine z_iload_n dCls_set_9 rfl ?_
  refine z_callS (bc' := 4) (bs' := 24) MS_Cls_demandPlace lk_Cls_74 dCls_set_10 (k_Cls_demandPlace hrA (by omega)) rfl rfl (Nat.le_of_ble_eq_true rfl)  (Nat.le_of_ble_eq_true rfl) (Nat.le_of_ble_eq_true rfl) (by decide) (by decide) (fun E h9 q9 => z_out rfl (by obtain ⟨rfl, q1, rfl⟩ := q9; exact zXc.mk (by assumption) (by first | exact zFrm.rf | assumption) (by unfold sp_set; (try unfold spPut); (try simp only [Int.toNat_natCast]); (repeat (first | rw [if_pos (by omega)] | rw [if_neg (by omega)] | rw [if_pos (by assumption)] | rw [if_neg (by assumption)])); all_goals (first | rfl | (congr 2; omega) | (congr 1; congr 1; omega))))) ?_
  rintro _ _ ⟨rfl, v1, v2, rfl⟩
  refine z_iload_n dCls_set_13 rfl ?_
  refine z_callS (bc' := 3) (bs' := 18) MS_Cls_demandItem lk_Cls_42 dCls_set_14 (k_Cls_demandItem (by omega)) rfl rfl (Nat.le_of_ble_eq_true rfl)  (Nat.le_of_ble_eq_true rfl) (Nat.le_of_ble_eq_true rfl) (by decide) (by decide) (fun E h9 q9 => z_out rfl (by obtain ⟨rfl, q1, rfl⟩ := q9; exact zXc.mk (by assumption) (by first | exact zFrm.rf | assumption) (by unfold sp_set; (try unfold spPut); (try simp only [Int.toNat_natCast]); (repeat (first | rw [if_pos (by omega)] | rw [if_neg (by omega)] | rw [if_pos (by assumption)] | rw [if_neg (by assumption)])); all_goals (first | rfl | (congr 2; omega) | (congr 1; congr 1; omega))))) ?_
  rintro _ _ ⟨rfl, hx9, rfl⟩
  refine z_aload dCls_set_17 rfl ?_
  refine z_iload_n dCls_set_19 rfl ?_
  refine z_callVN MV_Row_itemAt lk_Cls_70 dCls_set_20 (k_Row_itemAt hrA (by omega)) rfl rfl (Nat.le_of_ble_eq_true rfl) rfl (by assumption) (Nat.le_of_ble_eq_true rfl) (Nat.le_of_ble_eq_true rfl) (Nat.le_of_eq (Nat.zero_add _)) (Nat.le_of_eq (Nat.zero_add _)) (fun _ _ q => q.elim) ?_
  rintro _ _ ⟨rfl, rfl⟩
  refine z_istore dCls_set_23 (Nat.le_of_ble_eq_true rfl) ?_
  refine z_aload dCls_set_25 rfl ?_
  refine z_iload_n dCls_set_27 rfl ?_
  refine z_iload_n dCls_set_28 rfl ?_
  refine z_callVN MV_Row_changeAt lk_Cls_78 dCls_set_29 (k_Row_changeAt hrA (by omega) hx9) rfl rfl (Nat.le_of_ble_eq_true rfl) rfl (by assumption) (Nat.le_of_ble_eq_true rfl) (Nat.le_of_ble_eq_true rfl) (Nat.le_of_eq (Nat.zero_add _)) (Nat.le_of_eq (Nat.zero_add _)) (fun _ _ q => q.elim) ?_
  rintro _ h1 ⟨rfl, hr1, f1⟩
  have hC1 := hC.row hkA hr1 f1
  obtain ⟨-, d1, -⟩ := id hC1
  have fz1 : zFrm ad h h1 := zFrm.of2 (i := 8 + 2 * kA) (j := 9 + 2 * kA) (by omega) (by omega) f1
  obtain ⟨fr1, er1, -⟩ := id hr1
  have hl1 := hr1.len
  refine z_iload dCls_set_32 rfl ?_
  refine z_iret rfl rfl dCls_set_34 ?_
  first
    | (exfalso; omega)
    | exact zQc.mk (by assumption) (by first | exact zFrm.rf | assumption) (by unfold sp_set; (try unfold spPut); (try simp only [Int.toNat_natCast]); (repeat (first | rw [if_pos (by omega)] | rw [if_neg (by omega)] | rw [if_pos (by assumption)] | rw [if_neg (by assumption)])); all_goals (first | rfl | (congr 2; omega) | (congr 1; congr 1; omega)))
theorem k_Cls_insert {p q x : Int}  (hC : zCls G h ad S) (z_p : zI32 p) (z_q : zI32 q) (z_x : zI32 x) : zM G l hCls_insert yCls_insert 9 [.ref (ad 0), zi p, zi q, zi x] h (zQc G ad h (sp_insert S p q x)) (zXc G ad h (sp_insert S p q x)) 6 36 := by
  obtain ⟨c1, c2, ⟨g3, c3, d3⟩, ⟨g4, c4, d4⟩, c5, ⟨T6, c6, d6⟩, c7, c8, ⟨R9, c9⟩, c10⟩ := id hC
  refine zM.of [some (.ref (ad 0)), some (zi p), some (zi q), some (zi x)] (by decide +kernel) rfl (by decide) rfl (Nat.le_of_ble_eq_true rfl) rfl ?_
  refine z_aload_n dCls_insert_0 rfl ?_
  refine z_iload_n dCls_insert_1 rfl ?_
  refine z_callV (bc' := 5) (bs' := 30) MV_Cls_listAt lk_Cls_34 dCls_insert_2 (k_Cls_listAt (by assumption) (by omega)) rfl rfl (Nat.le_of_ble_eq_true rfl) rfl (by assumption) (Nat.le_of_ble_eq_true rfl) (Nat.le_of_ble_eq_true rfl) (by decide) (by decide) (fun E h9 q9 => z_out rfl (by obtain ⟨rfl, q1, rfl⟩ := q9; exact zXc.mk (by assumption) (by first | exact zFrm.rf | assumption) (by unfold sp_insert; (try unfold spPut); (try simp only [Int.toNat_natCast]); (repeat (first | rw [if_pos (by omega)] | rw [if_neg (by omega)] | rw [if_pos (by assumption)] | rw [if_neg (by assumption)])); all_goals (first | rfl | (congr 2; omega) | (congr 1; congr 1; omega))))) ?_
  rintro _ _ ⟨rfl, aA1, aA2, rfl⟩
  obtain ⟨kA, rfl⟩ := Int.eq_ofNat_of_zero_le aA1
  simp only [Int.toNat_natCast]
  have hkA : kA < 4 := by omega
  have hrA := hC.ls hkA
  obtain ⟨fA, eA, -⟩ := id hrA
  have hlA := hrA.len
  refine z_iload_n dCls_insert_5 rfl ?_
  refine z_callS (bc' := 4) (bs' := 24) MS_Cls_demandGap lk_Cls_81 dCls_insert_6 (k_Cls_demandGap hrA (by omega)) rfl rfl (Nat.le_of_ble_eq_true rfl)  (Nat.le_of_ble_eq_true rfl) (Nat.le_of_ble_eq_true rfl) (by decide) (by decide) (fun E h9 q9 => z_out rfl (by obtain ⟨rfl, q1, rfl⟩ := q9; exact zXc.mk (by assumption) (by first | exact zFrm.rf | assumption) (by unfold sp_insert; (try unfold spPut); (try simp only [Int.toNat_natCast]); (repeat (first | rw [if_pos (by omega)] | rw [if_neg (by omega)] | rw [if_pos (by assumption)] | rw [if_neg (by assumption)])); all_goals (first | rfl | (congr 2; omega) | (congr 1; congr 1; omega))))) ?_
  rintro _ _ ⟨rfl, v1, v2, rfl⟩
  refine z_iload_n dCls_insert_9 rfl ?_
  refine z_callS (bc' := 3) (bs' := 18) MS_Cls_demandItem lk_Cls_42 dCls_insert_10 (k_Cls_demandItem (by omega)) rfl rfl (Nat.le_of_ble_eq_true rfl)  (Nat.le_of_ble_eq_true rfl) (Nat.le_of_ble_eq_true rfl) (by decide) (by decide) (fun E h9 q9 => z_out rfl (by obtain ⟨rfl, q1, rfl⟩ := q9; exact zXc.mk (by assumption) (by first | exact zFrm.rf | assumption) (by unfold sp_insert; (try unfold spPut); (try simp only [Int.toNat_natCast]); (repeat (first | rw [if_pos (by omega)] | rw [if_neg (by omega)] | rw [if_pos (by assumption)] | rw [if_neg (by assumption)])); all_goals (first | rfl | (congr 2; omega) | (congr 1; congr 1; omega))))) ?_
  rintro _ _ ⟨rfl, hx9, rfl⟩
  refine z_aload_n dCls_insert_13 rfl ?_
  refine z_iload_n dCls_insert_14 rfl ?_
  refine z_iload_n dCls_insert_15 rfl ?_
  refine z_iload_n dCls_insert_16 rfl ?_
  refine z_callV (bc' := 2) (bs' := 12) MV_Cls_putInto lk_Cls_50 dCls_insert_17 (k_Cls_putInto (by assumption) (by omega) (by omega) (by omega)) rfl rfl (Nat.le_of_ble_eq_true rfl) rfl (by assumption) (Nat.le_of_ble_eq_true rfl) (Nat.le_of_ble_eq_true rfl) (by decide) (by decide) (fun _ _ q => q.elim) ?_
  rintro _ h9 ⟨(⟨rfl, m1, m2, m3, hC9⟩ | ⟨rfl, m1, hC9⟩), fz9⟩
  · refine z_iret rfl rfl dCls_insert_20 ?_
    first
      | (exfalso; omega)
      | exact zQc.mk (by assumption) (by first | exact zFrm.rf | assumption) (by unfold sp_insert; (try unfold spPut); (try simp only [Int.toNat_natCast]); (repeat (first | rw [if_pos (by omega)] | rw [if_neg (by omega)] | rw [if_pos (by assumption)] | rw [if_neg (by assumption)])); all_goals (first | rfl | (congr 2; omega) | (congr 1; congr 1; omega)))
  · refine z_iret rfl rfl dCls_insert_20 ?_
    first
      | (exfalso; omega)
      | exact zQc.mk (by assumption) (by first | exact zFrm.rf | assumption) (by unfold sp_insert; (try unfold spPut); (try simp only [Int.toNat_natCast]); (repeat (first | rw [if_pos (by omega)] | rw [if_neg (by omega)] | rw [if_pos (by assumption)] | rw [if_neg (by assumption)])); all_goals (first | rfl | (congr 2; omega) | (congr 1; congr 1; omega)))
theorem k_Cls_removeAt {p q : Int}  (hC : zCls G h ad S) (z_p : zI32 p) (z_q : zI32 q) : zM G l hCls_removeAt yCls_removeAt 9 [.ref (ad 0), zi p, zi q] h (zQc G ad h (sp_removeAt S p q)) (zXc G ad h (sp_removeAt S p q)) 6 36 := by
  obtain ⟨c1, c2, ⟨g3, c3, d3⟩, ⟨g4, c4, d4⟩, c5, ⟨T6, c6, d6⟩, c7, c8, ⟨R9, c9⟩, c10⟩ := id hC
  refine zM.of [some (.ref (ad 0)), some (zi p), some (zi q)] (by decide +kernel) rfl (by decide) rfl (Nat.le_of_ble_eq_true rfl) rfl ?_
  refine z_aload_n dCls_removeAt_0 rfl ?_
  refine z_iload_n dCls_removeAt_1 rfl ?_
  refine z_callV (bc' := 5) (bs' := 30) MV_Cls_listAt lk_Cls_34 dCls_removeAt_2 (k_Cls_listAt (by assumption) (by omega)) rfl rfl (Nat.le_of_ble_eq_true rfl) rfl (by assumption) (Nat.le_of_ble_eq_true rfl) (Nat.le_of_ble_eq_true rfl) (by decide) (by decide) (fun E h9 q9 => z_out rfl (by obtain ⟨rfl, q1, rfl⟩ := q9; exact zXc.mk (by assumption) (by first | exact zFrm.rf | assumption) (by unfold sp_removeAt; (try unfold spPut); (try simp only [Int.toNat_natCast]); (repeat (first | rw [if_pos (by omega)] | rw [if_neg (by omega)] | rw [if_pos (by assumption)] | rw [if_neg (by assumption)])); all_goals (first | rfl | (congr 2; omega) | (congr 1; congr 1; omega))))) ?_
  rintro _ _ ⟨rfl, aA1, aA2, rfl⟩
  obtain ⟨kA, rfl⟩ := Int.eq_ofNat_of_zero_le aA1
  simp only [Int.toNat_natCast]
  have hkA : kA < 4 := by omega
  have hrA := hC.ls hkA
  obtain ⟨fA, eA, -⟩ := id hrA
  have hlA := hrA.len
  refine z_iload_n dCls_removeAt_5 rfl ?_
  refine z_callS (bc' := 4) (bs' := 24) MS_Cls_demandPlace lk_Cls_74 dCls_removeAt_6 (k_Cls_demandPlace hrA (by omega)) rfl rfl (Nat.le_of_ble_eq_true rfl)  (Nat.le_of_ble_eq_true rfl) (Nat.le_of_ble_eq_true rfl) (by decide) (by decide) (fun E h9 q9 => z_out rfl (by obtain ⟨rfl, q1, rfl⟩ := q9; exact zXc.mk (by assumption) (by first | exact zFrm.rf | assumption) (by unfold sp_removeAt; (try unfold spPut); (try simp only [Int.toNat_natCast]); (repeat (first | rw [if_pos (by omega)] | rw [if_neg (by omega)] | rw [if_pos (by assumption)] | rw [if_neg (by assumption)])); all_goals (first | rfl | (congr 2; omega) | (congr 1; congr 1; omega))))) ?_
  rintro _ _ ⟨rfl, v1, v2, rfl⟩
  refine z_aload_n dCls_removeAt_9 rfl ?_
  refine z_iload_n dCls_removeAt_10 rfl ?_
  refine z_iload_n dCls_removeAt_11 rfl ?_
  refine z_callV (bc' := 3) (bs' := 18) MV_Cls_takeFrom lk_Cls_66 dCls_removeAt_12 (k_Cls_takeFrom (by assumption) (by omega) (by omega)) rfl rfl (Nat.le_of_ble_eq_true rfl) rfl (by assumption) (Nat.le_of_ble_eq_true rfl) (Nat.le_of_ble_eq_true rfl) (by decide) (by decide) (fun _ _ q => q.elim) ?_
  rintro _ h9 ⟨rfl, hC9, fz9⟩
  refine z_iret rfl rfl dCls_removeAt_15 ?_
  first
    | (exfalso; omega)
    | exact zQc.mk (by assumption) (by first | exact zFrm.rf | assumption) (by unfold sp_removeAt; (try unfold spPut); (try simp only [Int.toNat_natCast]); (repeat (first | rw [if_pos (by omega)] | rw [if_neg (by omega)] | rw [if_pos (by assumption)] | rw [if_neg (by assumption)])); all_goals (first | rfl | (congr 2; omega) | (congr 1; congr 1; omega)))
end CLS5
end
