/-! ===== Row ===== -/
abbrev zIn (x : Int) : Prop := -9999 ≤ x ∧ x ≤ 9999
def zmk (n : Nat) (g : Nat → Int) : List Int := (List.range n).map g
theorem zmk_len (n : Nat) (g : Nat → Int) : (zmk n g).length = n := by simp [zmk]
theorem zmk_at {n j : Nat} (g : Nat → Int) (h : j < n) : (zmk n g).getD j 0 = g j := by simp [zmk, h]
theorem zl_ext {L M : List Int} (h : L.length = M.length) (h2 : ∀ j, j < L.length → L.getD j 0 = M.getD j 0) : L = M := by
  apply List.ext_getElem h
  intro j h3 h4
  have := h2 j h3
  simpa [h3, h4] using this
def zAt (L : List Int) (j : Int) : Int := if 0 ≤ j ∧ j < L.length then L.getD j.toNat 0 else 0
/-- a Row at r, its items at a, holds the list L -/
def zRow (G : zG) (h : zHp) (r a : Nat) (L : List Int) : Prop := ∃ f : Nat → Int, h r = some (.inr (zkRow, [.ref a, zi (L.length : Int)])) ∧ h a = some (zInts G 16 f) ∧ L.length ≤ 16 ∧ (∀ j, j < L.length → f j = L.getD j 0) ∧ ∀ j, j < L.length → zIn (L.getD j 0)
theorem zRow.len {G : zG} {h : zHp} {r a : Nat} {L : List Int} (H : zRow G h r a L) : L.length ≤ 16 := by obtain ⟨f, e1, e2, e3, e4, e5⟩ := H; exact e3
theorem zRow.item {G : zG} {h : zHp} {r a : Nat} {L : List Int} (H : zRow G h r a L) {j : Nat} (hj : j < L.length) : zIn (L.getD j 0) := by obtain ⟨f, e1, e2, e3, e4, e5⟩ := H; exact e5 j hj
theorem zRow.ne {G : zG} {h : zHp} {r a : Nat} {L : List Int} (H : zRow G h r a L) : r ≠ a := by
  obtain ⟨f, e1, e2, -⟩ := H
  rintro rfl
  rw [e1] at e2
  cases e2
theorem zRow.kept {G : zG} {h h' : zHp} {r a : Nat} {L : List Int} (H : zRow G h r a L) (hr : h' r = h r) (ha : h' a = h a) : zRow G h' r a L := by
  obtain ⟨f, e1, e2, e3⟩ := H
  exact ⟨f, hr.trans e1, ha.trans e2, e3⟩
theorem zAt_in {G : zG} {h : zHp} {r a : Nat} {L : List Int} (H : zRow G h r a L) (p : Int) : zIn (zAt L p) := by
  unfold zAt
  split
  · exact H.item (by omega)
  · decide
theorem zbool {b : Int} {C D : Prop} (hb : (b = 1 ∧ C) ∨ (b = 0 ∧ D)) : narrow .boolean (.int (zI b)) = .int (zI b) := by
  rcases hb with ⟨rfl, -⟩ | ⟨rfl, -⟩ <;> rfl
theorem zup_same {α : Type} (g : Nat → α) (k : Nat) (x : α) : zup g k x k = x := if_pos rfl
theorem zup_ne {α : Type} {g : Nat → α} {k j : Nat} {x : α} (h : j ≠ k) : zup g k x j = g j := if_neg h
section ROW
variable {G : zG} {l : Launch} {h : zHp} {r a : Nat} {L : List Int} {p x : Int}
theorem k_Row_hasPlace (hr : zRow G h r a L) (hp : -2147483648 ≤ p ∧ p ≤ 2147483647) : zM G l hRow_hasPlace yRow_hasPlace 1 [.ref r, zi p] h (fun v h' => ∃ b : Int, v = some (zi b) ∧ ((b = 1 ∧ (0 ≤ p ∧ p < (L.length : Int))) ∨ (b = 0 ∧ ¬ (0 ≤ p ∧ p < (L.length : Int)))) ∧ h = h') zNo 0 0 := by
  obtain ⟨f, e1, e2, e3, e4, e5⟩ := id hr
  refine zM.of [some (.ref r), some (zi p)] (by decide +kernel) rfl (by decide) rfl (Nat.le_of_ble_eq_true rfl) rfl ?_
  refine z_iload_n dRow_hasPlace_0 rfl ?_
  refine z_if_lt (tgt := 16) dRow_hasPlace_1 (by decide) (by omega) (fun c1 => ?_) (fun c1 => ?_)
  · refine z_iconst dRow_hasPlace_16 ?_
    refine z_iret rfl rfl dRow_hasPlace_17 ?_
    exact ⟨_, rfl, by omega, rfl⟩
  · refine z_iload_n dRow_hasPlace_4 rfl ?_
    refine z_aload_n dRow_hasPlace_5 rfl ?_
    refine z_get (k := 1) fd_Row (by decide) fl_Row_15 dRow_hasPlace_6 (by assumption) (by rfl) ?_
    refine z_icmp_ge (tgt := 16) dRow_hasPlace_9 (by decide) (by omega) (by omega) (fun c9 => ?_) (fun c9 => ?_)
    · refine z_iconst dRow_hasPlace_16 ?_
      refine z_iret rfl rfl dRow_hasPlace_17 ?_
      exact ⟨_, rfl, by omega, rfl⟩
    · refine z_iconst dRow_hasPlace_12 ?_
      refine z_goto (tgt := 17) dRow_hasPlace_13 (by decide) ?_
      refine z_iret rfl rfl dRow_hasPlace_17 ?_
      exact ⟨_, rfl, by omega, rfl⟩
theorem k_Row_hasGap (hr : zRow G h r a L) (hp : -2147483648 ≤ p ∧ p ≤ 2147483647) : zM G l hRow_hasGap yRow_hasGap 1 [.ref r, zi p] h (fun v h' => ∃ b : Int, v = some (zi b) ∧ ((b = 1 ∧ (0 ≤ p ∧ p ≤ (L.length : Int))) ∨ (b = 0 ∧ ¬ (0 ≤ p ∧ p ≤ (L.length : Int)))) ∧ h = h') zNo 0 0 := by
  obtain ⟨f, e1, e2, e3, e4, e5⟩ := id hr
  refine zM.of [some (.ref r), some (zi p)] (by decide +kernel) rfl (by decide) rfl (Nat.le_of_ble_eq_true rfl) rfl ?_
  refine z_iload_n dRow_hasGap_0 rfl ?_
  refine z_if_lt (tgt := 16) dRow_hasGap_1 (by decide) (by omega) (fun c1 => ?_) (fun c1 => ?_)
  · refine z_iconst dRow_hasGap_16 ?_
    refine z_iret rfl rfl dRow_hasGap_17 ?_
    exact ⟨_, rfl, by omega, rfl⟩
  · refine z_iload_n dRow_hasGap_4 rfl ?_
    refine z_aload_n dRow_hasGap_5 rfl ?_
    refine z_get (k := 1) fd_Row (by decide) fl_Row_15 dRow_hasGap_6 (by assumption) (by rfl) ?_
    refine z_icmp_gt (tgt := 16) dRow_hasGap_9 (by decide) (by omega) (by omega) (fun c9 => ?_) (fun c9 => ?_)
    · refine z_iconst dRow_hasGap_16 ?_
      refine z_iret rfl rfl dRow_hasGap_17 ?_
      exact ⟨_, rfl, by omega, rfl⟩
    · refine z_iconst dRow_hasGap_12 ?_
      refine z_goto (tgt := 17) dRow_hasGap_13 (by decide) ?_
      refine z_iret rfl rfl dRow_hasGap_17 ?_
      exact ⟨_, rfl, by omega, rfl⟩
theorem k_Row_itemAt (hr : zRow G h r a L) (hp : -2147483648 ≤ p ∧ p ≤ 2147483647) : zM G l hRow_itemAt yRow_itemAt 2 [.ref r, zi p] h (fun v h' => v = some (zi (zAt L p)) ∧ h = h') zNo 0 0 := by
  obtain ⟨f, e1, e2, e3, e4, e5⟩ := id hr
  refine zM.of [some (.ref r), some (zi p)] (by decide +kernel) rfl (by decide) rfl (Nat.le_of_ble_eq_true rfl) rfl ?_
  refine z_aload_n dRow_itemAt_0 rfl ?_
  refine z_iload_n dRow_itemAt_1 rfl ?_
  refine z_callV MV_Row_hasPlace lk_Row_19 dRow_itemAt_2 (k_Row_hasPlace hr hp) rfl rfl (Nat.le_of_ble_eq_true rfl) rfl (by assumption) (Nat.le_of_ble_eq_true rfl) (Nat.le_of_ble_eq_true rfl) (Nat.le_of_eq (Nat.zero_add _)) (Nat.le_of_eq (Nat.zero_add _)) (fun _ _ q => q.elim) ?_
  rintro _ _ ⟨b9, rfl, hb9, rfl⟩
  refine z_if_eq (tgt := 17) dRow_itemAt_5 (by decide) (by omega) (fun c5 => ?_) (fun c5 => ?_)
  · refine z_iconst dRow_itemAt_17 ?_
    refine z_iret rfl rfl dRow_itemAt_18 ?_
    unfold zAt
    first
      | (rw [if_pos (by omega)]; exact ⟨by rw [e4 _ (by omega)], rfl⟩)
      | (rw [if_neg (by omega)]; exact ⟨rfl, rfl⟩)
  · refine z_aload_n dRow_itemAt_8 rfl ?_
    refine z_get (k := 0) fd_Row (by decide) fl_Row_9 dRow_itemAt_9 (by assumption) (by rfl) ?_
    refine z_iload_n dRow_itemAt_12 rfl ?_
    refine z_iald dRow_itemAt_13 (by assumption) (by refine ⟨?_, ?_, ?_⟩ <;> omega) ?_
    refine z_goto (tgt := 18) dRow_itemAt_14 (by decide) ?_
    refine z_iret rfl rfl dRow_itemAt_18 ?_
    unfold zAt
    first
      | (rw [if_pos (by omega)]; exact ⟨by rw [e4 _ (by omega)], rfl⟩)
      | (rw [if_neg (by omega)]; exact ⟨rfl, rfl⟩)
def zSet (L : List Int) (p x : Int) : List Int := if 0 ≤ p ∧ p < L.length then L.set p.toNat x else L
theorem zSet_len (L : List Int) (p x : Int) : (zSet L p x).length = L.length := by unfold zSet; split <;> simp
theorem zSet_at (L : List Int) (p x : Int) {j : Nat} (hj : j < L.length) : (zSet L p x).getD j 0 = if (j : Int) = p then x else L.getD j 0 := by
  unfold zSet
  split
  · rename_i hc
    by_cases e : (j : Int) = p
    · have e2 : p.toNat = j := by omega
      rw [if_pos e, e2]
      simp [hj]
    · have e2 : p.toNat ≠ j := by omega
      rw [if_neg e]
      simp [List.getElem?_set, e2]
  · rw [if_neg (by omega)]
theorem k_Row_changeAt (hr : zRow G h r a L) (hp : -2147483648 ≤ p ∧ p ≤ 2147483647) (hx : zIn x) : zM G l hRow_changeAt yRow_changeAt 2 [.ref r, zi p, zi x] h (fun v h' => v = none ∧ zRow G h' r a (zSet L p x) ∧ ∀ q, q ≠ r → q ≠ a → h' q = h q) zNo 0 0 := by
  obtain ⟨f, e1, e2, e3, e4, e5⟩ := id hr
  refine zM.of [some (.ref r), some (zi p), some (zi x)] (by decide +kernel) rfl (by decide) rfl (Nat.le_of_ble_eq_true rfl) rfl ?_
  refine z_aload_n dRow_changeAt_0 rfl ?_
  refine z_iload_n dRow_changeAt_1 rfl ?_
  refine z_callV MV_Row_hasPlace lk_Row_19 dRow_changeAt_2 (k_Row_hasPlace hr hp) rfl rfl (Nat.le_of_ble_eq_true rfl) rfl (by assumption) (Nat.le_of_ble_eq_true rfl) (Nat.le_of_ble_eq_true rfl) (Nat.le_of_eq (Nat.zero_add _)) (Nat.le_of_eq (Nat.zero_add _)) (fun _ _ q => q.elim) ?_
  rintro _ _ ⟨b9, rfl, hb9, rfl⟩
  refine z_if_eq (tgt := 15) dRow_changeAt_5 (by decide) (by omega) (fun c5 => ?_) (fun c5 => ?_)
  · refine z_vret rfl dRow_changeAt_15 ?_
    first
      | (have hne := hr.ne
         refine ⟨rfl, ⟨zup f p.toNat x, (zup_ne hne).trans (by rw [zSet_len]; exact e1), zup_same _ _ _, by rw [zSet_len]; exact e3, fun j hj => ?_, fun j hj => ?_⟩, fun q h1 h2 => zup_ne h2⟩
         · rw [zSet_len] at hj
           rw [zSet_at _ _ _ hj, ← e4 j hj]
           unfold zup
           by_cases e : j = p.toNat
           · rw [if_pos e, if_pos (by omega)]
           · rw [if_neg e, if_neg (by omega)]
         · rw [zSet_len] at hj
           rw [zSet_at _ _ _ hj]
           split
           · exact hx
           · exact e5 j hj)
      | (have hq : zSet L p x = L := if_neg (by omega)
         rw [hq]
         exact ⟨rfl, hr, fun q _ _ => rfl⟩)
  · refine z_aload_n dRow_changeAt_8 rfl ?_
    refine z_get (k := 0) fd_Row (by decide) fl_Row_9 dRow_changeAt_9 (by assumption) (by rfl) ?_
    refine z_iload_n dRow_changeAt_12 rfl ?_
    refine z_iload_n dRow_changeAt_13 rfl ?_
    refine z_iast dRow_changeAt_14 (by assumption) (by refine ⟨?_, ?_, ?_⟩ <;> omega) ?_
    refine z_vret rfl dRow_changeAt_15 ?_
    first
      | (have hne := hr.ne
         refine ⟨rfl, ⟨zup f p.toNat x, (zup_ne hne).trans (by rw [zSet_len]; exact e1), zup_same _ _ _, by rw [zSet_len]; exact e3, fun j hj => ?_, fun j hj => ?_⟩, fun q h1 h2 => zup_ne h2⟩
         · rw [zSet_len] at hj
           rw [zSet_at _ _ _ hj, ← e4 j hj]
           unfold zup
           by_cases e : j = p.toNat
           · rw [if_pos e, if_pos (by omega)]
           · rw [if_neg e, if_neg (by omega)]
         · rw [zSet_len] at hj
           rw [zSet_at _ _ _ hj]
           split
           · exact hx
           · exact e5 j hj)
      | (have hq : zSet L p x = L := if_neg (by omega)
         rw [hq]
         exact ⟨rfl, hr, fun q _ _ => rfl⟩)
def zIns (L : List Int) (p : Int) (x : Int) : List Int := zmk (L.length + 1) (fun j => if (j : Int) < p then L.getD j 0 else if (j : Int) = p then x else L.getD (j - 1) 0)
def zDel (L : List Int) (p : Int) : List Int := zmk (L.length - 1) (fun j => if (j : Int) < p then L.getD j 0 else L.getD (j + 1) 0)
theorem zIns_len (L : List Int) (p x : Int) : (zIns L p x).length = L.length + 1 := zmk_len _ _
theorem zDel_len (L : List Int) (p : Int) : (zDel L p).length = L.length - 1 := zmk_len _ _
theorem zIns_at {L : List Int} {p x : Int} {j : Nat} (h : j < L.length + 1) : (zIns L p x).getD j 0 = if (j : Int) < p then L.getD j 0 else if (j : Int) = p then x else L.getD (j - 1) 0 := zmk_at _ h
theorem zDel_at {L : List Int} {p : Int} {j : Nat} (h : j < L.length - 1) : (zDel L p).getD j 0 = if (j : Int) < p then L.getD j 0 else L.getD (j + 1) 0 := zmk_at _ h
theorem l_Row_putIn {d mc ms bc bs : Nat} {Qn : Option Value → zHp → Prop} {Qx : String → zHp → Prop} {f : Nat → Int} {c : Nat} (hc : c < 16) (hp : 0 ≤ p) (hra : r ≠ a)
    (K : ∀ (h1 : zHp) (f1 : Nat → Int), h1 r = some (.inr (zkRow, [.ref a, zi (c : Int)])) → h1 a = some (zInts G 16 f1) → (∀ q, q ≠ a → h1 q = h q) → (∀ j : Nat, (j : Int) < p → f1 j = f j) → (∀ j : Nat, p ≤ j → j < c → f1 (j + 1) = f j) → ∀ b : Int, zR G l (zMJ G hRow_putIn d Qn Qx mc ms) bc bs h1 49 [some (.ref r), some (zi p), some (zi x), some (zi b)] []) :
    ∀ (n : Nat) (b : Int) (h1 : zHp) (f1 : Nat → Int), b - p < n → p ≤ b → b ≤ c → h1 r = some (.inr (zkRow, [.ref a, zi (c : Int)])) → h1 a = some (zInts G 16 f1) → (∀ q, q ≠ a → h1 q = h q) → (∀ j : Nat, (j : Int) ≤ b → f1 j = f j) → (∀ j : Nat, b ≤ j → j < c → f1 (j + 1) = f j) →
      zR G l (zMJ G hRow_putIn d Qn Qx mc ms) bc bs h1 24 [some (.ref r), some (zi p), some (zi x), some (zi b)] [] := by
  intro n
  induction n with
  | zero => intro b h1 f1 q1 q2; omega
  | succ n ih =>
  intro b h1 f1 q1 q2 q3 g1 g2 g3 g4 g5
  refine z_iload_n dRow_putIn_24 rfl ?_
  refine z_iload_n dRow_putIn_25 rfl ?_
  refine z_icmp_le (tgt := 49) dRow_putIn_26 (by decide) (by omega) (by omega) (fun c26 => ?_) (fun c26 => ?_)
  · exact K _ f1 g1 g2 g3 (fun j hj => g4 j (by omega)) (fun j hj1 hj2 => g5 j (by omega) hj2) _
  · refine z_aload_n dRow_putIn_29 rfl ?_
    refine z_get (k := 0) fd_Row (by decide) fl_Row_9 dRow_putIn_30 (by assumption) (by rfl) ?_
    refine z_iload_n dRow_putIn_33 rfl ?_
    refine z_aload_n dRow_putIn_34 rfl ?_
    refine z_get (k := 0) fd_Row (by decide) fl_Row_9 dRow_putIn_35 (by assumption) (by rfl) ?_
    refine z_iload_n dRow_putIn_38 rfl ?_
    refine z_iconst dRow_putIn_39 ?_
    refine z_isub dRow_putIn_40 ?_
    refine z_iald dRow_putIn_41 (by assumption) (by refine ⟨?_, ?_, ?_⟩ <;> omega) ?_
    refine z_iast dRow_putIn_42 (by assumption) (by refine ⟨?_, ?_, ?_⟩ <;> omega) ?_
    refine z_iinc dRow_putIn_43 rfl (Nat.le_of_ble_eq_true rfl) ?_
    refine z_goto (tgt := 24) dRow_putIn_46 (by decide) ?_
    refine ih (b + -1) _ _ (by omega) (by omega) (by omega) ((zup_ne hra).trans g1) (zup_same _ _ _) (fun q hq => (zup_ne hq).trans (g3 q hq)) (fun j hj => ?_) (fun j hj1 hj2 => ?_)
    · exact (zup_ne (by omega)).trans (g4 j (by omega))
    · by_cases e : (j : Int) = b - 1
      · have e2 : j + 1 = b.toNat := by omega
        rw [e2, zup_same, ← g4 j (by omega)]
        congr 1
        omega
      · exact (zup_ne (by omega)).trans (g5 j (by omega) hj2)
theorem k_Row_putIn (hr : zRow G h r a L) (hp : -2147483648 ≤ p ∧ p ≤ 2147483647) (hx : zIn x) : zM G l hRow_putIn yRow_putIn 2 [.ref r, zi p, zi x] h (fun v h' => (v = some (zi 1) ∧ L.length < 16 ∧ 0 ≤ p ∧ p ≤ L.length ∧ zRow G h' r a (zIns L p x) ∧ ∀ q, q ≠ r → q ≠ a → h' q = h q) ∨ (v = some (zi 0) ∧ ¬ (L.length < 16 ∧ 0 ≤ p ∧ p ≤ L.length) ∧ h = h')) zNo 0 0 := by
  obtain ⟨f, e1, e2, e3, e4, e5⟩ := id hr
  refine zM.of [some (.ref r), some (zi p), some (zi x), none] (by decide +kernel) rfl (by decide) rfl (Nat.le_of_ble_eq_true rfl) rfl ?_
  refine z_aload_n dRow_putIn_0 rfl ?_
  refine z_get (k := 1) fd_Row (by decide) fl_Row_15 dRow_putIn_1 (by assumption) (by rfl) ?_
  refine z_bipush dRow_putIn_4 rfl ?_
  refine z_icmp_ge (tgt := 17) dRow_putIn_6 (by decide) (by omega) (by omega) (fun c6 => ?_) (fun c6 => ?_)
  · refine z_iconst dRow_putIn_17 ?_
    refine z_iret rfl rfl dRow_putIn_18 ?_
    exact Or.inr ⟨rfl, by omega, rfl⟩
  · refine z_aload_n dRow_putIn_9 rfl ?_
    refine z_iload_n dRow_putIn_10 rfl ?_
    refine z_callV MV_Row_hasGap lk_Row_23 dRow_putIn_11 (k_Row_hasGap hr hp) rfl rfl (Nat.le_of_ble_eq_true rfl) rfl (by assumption) (Nat.le_of_ble_eq_true rfl) (Nat.le_of_ble_eq_true rfl) (Nat.le_of_eq (Nat.zero_add _)) (Nat.le_of_eq (Nat.zero_add _)) (fun _ _ q => q.elim) ?_
    rintro _ _ ⟨b9, rfl, hb9, rfl⟩
    refine z_if_ne (tgt := 19) dRow_putIn_14 (by decide) (by omega) (fun c14 => ?_) (fun c14 => ?_)
    · refine z_aload_n dRow_putIn_19 rfl ?_
      refine z_get (k := 1) fd_Row (by decide) fl_Row_15 dRow_putIn_20 (by assumption) (by rfl) ?_
      refine z_istore_n dRow_putIn_23 (Nat.le_of_ble_eq_true rfl) ?_
      have hra := hr.ne
      refine l_Row_putIn (h := h) (f := f) (c := L.length) (by omega) (by omega) hra (fun h1 f1 g1 g2 g3 g4 g5 b => ?_) 17 _ h f (by omega) (by omega) (by omega) e1 e2 (fun _ _ => rfl) (fun _ _ => rfl) (fun j hj1 hj2 => absurd hj1 (by omega))
      refine z_aload_n dRow_putIn_49 rfl ?_
      refine z_get (k := 0) fd_Row (by decide) fl_Row_9 dRow_putIn_50 (by assumption) (by rfl) ?_
      refine z_iload_n dRow_putIn_53 rfl ?_
      refine z_iload_n dRow_putIn_54 rfl ?_
      refine z_iast dRow_putIn_55 (by assumption) (by refine ⟨?_, ?_, ?_⟩ <;> omega) ?_
      have g1 := (zup_ne hra).trans g1 (x := some (zInts G 16 (zup f1 p.toNat x)))
      refine z_aload_n dRow_putIn_56 rfl ?_
      refine z_dup rfl dRow_putIn_57 ?_
      refine z_get (k := 1) fd_Row (by decide) fl_Row_15 dRow_putIn_58 (by assumption) (by rfl) ?_
      refine z_iconst dRow_putIn_61 ?_
      refine z_iadd dRow_putIn_62 ?_
      refine z_put (k := 1) fd_Row (by decide) fl_Row_15 rfl dRow_putIn_63 (by assumption) (by simp) rfl rfl ?_
      
      refine z_iconst dRow_putIn_66 ?_
      refine z_iret rfl rfl dRow_putIn_67 ?_
      refine Or.inl ⟨rfl, by omega, by omega, by omega, ⟨zup f1 p.toNat x, ?_, (zup_ne (Ne.symm hra)).trans (zup_same _ _ _), by rw [zIns_len]; omega, fun j hj => ?_, fun j hj => ?_⟩, fun q h1 h2 => (zup_ne h1).trans ((zup_ne h2).trans (g3 q h2))⟩
      · rw [zup_same, zIns_len]
        rfl
      · rw [zIns_len] at hj
        rw [zIns_at hj]
        split
        · rename_i hj1
          rw [zup_ne (by omega), g4 j hj1, e4 j (by omega)]
        · split
          · rename_i hj1 hj2
            have e : j = p.toNat := by omega
            rw [e, zup_same]
          · rename_i hj1 hj2
            have e := g5 (j - 1) (by omega) (by omega)
            rw [zup_ne (by omega), ← e4 (j - 1) (by omega), ← e]
            congr 1
            omega
      · rw [zIns_len] at hj
        rw [zIns_at hj]
        split
        · exact e5 j (by omega)
        · split
          · exact hx
          · exact e5 (j - 1) (by omega)
    · refine z_iconst dRow_putIn_17 ?_
      refine z_iret rfl rfl dRow_putIn_18 ?_
      exact Or.inr ⟨rfl, by omega, rfl⟩
end ROW
