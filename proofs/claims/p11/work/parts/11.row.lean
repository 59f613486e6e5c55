/-! ===== Row ===== -/
abbrev zIn (x : Int) : Prop := -9999 ≤ x ∧ x ≤ 9999
def zmk (n : Nat) (g : Nat → Int) : List Int := (List.range n).map g
theorem zmk_len (n : Nat) (g : Nat → Int) : (zmk n g).length = n := by simp [zmk]
theorem zmk_at {n j : Nat} (g : Nat → Int) (h : j < n) : (zmk n g).getD j 0 = g j := by simp [zmk, h]
theorem zl_ext {L M : List Int} (h : L.length = M.length) (h2 : ∀ j, j < L.length → L.getD j 0 = M.getD j 0) : L = M := by
  apply List.ext_getElem h
  intro j h3 h4
  have := h2 j h3
  simpa [h3, h4] using this
def zAt (L : List Int) (j : Int) : Int := if 0 ≤ j ∧ j < L.length then L.getD j.toNat 0 else 0
/-- a Row at r, its items at a, holds the list L -/
def zRow (G : zG) (h : zHp) (r a : Nat) (L : List Int) : Prop := ∃ f : Nat → Int, h r = some (.inr (zkRow, [.ref a, zi (L.length : Int)])) ∧ h a = some (zInts G 16 f) ∧ L.length ≤ 16 ∧ (∀ j, j < L.length → f j = L.getD j 0) ∧ ∀ j, j < L.length → zIn (L.getD j 0)
theorem zRow.len {G : zG} {h : zHp} {r a : Nat} {L : List Int} (H : zRow G h r a L) : L.length ≤ 16 := by obtain ⟨f, e1, e2, e3, e4, e5⟩ := H; exact e3
theorem zRow.item {G : zG} {h : zHp} {r a : Nat} {L : List Int} (H : zRow G h r a L) {j : Nat} (hj : j < L.length) : zIn (L.getD j 0) := by obtain ⟨f, e1, e2, e3, e4, e5⟩ := H; exact e5 j hj
theorem zRow.ne {G : zG} {h : zHp} {r a : Nat} {L : List Int} (H : zRow G h r a L) : r ≠ a := by
  obtain ⟨f, e1, e2, -⟩ := H
  rintro rfl
  rw [e1] at e2
  cases e2
theorem zRow.kept {G : zG} {h h' : zHp} {r a : Nat} {L : List Int} (H : zRow G h r a L) (hr : h' r = h r) (ha : h' a = h a) : zRow G h' r a L := by
  obtain ⟨f, e1, e2, e3⟩ := H
  exact ⟨f, hr.trans e1, ha.trans e2, e3⟩
theorem zAt_in {G : zG} {h : zHp} {r a : Nat} {L : List Int} (H : zRow G h r a L) (p : Int) : zIn (zAt L p) := by
  unfold zAt
  split
  · exact H.item (by omega)
  · decide
theorem zbool {b : Int} {C D : Prop} (hb : (b = 1 ∧ C) ∨ (b = 0 ∧ D)) : narrow .boolean (.int (zI b)) = .int (zI b) := by
  rcases hb with ⟨rfl, -⟩ | ⟨rfl, -⟩ <;> rfl
theorem zup_same {α : Type} (g : Nat → α) (k : Nat) (x : α) : zup g k x k = x := if_pos rfl
theorem zup_ne {α : Type} {g : Nat → α} {k j : Nat} {x : α} (h : j ≠ k) : zup g k x j = g j := if_neg h
section ROW
variable {G : zG} {l : Launch} {h : zHp} {r a : Nat} {L : List Int} {p x : Int}
theorem k_Row_hasPlace (hr : zRow G h r a L) (hp : -2147483648 ≤ p ∧ p ≤ 2147483647) : zM G l hRow_hasPlace yRow_hasPlace 1 [.ref r, zi p] h (fun v h' => ∃ b : Int, v = some (zi b) ∧ ((b = 1 ∧ (0 ≤ p ∧ p < (L.length : Int))) ∨ (b = 0 ∧ ¬ (0 ≤ p ∧ p < (L.length : Int)))) ∧ h = h') zNo 0 0 := by
  obtain ⟨f, e1, e2, e3, e4, e5⟩ := id hr
  refine zM.of [some (.ref r), some (zi p)] (by decide +kernel) rfl (by decide) rfl (Nat.le_of_ble_eq_true rfl) rfl ?_
  refine z_iload_n dRow_hasPlace_0 rfl ?_
  refine z_if_lt (tgt := 16) dRow_hasPlace_1 (by decide) (by omega) (fun c1 => ?_) (fun c1 => ?_)
  · refine z_iconst dRow_hasPlace_16 ?_
    refine z_iret rfl rfl dRow_hasPlace_17 ?_
    exact ⟨_, rfl, by omega, rfl⟩
  · refine z_iload_n dRow_hasPlace_4 rfl ?_
    refine z_aload_n dRow_hasPlace_5 rfl ?_
    refine z_get (k := 1) fd_Row (by decide) fl_Row_15 dRow_hasPlace_6 (by assumption) (by rfl) ?_
    refine z_icmp_ge (tgt := 16) dRow_hasPlace_9 (by decide) (by omega) (by omega) (fun c9 => ?_) (fun c9 => ?_)
    · refine z_iconst dRow_hasPlace_16 ?_
      refine z_iret rfl rfl dRow_hasPlace_17 ?_
      exact ⟨_, rfl, by omega, rfl⟩
    · refine z_iconst dRow_hasPlace_12 ?_
      refine z_goto (tgt := 17) dRow_hasPlace_13 (by decide) ?_
      refine z_iret rfl rfl dRow_hasPlace_17 ?_
      exact ⟨_, rfl, by omega, rfl⟩
theorem k_Row_hasGap (hr : zRow G h r a L) (hp : -2147483648 ≤ p ∧ p ≤ 2147483647) : zM G l hRow_hasGap yRow_hasGap 1 [.ref r, zi p] h (fun v h' => ∃ b : Int, v = some (zi b) ∧ ((b = 1 ∧ (0 ≤ p ∧ p ≤ (L.length : Int))) ∨ (b = 0 ∧ ¬ (0 ≤ p ∧ p ≤ (L.length : Int)))) ∧ h = h') zNo 0 0 := by
  obtain ⟨f, e1, e2, e3, e4, e5⟩ := id hr
  refine zM.of [some (.ref r), some (zi p)] (by decide +kernel) rfl (by decide) rfl (Nat.le_of_ble_eq_true rfl) rfl ?_
  refine z_iload_n dRow_hasGap_0 rfl ?_
  refine z_if_lt (tgt := 16) dRow_hasGap_1 (by decide) (by omega) (fun c1 => ?_) (fun c1 => ?_)
  · refine z_iconst dRow_hasGap_16 ?_
    refine z_iret rfl rfl dRow_hasGap_17 ?_
    exact ⟨_, rfl, by omega, rfl⟩
  · refine z_iload_n dRow_hasGap_4 rfl ?_
    refine z_aload_n dRow_hasGap_5 rfl ?_
    refine z_get (k := 1) fd_Row (by decide) fl_Row_15 dRow_hasGap_6 (by assumption) (by rfl) ?_
    refine z_icmp_gt (tgt := 16) dRow_hasGap_9 (by decide) (by omega) (by omega) (fun c9 => ?_) (fun c9 => ?_)
    · refine z_iconst dRow_hasGap_16 ?_
      refine z_iret rfl rfl dRow_hasGap_17 ?_
      exact ⟨_, rfl, by omega, rfl⟩
    · refine z_iconst dRow_hasGap_12 ?_
      refine z_goto (tgt := 17) dRow_hasGap_13 (by decide) ?_
      refine z_iret rfl rfl dRow_hasGap_17 ?_
      exact ⟨_, rfl, by omega, rfl⟩
theorem k_Row_itemAt (hr : zRow G h r a L) (hp : -2147483648 ≤ p ∧ p ≤ 2147483647) : zM G l hRow_itemAt yRow_itemAt 2 [.ref r, zi p] h (fun v h' => v = some (zi (zAt L p)) ∧ h = h') zNo 0 0 := by
  obtain ⟨f, e1, e2, e3, e4, e5⟩ := id hr
  refine zM.of [some (.ref r), some (zi p)] (by decide +kernel) rfl (by decide) rfl (Nat.le_of_ble_eq_true rfl) rfl ?_
  refine z_aload_n dRow_itemAt_0 rfl ?_
  refine z_iload_n dRow_itemAt_1 rfl ?_
  refine z_callV MV_Row_hasPlace lk_Row_19 dRow_itemAt_2 (k_Row_hasPlace hr hp) rfl rfl (Nat.le_of_ble_eq_true rfl) rfl (by assumption) (Nat.le_of_ble_eq_true rfl) (Nat.le_of_ble_eq_true rfl) (Nat.le_of_eq (Nat.zero_add _)) (Nat.le_of_eq (Nat.zero_add _)) (fun _ _ q => q.elim) ?_
  rintro _ _ ⟨b9, rfl, hb9, rfl⟩
  refine z_if_eq (tgt := 17) dRow_itemAt_5 (by decide) (by omega) (fun c5 => ?_) (fun c5 => ?_)
  · refine z_iconst dRow_itemAt_17 ?_
    refine z_iret rfl rfl dRow_itemAt_18 ?_
    unfold zAt
    first
      | (rw [if_pos (by omega)]; exact ⟨by rw [e4 _ (by omega)], rfl⟩)
      | (rw [if_neg (by omega)]; exact ⟨rfl, rfl⟩)
  · refine z_aload_n dRow_itemAt_8 rfl ?_
    refine z_get (k := 0) fd_Row (by decide) fl_Row_9 dRow_itemAt_9 (by assumption) (by rfl) ?_
    refine z_iload_n dRow_itemAt_12 rfl ?_
    refine z_iald dRow_itemAt_13 (by assumption) (by refine ⟨?_, ?_, ?_⟩ <;> omega) ?_
    refine z_goto (tgt := 18) dRow_itemAt_14 (by decide) ?_
    refine z_iret rfl rfl dRow_itemAt_18 ?_
    unfold zAt
    first
      | (rw [if_pos (by omega)]; exact ⟨by rw [e4 _ (by omega)], rfl⟩)
      | (rw [if_neg (by omega)]; exact ⟨rfl, rfl⟩)
def zSet (L : List Int) (p x : Int) : List Int := if 0 ≤ p ∧ p < L.length then L.set p.toNat x else L
theorem zSet_len (L : List Int) (p x : Int) : (zSet L p x).length = L.length := by unfold zSet; split <;> simp
theorem zSet_at (L : List Int) (p x : Int) {j : Nat} (hj : j < L.length) : (zSet L p x).getD j 0 = if (j : Int) = p then x else L.getD j 0 := by
  unfold zSet
  split
  · rename_i hc
    by_cases e : (j : Int) = p
    · have e2 : p.toNat = j := by omega
      rw [if_pos e, e2]
      simp [hj]
    · have e2 : p.toNat ≠ j := by omega
      rw [if_neg e]
      simp [List.getElem?_set, e2]
  · rw [if_neg (by omega)]
theorem k_Row_changeAt (hr : zRow G h r a L) (hp : -2147483648 ≤ p ∧ p ≤ 2147483647) (hx : zIn x) : zM G l hRow_changeAt yRow_changeAt 2 [.ref r, zi p, zi x] h (fun v h' => v = none ∧ zRow G h' r a (zSet L p x) ∧ ∀ q, q ≠ r → q ≠ a → h' q = h q) zNo 0 0 := by
  obtain ⟨f, e1, e2, e3, e4, e5⟩ := id hr
  refine zM.of [some (.ref r), some (zi p), some (zi x)] (by decide +kernel) rfl (by decide) rfl (Nat.le_of_ble_eq_true rfl) rfl ?_
  refine z_aload_n dRow_changeAt_0 rfl ?_
  refine z_iload_n dRow_changeAt_1 rfl ?_
  refine z_callV MV_Row_hasPlace lk_Row_19 dRow_changeAt_2 (k_Row_hasPlace hr hp) rfl rfl (Nat.le_of_ble_eq_true rfl) rfl (by assumption) (Nat.le_of_ble_eq_true rfl) (Nat.le_of_ble_eq_true rfl) (Nat.le_of_eq (Nat.zero_add _)) (Nat.le_of_eq (Nat.zero_add _)) (fun _ _ q => q.elim) ?_
  rintro _ _ ⟨b9, rfl, hb9, rfl⟩
  refine z_if_eq (tgt := 15) dRow_changeAt_5 (by decide) (by omega) (fun c5 => ?_) (fun c5 => ?_)
  · refine z_vret rfl dRow_changeAt_15 ?_
    first
      | (have hne := hr.ne
         refine ⟨rfl, ⟨zup f p.toNat x, (zup_ne hne).trans (by rw [zSet_len]; exact e1), zup_same _ _ _, by rw [zSet_len]; exact e3, fun j hj => ?_, fun j hj => ?_⟩, fun q h1 h2 => zup_ne h2⟩
         · rw [zSet_len] at hj
           rw [zSet_at _ _ _ hj, ← e4 j hj]
           unfold zup
           by_cases e : j = p.toNat
           · rw [if_pos e, if_pos (by omega)]
           · rw [if_neg e, if_neg (by omega)]
         · rw [zSet_len] at hj
           rw [zSet_at _ _ _ hj]
           split
           · exact hx
           · exact e5 j hj)
      | (have hq : zSet L p x = L := if_neg (by omega)
         rw [hq]
         exact ⟨rfl, hr, fun q _ _ => rfl⟩)
  · refine z_aload_n dRow_changeAt_8 rfl ?_
    refine z_get (k := 0) fd_Row (by decide) fl_Row_9 dRow_changeAt_9 (by assumption) (by rfl) ?_
    refine z_iload_n dRow_changeAt_12 rfl ?_
    refine z_iload_n dRow_changeAt_13 rfl ?_
    refine z_iast dRow_changeAt_14 (by assumption) (by refine ⟨?_, ?_, ?_⟩ <;> omega) ?_
    refine z_vret rfl dRow_changeAt_15 ?_
    first
      | (have hne := hr.ne
         refine ⟨rfl, ⟨zup f p.toNat x, (zup_ne hne).trans (by rw [zSet_len]; exact e1), zup_same _ _ _, by rw [zSet_len]; exact e3, fun j hj => ?_, fun j hj => ?_⟩, fun q h1 h2 => zup_ne h2⟩
         · rw [zSet_len] at hj
           rw [zSet_at _ _ _ hj, ← e4 j hj]
           unfold zup
           by_cases e : j = p.toNat
           · rw [if_pos e, if_pos (by omega)]
           · rw [if_neg e, if_neg (by omega)]
         · rw [zSet_len] at hj
           rw [zSet_at _ _ _ hj]
           split
           · exact hx
           · exact e5 j hj)
      | (have hq : zSet L p x = L := if_neg (by omega)
         rw [hq]
         exact ⟨rfl, hr, fun q _ _ => rfl⟩)
def zIns (L : List Int) (p : Int) (x : Int) : List Int := zmk (L.length + 1) (fun j => if (j : Int) < p then L.getD j 0 else if (j : Int) = p then x else L.getD (j - 1) 0)
def zDel (L : List Int) (p : Int) : List Int := zmk (L.length - 1) (fun j => if (j : Int) < p then L.getD j 0 else L.getD (j + 1) 0)
theorem zIns_len (L : List Int) (p x : Int) : (zIns L p x).length = L.length + 1 := zmk_len _ _
theorem zDel_len (L : List Int) (p : Int) : (zDel L p).length = L.length - 1 := zmk_len _ _
theorem zIns_at {L : List Int} {p x : Int} {j : Nat} (h : j < L.length + 1) : (zIns L p x).getD j 0 = if (j : Int) < p then L.getD j 0 else if (j : Int) = p then x else L.getD (j - 1) 0 := zmk_at _ h
theorem zDel_at {L : List Int} {p : Int} {j : Nat} (h : j < L.length - 1) : (zDel L p).getD j 0 = if (j : Int) < p then L.getD j 0 else L.getD (j + 1) 0 := zmk_at _ h
theorem l_Row_putIn {d mc ms bc bs : Nat} {Qn : Option Value → zHp → Prop} {Qx : String → zHp → Prop} {f : Nat → Int} {c : Nat} (hc : c < 16) (hp : 0 ≤ p) (hra : r ≠ a)
    (K : ∀ (h1 : zHp) (f1 : Nat → Int), h1 r = some (.inr (zkRow, [.ref a, zi (c : Int)])) → h1 a = some (zInts G 16 f1) → (∀ q, q ≠ a → h1 q = h q) → (∀ j : Nat, (j : Int) < p → f1 j = f j) → (∀ j : Nat, p ≤ j → j < c → f1 (j + 1) = f j) → ∀ b : Int, zR G l (zMJ G hRow_putIn d Qn Qx mc ms) bc bs h1 49 [some (.ref r), some (zi p), some (zi x), some (zi b)] []) :
    ∀ (n : Nat) (b : Int) (h1 : zHp) (f1 : Nat → Int), b - p < n → p ≤ b → b ≤ c → h1 r = some (.inr (zkRow, [.ref a, zi (c : Int)])) → h1 a = some (zInts G 16 f1) → (∀ q, q ≠ a → h1 q = h q) → (∀ j : Nat, (j : Int) ≤ b → f1 j = f j) → (∀ j : Nat, b ≤ j → j < c → f1 (j + 1) = f j) →
      zR G l (zMJ G hRow_putIn d Qn Qx mc ms) bc bs h1 24 [some (.ref r), some (zi p), some (zi x), some (zi b)] [] := by
  intro n
  induction n with
  | zero => intro b h1 f1 q1 q2; omega
  | succ n ih =>
  intro b h1 f1 q1 q2 q3 g1 g2 g3 g4 g5
  refine z_iload_n dRow_putIn_24 rfl ?_
  refine z_iload_n dRow_putIn_25 rfl ?_
  refine z_icmp_le (tgt := 49) dRow_putIn_26 (by decide) (by omega) (by omega) (fun c26 => ?_) (fun c26 => ?_)
  · exact K _ f1 g1 g2 g3 (fun j hj => g4 j (by omega)) (fun j hj1 hj2 => g5 j (by omega) hj2) _
  · refine z_aload_n dRow_putIn_29 rfl ?_
    refine z_get (k := 0) fd_Row (by decide) fl_Row_9 dRow_putIn_30 (by assumption) (by rfl) ?_
    refine z_iload_n dRow_putIn_33 rfl ?_
    refine z_aload_n dRow_putIn_34 rfl ?_
    refine z_get (k := 0) fd_Row (by decide) fl_Row_9 dRow_putIn_35 (by assumption) (by rfl) ?_
    refine z_iload_n dRow_putIn_38 rfl ?_
    refine z_iconst dRow_putIn_39 ?_
    refine z_isub dRow_putIn_40 ?_
    refine z_iald dRow_putIn_41 (by assumption) (by refine ⟨?_, ?_, ?_⟩ <;> omega) ?_
    refine z_iast dRow_putIn_42 (by assumption) (by refine ⟨?_, ?_, ?_⟩ <;> omega) ?_
    refine z_iinc dRow_putIn_43 rfl (Nat.le_of_ble_eq_true rfl) ?_
    refine z_goto (tgt := 24) dRow_putIn_46 (by decide) ?_
    refine ih (b + -1) _ _ (by omega) (by omega) (by omega) ((zup_ne hra).trans g1) (zup_same _ _ _) (fun q hq => (zup_ne hq).trans (g3 q hq)) (fun j hj => ?_) (fun j hj1 hj2 => ?_)
    · exact (zup_ne (by omega)).trans (g4 j (by omega))
    · by_cases e : (j : Int) = b - 1
      · have e2 : j + 1 = b.toNat := by omega
        rw [e2, zup_same, ← g4 j (by omega)]
        congr 1
        omega
      · exact (zup_ne (by omega)).trans (g5 j (by omega) hj2)
theorem k_Row_putIn (hr : zRow G h r a L) (hp : -2147483648 ≤ p ∧ p ≤ 2147483647) (hx : zIn x) : zM G l hRow_putIn yRow_putIn 2 [.ref r, zi p, zi x] h (fun v h' => (v = some (zi 1) ∧ L.length < 16 ∧ 0 ≤ p ∧ p ≤ L.length ∧ zRow G h' r a (zIns L p x) ∧ ∀ q, q ≠ r → q ≠ a → h' q = h q) ∨ (v = some (zi 0) ∧ ¬ (L.length < 16 ∧ 0 ≤ p ∧ p ≤ L.length) ∧ h = h')) zNo 0 0 := by
  obtain ⟨f, e1, e2, e3, e4, e5⟩ := id hr
  refine zM.of [some (.ref r), some (zi p), some (zi x), none] (by decide +kernel) rfl (by decide) rfl (Nat.le_of_ble_eq_true rfl) rfl ?_
  refine z_aload_n dRow_putIn_0 rfl ?_
  refine z_get (k := 1) fd_Row (by decide) fl_Row_15 dRow_putIn_1 (by assumption) (by rfl) ?_
  refine z_bipush dRow_putIn_4 rfl ?_
  refine z_icmp_ge (tgt := 17) dRow_putIn_6 (by decide) (by omega) (by omega) (fun c6 => ?_) (fun c6 => ?_)
  · refine z_iconst dRow_putIn_17 ?_
    refine z_iret rfl rfl dRow_putIn_18 ?_
    exact Or.inr ⟨rfl, by omega, rfl⟩
  · refine z_aload_n dRow_putIn_9 rfl ?_
    refine z_iload_n dRow_putIn_10 rfl ?_
    refine z_callV MV_Row_hasGap lk_Row_23 dRow_putIn_11 (k_Row_hasGap hr hp) rfl rfl (Nat.le_of_ble_eq_true rfl) rfl (by assumption) (Nat.le_of_ble_eq_true rfl) (Nat.le_of_ble_eq_true rfl) (Nat.le_of_eq (Nat.zero_add _)) (Nat.le_of_eq (Nat.zero_add _)) (fun _ _ q => q.elim) ?_
    rintro _ _ ⟨b9, rfl, hb9, rfl⟩
    refine z_if_ne (tgt := 19) dRow_putIn_14 (by decide) (by omega) (fun c14 => ?_) (fun c14 => ?_)
    · refine z_aload_n dRow_putIn_19 rfl ?_
      refine z_get (k := 1) fd_Row (by decide) fl_Row_15 dRow_putIn_20 (by assumption) (by rfl) ?_
      refine z_istore_n dRow_putIn_23 (Nat.le_of_ble_eq_true rfl) ?_
      have hra := hr.ne
      refine l_Row_putIn (h := h) (f := f) (c := L.length) (by omega) (by omega) hra (fun h1 f1 g1 g2 g3 g4 g5 b => ?_) 17 _ h f (by omega) (by omega) (by omega) e1 e2 (fun _ _ => rfl) (fun _ _ => rfl) (fun j hj1 hj2 => absurd hj1 (by omega))
      refine z_aload_n dRow_putIn_49 rfl ?_
      refine z_get (k := 0) fd_Row (by decide) fl_Row_9 dRow_putIn_50 (by assumption) (by rfl) ?_
      refine z_iload_n dRow_putIn_53 rfl ?_
      refine z_iload_n dRow_putIn_54 rfl ?_
      refine z_iast dRow_putIn_55 (by assumption) (by refine ⟨?_, ?_, ?_⟩ <;> omega) ?_
      have g1 : zup h1 a (some (zInts G 16 (zup f1 p.toNat x))) r = _ := (zup_ne hra).trans g1
      refine z_aload_n dRow_putIn_56 rfl ?_
      refine z_dup rfl dRow_putIn_57 ?_
      refine z_get (k := 1) fd_Row (by decide) fl_Row_15 dRow_putIn_58 (by assumption) (by rfl) ?_
      refine z_iconst dRow_putIn_61 ?_
      refine z_iadd dRow_putIn_62 ?_
      refine z_put (k := 1) fd_Row (by decide) fl_Row_15 rfl dRow_putIn_63 (by assumption) (by simp) rfl rfl ?_
      
      refine z_iconst dRow_putIn_66 ?_
      refine z_iret rfl rfl dRow_putIn_67 ?_
      refine Or.inl ⟨rfl, by omega, by omega, by omega, ⟨zup f1 p.toNat x, ?_, (zup_ne (Ne.symm hra)).trans (zup_same _ _ _), by rw [zIns_len]; omega, fun j hj => ?_, fun j hj => ?_⟩, fun q h1 h2 => (zup_ne h1).trans ((zup_ne h2).trans (g3 q h2))⟩
      · rw [zup_same, zIns_len]
        rfl
      · rw [zIns_len] at hj
        rw [zIns_at hj]
        split
        · rename_i hj1
          rw [zup_ne (by omega), g4 j hj1, e4 j (by omega)]
        · split
          · rename_i hj1 hj2
            have e : j = p.toNat := by omega
            rw [e, zup_same]
          · rename_i hj1 hj2
            have e := g5 (j - 1) (by omega) (by omega)
            rw [zup_ne (by omega), ← e4 (j - 1) (by omega), ← e]
            congr 1
            omega
      · rw [zIns_len] at hj
        rw [zIns_at hj]
        split
        · exact e5 j (by omega)
        · split
          · exact hx
          · exact e5 (j - 1) (by omega)
    · refine z_iconst dRow_putIn_17 ?_
      refine z_iret rfl rfl dRow_putIn_18 ?_
      exact Or.inr ⟨rfl, by omega, rfl⟩
theorem l_Row_takeOut {d mc ms bc bs : Nat} {Qn : Option Value → zHp → Prop} {Qx : String → zHp → Prop} {f : Nat → Int} {c : Nat} {t : Int} (hc : c ≤ 16) (hp : 0 ≤ p) (hpc : p < c) (hra : r ≠ a)
    (K : ∀ (h1 : zHp) (f1 : Nat → Int), h1 r = some (.inr (zkRow, [.ref a, zi (c : Int)])) → h1 a = some (zInts G 16 f1) → (∀ q, q ≠ a → h1 q = h q) → (∀ j : Nat, (j : Int) < p → f1 j = f j) → (∀ j : Nat, p ≤ j → (j : Int) < c - 1 → f1 j = f (j + 1)) → ∀ b : Int, zR G l (zMJ G hRow_takeOut d Qn Qx mc ms) bc bs h1 49 [some (.ref r), some (zi p), some (zi t), some (zi b)] []) :
    ∀ (n : Nat) (b : Int) (h1 : zHp) (f1 : Nat → Int), c - b < n → p + 1 ≤ b → b ≤ c → h1 r = some (.inr (zkRow, [.ref a, zi (c : Int)])) → h1 a = some (zInts G 16 f1) → (∀ q, q ≠ a → h1 q = h q) → (∀ j : Nat, (j : Int) < p → f1 j = f j) → (∀ j : Nat, p ≤ j → (j : Int) < b - 1 → f1 j = f (j + 1)) → (∀ j : Nat, b ≤ j → f1 j = f j) →
      zR G l (zMJ G hRow_takeOut d Qn Qx mc ms) bc bs h1 21 [some (.ref r), some (zi p), some (zi t), some (zi b)] [] := by
  intro n
  induction n with
  | zero => intro b h1 f1 q1 q2 q3 g1 g2 g3 g4 g5 g6; omega
  | succ n ih =>
  intro b h1 f1 q1 q2 q3 g1 g2 g3 g4 g5 g6
  refine z_iload_n dRow_takeOut_21 rfl ?_
  refine z_aload_n dRow_takeOut_22 rfl ?_
  refine z_get (k := 1) fd_Row (by decide) fl_Row_15 dRow_takeOut_23 (by assumption) (by rfl) ?_
  refine z_icmp_ge (tgt := 49) dRow_takeOut_26 (by decide) (by omega) (by omega) (fun c26 => ?_) (fun c26 => ?_)
  · exact K _ f1 g1 g2 g3 g4 (fun j hj1 hj2 => g5 j hj1 (by omega)) _
  · refine z_aload_n dRow_takeOut_29 rfl ?_
    refine z_get (k := 0) fd_Row (by decide) fl_Row_9 dRow_takeOut_30 (by assumption) (by rfl) ?_
    refine z_iload_n dRow_takeOut_33 rfl ?_
    refine z_iconst dRow_takeOut_34 ?_
    refine z_isub dRow_takeOut_35 ?_
    refine z_aload_n dRow_takeOut_36 rfl ?_
    refine z_get (k := 0) fd_Row (by decide) fl_Row_9 dRow_takeOut_37 (by assumption) (by rfl) ?_
    refine z_iload_n dRow_takeOut_40 rfl ?_
    refine z_iald dRow_takeOut_41 (by assumption) (by refine ⟨?_, ?_, ?_⟩ <;> omega) ?_
    refine z_iast dRow_takeOut_42 (by assumption) (by refine ⟨?_, ?_, ?_⟩ <;> omega) ?_
    refine z_iinc dRow_takeOut_43 rfl (Nat.le_of_ble_eq_true rfl) ?_
    refine z_goto (tgt := 21) dRow_takeOut_46 (by decide) ?_
    refine ih (b + 1) _ _ (by omega) (by omega) (by omega) ((zup_ne hra).trans g1) (zup_same _ _ _) (fun q hq => (zup_ne hq).trans (g3 q hq)) (fun j hj => ?_) (fun j hj1 hj2 => ?_) (fun j hj => ?_)
    · exact (zup_ne (by omega)).trans (g4 j hj)
    · by_cases e : (j : Int) = b - 1
      · have e2 : j = (b - 1).toNat := by omega
        have e3 : b.toNat = j + 1 := by omega
        rw [← e2, zup_same, e3]
        exact g6 _ (by omega)
      · exact (zup_ne (by omega)).trans (g5 j hj1 (by omega))
    · exact (zup_ne (by omega)).trans (g6 j (by omega))
theorem k_Row_takeOut (hr : zRow G h r a L) (hp : -2147483648 ≤ p ∧ p ≤ 2147483647) : zM G l hRow_takeOut yRow_takeOut 2 [.ref r, zi p] h (fun v h' => (v = some (zi (L.getD p.toNat 0)) ∧ 0 ≤ p ∧ p < L.length ∧ zRow G h' r a (zDel L p) ∧ ∀ q, q ≠ r → q ≠ a → h' q = h q) ∨ (v = some (zi 0) ∧ ¬ (0 ≤ p ∧ p < L.length) ∧ h = h')) zNo 0 0 := by
  obtain ⟨f, e1, e2, e3, e4, e5⟩ := id hr
  refine zM.of [some (.ref r), some (zi p), none, none] (by decide +kernel) rfl (by decide) rfl (Nat.le_of_ble_eq_true rfl) rfl ?_
  refine z_aload_n dRow_takeOut_0 rfl ?_
  refine z_iload_n dRow_takeOut_1 rfl ?_
  refine z_callV MV_Row_hasPlace lk_Row_19 dRow_takeOut_2 (k_Row_hasPlace hr hp) rfl rfl (Nat.le_of_ble_eq_true rfl) rfl (by assumption) (Nat.le_of_ble_eq_true rfl) (Nat.le_of_ble_eq_true rfl) (Nat.le_of_eq (Nat.zero_add _)) (Nat.le_of_eq (Nat.zero_add _)) (fun _ _ q => q.elim) ?_
  rintro _ _ ⟨b9, rfl, hb9, rfl⟩
  refine z_if_ne (tgt := 10) dRow_takeOut_5 (by decide) (by omega) (fun c5 => ?_) (fun c5 => ?_)
  · refine z_aload_n dRow_takeOut_10 rfl ?_
    refine z_get (k := 0) fd_Row (by decide) fl_Row_9 dRow_takeOut_11 (by assumption) (by rfl) ?_
    refine z_iload_n dRow_takeOut_14 rfl ?_
    refine z_iald dRow_takeOut_15 (by assumption) (by refine ⟨?_, ?_, ?_⟩ <;> omega) ?_
    refine z_istore_n dRow_takeOut_16 (Nat.le_of_ble_eq_true rfl) ?_
    refine z_iload_n dRow_takeOut_17 rfl ?_
    refine z_iconst dRow_takeOut_18 ?_
    refine z_iadd dRow_takeOut_19 ?_
    refine z_istore_n dRow_takeOut_20 (Nat.le_of_ble_eq_true rfl) ?_
    have hra := hr.ne
    refine l_Row_takeOut (h := h) (f := f) (c := L.length) e3 (by omega) (by omega) hra (fun h1 f1 g1 g2 g3 g4 g5 b => ?_) 17 _ h f (by omega) (by omega) (by omega) e1 e2 (fun _ _ => rfl) (fun _ _ => rfl) (fun j hj1 hj2 => absurd hj2 (by omega)) (fun _ _ => rfl)
    refine z_aload_n dRow_takeOut_49 rfl ?_
    refine z_dup rfl dRow_takeOut_50 ?_
    refine z_get (k := 1) fd_Row (by decide) fl_Row_15 dRow_takeOut_51 (by assumption) (by rfl) ?_
    refine z_iconst dRow_takeOut_54 ?_
    refine z_isub dRow_takeOut_55 ?_
    refine z_put (k := 1) fd_Row (by decide) fl_Row_15 rfl dRow_takeOut_56 (by assumption) (by simp) rfl rfl ?_
    refine z_iload_n dRow_takeOut_59 rfl ?_
    refine z_iret rfl rfl dRow_takeOut_60 ?_
    refine Or.inl ⟨by rw [e4 _ (by omega)], by omega, by omega, ⟨f1, ?_, (zup_ne (Ne.symm hra)).trans g2, by rw [zDel_len]; omega, fun j hj => ?_, fun j hj => ?_⟩, fun q h1 h2 => (zup_ne h1).trans (g3 q h2)⟩
    · rw [zup_same, zDel_len, show (((L.length - 1 : Nat) : Int)) = (L.length : Int) - 1 by omega]
      rfl
    · rw [zDel_len] at hj
      rw [zDel_at hj]
      split
      · rename_i hj1
        rw [g4 j hj1, e4 j (by omega)]
      · rw [g5 j (by omega) (by omega), e4 (j + 1) (by omega)]
    · rw [zDel_len] at hj
      rw [zDel_at hj]
      split
      · exact e5 j (by omega)
      · exact e5 (j + 1) (by omega)
  · refine z_iconst dRow_takeOut_8 ?_
    refine z_iret rfl rfl dRow_takeOut_9 ?_
    exact Or.inr ⟨rfl, by omega, rfl⟩
theorem zgetD {L : List Int} {j : Nat} (h : j < L.length) : L.getD j 0 = L[j] := by simp [h]
def zFl (L : List Int) (x : Int) : List Int := L.filter (fun y => decide (y ≠ x))
theorem zFl_take (L : List Int) (x : Int) {n : Nat} (hn : n < L.length) : zFl (L.take (n + 1)) x = zFl (L.take n) x ++ (if L.getD n 0 = x then [] else [L.getD n 0]) := by
  have e : L.take (n + 1) = L.take n ++ [L.getD n 0] := by
    rw [List.take_add_one]
    simp [hn]
  unfold zFl
  rw [e, List.filter_append]
  congr 1
  split
  · rename_i hx
    rw [List.filter_cons_of_neg (by rw [hx]; simp)]
    rfl
  · rename_i hx
    rw [List.filter_cons_of_pos (by simpa using hx)]
    rfl
theorem zFl_len (L : List Int) (x : Int) : (zFl L x).length ≤ L.length := List.length_filter_le _ _
theorem zFl_in (L : List Int) (x : Int) {j : Nat} (hj : j < (zFl L x).length) (h : ∀ j, j < L.length → zIn (L.getD j 0)) : zIn ((zFl L x).getD j 0) := by
  have h1 : (zFl L x).getD j 0 ∈ zFl L x := by
    rw [zgetD hj]
    exact List.getElem_mem hj
  have h2 : (zFl L x).getD j 0 ∈ L := (List.mem_filter.mp h1).1
  obtain ⟨i, hi, e⟩ := List.getElem_of_mem h2
  have h3 := h i hi
  rw [zgetD hi, e] at h3
  exact h3
theorem l_Row_takeOutAll {d mc ms bc bs : Nat} {Qn : Option Value → zHp → Prop} {Qx : String → zHp → Prop} {f : Nat → Int} (hra : r ≠ a) (e3 : L.length ≤ 16) (e4 : ∀ j, j < L.length → f j = L.getD j 0) (e5 : ∀ j, j < L.length → zIn (L.getD j 0)) (hx : -2147483648 ≤ x ∧ x ≤ 2147483647)
    (K : ∀ (h1 : zHp) (f1 : Nat → Int), h1 r = some (.inr (zkRow, [.ref a, zi (L.length : Int)])) → h1 a = some (zInts G 16 f1) → (∀ q, q ≠ a → h1 q = h q) → (∀ j : Nat, j < (zFl L x).length → f1 j = (zFl L x).getD j 0) → zR G l (zMJ G hRow_takeOutAll d Qn Qx mc ms) bc bs h1 49 [some (.ref r), some (zi x), some (zi (L.length : Int)), some (zi ((zFl L x).length : Int)), some (zi (L.length : Int))] []) :
    ∀ (n : Nat) (m : Nat) (h1 : zHp) (f1 : Nat → Int), L.length - m < n → m ≤ L.length → h1 r = some (.inr (zkRow, [.ref a, zi (L.length : Int)])) → h1 a = some (zInts G 16 f1) → (∀ q, q ≠ a → h1 q = h q) → (zFl (L.take m) x).length ≤ m → (∀ j : Nat, j < (zFl (L.take m) x).length → f1 j = (zFl (L.take m) x).getD j 0) → (∀ j : Nat, m ≤ j → f1 j = f j) →
      zR G l (zMJ G hRow_takeOutAll d Qn Qx mc ms) bc bs h1 10 [some (.ref r), some (zi x), some (zi (L.length : Int)), some (zi ((zFl (L.take m) x).length : Int)), some (zi (m : Int))] [] := by
  intro n
  induction n with
  | zero => intro m h1 f1 q1 q2 g1 g2 g3 g4 g5 g6; omega
  | succ n ih =>
  intro m h1 f1 q1 q2 g1 g2 g3 g4 g5 g6
  refine z_iload dRow_takeOutAll_10 rfl ?_
  refine z_iload_n dRow_takeOutAll_12 rfl ?_
  refine z_icmp_ge (tgt := 49) dRow_takeOutAll_13 (by decide) (by omega) (by omega) (fun c13 => ?_) (fun c13 => ?_)
  · have em : m = L.length := by omega
    subst em
    have ef : L.take L.length = L := List.take_length
    rw [ef] at g5 ⊢
    exact K _ f1 g1 g2 g3 g5
  · refine z_aload_n dRow_takeOutAll_16 rfl ?_
    refine z_get (k := 0) fd_Row (by decide) fl_Row_9 dRow_takeOutAll_17 (by assumption) (by rfl) ?_
    have hm : (m : Int) < L.length := by omega
    have hmi := e5 m (by omega)
    have hm0 := e4 m (by omega)
    have hm1 := g6 m (Nat.le_refl _)
    refine z_iload dRow_takeOutAll_20 rfl ?_
    refine z_iald dRow_takeOutAll_22 (by assumption) (by refine ⟨?_, ?_, ?_⟩ <;> omega) ?_
    show zR G l _ bc bs _ _ _ (zi (f1 ((m : Int).toNat)) :: _)
    rw [show (m : Int).toNat = m by omega, hm1, hm0]
    refine z_iload_n dRow_takeOutAll_23 rfl ?_
    refine z_icmp_eq (tgt := 43) dRow_takeOutAll_24 (by decide) (by omega) (by omega) (fun c24 => ?_) (fun c24 => ?_)
    · refine z_iinc dRow_takeOutAll_43 rfl (Nat.le_of_ble_eq_true rfl) ?_
      refine z_goto (tgt := 10) dRow_takeOutAll_46 (by decide) ?_
      first
        | (have e9 : zFl (L.take (m + 1)) x = zFl (L.take m) x := by rw [zFl_take L x (by omega), if_pos (by omega), List.append_nil]
           have := ih (m + 1) h1 f1 (by omega) (by omega) g1 g2 g3 (by rw [e9]; omega) (by rw [e9]; exact g5) (fun j hj => g6 j (by omega))
           rw [e9] at this
           exact this)
        | (have e9 : zFl (L.take (m + 1)) x = zFl (L.take m) x ++ [L.getD m 0] := by rw [zFl_take L x (by omega), if_neg (by omega)]
           have e8 : ((zFl (L.take (m + 1)) x).length : Int) = (zFl (L.take m) x).length + 1 := by rw [e9]; simp
           have := ih (m + 1) (zup h1 a (some (zInts G 16 (zup f1 (zFl (L.take m) x).length (L.getD m 0))))) _ (by omega) (by omega) ((zup_ne hra).trans g1) (zup_same _ _ _) (fun q hq => (zup_ne hq).trans (g3 q hq)) (by omega) (fun j hj => ?_) (fun j hj => (zup_ne (by omega)).trans (g6 j (by omega)))
           · rw [e8] at this
             exact this
           · rw [e9] at hj ⊢
             rw [List.length_append, List.length_singleton] at hj
             by_cases e : j = (zFl (L.take m) x).length
             · rw [e, zup_same]
               simp
             · rw [zup_ne e, g5 j (by omega)]
               simp [List.getElem?_append, show j < (zFl (L.take m) x).length by omega])
    · refine z_aload_n dRow_takeOutAll_27 rfl ?_
      refine z_get (k := 0) fd_Row (by decide) fl_Row_9 dRow_takeOutAll_28 (by assumption) (by rfl) ?_
      refine z_iload_n dRow_takeOutAll_31 rfl ?_
      refine z_aload_n dRow_takeOutAll_32 rfl ?_
      refine z_get (k := 0) fd_Row (by decide) fl_Row_9 dRow_takeOutAll_33 (by assumption) (by rfl) ?_
      refine z_iload dRow_takeOutAll_36 rfl ?_
      refine z_iald dRow_takeOutAll_38 (by assumption) (by refine ⟨?_, ?_, ?_⟩ <;> omega) ?_
      refine z_iast dRow_takeOutAll_39 (by assumption) (by refine ⟨?_, ?_, ?_⟩ <;> omega) ?_
      rw [show (((zFl (L.take m) x).length : Nat) : Int).toNat = (zFl (L.take m) x).length by omega, show (m : Int).toNat = m by omega, hm1, hm0]
      refine z_iinc dRow_takeOutAll_40 rfl (Nat.le_of_ble_eq_true rfl) ?_
      refine z_iinc dRow_takeOutAll_43 rfl (Nat.le_of_ble_eq_true rfl) ?_
      refine z_goto (tgt := 10) dRow_takeOutAll_46 (by decide) ?_
      first
        | (have e9 : zFl (L.take (m + 1)) x = zFl (L.take m) x := by rw [zFl_take L x (by omega), if_pos (by omega), List.append_nil]
           have := ih (m + 1) h1 f1 (by omega) (by omega) g1 g2 g3 (by rw [e9]; omega) (by rw [e9]; exact g5) (fun j hj => g6 j (by omega))
           rw [e9] at this
           exact this)
        | (have e9 : zFl (L.take (m + 1)) x = zFl (L.take m) x ++ [L.getD m 0] := by rw [zFl_take L x (by omega), if_neg (by omega)]
           have e8 : ((zFl (L.take (m + 1)) x).length : Int) = (zFl (L.take m) x).length + 1 := by rw [e9]; simp
           have := ih (m + 1) (zup h1 a (some (zInts G 16 (zup f1 (zFl (L.take m) x).length (L.getD m 0))))) _ (by omega) (by omega) ((zup_ne hra).trans g1) (zup_same _ _ _) (fun q hq => (zup_ne hq).trans (g3 q hq)) (by omega) (fun j hj => ?_) (fun j hj => (zup_ne (by omega)).trans (g6 j (by omega)))
           · rw [e8] at this
             exact this
           · rw [e9] at hj ⊢
             rw [List.length_append, List.length_singleton] at hj
             by_cases e : j = (zFl (L.take m) x).length
             · rw [e, zup_same]
               simp
             · rw [zup_ne e, g5 j (by omega)]
               simp [List.getElem?_append, show j < (zFl (L.take m) x).length by omega])
theorem k_Row_takeOutAll (hr : zRow G h r a L) (hx : -2147483648 ≤ x ∧ x ≤ 2147483647) : zM G l hRow_takeOutAll yRow_takeOutAll 1 [.ref r, zi x] h (fun v h' => v = some (zi (L.length - (zFl L x).length)) ∧ zRow G h' r a (zFl L x) ∧ ∀ q, q ≠ r → q ≠ a → h' q = h q) zNo 0 0 := by
  obtain ⟨f, e1, e2, e3, e4, e5⟩ := id hr
  refine zM.of [some (.ref r), some (zi x), none, none, none] (by decide +kernel) rfl (by decide) rfl (Nat.le_of_ble_eq_true rfl) rfl ?_
  refine z_aload_n dRow_takeOutAll_0 rfl ?_
  refine z_get (k := 1) fd_Row (by decide) fl_Row_15 dRow_takeOutAll_1 (by assumption) (by rfl) ?_
  refine z_istore_n dRow_takeOutAll_4 (Nat.le_of_ble_eq_true rfl) ?_
  refine z_iconst dRow_takeOutAll_5 ?_
  refine z_istore_n dRow_takeOutAll_6 (Nat.le_of_ble_eq_true rfl) ?_
  refine z_iconst dRow_takeOutAll_7 ?_
  refine z_istore dRow_takeOutAll_8 (Nat.le_of_ble_eq_true rfl) ?_
  have hra := hr.ne
  refine l_Row_takeOutAll (h := h) (f := f) hra e3 e4 e5 hx (fun h1 f1 g1 g2 g3 g4 => ?_) 17 0 h f (by omega) (by omega) e1 e2 (fun _ _ => rfl) (by simp [zFl]) (fun j hj => by simp [zFl] at hj) (fun _ _ => rfl)
  refine z_aload_n dRow_takeOutAll_49 rfl ?_
  refine z_iload_n dRow_takeOutAll_50 rfl ?_
  refine z_put (k := 1) fd_Row (by decide) fl_Row_15 rfl dRow_takeOutAll_51 (by assumption) (by simp) rfl rfl ?_
  refine z_iload_n dRow_takeOutAll_54 rfl ?_
  refine z_iload_n dRow_takeOutAll_55 rfl ?_
  refine z_isub dRow_takeOutAll_56 ?_
  refine z_iret rfl rfl dRow_takeOutAll_57 ?_
  exact ⟨rfl, ⟨f1, zup_same _ _ _, (zup_ne (Ne.symm hra)).trans g2, by have := zFl_len L x; omega, g4, fun j hj => zFl_in L x hj e5⟩, fun q h1 h2 => (zup_ne h1).trans (g3 q h2)⟩
def zFd9 (L : List Int) (x t : Int) : Nat → Int
  | 0 => -1
  | n + 1 => if L.getD n 0 = x ∧ (t ≠ 0 ∨ zFd9 L x t n = -1) then (n : Int) else zFd9 L x t n
/-- the first place of x, or its last -/
def zFind (L : List Int) (x t : Int) : Int := zFd9 L x t L.length
theorem zFd9_in (L : List Int) (x t : Int) : ∀ n : Nat, -1 ≤ zFd9 L x t n ∧ zFd9 L x t n < n
  | 0 => by simp [zFd9]
  | n + 1 => by
    have := zFd9_in L x t n
    unfold zFd9
    split <;> omega
theorem zFind_in (L : List Int) (x t : Int) : -1 ≤ zFind L x t ∧ zFind L x t < L.length := zFd9_in L x t _
theorem l_Row_placeOf {d mc ms bc bs : Nat} {Qn : Option Value → zHp → Prop} {Qx : String → zHp → Prop} {f : Nat → Int} {t : Int} (e1 : h r = some (.inr (zkRow, [.ref a, zi (L.length : Int)]))) (e2 : h a = some (zInts G 16 f)) (e3 : L.length ≤ 16) (e4 : ∀ j, j < L.length → f j = L.getD j 0) (e5 : ∀ j, j < L.length → zIn (L.getD j 0)) (hx : -2147483648 ≤ x ∧ x ≤ 2147483647) (ht : -2147483648 ≤ t ∧ t ≤ 2147483647)
    (K : zR G l (zMJ G hRow_placeOf d Qn Qx mc ms) bc bs h 43 [some (.ref r), some (zi x), some (zi t), some (zi (zFind L x t)), some (zi (L.length : Int))] []) :
    ∀ (n : Nat) (m : Nat), L.length - m < n → m ≤ L.length →
      zR G l (zMJ G hRow_placeOf d Qn Qx mc ms) bc bs h 5 [some (.ref r), some (zi x), some (zi t), some (zi (zFd9 L x t m)), some (zi (m : Int))] [] := by
  intro n
  induction n with
  | zero => intro m q1 q2; omega
  | succ n ih =>
  intro m q1 q2
  have hz := zFd9_in L x t m
  refine z_iload dRow_placeOf_5 rfl ?_
  refine z_aload_n dRow_placeOf_7 rfl ?_
  refine z_get (k := 1) fd_Row (by decide) fl_Row_15 dRow_placeOf_8 (by assumption) (by rfl) ?_
  refine z_icmp_ge (tgt := 43) dRow_placeOf_11 (by decide) (by omega) (by omega) (fun c11 => ?_) (fun c11 => ?_)
  · have em : m = L.length := by omega
    subst em
    exact K
  · refine z_aload_n dRow_placeOf_14 rfl ?_
    refine z_get (k := 0) fd_Row (by decide) fl_Row_9 dRow_placeOf_15 (by assumption) (by rfl) ?_
    refine z_iload dRow_placeOf_18 rfl ?_
    refine z_iald dRow_placeOf_20 (by assumption) (by refine ⟨?_, ?_, ?_⟩ <;> omega) ?_
    rw [show (m : Int).toNat = m by omega, e4 m (by omega)]
    have hmi := e5 m (by omega)
    refine z_iload_n dRow_placeOf_21 rfl ?_
    refine z_icmp_ne (tgt := 37) dRow_placeOf_22 (by decide) (by omega) (by omega) (fun c22 => ?_) (fun c22 => ?_)
    · refine z_iinc dRow_placeOf_37 rfl (Nat.le_of_ble_eq_true rfl) ?_
      refine z_goto (tgt := 5) dRow_placeOf_40 (by decide) ?_
      first
        | (have e9 : zFd9 L x t (m + 1) = (m : Int) := if_pos (by omega)
           have := ih (m + 1) (by omega) (by omega)
           rw [e9] at this
           exact this)
        | (have e9 : zFd9 L x t (m + 1) = zFd9 L x t m := if_neg (by omega)
           have := ih (m + 1) (by omega) (by omega)
           rw [e9] at this
           exact this)
    · refine z_iload_n dRow_placeOf_25 rfl ?_
      refine z_if_ne (tgt := 34) dRow_placeOf_26 (by decide) (by omega) (fun c26 => ?_) (fun c26 => ?_)
      · refine z_iload dRow_placeOf_34 rfl ?_
        refine z_istore_n dRow_placeOf_36 (Nat.le_of_ble_eq_true rfl) ?_
        refine z_iinc dRow_placeOf_37 rfl (Nat.le_of_ble_eq_true rfl) ?_
        refine z_goto (tgt := 5) dRow_placeOf_40 (by decide) ?_
        first
          | (have e9 : zFd9 L x t (m + 1) = (m : Int) := if_pos (by omega)
             have := ih (m + 1) (by omega) (by omega)
             rw [e9] at this
             exact this)
          | (have e9 : zFd9 L x t (m + 1) = zFd9 L x t m := if_neg (by omega)
             have := ih (m + 1) (by omega) (by omega)
             rw [e9] at this
             exact this)
      · refine z_iload_n dRow_placeOf_29 rfl ?_
        refine z_iconst dRow_placeOf_30 ?_
        refine z_icmp_ne (tgt := 37) dRow_placeOf_31 (by decide) (by omega) (by omega) (fun c31 => ?_) (fun c31 => ?_)
        · refine z_iinc dRow_placeOf_37 rfl (Nat.le_of_ble_eq_true rfl) ?_
          refine z_goto (tgt := 5) dRow_placeOf_40 (by decide) ?_
          first
            | (have e9 : zFd9 L x t (m + 1) = (m : Int) := if_pos (by omega)
               have := ih (m + 1) (by omega) (by omega)
               rw [e9] at this
               exact this)
            | (have e9 : zFd9 L x t (m + 1) = zFd9 L x t m := if_neg (by omega)
               have := ih (m + 1) (by omega) (by omega)
               rw [e9] at this
               exact this)
        · refine z_iload dRow_placeOf_34 rfl ?_
          refine z_istore_n dRow_placeOf_36 (Nat.le_of_ble_eq_true rfl) ?_
          refine z_iinc dRow_placeOf_37 rfl (Nat.le_of_ble_eq_true rfl) ?_
          refine z_goto (tgt := 5) dRow_placeOf_40 (by decide) ?_
          first
            | (have e9 : zFd9 L x t (m + 1) = (m : Int) := if_pos (by omega)
               have := ih (m + 1) (by omega) (by omega)
               rw [e9] at this
               exact this)
            | (have e9 : zFd9 L x t (m + 1) = zFd9 L x t m := if_neg (by omega)
               have := ih (m + 1) (by omega) (by omega)
               rw [e9] at this
               exact this)
theorem k_Row_placeOf {t : Int} (hr : zRow G h r a L) (hx : -2147483648 ≤ x ∧ x ≤ 2147483647) (ht : -2147483648 ≤ t ∧ t ≤ 2147483647) : zM G l hRow_placeOf yRow_placeOf 1 [.ref r, zi x, zi t] h (fun v h' => v = some (zi (zFind L x t)) ∧ h = h') zNo 0 0 := by
  obtain ⟨f, e1, e2, e3, e4, e5⟩ := id hr
  refine zM.of [some (.ref r), some (zi x), some (zi t), none, none] (by decide +kernel) rfl (by decide) rfl (Nat.le_of_ble_eq_true rfl) rfl ?_
  refine z_iconst dRow_placeOf_0 ?_
  refine z_istore_n dRow_placeOf_1 (Nat.le_of_ble_eq_true rfl) ?_
  refine z_iconst dRow_placeOf_2 ?_
  refine z_istore dRow_placeOf_3 (Nat.le_of_ble_eq_true rfl) ?_
  refine l_Row_placeOf e1 e2 e3 e4 e5 hx ht ?_ 17 0 (by omega) (by omega)
  refine z_iload_n dRow_placeOf_43 rfl ?_
  refine z_iret rfl rfl dRow_placeOf_44 ?_
  exact ⟨rfl, rfl⟩
def zLn9 (L : List Int) : Nat → Int
  | 0 => -1
  | n + 1 => if L.getD n 0 = 0 then zLn9 L n else (n : Int)
def zLnz (L : List Int) : Int := zLn9 L L.length
theorem zLn9_in (L : List Int) : ∀ n : Nat, -1 ≤ zLn9 L n ∧ zLn9 L n < n
  | 0 => by simp [zLn9]
  | n + 1 => by
    have := zLn9_in L n
    unfold zLn9
    split <;> omega
theorem zLnz_in (L : List Int) : -1 ≤ zLnz L ∧ zLnz L < L.length := zLn9_in L _
theorem l_Row_lastNotZero {d mc ms bc bs : Nat} {Qn : Option Value → zHp → Prop} {Qx : String → zHp → Prop} {f : Nat → Int} (e1 : h r = some (.inr (zkRow, [.ref a, zi (L.length : Int)]))) (e2 : h a = some (zInts G 16 f)) (e3 : L.length ≤ 16) (e4 : ∀ j, j < L.length → f j = L.getD j 0) (e5 : ∀ j, j < L.length → zIn (L.getD j 0))
    (K : zR G l (zMJ G hRow_lastNotZero d Qn Qx mc ms) bc bs h 29 [some (.ref r), some (zi (zLnz L)), some (zi (L.length : Int))] []) :
    ∀ (n : Nat) (m : Nat), L.length - m < n → m ≤ L.length →
      zR G l (zMJ G hRow_lastNotZero d Qn Qx mc ms) bc bs h 4 [some (.ref r), some (zi (zLn9 L m)), some (zi (m : Int))] [] := by
  intro n
  induction n with
  | zero => intro m q1 q2; omega
  | succ n ih =>
  intro m q1 q2
  have hz := zLn9_in L m
  refine z_iload_n dRow_lastNotZero_4 rfl ?_
  refine z_aload_n dRow_lastNotZero_5 rfl ?_
  refine z_get (k := 1) fd_Row (by decide) fl_Row_15 dRow_lastNotZero_6 (by assumption) (by rfl) ?_
  refine z_icmp_ge (tgt := 29) dRow_lastNotZero_9 (by decide) (by omega) (by omega) (fun c9 => ?_) (fun c9 => ?_)
  · have em : m = L.length := by omega
    subst em
    exact K
  · refine z_aload_n dRow_lastNotZero_12 rfl ?_
    refine z_get (k := 0) fd_Row (by decide) fl_Row_9 dRow_lastNotZero_13 (by assumption) (by rfl) ?_
    refine z_iload_n dRow_lastNotZero_16 rfl ?_
    refine z_iald dRow_lastNotZero_17 (by assumption) (by refine ⟨?_, ?_, ?_⟩ <;> omega) ?_
    rw [show (m : Int).toNat = m by omega, e4 m (by omega)]
    have hmi := e5 m (by omega)
    refine z_if_eq (tgt := 23) dRow_lastNotZero_18 (by decide) (by omega) (fun c18 => ?_) (fun c18 => ?_)
    · refine z_iinc dRow_lastNotZero_23 rfl (Nat.le_of_ble_eq_true rfl) ?_
      refine z_goto (tgt := 4) dRow_lastNotZero_26 (by decide) ?_
      first
        | (have e9 : zLn9 L (m + 1) = zLn9 L m := if_pos (by omega)
           have := ih (m + 1) (by omega) (by omega)
           rw [e9] at this
           exact this)
        | (have e9 : zLn9 L (m + 1) = (m : Int) := if_neg (by omega)
           have := ih (m + 1) (by omega) (by omega)
           rw [e9] at this
           exact this)
    · refine z_iload_n dRow_lastNotZero_21 rfl ?_
      refine z_istore_n dRow_lastNotZero_22 (Nat.le_of_ble_eq_true rfl) ?_
      refine z_iinc dRow_lastNotZero_23 rfl (Nat.le_of_ble_eq_true rfl) ?_
      refine z_goto (tgt := 4) dRow_lastNotZero_26 (by decide) ?_
      first
        | (have e9 : zLn9 L (m + 1) = zLn9 L m := if_pos (by omega)
           have := ih (m + 1) (by omega) (by omega)
           rw [e9] at this
           exact this)
        | (have e9 : zLn9 L (m + 1) = (m : Int) := if_neg (by omega)
           have := ih (m + 1) (by omega) (by omega)
           rw [e9] at this
           exact this)
theorem k_Row_lastNotZero (hr : zRow G h r a L) : zM G l hRow_lastNotZero yRow_lastNotZero 1 [.ref r] h (fun v h' => v = some (zi (zLnz L)) ∧ h = h') zNo 0 0 := by
  obtain ⟨f, e1, e2, e3, e4, e5⟩ := id hr
  refine zM.of [some (.ref r), none, none] (by decide +kernel) rfl (by decide) rfl (Nat.le_of_ble_eq_true rfl) rfl ?_
  refine z_iconst dRow_lastNotZero_0 ?_
  refine z_istore_n dRow_lastNotZero_1 (Nat.le_of_ble_eq_true rfl) ?_
  refine z_iconst dRow_lastNotZero_2 ?_
  refine z_istore_n dRow_lastNotZero_3 (Nat.le_of_ble_eq_true rfl) ?_
  refine l_Row_lastNotZero e1 e2 e3 e4 e5 ?_ 17 0 (by omega) (by omega)
  refine z_iload_n dRow_lastNotZero_29 rfl ?_
  refine z_iret rfl rfl dRow_lastNotZero_30 ?_
  exact ⟨rfl, rfl⟩
theorem l_Row_isAs {d mc ms bc bs : Nat} {Qn : Option Value → zHp → Prop} {Qx : String → zHp → Prop} {f f2 : Nat → Int} {r2 a2 : Nat} {M : List Int} (e1 : h r = some (.inr (zkRow, [.ref a, zi (L.length : Int)]))) (e2 : h a = some (zInts G 16 f)) (e3 : L.length ≤ 16) (e4 : ∀ j, j < L.length → f j = L.getD j 0) (e5 : ∀ j, j < L.length → zIn (L.getD j 0))
    (d1 : h r2 = some (.inr (zkRow, [.ref a2, zi (M.length : Int)]))) (d2 : h a2 = some (zInts G 16 f2)) (d4 : ∀ j, j < M.length → f2 j = M.getD j 0) (d5 : ∀ j, j < M.length → zIn (M.getD j 0)) (hlm : L.length = M.length)
    (K1 : L = M → ∀ x, zR G l (zMJ G hRow_isAs d Qn Qx mc ms) bc bs h 46 [some (.ref r), some (.ref r2), x] []) (K2 : L ≠ M → ∀ x, zR G l (zMJ G hRow_isAs d Qn Qx mc ms) bc bs h 38 [some (.ref r), some (.ref r2), x] []) :
    ∀ (n : Nat) (m : Nat), L.length - m < n → m ≤ L.length → (∀ j, j < m → L.getD j 0 = M.getD j 0) →
      zR G l (zMJ G hRow_isAs d Qn Qx mc ms) bc bs h 15 [some (.ref r), some (.ref r2), some (zi (m : Int))] [] := by
  intro n
  induction n with
  | zero => intro m q1 q2 q3; omega
  | succ n ih =>
  intro m q1 q2 q3
  refine z_iload_n dRow_isAs_15 rfl ?_
  refine z_aload_n dRow_isAs_16 rfl ?_
  refine z_get (k := 1) fd_Row (by decide) fl_Row_15 dRow_isAs_17 (by assumption) (by rfl) ?_
  refine z_icmp_ge (tgt := 46) dRow_isAs_20 (by decide) (by omega) (by omega) (fun c20 => ?_) (fun c20 => ?_)
  · exact K1 (zl_ext hlm (fun j hj => q3 j (by omega))) _
  · refine z_aload_n dRow_isAs_23 rfl ?_
    refine z_get (k := 0) fd_Row (by decide) fl_Row_9 dRow_isAs_24 (by assumption) (by rfl) ?_
    refine z_iload_n dRow_isAs_27 rfl ?_
    refine z_iald dRow_isAs_28 e2 (by refine ⟨?_, ?_, ?_⟩ <;> omega) ?_
    rw [show (m : Int).toNat = m by omega, e4 m (by omega)]
    have hmi := e5 m (by omega)
    refine z_aload_n dRow_isAs_29 rfl ?_
    refine z_get (k := 0) fd_Row (by decide) fl_Row_9 dRow_isAs_30 (by assumption) (by rfl) ?_
    refine z_iload_n dRow_isAs_33 rfl ?_
    refine z_iald dRow_isAs_34 d2 (by refine ⟨?_, ?_, ?_⟩ <;> omega) ?_
    rw [show (m : Int).toNat = m by omega, d4 m (by omega)]
    have hmj := d5 m (by omega)
    refine z_icmp_eq (tgt := 40) dRow_isAs_35 (by decide) (by omega) (by omega) (fun c35 => ?_) (fun c35 => ?_)
    · refine z_iinc dRow_isAs_40 rfl (Nat.le_of_ble_eq_true rfl) ?_
      refine z_goto (tgt := 15) dRow_isAs_43 (by decide) ?_
      refine ih (m + 1) (by omega) (by omega) (fun j hj => ?_)
      rcases (show j < m ∨ j = m by omega) with e | e
      · exact q3 j e
      · rw [e]; exact c35
    · exact K2 (fun e => c35 (by rw [e])) _
theorem k_Row_isAs {r2 a2 : Nat} {M : List Int} (hr : zRow G h r a L) (hm : zRow G h r2 a2 M) : zM G l hRow_isAs yRow_isAs 1 [.ref r, .ref r2] h (fun v h' => ∃ b : Int, v = some (zi b) ∧ ((b = 1 ∧ (L = M)) ∨ (b = 0 ∧ ¬ (L = M))) ∧ h = h') zNo 0 0 := by
  obtain ⟨f, e1, e2, e3, e4, e5⟩ := id hr
  obtain ⟨f2, d1, d2, d3, d4, d5⟩ := id hm
  refine zM.of [some (.ref r), some (.ref r2), none] (by decide +kernel) rfl (by decide) rfl (Nat.le_of_ble_eq_true rfl) rfl ?_
  refine z_aload_n dRow_isAs_0 rfl ?_
  refine z_get (k := 1) fd_Row (by decide) fl_Row_15 dRow_isAs_1 e1 (by rfl) ?_
  refine z_aload_n dRow_isAs_4 rfl ?_
  refine z_get (k := 1) fd_Row (by decide) fl_Row_15 dRow_isAs_5 d1 (by rfl) ?_
  refine z_icmp_eq (tgt := 13) dRow_isAs_8 (by decide) (by omega) (by omega) (fun c8 => ?_) (fun c8 => ?_)
  · refine z_iconst dRow_isAs_13 ?_
    refine z_istore_n dRow_isAs_14 (Nat.le_of_ble_eq_true rfl) ?_
    refine l_Row_isAs e1 e2 e3 e4 e5 d1 d2 d4 d5 (by omega) (fun hq x => ?_) (fun hq x => ?_) 17 0 (by omega) (by omega) (fun j hj => absurd hj (by omega))
    · refine z_iconst dRow_isAs_46 ?_
      refine z_iret rfl rfl dRow_isAs_47 ?_
      exact ⟨1, rfl, Or.inl ⟨rfl, hq⟩, rfl⟩
    · refine z_iconst dRow_isAs_38 ?_
      refine z_iret rfl rfl dRow_isAs_39 ?_
      exact ⟨0, rfl, Or.inr ⟨rfl, hq⟩, rfl⟩
  · refine z_iconst dRow_isAs_11 ?_
    refine z_iret rfl rfl dRow_isAs_12 ?_
    exact ⟨0, rfl, Or.inr ⟨rfl, fun e => c8 (by rw [e])⟩, rfl⟩
end ROW
