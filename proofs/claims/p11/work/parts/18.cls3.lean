section CLS3
variable {G : zG} {l : Launch} {h h' : zHp} {ad : Nat → Nat} {S : zSt}
theorem z_hx {J : zJ} {bc bs : Nat} {a : Nat} {e : Option va_E} {pc : Nat} {ls : List (Option Value)} {st : List Value} (k : ∀ h1, h1 a = e → (∀ q, q ≠ a → h1 q = h q) → zR G l J bc bs h1 pc ls st) : zR G l J bc bs (zup h a e) pc ls st :=
  k _ (zup_same _ _ _) (fun _ hq => zup_ne hq)
/-- a cursor's cell as it stands -/
def zCe (h : zHp) (a : Nat) (th st li ix la : Int) : Prop := h a = some (.inr (zkCur, [zi th, zi st, zi li, zi ix, zi la]))
theorem k_Cur_init {a : Nat} (e : h a = some (.inr (zkCur, [zi 0, zi 0, zi 0, zi 0, zi 0]))) : zM G l hCur_init yCur_init 2 [.ref a] h (fun v h' => v = none ∧ zCe h' a 0 0 0 0 (-1) ∧ ∀ q, q ≠ a → h' q = h q) zNo 0 0 := by
  refine zM.of [some (.ref a)] (by decide +kernel) rfl (by decide) rfl (Nat.le_of_ble_eq_true rfl) rfl ?_
  refine z_aload_n dCur_init_0 rfl ?_
  refine z_obj lk_Cur_3 ob_i ob_c dCur_init_1 (Nat.le_of_ble_eq_true rfl) (Nat.le_of_ble_eq_true rfl) (Nat.le_of_ble_eq_true rfl) ?_
  refine z_aload_n dCur_init_4 rfl ?_
  refine z_iconst dCur_init_5 ?_
  refine z_put (k := 4) fd_Cur (by decide) fl_Cur_9 rfl dCur_init_6 (by assumption) (by simp) rfl rfl ?_
  refine z_hx (fun h1 p1 f1 => ?_)
  refine z_vret rfl dCur_init_9 ?_
  exact ⟨rfl, p1, f1⟩
theorem k_Cur_begin {a : Nat} {th st li ix la k p : Int} (e : zCe h a th st li ix la) : zM G l hCur_begin yCur_begin 1 [.ref a, zi k, zi p] h (fun v h' => v = none ∧ zCe h' a 1 0 k p (-1) ∧ ∀ q, q ≠ a → h' q = h q) zNo 0 0 := by
  unfold zCe at e
  refine zM.of [some (.ref a), some (zi k), some (zi p)] (by decide +kernel) rfl (by decide) rfl (Nat.le_of_ble_eq_true rfl) rfl ?_
  refine z_aload_n dCur_begin_0 rfl ?_
  refine z_iconst dCur_begin_1 ?_
  refine z_put (k := 0) fd_Cur (by decide) fl_Cur_15 rfl dCur_begin_2 (by assumption) (by simp) rfl rfl ?_
  refine z_hx (fun h1 p1 f1 => ?_)
  refine z_aload_n dCur_begin_5 rfl ?_
  refine z_iconst dCur_begin_6 ?_
  refine z_put (k := 1) fd_Cur (by decide) fl_Cur_19 rfl dCur_begin_7 (by assumption) (by simp) rfl rfl ?_
  refine z_hx (fun h2 p2 f2 => ?_)
  refine z_aload_n dCur_begin_10 rfl ?_
  refine z_iload_n dCur_begin_11 rfl ?_
  refine z_put (k := 2) fd_Cur (by decide) fl_Cur_22 rfl dCur_begin_12 (by assumption) (by simp) rfl rfl ?_
  refine z_hx (fun h3 p3 f3 => ?_)
  refine z_aload_n dCur_begin_15 rfl ?_
  refine z_iload_n dCur_begin_16 rfl ?_
  refine z_put (k := 3) fd_Cur (by decide) fl_Cur_25 rfl dCur_begin_17 (by assumption) (by simp) rfl rfl ?_
  refine z_hx (fun h4 p4 f4 => ?_)
  refine z_aload_n dCur_begin_20 rfl ?_
  refine z_iconst dCur_begin_21 ?_
  refine z_put (k := 4) fd_Cur (by decide) fl_Cur_9 rfl dCur_begin_22 (by assumption) (by simp) rfl rfl ?_
  refine z_hx (fun h5 p5 f5 => ?_)
  refine z_vret rfl dCur_begin_25 ?_
  exact ⟨rfl, p5, (fun q hq => (f5 q hq).trans ((f4 q hq).trans ((f3 q hq).trans ((f2 q hq).trans (f1 q hq)))))⟩
theorem k_Cur_stepForth {a r ar : Nat} {L : List Int} {th st li ix la : Int} (e : zCe h a th st li ix la) (hr : zRow G h r ar L) (na : r ≠ a) (nb : ar ≠ a) (hix : 0 ≤ ix ∧ ix ≤ 99) : zM G l hCur_stepForth yCur_stepForth 3 [.ref a, .ref r] h (fun v h' => ((v = some (zi (zAt L ix)) ∧ (0 ≤ ix ∧ ix < (L.length : Int)) ∧ zCe h' a th st li (ix + 1) ix) ∨ (v = some (zi 10000) ∧ ¬ (0 ≤ ix ∧ ix < (L.length : Int)) ∧ h' = h)) ∧ ∀ q, q ≠ a → h' q = h q) zNo 0 0 := by
  unfold zCe at e
  obtain ⟨fr, er, -⟩ := id hr
  have hl := hr.len
  refine zM.of [some (.ref a), some (.ref r)] (by decide +kernel) rfl (by decide) rfl (Nat.le_of_ble_eq_true rfl) rfl ?_
  refine z_aload_n dCur_stepForth_0 rfl ?_
  refine z_aload_n dCur_stepForth_1 rfl ?_
  refine z_get (k := 3) fd_Cur (by decide) fl_Cur_25 dCur_stepForth_2 (by assumption) (by rfl) ?_
  refine z_callVN MV_Row_hasPlace lk_Cur_28 dCur_stepForth_5 (k_Row_hasPlace hr (by omega)) rfl rfl (Nat.le_of_ble_eq_true rfl) rfl (by assumption) (Nat.le_of_ble_eq_true rfl) (Nat.le_of_ble_eq_true rfl) (Nat.le_of_eq (Nat.zero_add _)) (Nat.le_of_eq (Nat.zero_add _)) (fun _ _ q => q.elim) ?_
  rintro _ _ ⟨b9, rfl, hb9, rfl⟩
  refine z_if_ne (tgt := 15) dCur_stepForth_8 (by decide) (by omega) (fun c8 => ?_) (fun c8 => ?_)
  · refine z_aload_n dCur_stepForth_15 rfl ?_
    refine z_aload_n dCur_stepForth_16 rfl ?_
    refine z_get (k := 3) fd_Cur (by decide) fl_Cur_25 dCur_stepForth_17 (by assumption) (by rfl) ?_
    refine z_put (k := 4) fd_Cur (by decide) fl_Cur_9 rfl dCur_stepForth_20 (by assumption) (by simp) rfl rfl ?_
    refine z_hx (fun h1 p1 f1 => ?_)
    refine z_aload_n dCur_stepForth_23 rfl ?_
    refine z_dup rfl dCur_stepForth_24 ?_
    refine z_get (k := 3) fd_Cur (by decide) fl_Cur_25 dCur_stepForth_25 (by assumption) (by rfl) ?_
    refine z_iconst dCur_stepForth_28 ?_
    refine z_iadd dCur_stepForth_29 ?_
    refine z_put (k := 3) fd_Cur (by decide) fl_Cur_25 rfl dCur_stepForth_30 (by assumption) (by simp) rfl rfl ?_
    refine z_hx (fun h2 p2 f2 => ?_)
    have er2 := ((f2 _ na).trans (f1 _ na)).trans er
    refine z_aload_n dCur_stepForth_33 rfl ?_
    refine z_aload_n dCur_stepForth_34 rfl ?_
    refine z_get (k := 4) fd_Cur (by decide) fl_Cur_9 dCur_stepForth_35 (by assumption) (by rfl) ?_
    refine z_callVN MV_Row_itemAt lk_Cur_34 dCur_stepForth_38 (k_Row_itemAt (hr.kept ((f2 _ na).trans (f1 _ na)) ((f2 _ nb).trans (f1 _ nb))) (by omega)) rfl rfl (Nat.le_of_ble_eq_true rfl) rfl (by assumption) (Nat.le_of_ble_eq_true rfl) (Nat.le_of_ble_eq_true rfl) (Nat.le_of_eq (Nat.zero_add _)) (Nat.le_of_eq (Nat.zero_add _)) (fun _ _ q => q.elim) ?_
    rintro _ _ ⟨rfl, rfl⟩
    refine z_iret rfl rfl dCur_stepForth_41 ?_
    exact ⟨Or.inl ⟨rfl, by omega, p2⟩, (fun q hq => (f2 q hq).trans (f1 q hq))⟩
  · refine z_sipush dCur_stepForth_11 rfl ?_
    refine z_iret rfl rfl dCur_stepForth_14 ?_
    exact ⟨Or.inr ⟨rfl, by omega, rfl⟩, fun q hq => rfl⟩
theorem k_Cur_stepBack {a r ar : Nat} {L : List Int} {th st li ix la : Int} (e : zCe h a th st li ix la) (hr : zRow G h r ar L) (na : r ≠ a) (nb : ar ≠ a) (hix : 0 ≤ ix ∧ ix ≤ 99) : zM G l hCur_stepBack yCur_stepBack 3 [.ref a, .ref r] h (fun v h' => ((v = some (zi (zAt L (ix - 1))) ∧ (0 ≤ ix - 1 ∧ ix - 1 < (L.length : Int)) ∧ zCe h' a th st li (ix - 1) (ix - 1)) ∨ (v = some (zi 10000) ∧ ¬ (0 ≤ ix - 1 ∧ ix - 1 < (L.length : Int)) ∧ h' = h)) ∧ ∀ q, q ≠ a → h' q = h q) zNo 0 0 := by
  unfold zCe at e
  obtain ⟨fr, er, -⟩ := id hr
  have hl := hr.len
  refine zM.of [some (.ref a), some (.ref r)] (by decide +kernel) rfl (by decide) rfl (Nat.le_of_ble_eq_true rfl) rfl ?_
  refine z_aload_n dCur_stepBack_0 rfl ?_
  refine z_aload_n dCur_stepBack_1 rfl ?_
  refine z_get (k := 3) fd_Cur (by decide) fl_Cur_25 dCur_stepBack_2 (by assumption) (by rfl) ?_
  refine z_iconst dCur_stepBack_5 ?_
  refine z_isub dCur_stepBack_6 ?_
  refine z_callVN MV_Row_hasPlace lk_Cur_28 dCur_stepBack_7 (k_Row_hasPlace hr (by omega)) rfl rfl (Nat.le_of_ble_eq_true rfl) rfl (by assumption) (Nat.le_of_ble_eq_true rfl) (Nat.le_of_ble_eq_true rfl) (Nat.le_of_eq (Nat.zero_add _)) (Nat.le_of_eq (Nat.zero_add _)) (fun _ _ q => q.elim) ?_
  rintro _ _ ⟨b9, rfl, hb9, rfl⟩
  refine z_if_ne (tgt := 17) dCur_stepBack_10 (by decide) (by omega) (fun c10 => ?_) (fun c10 => ?_)
  · refine z_aload_n dCur_stepBack_17 rfl ?_
    refine z_dup rfl dCur_stepBack_18 ?_
    refine z_get (k := 3) fd_Cur (by decide) fl_Cur_25 dCur_stepBack_19 (by assumption) (by rfl) ?_
    refine z_iconst dCur_stepBack_22 ?_
    refine z_isub dCur_stepBack_23 ?_
    refine z_put (k := 3) fd_Cur (by decide) fl_Cur_25 rfl dCur_stepBack_24 (by assumption) (by simp) rfl rfl ?_
    refine z_hx (fun h1 p1 f1 => ?_)
    refine z_aload_n dCur_stepBack_27 rfl ?_
    refine z_aload_n dCur_stepBack_28 rfl ?_
    refine z_get (k := 3) fd_Cur (by decide) fl_Cur_25 dCur_stepBack_29 (by assumption) (by rfl) ?_
    refine z_put (k := 4) fd_Cur (by decide) fl_Cur_9 rfl dCur_stepBack_32 (by assumption) (by simp) rfl rfl ?_
    refine z_hx (fun h2 p2 f2 => ?_)
    have er2 := ((f2 _ na).trans (f1 _ na)).trans er
    refine z_aload_n dCur_stepBack_35 rfl ?_
    refine z_aload_n dCur_stepBack_36 rfl ?_
    refine z_get (k := 4) fd_Cur (by decide) fl_Cur_9 dCur_stepBack_37 (by assumption) (by rfl) ?_
    refine z_callVN MV_Row_itemAt lk_Cur_34 dCur_stepBack_40 (k_Row_itemAt (hr.kept ((f2 _ na).trans (f1 _ na)) ((f2 _ nb).trans (f1 _ nb))) (by omega)) rfl rfl (Nat.le_of_ble_eq_true rfl) rfl (by assumption) (Nat.le_of_ble_eq_true rfl) (Nat.le_of_ble_eq_true rfl) (Nat.le_of_eq (Nat.zero_add _)) (Nat.le_of_eq (Nat.zero_add _)) (fun _ _ q => q.elim) ?_
    rintro _ _ ⟨rfl, rfl⟩
    refine z_iret rfl rfl dCur_stepBack_43 ?_
    exact ⟨Or.inl ⟨rfl, by omega, p2⟩, (fun q hq => (f2 q hq).trans (f1 q hq))⟩
  · refine z_sipush dCur_stepBack_13 rfl ?_
    refine z_iret rfl rfl dCur_stepBack_16 ?_
    exact ⟨Or.inr ⟨rfl, by omega, rfl⟩, fun q hq => rfl⟩
theorem k_Cur_putHere {a r ar : Nat} {L : List Int} {x th st li ix la : Int} (e : zCe h a th st li ix la) (hr : zRow G h r ar L) (na : r ≠ a) (nb : ar ≠ a) (hix : 0 ≤ ix ∧ ix ≤ 99) (hx : zIn x) : zM G l hCur_putHere yCur_putHere 3 [.ref a, .ref r, zi x] h (fun v h' => ((v = some (zi 1) ∧ (L.length < 16 ∧ 0 ≤ ix ∧ ix ≤ L.length) ∧ zRow G h' r ar (zIns L ix x) ∧ zCe h' a th st li (ix + 1) (-1)) ∨ (v = some (zi 0) ∧ ¬ (L.length < 16 ∧ 0 ≤ ix ∧ ix ≤ L.length) ∧ h' = h)) ∧ ∀ q, q ≠ a → q ≠ r → q ≠ ar → h' q = h q) zNo 0 0 := by
  unfold zCe at e
  obtain ⟨fr, er, -⟩ := id hr
  have hl := hr.len
  refine zM.of [some (.ref a), some (.ref r), some (zi x)] (by decide +kernel) rfl (by decide) rfl (Nat.le_of_ble_eq_true rfl) rfl ?_
  refine z_aload_n dCur_putHere_0 rfl ?_
  refine z_aload_n dCur_putHere_1 rfl ?_
  refine z_get (k := 3) fd_Cur (by decide) fl_Cur_25 dCur_putHere_2 (by assumption) (by rfl) ?_
  refine z_iload_n dCur_putHere_5 rfl ?_
  refine z_callVN MV_Row_putIn lk_Cur_38 dCur_putHere_6 (k_Row_putIn hr (by omega) hx) rfl rfl (Nat.le_of_ble_eq_true rfl) rfl er (Nat.le_of_ble_eq_true rfl) (Nat.le_of_ble_eq_true rfl) (Nat.le_of_eq (Nat.zero_add _)) (Nat.le_of_eq (Nat.zero_add _)) (fun _ _ q => q.elim) ?_
  rintro _ h1 (⟨rfl, k3, k4, k5, hr1, f1⟩ | ⟨rfl, k3, rfl⟩)
  · refine z_if_ne (tgt := 14) dCur_putHere_9 (by decide) (by omega) (fun c9 => ?_) (fun c9 => ?_)
    · have p1 := (f1 a na.symm nb.symm).trans e
      refine z_aload_n dCur_putHere_14 rfl ?_
      refine z_dup rfl dCur_putHere_15 ?_
      refine z_get (k := 3) fd_Cur (by decide) fl_Cur_25 dCur_putHere_16 (by assumption) (by rfl) ?_
      refine z_iconst dCur_putHere_19 ?_
      refine z_iadd dCur_putHere_20 ?_
      refine z_put (k := 3) fd_Cur (by decide) fl_Cur_25 rfl dCur_putHere_21 (by assumption) (by simp) rfl rfl ?_
      refine z_hx (fun h2 p2 f2 => ?_)
      refine z_aload_n dCur_putHere_24 rfl ?_
      refine z_iconst dCur_putHere_25 ?_
      refine z_put (k := 4) fd_Cur (by decide) fl_Cur_9 rfl dCur_putHere_26 (by assumption) (by simp) rfl rfl ?_
      refine z_hx (fun h3 p3 f3 => ?_)
      refine z_iconst dCur_putHere_29 ?_
      refine z_iret rfl rfl dCur_putHere_30 ?_
      exact ⟨Or.inl ⟨rfl, by omega, hr1.kept ((f3 _ na).trans (f2 _ na)) ((f3 _ nb).trans (f2 _ nb)), p3⟩, fun q h1 h2 h3 => (f3 q h1).trans ((f2 q h1).trans (f1 q h2 h3))⟩
    · exact absurd c9 (by decide)
  · refine z_if_ne (tgt := 14) dCur_putHere_9 (by decide) (by omega) (fun c9 => ?_) (fun c9 => ?_)
    · exact absurd rfl c9
    · refine z_iconst dCur_putHere_12 ?_
      refine z_iret rfl rfl dCur_putHere_13 ?_
      exact ⟨Or.inr ⟨rfl, by omega, rfl⟩, fun q _ _ _ => rfl⟩
theorem k_Cur_cutLast {a r ar : Nat} {L : List Int} {th st li ix la : Int} (e : zCe h a th st li ix la) (hr : zRow G h r ar L) (na : r ≠ a) (nb : ar ≠ a) (hix : 0 ≤ ix ∧ ix ≤ 99) (hla : 0 ≤ la ∧ la < L.length) : zM G l hCur_cutLast yCur_cutLast 3 [.ref a, .ref r] h (fun v h' => v = none ∧ zRow G h' r ar (zDel L la) ∧ zCe h' a th st li (if la < ix then ix - 1 else ix) (-1) ∧ ∀ q, q ≠ a → q ≠ r → q ≠ ar → h' q = h q) zNo 0 0 := by
  unfold zCe at e
  obtain ⟨fr, er, -⟩ := id hr
  have hl := hr.len
  refine zM.of [some (.ref a), some (.ref r)] (by decide +kernel) rfl (by decide) rfl (Nat.le_of_ble_eq_true rfl) rfl ?_
  refine z_aload_n dCur_cutLast_0 rfl ?_
  refine z_aload_n dCur_cutLast_1 rfl ?_
  refine z_get (k := 4) fd_Cur (by decide) fl_Cur_9 dCur_cutLast_2 (by assumption) (by rfl) ?_
  refine z_callVN MV_Row_takeOut lk_Cur_42 dCur_cutLast_5 (k_Row_takeOut hr (by omega)) rfl rfl (Nat.le_of_ble_eq_true rfl) rfl er (Nat.le_of_ble_eq_true rfl) (Nat.le_of_ble_eq_true rfl) (Nat.le_of_eq (Nat.zero_add _)) (Nat.le_of_eq (Nat.zero_add _)) (fun _ _ q => q.elim) ?_
  rintro _ h1 (⟨rfl, k3, k4, hr1, f1⟩ | ⟨rfl, k3, rfl⟩)
  rotate_left
  · exact absurd hla k3
  have p1 := (f1 a na.symm nb.symm).trans e
  refine z_pop rfl dCur_cutLast_8 ?_
  refine z_aload_n dCur_cutLast_9 rfl ?_
  refine z_get (k := 4) fd_Cur (by decide) fl_Cur_9 dCur_cutLast_10 (by assumption) (by rfl) ?_
  refine z_aload_n dCur_cutLast_13 rfl ?_
  refine z_get (k := 3) fd_Cur (by decide) fl_Cur_25 dCur_cutLast_14 (by assumption) (by rfl) ?_
  refine z_icmp_ge (tgt := 30) dCur_cutLast_17 (by decide) (by omega) (by omega) (fun c17 => ?_) (fun c17 => ?_)
  · refine z_aload_n dCur_cutLast_30 rfl ?_
    refine z_iconst dCur_cutLast_31 ?_
    refine z_put (k := 4) fd_Cur (by decide) fl_Cur_9 rfl dCur_cutLast_32 (by assumption) (by simp) rfl rfl ?_
    refine z_hx (fun h3 p3 f3 => ?_)
    refine z_vret rfl dCur_cutLast_35 ?_
    exact ⟨rfl, hr1.kept (f3 _ na) (f3 _ nb), by rw [if_neg (by omega)]; exact p3, fun q h1 h2 h3 => (f3 q h1).trans (f1 q h2 h3)⟩
  · refine z_aload_n dCur_cutLast_20 rfl ?_
    refine z_dup rfl dCur_cutLast_21 ?_
    refine z_get (k := 3) fd_Cur (by decide) fl_Cur_25 dCur_cutLast_22 (by assumption) (by rfl) ?_
    refine z_iconst dCur_cutLast_25 ?_
    refine z_isub dCur_cutLast_26 ?_
    refine z_put (k := 3) fd_Cur (by decide) fl_Cur_25 rfl dCur_cutLast_27 (by assumption) (by simp) rfl rfl ?_
    refine z_hx (fun h2 p2 f2 => ?_)
    refine z_aload_n dCur_cutLast_30 rfl ?_
    refine z_iconst dCur_cutLast_31 ?_
    refine z_put (k := 4) fd_Cur (by decide) fl_Cur_9 rfl dCur_cutLast_32 (by assumption) (by simp) rfl rfl ?_
    refine z_hx (fun h3 p3 f3 => ?_)
    refine z_vret rfl dCur_cutLast_35 ?_
    exact ⟨rfl, hr1.kept ((f3 _ na).trans (f2 _ na)) ((f3 _ nb).trans (f2 _ nb)), by rw [if_pos (by omega)]; exact p3, fun q h1 h2 h3 => (f3 q h1).trans ((f2 q h1).trans (f1 q h2 h3))⟩
end CLS3
