section CLS4
variable {G : zG} {l : Launch} {h h' : zHp} {ad : Nat → Nat} {S : zSt}
theorem l_Rec_begin {d mc ms bc bs : Nat} {Qn : Option Value → zHp → Prop} {Qx : String → zHp → Prop} {r t q : Nat} {a b c : Int} (n5 : r ≠ t) (e : h r = some (.inr (zkRec, [.ref q, .ref t, zi a, zi b, zi c])))
    (K : ∀ (h1 : zHp) (T' : Nat → Int) y, h1 t = some (zInts G 8 T') → (∀ k : Nat, k < 8 → T' k = 0) → (∀ x, x ≠ t → h1 x = h x) → zR G l (zMJ G hRec_begin d Qn Qx mc ms) bc bs h1 30 [some (.ref r), y] []) :
    ∀ (n : Nat) (m : Nat) (h1 : zHp) (T' : Nat → Int), 8 - m < n → m ≤ 8 → h1 t = some (zInts G 8 T') → (∀ k : Nat, k < m → T' k = 0) → (∀ x, x ≠ t → h1 x = h x) →
      zR G l (zMJ G hRec_begin d Qn Qx mc ms) bc bs h1 11 [some (.ref r), some (zi (m : Int))] [] := by
  intro n
  induction n with
  | zero => intro m h1 T' q1 q2 et hT hf; omega
  | succ n ih =>
  intro m h1 T' q1 q2 et hT hf
  have e1 := (hf r n5).trans e
  refine z_iload_n dRec_begin_11 rfl ?_
  refine z_bipush dRec_begin_12 rfl ?_
  refine z_icmp_ge (tgt := 30) dRec_begin_14 (by decide) (by omega) (by omega) (fun c14 => ?_) (fun c14 => ?_)
  · exact K h1 T' _ et (fun k hk => hT k (by omega)) hf
  · refine z_aload_n dRec_begin_17 rfl ?_
    refine z_get (k := 1) fd_Rec (by decide) fl_Rec_18 dRec_begin_18 (by assumption) (by rfl) ?_
    refine z_iload_n dRec_begin_21 rfl ?_
    refine z_iconst dRec_begin_22 ?_
    refine z_iast dRec_begin_23 (by assumption) (by refine ⟨?_, ?_, ?_⟩ <;> omega) ?_
    refine z_hx (fun h2 p2 f2 => ?_)
    refine z_iinc dRec_begin_24 rfl (Nat.le_of_ble_eq_true rfl) ?_
    refine z_goto (tgt := 11) dRec_begin_27 (by decide) ?_
    refine ih (m + 1) h2 _ (by omega) (by omega) p2 (fun k hk => ?_) (fun x hx => (f2 x hx).trans (hf x hx))
    by_cases e9 : k = m
    · subst e9
      exact if_pos (by omega)
    · exact (if_neg (by omega)).trans (hT k (by omega))
theorem k_Rec_begin {r t q qa : Nat} {K : List Int} {T : Nat → Int} {a b c : Int} (e : h r = some (.inr (zkRec, [.ref q, .ref t, zi a, zi b, zi c]))) (et : h t = some (zInts G 8 T)) (hq : zRow G h q qa K) (n1 : r ≠ q) (n2 : r ≠ qa) (n3 : t ≠ q) (n4 : t ≠ qa) (n5 : r ≠ t) : zM G l hRec_begin yRec_begin 5 [.ref r] h (fun v h' => v = none ∧ h' r = some (.inr (zkRec, [.ref q, .ref t, zi 0, zi 0, zi (-1)])) ∧ (∃ T', h' t = some (zInts G 8 T') ∧ ∀ k : Nat, k < 8 → T' k = 0) ∧ zRow G h' q qa (zPl9 8) ∧ ∀ x, x ≠ r → x ≠ t → x ≠ q → x ≠ qa → h' x = h x) zNo 0 0 := by
  obtain ⟨fr, er, -⟩ := id hq
  refine zM.of [some (.ref r), none] (by decide +kernel) rfl (by decide) rfl (Nat.le_of_ble_eq_true rfl) rfl ?_
  refine z_aload_n dRec_begin_0 rfl ?_
  refine z_get (k := 0) fd_Rec (by decide) fl_Rec_12 dRec_begin_1 (by assumption) (by rfl) ?_
  refine z_bipush dRec_begin_4 rfl ?_
  refine z_callVN MV_Row_becomePlaces lk_Rec_25 dRec_begin_6 (k_Row_becomePlaces (N := 8) hq (by omega)) rfl rfl (Nat.le_of_ble_eq_true rfl) rfl er (Nat.le_of_ble_eq_true rfl) (Nat.le_of_ble_eq_true rfl) (Nat.le_of_eq (Nat.zero_add _)) (Nat.le_of_eq (Nat.zero_add _)) (fun _ _ q => q.elim) ?_
  rintro _ h1 ⟨rfl, hr1, f1⟩
  have e1 := (f1 r n1 n2).trans e
  have et1 := (f1 t n3 n4).trans et
  refine z_iconst dRec_begin_9 ?_
  refine z_istore_n dRec_begin_10 (Nat.le_of_ble_eq_true rfl) ?_
  refine l_Rec_begin n5 e1 (fun h2 T' y et2 hT2 f2 => ?_) 9 0 h1 T (by omega) (by omega) et1 (fun k hk => absurd hk (by omega)) (fun x hx => rfl)
  have e2 := (f2 r n5).trans e1
  refine z_aload_n dRec_begin_30 rfl ?_
  refine z_iconst dRec_begin_31 ?_
  refine z_put (k := 2) fd_Rec (by decide) fl_Rec_29 rfl dRec_begin_32 (by assumption) (by simp) rfl rfl ?_
  refine z_hx (fun h3 p3 f3 => ?_)
  refine z_aload_n dRec_begin_35 rfl ?_
  refine z_iconst dRec_begin_36 ?_
  refine z_put (k := 3) fd_Rec (by decide) fl_Rec_33 rfl dRec_begin_37 (by assumption) (by simp) rfl rfl ?_
  refine z_hx (fun h4 p4 f4 => ?_)
  refine z_aload_n dRec_begin_40 rfl ?_
  refine z_iconst dRec_begin_41 ?_
  refine z_put (k := 4) fd_Rec (by decide) fl_Rec_36 rfl dRec_begin_42 (by assumption) (by simp) rfl rfl ?_
  refine z_hx (fun h5 p5 f5 => ?_)
  refine z_vret rfl dRec_begin_45 ?_
  have g5 : ∀ x, x ≠ r → h5 x = h2 x := fun x hx => ((f5 x hx).trans (f4 x hx)).trans (f3 x hx)
  exact ⟨rfl, p5, ⟨T', (g5 t n5.symm).trans et2, hT2⟩, hr1.kept ((g5 q n1.symm).trans (f2 q n3.symm)) ((g5 qa n2.symm).trans (f2 qa n4.symm)), fun x x1 x2 x3 x4 => ((g5 x x1).trans (f2 x x2)).trans (f1 x x3 x4)⟩
theorem k_Rec_bringAhead {r t q qa : Nat} {K : List Int} {T : Nat → Int} {a b c : Int} {key : Int} (e : h r = some (.inr (zkRec, [.ref q, .ref t, zi a, zi b, zi c]))) (et : h t = some (zInts G 8 T)) (hq : zRow G h q qa K) (n1 : r ≠ q) (n2 : r ≠ qa) (n3 : t ≠ q) (n4 : t ≠ qa) (n5 : r ≠ t) (hk : 0 ≤ key ∧ key < 8) (hp : 0 ≤ zFind K key 0) : zM G l hRec_bringAhead yRec_bringAhead 4 [.ref r, zi key] h (fun v h' => v = some (zi (zFind K key 0 + 1)) ∧ h' r = some (.inr (zkRec, [.ref q, .ref t, zi (a + 1), zi (b + (zFind K key 0 + 1)), zi key])) ∧ h' t = some (zInts G 8 (zup T key.toNat (T key.toNat + 1))) ∧ zRow G h' q qa (zIns (zDel K (zFind K key 0)) 0 key) ∧ ∀ x, x ≠ r → x ≠ t → x ≠ q → x ≠ qa → h' x = h x) zNo 0 0 := by
  obtain ⟨fr, er, -⟩ := id hq
  have hl := hq.len
  have hz := zFind_in K key 0
  have hd := zDel_len K (zFind K key 0)
  refine zM.of [some (.ref r), some (zi key), none] (by decide +kernel) rfl (by decide) rfl (Nat.le_of_ble_eq_true rfl) rfl ?_
  refine z_aload_n dRec_bringAhead_0 rfl ?_
  refine z_get (k := 0) fd_Rec (by decide) fl_Rec_12 dRec_bringAhead_1 (by assumption) (by rfl) ?_
  refine z_iload_n dRec_bringAhead_4 rfl ?_
  refine z_iconst dRec_bringAhead_5 ?_
  refine z_callVN MV_Row_placeOf lk_Rec_39 dRec_bringAhead_6 (k_Row_placeOf hq (by omega) (by omega)) rfl rfl (Nat.le_of_ble_eq_true rfl) rfl er (Nat.le_of_ble_eq_true rfl) (Nat.le_of_ble_eq_true rfl) (Nat.le_of_eq (Nat.zero_add _)) (Nat.le_of_eq (Nat.zero_add _)) (fun _ _ q => q.elim) ?_
  rintro _ _ ⟨rfl, rfl⟩
  refine z_istore_n dRec_bringAhead_9 (Nat.le_of_ble_eq_true rfl) ?_
  refine z_aload_n dRec_bringAhead_10 rfl ?_
  refine z_get (k := 0) fd_Rec (by decide) fl_Rec_12 dRec_bringAhead_11 (by assumption) (by rfl) ?_
  refine z_iload_n dRec_bringAhead_14 rfl ?_
  refine z_callVN MV_Row_takeOut lk_Rec_43 dRec_bringAhead_15 (k_Row_takeOut hq (by omega)) rfl rfl (Nat.le_of_ble_eq_true rfl) rfl er (Nat.le_of_ble_eq_true rfl) (Nat.le_of_ble_eq_true rfl) (Nat.le_of_eq (Nat.zero_add _)) (Nat.le_of_eq (Nat.zero_add _)) (fun _ _ q => q.elim) ?_
  rintro _ h1 (⟨rfl, k3, k4, hr1, f1⟩ | ⟨rfl, k3, rfl⟩)
  rotate_left
  · exact absurd ⟨hp, hz.2⟩ k3
  have e1 := (f1 r n1 n2).trans e
  obtain ⟨fr1, er1, -⟩ := id hr1
  refine z_pop rfl dRec_bringAhead_18 ?_
  refine z_aload_n dRec_bringAhead_19 rfl ?_
  refine z_get (k := 0) fd_Rec (by decide) fl_Rec_12 dRec_bringAhead_20 (by assumption) (by rfl) ?_
  refine z_iconst dRec_bringAhead_23 ?_
  refine z_iload_n dRec_bringAhead_24 rfl ?_
  refine z_callVN MV_Row_putIn lk_Rec_47 dRec_bringAhead_25 (k_Row_putIn hr1 (by omega) (by omega)) rfl rfl (Nat.le_of_ble_eq_true rfl) rfl er1 (Nat.le_of_ble_eq_true rfl) (Nat.le_of_ble_eq_true rfl) (Nat.le_of_eq (Nat.zero_add _)) (Nat.le_of_eq (Nat.zero_add _)) (fun _ _ q => q.elim) ?_
  rintro _ h2 (⟨rfl, k5, k6, k7, hr2, f2⟩ | ⟨rfl, k5, rfl⟩)
  rotate_left
  · exact absurd (by omega) k5
  have e2 := (f2 r n1 n2).trans e1
  have et2 := (f2 t n3 n4).trans ((f1 t n3 n4).trans et)
  refine z_pop rfl dRec_bringAhead_28 ?_
  refine z_iload_n dRec_bringAhead_29 rfl ?_
  refine z_if_lt (tgt := 49) dRec_bringAhead_30 (by decide) (by omega) (fun c30 => ?_) (fun c30 => ?_)
  · exact absurd c30 (by omega)
  refine z_iload_n dRec_bringAhead_33 rfl ?_
  refine z_bipush dRec_bringAhead_34 rfl ?_
  refine z_icmp_ge (tgt := 49) dRec_bringAhead_36 (by decide) (by omega) (by omega) (fun c36 => ?_) (fun c36 => ?_)
  · exact absurd c36 (by omega)
  refine z_aload_n dRec_bringAhead_39 rfl ?_
  refine z_get (k := 1) fd_Rec (by decide) fl_Rec_18 dRec_bringAhead_40 (by assumption) (by rfl) ?_
  refine z_iload_n dRec_bringAhead_43 rfl ?_
  refine z_dup2 rfl rfl dRec_bringAhead_44 ?_
  refine z_iald dRec_bringAhead_45 (by assumption) (by refine ⟨?_, ?_, ?_⟩ <;> omega) ?_
  refine z_iconst dRec_bringAhead_46 ?_
  refine z_iadd dRec_bringAhead_47 ?_
  refine z_iast dRec_bringAhead_48 (by assumption) (by refine ⟨?_, ?_, ?_⟩ <;> omega) ?_
  refine z_hx (fun h3 p3 f3 => ?_)
  have e3 := (f3 r n5).trans e2
  refine z_aload_n dRec_bringAhead_49 rfl ?_
  refine z_dup rfl dRec_bringAhead_50 ?_
  refine z_get (k := 2) fd_Rec (by decide) fl_Rec_29 dRec_bringAhead_51 (by assumption) (by rfl) ?_
  refine z_iconst dRec_bringAhead_54 ?_
  refine z_iadd dRec_bringAhead_55 ?_
  refine z_put (k := 2) fd_Rec (by decide) fl_Rec_29 rfl dRec_bringAhead_56 (by assumption) (by simp) rfl rfl ?_
  refine z_hx (fun h4 p4 f4 => ?_)
  refine z_aload_n dRec_bringAhead_59 rfl ?_
  refine z_dup rfl dRec_bringAhead_60 ?_
  refine z_get (k := 3) fd_Rec (by decide) fl_Rec_33 dRec_bringAhead_61 (by assumption) (by rfl) ?_
  refine z_iload_n dRec_bringAhead_64 rfl ?_
  refine z_iconst dRec_bringAhead_65 ?_
  refine z_iadd dRec_bringAhead_66 ?_
  refine z_iadd dRec_bringAhead_67 ?_
  refine z_put (k := 3) fd_Rec (by decide) fl_Rec_33 rfl dRec_bringAhead_68 (by assumption) (by simp) rfl rfl ?_
  refine z_hx (fun h5 p5 f5 => ?_)
  refine z_aload_n dRec_bringAhead_71 rfl ?_
  refine z_iload_n dRec_bringAhead_72 rfl ?_
  refine z_put (k := 4) fd_Rec (by decide) fl_Rec_36 rfl dRec_bringAhead_73 (by assumption) (by simp) rfl rfl ?_
  refine z_hx (fun h6 p6 f6 => ?_)
  refine z_iload_n dRec_bringAhead_76 rfl ?_
  refine z_iconst dRec_bringAhead_77 ?_
  refine z_iadd dRec_bringAhead_78 ?_
  refine z_iret rfl rfl dRec_bringAhead_79 ?_
  have g6 : ∀ x, x ≠ r → h6 x = h3 x := fun x hx => ((f6 x hx).trans (f5 x hx)).trans (f4 x hx)
  exact ⟨rfl, p6, (g6 t n5.symm).trans p3, hr2.kept ((g6 q n1.symm).trans (f3 q n3.symm)) ((g6 qa n2.symm).trans (f3 qa n4.symm)), fun x x1 x2 x3 x4 => ((g6 x x1).trans (f3 x x2)).trans ((f2 x x3 x4).trans (f1 x x3 x4))⟩
def zCost (T : Nat → Int) (L : List Int) : Nat → Int
  | 0 => 0
  | n + 1 => zCost T L n + T n * (zFind L n 0 + 1)
theorem l_Rec_costBy {d mc ms bc bs : Nat} {Qn : Option Value → zHp → Prop} {Qx : String → zHp → Prop} {r t : Nat} {T : Nat → Int} {q : Value} {a b c : Int} {ro ra : Nat} {L : List Int} (ho : zRow G h ro ra L) (hd : 3 ≤ d) (e : h r = some (.inr (zkRec, [q, .ref t, zi a, zi b, zi c]))) (et : h t = some (zInts G 8 T))
    (K : ∀ y, zR G l (zMJ G hRec_costBy d Qn Qx mc ms) bc bs h 34 [some (.ref r), some (.ref ro), some (zi (zCost T L 8)), y] []) :
    ∀ (n : Nat) (m : Nat), 8 - m < n → m ≤ 8 →
      zR G l (zMJ G hRec_costBy d Qn Qx mc ms) bc bs h 4 [some (.ref r), some (.ref ro), some (zi (zCost T L m)), some (zi (m : Int))] [] := by
  intro n
  induction n with
  | zero => intro m q1 q2; omega
  | succ n ih =>
  intro m q1 q2
  obtain ⟨fo, eo, -⟩ := id ho
  refine z_iload_n dRec_costBy_4 rfl ?_
  refine z_bipush dRec_costBy_5 rfl ?_
  refine z_icmp_ge (tgt := 34) dRec_costBy_7 (by decide) (by omega) (by omega) (fun c7 => ?_) (fun c7 => ?_)
  · have em : m = 8 := by omega
    subst em
    exact K _
  · refine z_iload_n dRec_costBy_10 rfl ?_
    refine z_aload_n dRec_costBy_11 rfl ?_
    refine z_get (k := 1) fd_Rec (by decide) fl_Rec_18 dRec_costBy_12 (by assumption) (by rfl) ?_
    refine z_iload_n dRec_costBy_15 rfl ?_
    refine z_iald dRec_costBy_16 (by assumption) (by refine ⟨?_, ?_, ?_⟩ <;> omega) ?_
    refine z_aload_n dRec_costBy_17 rfl ?_
    refine z_iload_n dRec_costBy_18 rfl ?_
    refine z_iconst dRec_costBy_19 ?_
    refine z_callVN MV_Row_placeOf lk_Rec_39 dRec_costBy_20 (k_Row_placeOf ho (by omega) (by omega)) rfl rfl (Nat.le_of_ble_eq_true rfl) rfl eo (by show 1 + 1 ≤ d; omega) (by show 1 * 64 + 64 ≤ d * 64; omega) (Nat.le_of_eq (Nat.zero_add _)) (Nat.le_of_eq (Nat.zero_add _)) (fun _ _ q => q.elim) ?_
    rintro _ _ ⟨rfl, rfl⟩
    refine z_iconst dRec_costBy_23 ?_
    refine z_iadd dRec_costBy_24 ?_
    refine z_imul dRec_costBy_25 ?_
    refine z_iadd dRec_costBy_26 ?_
    refine z_istore_n dRec_costBy_27 (Nat.le_of_ble_eq_true rfl) ?_
    refine z_iinc dRec_costBy_28 rfl (Nat.le_of_ble_eq_true rfl) ?_
    refine z_goto (tgt := 4) dRec_costBy_31 (by decide) ?_
    exact ih (m + 1) (by omega) (by omega)
theorem k_Rec_costBy {r t : Nat} {T : Nat → Int} {q : Value} {a b c : Int} {ro ra : Nat} {L : List Int} (ho : zRow G h ro ra L) (e : h r = some (.inr (zkRec, [q, .ref t, zi a, zi b, zi c]))) (et : h t = some (zInts G 8 T)) : zM G l hRec_costBy yRec_costBy 3 [.ref r, .ref ro] h (fun v h' => v = some (zi (zCost T L 8)) ∧ h = h') zNo 0 0 := by
  refine zM.of [some (.ref r), some (.ref ro), none, none] (by decide +kernel) rfl (by decide) rfl (Nat.le_of_ble_eq_true rfl) rfl ?_
  refine z_iconst dRec_costBy_0 ?_
  refine z_istore_n dRec_costBy_1 (Nat.le_of_ble_eq_true rfl) ?_
  refine z_iconst dRec_costBy_2 ?_
  refine z_istore_n dRec_costBy_3 (Nat.le_of_ble_eq_true rfl) ?_
  refine l_Rec_costBy ho (by omega) e et (fun y => ?_) 9 0 (by omega) (by omega)
  refine z_iload_n dRec_costBy_34 rfl ?_
  refine z_iret rfl rfl dRec_costBy_35 ?_
  exact ⟨rfl, rfl⟩
theorem k_Rec_boundBy {r t : Nat} {T : Nat → Int} {q : Value} {a b c : Int} {ro ra : Nat} {L : List Int} (ho : zRow G h ro ra L) (e : h r = some (.inr (zkRec, [q, .ref t, zi a, zi b, zi c]))) (et : h t = some (zInts G 8 T)) : zM G l hRec_boundBy yRec_boundBy 4 [.ref r, .ref ro] h (fun v h' => v = some (zi (2 * zCost T L 8 - a + zInv L)) ∧ h = h') zNo 0 0 := by
  obtain ⟨fo, eo, -⟩ := id ho
  refine zM.of [some (.ref r), some (.ref ro)] (by decide +kernel) rfl (by decide) rfl (Nat.le_of_ble_eq_true rfl) rfl ?_
  refine z_iconst dRec_boundBy_0 ?_
  refine z_aload_n dRec_boundBy_1 rfl ?_
  refine z_aload_n dRec_boundBy_2 rfl ?_
  refine z_callV MV_Rec_costBy lk_Rec_51 dRec_boundBy_3 (k_Rec_costBy ho e et) rfl rfl (Nat.le_of_ble_eq_true rfl) rfl e (Nat.le_of_ble_eq_true rfl) (Nat.le_of_ble_eq_true rfl) (Nat.le_of_eq (Nat.zero_add _)) (Nat.le_of_eq (Nat.zero_add _)) (fun _ _ q => q.elim) ?_
  rintro _ _ ⟨rfl, rfl⟩
  refine z_imul dRec_boundBy_6 ?_
  refine z_aload_n dRec_boundBy_7 rfl ?_
  refine z_get (k := 2) fd_Rec (by decide) fl_Rec_29 dRec_boundBy_8 (by assumption) (by rfl) ?_
  refine z_isub dRec_boundBy_11 ?_
  refine z_aload_n dRec_boundBy_12 rfl ?_
  refine z_callVN MV_Row_inversions lk_Rec_55 dRec_boundBy_13 (k_Row_inversions ho) rfl rfl (Nat.le_of_ble_eq_true rfl) rfl eo (Nat.le_of_ble_eq_true rfl) (Nat.le_of_ble_eq_true rfl) (Nat.le_of_eq (Nat.zero_add _)) (Nat.le_of_eq (Nat.zero_add _)) (fun _ _ q => q.elim) ?_
  rintro _ _ ⟨rfl, rfl⟩
  refine z_iadd dRec_boundBy_16 ?_
  refine z_iret rfl rfl dRec_boundBy_17 ?_
  exact ⟨rfl, rfl⟩
theorem zCls.rc {K' A' : List Int} {x : Int} {T' : Nat → Int} (hC : zCls G h ad S) (e3 : h' (ad 3) = some (.inr (zkRec, [.ref (ad 18), .ref (ad 4), zi (A'.length : Int), zi x, zi (zLastOf A')]))) (e4 : h' (ad 4) = some (zInts G 8 T')) (d4 : ∀ k : Nat, k < 8 → T' k = (zCnt A' k : Int)) (hq : zRow G h' (ad 18) (ad 19) K') (hf : ∀ q, q ≠ ad 3 → q ≠ ad 4 → q ≠ ad 18 → q ≠ ad 19 → h' q = h q) : zCls G h' ad (S.1, S.2.1, K', A', zup S.2.2.2.2 0 x) := by
  obtain ⟨c1, c2, ⟨g3, c3, d3⟩, ⟨g4, c4, d4'⟩, c5, ⟨T, c6, d6⟩, c7, c8, ⟨R, c9⟩, c10⟩ := hC
  have ne : ∀ i j, i < 20 → j < 20 → i ≠ j → ad i ≠ ad j := fun i j hi hj hne e => hne (c1 i j hi hj e)
  have kp : ∀ i, i < 20 → i ≠ 3 → i ≠ 4 → i ≠ 18 → i ≠ 19 → h' (ad i) = h (ad i) := fun i hi h1 h2 h3 h4 => hf _ (ne _ _ hi (by omega) h1) (ne _ _ hi (by omega) h2) (ne _ _ hi (by omega) h3) (ne _ _ hi (by omega) h4)
  exact ⟨c1, (kp 0 (by omega) (by omega) (by omega) (by omega) (by omega)).trans c2, ⟨g3, (kp 1 (by omega) (by omega) (by omega) (by omega) (by omega)).trans c3, d3⟩, ⟨g4, (kp 2 (by omega) (by omega) (by omega) (by omega) (by omega)).trans c4, d4'⟩, e3, ⟨T', e4, d4⟩, fun c hc => (c7 c hc).kept (kp _ (by omega) (by omega) (by omega) (by omega) (by omega)), fun j hj => (c8 j hj).kept (kp _ (by omega) (by omega) (by omega) (by omega) (by omega)) (kp _ (by omega) (by omega) (by omega) (by omega) (by omega)), ⟨R, c9.kept (kp 16 (by omega) (by omega) (by omega) (by omega) (by omega)) (kp 17 (by omega) (by omega) (by omega) (by omega) (by omega))⟩, hq⟩
theorem zFrm.of4 (hf : ∀ q, q ≠ ad 3 → q ≠ ad 4 → q ≠ ad 18 → q ≠ ad 19 → h' q = h q) : zFrm ad h h' := fun q hq => hf q (hq 3 (by omega)) (hq 4 (by omega)) (hq 18 (by omega)) (hq 19 (by omega))
theorem zLastOf_app (A : List Int) (x : Int) : zLastOf (A ++ [x]) = x := by
  unfold zLastOf
  rw [if_neg (by simp)]
  simp
theorem zCnt_app (A : List Int) (x k : Int) : (zCnt (A ++ [x]) k : Int) = zCnt A k + (if k = x then 1 else 0) := by
  unfold zCnt
  by_cases e : k = x
  · subst e
    simp
  · simp [e, Ne.symm e]
end CLS4
