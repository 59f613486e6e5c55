section STR8
variable {G : zG} {l : Launch} {h h' h0 : zHp} {ad : Nat → Nat} {ma : Nat → Nat} {S : zSt} {th : Int}
/-- what isn't spoken of any more is forgotten -/
theorem z_weak {J : zJ} {bc bs pc : Nat} {h1 : zHp} {ls : List (Option Value)} {st : List Value} (hx : zExt h h1) (k : zR G l J bc bs h pc ls st) : zR G l J bc bs h1 pc ls st := fun p e s m args below meth c H locs cells slots ls0 C0 hP hS hL g1 g2 => k p e s m args below meth c H locs cells slots ls0 C0 (hP.mono hx) hS hL g1 g2
theorem z_sz5 (X : Int) : 1 ≤ zSz X ∧ zSz X ≤ 5 := by unfold zSz; (repeat' split) <;> omega
theorem l_Row_joined {mc ms : Nat} {Qn : Option Value → zHp → Prop} {Qx : String → zHp → Prop} {r a b : Nat} {L : List Int} {d : Int} (hr : zRow G h r a L) (hd : d = 0 ∨ d = 1)
    (K : ∀ bc bs (h1 : zHp) a1 cap n9 y, zSb G h h1 b a1 cap n9 → n9 ≤ 96 → cap ≤ 240 → 2 ≤ bc → 124 ≤ bs → zR G l (zMJ G hRow_joined 7 Qn Qx mc ms) bc bs h1 61 [some (.ref r), some (zi d), some (.ref b), y] []) :
    ∀ (n m bc bs : Nat) (h1 : zHp) (a1 cap n9 : Nat), L.length - m < n → m ≤ L.length → zSb G h h1 b a1 cap n9 → n9 ≤ 6 * m → cap ≤ 240 → 2 * (L.length - m) + 2 ≤ bc → 2 * (240 - cap) + 124 ≤ bs → zR G l (zMJ G hRow_joined 7 Qn Qx mc ms) bc bs h1 10 [some (.ref r), some (zi d), some (.ref b), some (zi (m : Int))] [] := by
  intro n
  induction n with
  | zero => intro m bc bs h1 a1 cap n9 x1 x2 B1 x3 x4 x5 x6; omega
  | succ n ih =>
  intro m bc bs h1 a1 cap n9 x1 x2 B1 x3 x4 x5 x6
  have hr0 := hr
  obtain ⟨fr, er, eitm, hlen, e4, e5⟩ := id hr
  obtain ⟨ml1, f1, eb1, ea1, hf1, hnc1, hba1, db1, da1, hx1⟩ := id B1
  have er1 := hx1 _ _ er
  have eitm1 := hx1 _ _ eitm
  have g1 := zGr_ok (cap := cap) (m := n9 + 1) (bs := bs - 124) (by omega) (by omega) (by omega)
  refine z_iload_n dRow_joined_10 rfl ?_
  refine z_aload_n dRow_joined_11 rfl ?_
  refine z_get (k := 1) fd_Row (by decide) fl_Row_15 dRow_joined_12 er1 rfl ?_
  refine z_icmp_ge (tgt := 61) dRow_joined_15 (by decide) (by omega) (by omega) (fun c15 => ?_) (fun c15 => ?_)
  · exact K bc bs h1 a1 cap n9 _ B1 (by omega) (by omega) (by omega) (by omega)
  · refine z_iload_n dRow_joined_18 rfl ?_
    refine z_if_le (tgt := 29) dRow_joined_19 (by decide) (by omega) (fun c19 => ?_) (fun c19 => ?_)
    · refine z_aload_n dRow_joined_29 rfl ?_
      refine z_aload_n dRow_joined_30 rfl ?_
      refine z_get (k := 0) fd_Row (by decide) fl_Row_9 dRow_joined_31 er1 rfl ?_
      refine z_iload_n dRow_joined_34 rfl ?_
      refine z_if_eq (tgt := 49) dRow_joined_35 (by decide) (by omega) (fun c35 => ?_) (fun c35 => ?_)
      · refine z_iload_n dRow_joined_49 rfl ?_
        refine z_iald dRow_joined_50 eitm1 (by refine ⟨?_, ?_, ?_⟩ <;> omega) ?_
        obtain ⟨X, hX, hin⟩ : ∃ X, fr ((m : Int)).toNat = X ∧ zIn X := ⟨_, rfl, by rw [e4 _ (by omega)]; exact e5 _ (by omega)⟩
        rw [hX]
        have hsz := z_sz5 X
        have g3 := zGr_ok (cap := cap) (m := n9 + zSz X) (bs := bs - 124) (by omega) (by omega) (by omega)
        refine z_callV (bc' := bc - 1) (bs' := bs - zGr cap (n9 + zSz X)) MV_Sbd_append_bf812 lk_Row_33 dRow_joined_51 (k_Sbd_appendI B1 hin (by omega) (by omega)) rfl rfl (Nat.le_of_ble_eq_true rfl) rfl (by assumption) (Nat.le_of_ble_eq_true rfl) (Nat.le_of_ble_eq_true rfl) (by omega) (by omega) (fun _ _ q => q.elim) ?_
        rintro _ h3 ⟨rfl, a3, B3⟩
        obtain ⟨ml3, f3, eb3, ea3, hf3, hnc3, hba3, db3, da3, hx3⟩ := id B3
        refine z_pop rfl dRow_joined_54 ?_
        refine z_iinc dRow_joined_55 rfl (Nat.le_of_ble_eq_true rfl) ?_
        refine z_goto (tgt := 10) dRow_joined_58 (by decide) ?_
        exact ih (m + 1) _ _ h3 a3 _ _ (by omega) (by omega) B3 (by omega) (by omega) (by omega) (by omega)
      · refine z_aload_n dRow_joined_38 rfl ?_
        refine z_get (k := 1) fd_Row (by decide) fl_Row_15 dRow_joined_39 er1 rfl ?_
        refine z_iconst dRow_joined_42 ?_
        refine z_isub dRow_joined_43 ?_
        refine z_iload_n dRow_joined_44 rfl ?_
        refine z_isub dRow_joined_45 ?_
        refine z_goto (tgt := 50) dRow_joined_46 (by decide) ?_
        refine z_iald dRow_joined_50 eitm1 (by refine ⟨?_, ?_, ?_⟩ <;> omega) ?_
        obtain ⟨X, hX, hin⟩ : ∃ X, fr ((L.length : Int) - 1 - (m : Int)).toNat = X ∧ zIn X := ⟨_, rfl, by rw [e4 _ (by omega)]; exact e5 _ (by omega)⟩
        rw [hX]
        have hsz := z_sz5 X
        have g3 := zGr_ok (cap := cap) (m := n9 + zSz X) (bs := bs - 124) (by omega) (by omega) (by omega)
        refine z_callV (bc' := bc - 1) (bs' := bs - zGr cap (n9 + zSz X)) MV_Sbd_append_bf812 lk_Row_33 dRow_joined_51 (k_Sbd_appendI B1 hin (by omega) (by omega)) rfl rfl (Nat.le_of_ble_eq_true rfl) rfl (by assumption) (Nat.le_of_ble_eq_true rfl) (Nat.le_of_ble_eq_true rfl) (by omega) (by omega) (fun _ _ q => q.elim) ?_
        rintro _ h3 ⟨rfl, a3, B3⟩
        obtain ⟨ml3, f3, eb3, ea3, hf3, hnc3, hba3, db3, da3, hx3⟩ := id B3
        refine z_pop rfl dRow_joined_54 ?_
        refine z_iinc dRow_joined_55 rfl (Nat.le_of_ble_eq_true rfl) ?_
        refine z_goto (tgt := 10) dRow_joined_58 (by decide) ?_
        exact ih (m + 1) _ _ h3 a3 _ _ (by omega) (by omega) B3 (by omega) (by omega) (by omega) (by omega)
    · refine z_aload_n dRow_joined_22 rfl ?_
      refine z_bipush dRow_joined_23 rfl ?_
      refine z_callV (bc' := bc - 1) (bs' := bs - zGr cap (n9 + 1)) MV_Sbd_append_cf468 lk_Row_29 dRow_joined_25 (k_Sbd_appendC B1 (by omega) (by omega)) rfl rfl (Nat.le_of_ble_eq_true rfl) rfl (by assumption) (Nat.le_of_ble_eq_true rfl) (Nat.le_of_ble_eq_true rfl) (by omega) (by omega) (fun _ _ q => q.elim) ?_
      rintro _ h2 ⟨rfl, a2, B2⟩
      obtain ⟨ml2, f2, eb2, ea2, hf2, hnc2, hba2, db2, da2, hx2⟩ := id B2
      have er2 := hx2 _ _ er
      have eitm2 := hx2 _ _ eitm
      refine z_pop rfl dRow_joined_28 ?_
      refine z_aload_n dRow_joined_29 rfl ?_
      refine z_aload_n dRow_joined_30 rfl ?_
      refine z_get (k := 0) fd_Row (by decide) fl_Row_9 dRow_joined_31 er2 rfl ?_
      refine z_iload_n dRow_joined_34 rfl ?_
      refine z_if_eq (tgt := 49) dRow_joined_35 (by decide) (by omega) (fun c35 => ?_) (fun c35 => ?_)
      · refine z_iload_n dRow_joined_49 rfl ?_
        refine z_iald dRow_joined_50 eitm2 (by refine ⟨?_, ?_, ?_⟩ <;> omega) ?_
        obtain ⟨X, hX, hin⟩ : ∃ X, fr ((m : Int)).toNat = X ∧ zIn X := ⟨_, rfl, by rw [e4 _ (by omega)]; exact e5 _ (by omega)⟩
        rw [hX]
        have hsz := z_sz5 X
        have g3 := zGr_ok (cap := (zCp cap (n9 + 1))) (m := (n9 + 1) + zSz X) (bs := (bs - zGr cap (n9 + 1)) - 124) (by omega) (by omega) (by omega)
        refine z_callV (bc' := bc - 2) (bs' := (bs - zGr cap (n9 + 1)) - zGr (zCp cap (n9 + 1)) ((n9 + 1) + zSz X)) MV_Sbd_append_bf812 lk_Row_33 dRow_joined_51 (k_Sbd_appendI B2 hin (by omega) (by omega)) rfl rfl (Nat.le_of_ble_eq_true rfl) rfl (by assumption) (Nat.le_of_ble_eq_true rfl) (Nat.le_of_ble_eq_true rfl) (by omega) (by omega) (fun _ _ q => q.elim) ?_
        rintro _ h3 ⟨rfl, a3, B3⟩
        obtain ⟨ml3, f3, eb3, ea3, hf3, hnc3, hba3, db3, da3, hx3⟩ := id B3
        refine z_pop rfl dRow_joined_54 ?_
        refine z_iinc dRow_joined_55 rfl (Nat.le_of_ble_eq_true rfl) ?_
        refine z_goto (tgt := 10) dRow_joined_58 (by decide) ?_
        exact ih (m + 1) _ _ h3 a3 _ _ (by omega) (by omega) B3 (by omega) (by omega) (by omega) (by omega)
      · refine z_aload_n dRow_joined_38 rfl ?_
        refine z_get (k := 1) fd_Row (by decide) fl_Row_15 dRow_joined_39 er2 rfl ?_
        refine z_iconst dRow_joined_42 ?_
        refine z_isub dRow_joined_43 ?_
        refine z_iload_n dRow_joined_44 rfl ?_
        refine z_isub dRow_joined_45 ?_
        refine z_goto (tgt := 50) dRow_joined_46 (by decide) ?_
        refine z_iald dRow_joined_50 eitm2 (by refine ⟨?_, ?_, ?_⟩ <;> omega) ?_
        obtain ⟨X, hX, hin⟩ : ∃ X, fr ((L.length : Int) - 1 - (m : Int)).toNat = X ∧ zIn X := ⟨_, rfl, by rw [e4 _ (by omega)]; exact e5 _ (by omega)⟩
        rw [hX]
        have hsz := z_sz5 X
        have g3 := zGr_ok (cap := (zCp cap (n9 + 1))) (m := (n9 + 1) + zSz X) (bs := (bs - zGr cap (n9 + 1)) - 124) (by omega) (by omega) (by omega)
        refine z_callV (bc' := bc - 2) (bs' := (bs - zGr cap (n9 + 1)) - zGr (zCp cap (n9 + 1)) ((n9 + 1) + zSz X)) MV_Sbd_append_bf812 lk_Row_33 dRow_joined_51 (k_Sbd_appendI B2 hin (by omega) (by omega)) rfl rfl (Nat.le_of_ble_eq_true rfl) rfl (by assumption) (Nat.le_of_ble_eq_true rfl) (Nat.le_of_ble_eq_true rfl) (by omega) (by omega) (fun _ _ q => q.elim) ?_
        rintro _ h3 ⟨rfl, a3, B3⟩
        obtain ⟨ml3, f3, eb3, ea3, hf3, hnc3, hba3, db3, da3, hx3⟩ := id B3
        refine z_pop rfl dRow_joined_54 ?_
        refine z_iinc dRow_joined_55 rfl (Nat.le_of_ble_eq_true rfl) ?_
        refine z_goto (tgt := 10) dRow_joined_58 (by decide) ?_
        exact ih (m + 1) _ _ h3 a3 _ _ (by omega) (by omega) B3 (by omega) (by omega) (by omega) (by omega)
theorem k_Row_joined {r a : Nat} {L : List Int} {d : Int} (hr : zRow G h r a L) (hd : d = 0 ∨ d = 1) : zM G l hRow_joined yRow_joined 7 [.ref r, zi d] h (fun v h' => (∃ s, v = some (.ref s)) ∧ h = h') zNo 36 600 := by
  obtain ⟨fr, er, eitm, hlen, e4, e5⟩ := id hr
  refine zM.of [some (.ref r), some (zi d), none, none] (by decide +kernel) rfl (by decide) rfl (Nat.le_of_ble_eq_true rfl) rfl ?_
  refine z_new (fs := [.null, zi 0, zi 0, zi 0]) (bc' := 35) (bs' := 596) fd_Sbd cl_Row_26 im_Sbd in_Sbd (by intro j hj; match j, hj with | 0, _ => rfl | 1, _ => rfl | 2, _ => rfl | 3, _ => rfl) dRow_joined_0 (by omega) (by omega) (fun b hb gb => ?_)
  refine z_hx (fun h1 p1 F1 => ?_)
  refine z_dup rfl dRow_joined_3 ?_
  refine z_callI (bc' := 34) (bs' := 580) MI_Sbd_init_da8c8 lk_Row_28 dRow_joined_4 (k_Sbd_init p1) rfl rfl (Nat.le_of_ble_eq_true rfl)  (Nat.le_of_ble_eq_true rfl) (Nat.le_of_ble_eq_true rfl) (by omega) (by omega) (fun _ _ q => q.elim) ?_
  rintro _ h2 ⟨rfl, a2, ha2, ga2, p2, q2, F2⟩
  have hba2 : b ≠ a2 := Nat.ne_of_lt (ha2 b _ p1)
  have x01 : zExt h h1 := fun z x hz => (F1 z (Nat.ne_of_lt (hb z x hz))).trans hz
  have B2 : zSb G h h2 b a2 16 0 := ⟨_, _, p2, q2, zFit_0, by omega, hba2, hb, ha2.dn x01, fun z x hz => (F2 z (Nat.ne_of_lt (hb z x hz)) (Nat.ne_of_lt (ha2 z x (x01 z x hz)))).trans (x01 z x hz)⟩
  refine z_astore_n dRow_joined_7 (Nat.le_of_ble_eq_true rfl) ?_
  refine z_iconst dRow_joined_8 ?_
  refine z_istore_n dRow_joined_9 (Nat.le_of_ble_eq_true rfl) ?_
  refine l_Row_joined (h := h) hr hd (fun bc bs h3 a3 cap n9 y B3 y1 y2 y3 y4 => ?_) (L.length + 1) 0 34 580 h2 a2 16 0 (by omega) (by omega) B2 (by omega) (by omega) (by omega) (by omega)
  obtain ⟨ml3, f3, eb3, ea3, hf3, hnc3, hba3, db3, da3, hx3⟩ := id B3
  refine z_aload_n dRow_joined_61 rfl ?_
  refine z_callV (bc' := bc - 2) (bs' := bs - (4 + n9)) MV_Sbd_toString_0e30d lk_Row_36 dRow_joined_62 (k_Sbd_toString B3 (by omega)) rfl rfl (Nat.le_of_ble_eq_true rfl) rfl (by assumption) (Nat.le_of_ble_eq_true rfl) (Nat.le_of_ble_eq_true rfl) (by omega) (by omega) (fun _ _ q => q.elim) ?_
  rintro _ h4 ⟨s9, rfl, S4, x4⟩
  refine z_weak (hx3.tr x4) ?_
  refine z_aret rfl (Or.inl ⟨_, rfl⟩) (Or.inr ⟨_, rfl⟩) dRow_joined_65 ?_
  exact ⟨⟨_, rfl⟩, rfl⟩
end STR8
