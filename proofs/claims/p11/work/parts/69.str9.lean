section STR9
variable {G : zG} {l : Launch} {h h' h0 : zHp} {ad : Nat → Nat} {ma : Nat → Nat} {S : zSt} {th : Int}
theorem k_Cls_text {p d : Int} (hC : zCls G h ad S) (hp : zI32 p) (hd : d = 0 ∨ d = 1) : zM G l hCls_text yCls_text 8 [.ref (ad 0), zi p, zi d] h (fun v h' => (∃ s, v = some (.ref s)) ∧ (0 ≤ p ∧ p < 4) ∧ h = h') (fun E h' => E = zE1 ∧ ¬ (0 ≤ p ∧ p < 4) ∧ h = h') 37 606 := by
  obtain ⟨c1, c2, ⟨g3, c3, d3⟩, ⟨g4, c4, d4⟩, c5, ⟨T6, c6, d6⟩, c7, c8, ⟨R9, c9⟩, c10⟩ := id hC
  refine zM.of [some (.ref (ad 0)), some (zi p), some (zi d)] (by decide +kernel) rfl (by decide) rfl (Nat.le_of_ble_eq_true rfl) rfl ?_
  refine z_aload_n dCls_text_0 rfl ?_
  refine z_iload_n dCls_text_1 rfl ?_
  refine z_callV (bc' := 36) (bs' := 600) MV_Cls_listAt lk_Cls_34 dCls_text_2 (k_Cls_listAt hC (by omega)) rfl rfl (Nat.le_of_ble_eq_true rfl) rfl (by assumption) (Nat.le_of_ble_eq_true rfl) (Nat.le_of_ble_eq_true rfl) (by decide) (by decide) (fun E h9 q9 => z_out rfl q9) ?_
  rintro _ _ ⟨rfl, k1, k2, rfl⟩
  obtain ⟨k, rfl⟩ := Int.eq_ofNat_of_zero_le k1
  rw [Int.toNat_natCast]
  refine z_iload_n dCls_text_5 rfl ?_
  refine z_callVN (bc' := 0) (bs' := 0) MV_Row_joined lk_Cls_94 dCls_text_6 (k_Row_joined (hC.ls (show k < 4 by omega)) hd) rfl rfl (Nat.le_of_ble_eq_true rfl) rfl (hC.ls (show k < 4 by omega)).choose_spec.1 (Nat.le_of_ble_eq_true rfl) (Nat.le_of_ble_eq_true rfl) (by decide) (by decide) (fun _ _ q => q.elim) ?_
  rintro _ _ ⟨⟨s9, rfl⟩, rfl⟩
  refine z_aret rfl (Or.inl ⟨_, rfl⟩) (Or.inr ⟨_, rfl⟩) dCls_text_9 ?_
  exact ⟨⟨_, rfl⟩, ⟨k1, k2⟩, rfl⟩
theorem k_Cls_recent (hC : zCls G h ad S) : zM G l hCls_recent yCls_recent 8 [.ref (ad 0)] h (fun v h' => (∃ s, v = some (.ref s)) ∧ h = h') zNo 36 600 := by
  obtain ⟨c1, c2, ⟨g3, c3, d3⟩, ⟨g4, c4, d4⟩, c5, ⟨T6, c6, d6⟩, c7, c8, ⟨R9, c9⟩, c10⟩ := id hC
  refine zM.of [some (.ref (ad 0))] (by decide +kernel) rfl (by decide) rfl (Nat.le_of_ble_eq_true rfl) rfl ?_
  refine z_aload_n dCls_recent_0 rfl ?_
  refine z_get (k := 2) fd_Cls (by decide) fl_Cls_24 dCls_recent_1 (by assumption) (by rfl) ?_
  refine z_getN (k := 0) fd_Rec (by decide) fl_Cls_234 dCls_recent_4 (by assumption) (by rfl) ?_
  refine z_iconst dCls_recent_7 ?_
  refine z_callVN (bc' := 0) (bs' := 0) MV_Row_joined lk_Cls_94 dCls_recent_8 (k_Row_joined c10 (Or.inl rfl)) rfl rfl (Nat.le_of_ble_eq_true rfl) rfl c10.choose_spec.1 (Nat.le_of_ble_eq_true rfl) (Nat.le_of_ble_eq_true rfl) (by decide) (by decide) (fun _ _ q => q.elim) ?_
  rintro _ _ ⟨⟨s9, rfl⟩, rfl⟩
  refine z_aret rfl (Or.inl ⟨_, rfl⟩) (Or.inr ⟨_, rfl⟩) dCls_recent_11 ?_
  exact ⟨⟨_, rfl⟩, rfl⟩
theorem zREm : ∀ U H, zS G U H → vk_R RMod 53 "" (G.2.1 7) U := fun _ _ hZ => (hZ.sj.2.2.2.2.1.choose_spec.1)
theorem zRBm : ∀ U H, zS G U H → vk_R RMod 68 " " (G.2.1 9) U := fun _ _ hZ => (hZ.sj.2.2.2.2.2.1.choose_spec.1)
theorem l_Mod_told {mc ms : Nat} {Qn : Option Value → zHp → Prop} {Qx : String → zHp → Prop} {a : Nat} {L : List Int} (hr : zAr G h a L) (h16 : L.length ≤ 16)
    (K : ∀ bc bs (h1 : zHp) q y9 y, zExt h h1 → zR G l (zMJ G hMod_told 7 Qn Qx mc ms) bc bs h1 66 [some (.ref a), some (.ref q), some (.ref a), some (zi (L.length : Int)), y9, y] []) :
    ∀ (n m bc bs : Nat) (h1 : zHp) (q n9 : Nat) (y : Option Value), L.length - m < n → m ≤ L.length → zSr G h1 q n9 → n9 ≤ 6 * m → 7 * (L.length - m) ≤ bc → 584 * (L.length - m) ≤ bs → zExt h h1 → zR G l (zMJ G hMod_told 7 Qn Qx mc ms) bc bs h1 11 [some (.ref a), some (.ref q), some (.ref a), some (zi (L.length : Int)), some (zi (m : Int)), y] [] := by
  intro n
  induction n with
  | zero => intro m bc bs h1 q n9 y x1 x2 T1 x3 x4 x5 hx; omega
  | succ n ih =>
  intro m bc bs h1 q n9 y x1 x2 T1 x3 x4 x5 hx
  obtain ⟨fr, er, e3, e4, e5⟩ := id hr
  have er1 := hx _ _ er
  refine z_iload dMod_told_11 rfl ?_
  refine z_iload_n dMod_told_13 rfl ?_
  refine z_icmp_ge (tgt := 66) dMod_told_14 (by decide) (by omega) (by omega) (fun c14 => ?_) (fun c14 => ?_)
  · exact K bc bs h1 q _ _ hx
  · refine z_aload_n dMod_told_17 rfl ?_
    refine z_iload dMod_told_18 rfl ?_
    refine z_iald dMod_told_20 er1 (by refine ⟨?_, ?_, ?_⟩ <;> omega) ?_
    obtain ⟨X, hX, hin⟩ : ∃ X, fr ((m : Int)).toNat = X ∧ zIn X := ⟨_, rfl, by rw [e4 _ (by omega)]; exact e5 _ (by omega)⟩
    rw [hX]
    have hsz := z_sz5 X
    refine z_istore dMod_told_21 (Nat.le_of_ble_eq_true rfl) ?_
    refine z_new (fs := [.null, zi 0, zi 0, zi 0]) (bc' := bc - 1) (bs' := bs - 4) fd_Sbd cl_Mod_55 im_Sbd in_Sbd (by intro j hj; match j, hj with | 0, _ => rfl | 1, _ => rfl | 2, _ => rfl | 3, _ => rfl) dMod_told_23 (by omega) (by omega) (fun b hb gb => ?_)
    refine z_hx (fun h2 p1 F1 => ?_)
    refine z_dup rfl dMod_told_26 ?_
    refine z_callI (bc' := bc - 2) (bs' := bs - 20) MI_Sbd_init_da8c8 lk_Mod_57 dMod_told_27 (k_Sbd_init p1) rfl rfl (Nat.le_of_ble_eq_true rfl)  (Nat.le_of_ble_eq_true rfl) (Nat.le_of_ble_eq_true rfl) (by omega) (by omega) (fun _ _ q => q.elim) ?_
    rintro _ h3 ⟨rfl, a2, ha2, ga2, p2, q2, F2⟩
    have hba2 : b ≠ a2 := Nat.ne_of_lt (ha2 b _ p1)
    have x01 : zExt h1 h2 := fun z x hz => (F1 z (Nat.ne_of_lt (hb z x hz))).trans hz
    have B2 : zSb G h1 h3 b a2 16 0 := ⟨_, _, p2, q2, zFit_0, by omega, hba2, hb, ha2.dn x01, fun z x hz => (F2 z (Nat.ne_of_lt (hb z x hz)) (Nat.ne_of_lt (ha2 z x (x01 z x hz)))).trans (x01 z x hz)⟩
    have g1 := zGr_ok (cap := 16) (m := 0 + n9) (bs := 448) (by omega) (by omega) (by omega)
    refine z_aload_n dMod_told_30 rfl ?_
    refine z_callV (bc' := bc - 3) (bs' := bs - 20 - zGr 16 (0 + n9)) MV_Sbd_append_15ec4 lk_Mod_58 dMod_told_31 (k_Sbd_appendS B2 T1 (by omega) (by omega)) rfl rfl (Nat.le_of_ble_eq_true rfl) rfl (by assumption) (Nat.le_of_ble_eq_true rfl) (Nat.le_of_ble_eq_true rfl) (by omega) (by omega) (fun _ _ q => q.elim) ?_
    rintro _ h4 ⟨rfl, a3, B3⟩
    obtain ⟨ml3, f3, eb3, ea3, hf3, hnc3, hba3, db3, da3, hx3⟩ := id B3
    refine z_aload_n dMod_told_34 rfl ?_
    refine z_callVR MV_Str_length_8abf5 lk_Mod_62 dMod_told_35 (k_Str_length (T1.ext hx3)) rfl rfl (Nat.le_of_ble_eq_true rfl) (T1.ext hx3).recv (Nat.le_of_ble_eq_true rfl) (Nat.le_of_ble_eq_true rfl) (Nat.le_of_eq (Nat.zero_add _)) (Nat.le_of_eq (Nat.zero_add _)) (fun _ _ q => q.elim) ?_
    rintro _ _ ⟨rfl, rfl⟩
    refine z_if_ne (tgt := 46) dMod_told_38 (by decide) (by omega) (fun c38 => ?_) (fun c38 => ?_)
    · refine z_ldcT (q := G.2.1 9) zRBm dMod_told_46 ?_
      have g2 := zGr_ok (cap := zCp 16 (0 + n9)) (m := 0 + n9 + 1) (bs := 448 - zGr 16 (0 + n9)) (by omega) (by omega) (by omega)
      refine z_callV (bc' := bc - 4) (bs' := bs - 20 - zGr 16 (0 + n9) - zGr (zCp 16 (0 + n9)) (0 + n9 + 1)) MV_Sbd_append_15ec4 lk_Mod_58 dMod_told_48 (k_Sbd_appendS (w := 1) B3 (Or.inl ⟨false, rfl, rfl⟩) (by omega) (by omega)) rfl rfl (Nat.le_of_ble_eq_true rfl) rfl (by assumption) (Nat.le_of_ble_eq_true rfl) (Nat.le_of_ble_eq_true rfl) (by omega) (by omega) (fun _ _ q => q.elim) ?_
      rintro _ h5 ⟨rfl, a4, B4⟩
      obtain ⟨ml4, f4, eb4, ea4, hf4, hnc4, hba4, db4, da4, hx4⟩ := id B4
      have g3 := zGr_ok (cap := zCp (zCp 16 (0 + n9)) (0 + n9 + 1)) (m := 0 + n9 + 1 + zSz X) (bs := 448 - zGr 16 (0 + n9) - zGr (zCp 16 (0 + n9)) (0 + n9 + 1)) (by omega) (by omega) (by omega)
      refine z_iload dMod_told_51 rfl ?_
      refine z_callV (bc' := bc - 5) (bs' := bs - 20 - zGr 16 (0 + n9) - zGr (zCp 16 (0 + n9)) (0 + n9 + 1) - zGr (zCp (zCp 16 (0 + n9)) (0 + n9 + 1)) (0 + n9 + 1 + zSz X)) MV_Sbd_append_bf812 lk_Mod_70 dMod_told_53 (k_Sbd_appendI B4 hin (by omega) (by omega)) rfl rfl (Nat.le_of_ble_eq_true rfl) rfl (by assumption) (Nat.le_of_ble_eq_true rfl) (Nat.le_of_ble_eq_true rfl) (by omega) (by omega) (fun _ _ q => q.elim) ?_
      rintro _ h6 ⟨rfl, a5, B5⟩
      obtain ⟨ml5, f5, eb5, ea5, hf5, hnc5, hba5, db5, da5, hx5⟩ := id B5
      refine z_callV (bc' := bc - 7) (bs' := bs - 584) MV_Sbd_toString_0e30d lk_Mod_73 dMod_told_56 (k_Sbd_toString B5 (by omega)) rfl rfl (Nat.le_of_ble_eq_true rfl) rfl (by assumption) (Nat.le_of_ble_eq_true rfl) (Nat.le_of_ble_eq_true rfl) (by omega) (by omega) (fun _ _ q => q.elim) ?_
      rintro _ h7 ⟨s9, rfl, T7, x7⟩
      refine z_astore_n dMod_told_59 (Nat.le_of_ble_eq_true rfl) ?_
      refine z_iinc dMod_told_60 rfl (Nat.le_of_ble_eq_true rfl) ?_
      refine z_goto (tgt := 11) dMod_told_63 (by decide) ?_
      exact ih (m + 1) _ _ h7 _ (0 + n9 + 1 + zSz X) _ (by omega) (by omega) T7 (by omega) (by omega) (by omega) (hx5.tr x7 |> fun z => hx.tr z)
    · refine z_ldcT (q := G.2.1 7) zREm dMod_told_41 ?_
      refine z_goto (tgt := 48) dMod_told_43 (by decide) ?_
      have g2 := zGr_ok (cap := zCp 16 (0 + n9)) (m := 0 + n9 + 0) (bs := 448 - zGr 16 (0 + n9)) (by omega) (by omega) (by omega)
      refine z_callV (bc' := bc - 4) (bs' := bs - 20 - zGr 16 (0 + n9) - zGr (zCp 16 (0 + n9)) (0 + n9 + 0)) MV_Sbd_append_15ec4 lk_Mod_58 dMod_told_48 (k_Sbd_appendS (w := 0) B3 (Or.inl ⟨true, rfl, rfl⟩) (by omega) (by omega)) rfl rfl (Nat.le_of_ble_eq_true rfl) rfl (by assumption) (Nat.le_of_ble_eq_true rfl) (Nat.le_of_ble_eq_true rfl) (by omega) (by omega) (fun _ _ q => q.elim) ?_
      rintro _ h5 ⟨rfl, a4, B4⟩
      obtain ⟨ml4, f4, eb4, ea4, hf4, hnc4, hba4, db4, da4, hx4⟩ := id B4
      have g3 := zGr_ok (cap := zCp (zCp 16 (0 + n9)) (0 + n9 + 0)) (m := 0 + n9 + 0 + zSz X) (bs := 448 - zGr 16 (0 + n9) - zGr (zCp 16 (0 + n9)) (0 + n9 + 0)) (by omega) (by omega) (by omega)
      refine z_iload dMod_told_51 rfl ?_
      refine z_callV (bc' := bc - 5) (bs' := bs - 20 - zGr 16 (0 + n9) - zGr (zCp 16 (0 + n9)) (0 + n9 + 0) - zGr (zCp (zCp 16 (0 + n9)) (0 + n9 + 0)) (0 + n9 + 0 + zSz X)) MV_Sbd_append_bf812 lk_Mod_70 dMod_told_53 (k_Sbd_appendI B4 hin (by omega) (by omega)) rfl rfl (Nat.le_of_ble_eq_true rfl) rfl (by assumption) (Nat.le_of_ble_eq_true rfl) (Nat.le_of_ble_eq_true rfl) (by omega) (by omega) (fun _ _ q => q.elim) ?_
      rintro _ h6 ⟨rfl, a5, B5⟩
      obtain ⟨ml5, f5, eb5, ea5, hf5, hnc5, hba5, db5, da5, hx5⟩ := id B5
      refine z_callV (bc' := bc - 7) (bs' := bs - 584) MV_Sbd_toString_0e30d lk_Mod_73 dMod_told_56 (k_Sbd_toString B5 (by omega)) rfl rfl (Nat.le_of_ble_eq_true rfl) rfl (by assumption) (Nat.le_of_ble_eq_true rfl) (Nat.le_of_ble_eq_true rfl) (by omega) (by omega) (fun _ _ q => q.elim) ?_
      rintro _ h7 ⟨s9, rfl, T7, x7⟩
      refine z_astore_n dMod_told_59 (Nat.le_of_ble_eq_true rfl) ?_
      refine z_iinc dMod_told_60 rfl (Nat.le_of_ble_eq_true rfl) ?_
      refine z_goto (tgt := 11) dMod_told_63 (by decide) ?_
      exact ih (m + 1) _ _ h7 _ (0 + n9 + 0 + zSz X) _ (by omega) (by omega) T7 (by omega) (by omega) (by omega) (hx5.tr x7 |> fun z => hx.tr z)
theorem k_Mod_told {a : Nat} {L : List Int} (hr : zAr G h a L) (h16 : L.length ≤ 16) : zM G l hMod_told yMod_told 7 [.ref a] h (fun v h' => (∃ s, v = some (.ref s)) ∧ h = h') zNo 112 9344 := by
  obtain ⟨fr, er, e3, e4, e5⟩ := id hr
  refine zM.of [some (.ref a), none, none, none, none, none] (by decide +kernel) rfl (by decide) rfl (Nat.le_of_ble_eq_true rfl) rfl ?_
  refine z_ldcT (q := G.2.1 7) zREm dMod_told_0 ?_
  refine z_astore_n dMod_told_2 (Nat.le_of_ble_eq_true rfl) ?_
  refine z_aload_n dMod_told_3 rfl ?_
  refine z_astore_n dMod_told_4 (Nat.le_of_ble_eq_true rfl) ?_
  refine z_aload_n dMod_told_5 rfl ?_
  refine z_alenI dMod_told_6 er ?_
  refine z_istore_n dMod_told_7 (Nat.le_of_ble_eq_true rfl) ?_
  refine z_iconst dMod_told_8 ?_
  refine z_istore dMod_told_9 (Nat.le_of_ble_eq_true rfl) ?_
  refine l_Mod_told (h := h) hr h16 (fun bc bs h3 q y9 y hx3 => ?_) (L.length + 1) 0 112 9344 h (G.2.1 7) 0 _ (by omega) (by omega) (Or.inl ⟨true, rfl, rfl⟩) (by omega) (by omega) (by omega) zExt.rf
  refine z_aload_n dMod_told_66 rfl ?_
  refine z_weak hx3 ?_
  refine z_aret rfl (Or.inl ⟨_, rfl⟩) (Or.inr ⟨_, rfl⟩) dMod_told_67 ?_
  exact ⟨⟨_, rfl⟩, rfl⟩
theorem k_Mod_text {p d : Int} (H : zMod G h ma S th) (z_p : zI32 p) (hd : d = 0 ∨ d = 1) (h16 : ∀ k, k < 4 → (S.1 k).length ≤ 16) : zM G l hMod_text yMod_text 8 [.ref (ma 0), zi p, zi d] h (fun v h' => (∃ s, v = some (.ref s)) ∧ ∃ t, zMod G h' ma S t ∧ zMfr ma h h' ∧ ((t = 0 ∧ (0 ≤ p ∧ p ≤ 3)) ∨ (t = 1 ∧ ¬ (0 ≤ p ∧ p ≤ 3)))) zNo 113 9405 := by
  obtain ⟨m1, m2, ⟨g, m3, m3a⟩, m4, ⟨f6, m5, m5a⟩, m6, m7⟩ := id H
  unfold zMfs at m2
  refine zM.of [some (.ref (ma 0)), some (zi p), some (zi d)] (by decide +kernel) rfl (by decide) rfl (Nat.le_of_ble_eq_true rfl) rfl ?_
  refine z_aload_n dMod_text_0 rfl ?_
  refine z_iload_n dMod_text_1 rfl ?_
  refine z_callS MS_Mod_isNo lk_Mod_81 dMod_text_2 (k_Mod_isNo (by omega)) rfl rfl (Nat.le_of_ble_eq_true rfl)  (Nat.le_of_ble_eq_true rfl) (Nat.le_of_ble_eq_true rfl) (Nat.le_of_eq (Nat.zero_add _)) (Nat.le_of_eq (Nat.zero_add _)) (fun _ _ q => q.elim) ?_
  rintro _ _ ⟨n9, rfl, hn9, rfl⟩
  refine z_iconst dMod_text_5 ?_
  refine z_iconst dMod_text_6 ?_
  refine z_callV MV_Mod_fails lk_Mod_88 dMod_text_7 (k_Mod_fails (by assumption) rfl (by omega) (by omega) (by omega)) rfl rfl (Nat.le_of_ble_eq_true rfl) rfl (by assumption) (Nat.le_of_ble_eq_true rfl) (Nat.le_of_ble_eq_true rfl) (Nat.le_of_eq (Nat.zero_add _)) (Nat.le_of_eq (Nat.zero_add _)) (fun _ _ q => q.elim) ?_
  rintro _ h1 ⟨t9, b8, rfl, ht, p1, g1⟩
  have H1 : zMod G h1 ma S t9 := H.obj (nu := S.2.2.2.2) (th' := t9) p1 g1
  have fz1 : zMfr ma h h1 := zMfr.of0 g1
  obtain ⟨-, n2, ⟨gg, n3, n3a⟩, n4, ⟨f61, n5, n5a⟩, n6, n7⟩ := id H1
  unfold zMfs at n2
  refine z_if_eq (tgt := 18) dMod_text_10 (by decide) (by omega) (fun c10 => ?_) (fun c10 => ?_)
  · obtain ⟨k, rfl⟩ := Int.eq_ofNat_of_zero_le (show 0 ≤ p by omega)
    obtain ⟨frk, rk1, rk2, rk3, rk4⟩ := id (n6 k (by omega))
    have h16k := h16 k (by omega)
    have ezk : ∀ i : Int, 0 ≤ i → i < ((S.1 k).length : Int) → frk i.toNat = zAt (S.1 k) i := fun i x1 x2 => by rw [rk3 _ (by omega), zAt_eq x1 x2]
    refine z_iload_n dMod_text_18 rfl ?_
    refine z_if_eq (tgt := 34) dMod_text_19 (by decide) (by omega) (fun c19 => ?_) (fun c19 => ?_)
    · refine z_aload_n dMod_text_34 rfl ?_
      refine z_get (k := 0) fd_Mod (by decide) fl_Mod_11 dMod_text_35 (by assumption) (by rfl) ?_
      refine z_iload_n dMod_text_38 rfl ?_
      refine z_aald (t := 4) (ty := .array .int) rfl rfl dMod_text_39 n3 (by refine ⟨?_, ?_, ?_⟩ <;> omega) ?_
      rw [show (k : Int).toNat = k from rfl, n3a k (by omega)]
      refine z_callS (bc' := 1) (bs' := 61) MS_Mod_told lk_Mod_118 dMod_text_40 (k_Mod_told (n6 k (by omega)) (by omega)) rfl rfl (Nat.le_of_ble_eq_true rfl)  (Nat.le_of_ble_eq_true rfl) (Nat.le_of_ble_eq_true rfl) (by decide) (by decide) (fun _ _ q => q.elim) ?_
      rintro _ _ ⟨⟨s9, rfl⟩, rfl⟩
      refine z_aret rfl (Or.inl ⟨_, rfl⟩) (Or.inr ⟨_, rfl⟩) dMod_text_43 ?_
      exact ⟨⟨_, rfl⟩, t9, H1, fz1, by omega⟩
    · refine z_aload_n dMod_text_22 rfl ?_
      refine z_get (k := 0) fd_Mod (by decide) fl_Mod_11 dMod_text_23 (by assumption) (by rfl) ?_
      refine z_iload_n dMod_text_26 rfl ?_
      refine z_aald (t := 4) (ty := .array .int) rfl rfl dMod_text_27 n3 (by refine ⟨?_, ?_, ?_⟩ <;> omega) ?_
      rw [show (k : Int).toNat = k from rfl, n3a k (by omega)]
      refine z_callS (bc' := 112) (bs' := 9344) MS_Mod_turned lk_Mod_114 dMod_text_28 (k_Mod_turned (n6 k (by omega)) (by omega)) rfl rfl (Nat.le_of_ble_eq_true rfl)  (Nat.le_of_ble_eq_true rfl) (Nat.le_of_ble_eq_true rfl) (by decide) (by decide) (fun _ _ q => q.elim) ?_
      rintro _ h2 ⟨q2, rfl, hq2, gq2, r2, F2⟩
      have x12 : zExt h1 h2 := fun z x hz => (F2 z (Nat.ne_of_lt (hq2 z x hz))).trans hz
      have H2 : zMod G h2 ma S t9 := H1.ext x12
      have fz2 : zMfr ma h h2 := fz1.tr (zMfr.ext x12)
      refine z_goto (tgt := 40) dMod_text_31 (by decide) ?_
      refine z_callS (bc' := 0) (bs' := 0) MS_Mod_told lk_Mod_118 dMod_text_40 (k_Mod_told r2 (by rw [zRev_len]; omega)) rfl rfl (Nat.le_of_ble_eq_true rfl)  (Nat.le_of_ble_eq_true rfl) (Nat.le_of_ble_eq_true rfl) (by decide) (by decide) (fun _ _ q => q.elim) ?_
      rintro _ _ ⟨⟨s9, rfl⟩, rfl⟩
      refine z_aret rfl (Or.inl ⟨_, rfl⟩) (Or.inr ⟨_, rfl⟩) dMod_text_43 ?_
      exact ⟨⟨_, rfl⟩, t9, H2, fz2, by omega⟩
  · refine z_ldcT (q := G.2.1 7) zREm dMod_text_13 ?_
    refine z_goto (tgt := 43) dMod_text_15 (by decide) ?_
    refine z_aret rfl (Or.inl ⟨_, rfl⟩) (Or.inr ⟨_, rfl⟩) dMod_text_43 ?_
    exact ⟨⟨_, rfl⟩, t9, H1, fz1, by omega⟩
theorem k_Mod_recent (H : zMod G h ma S th) (hO : zOk S) : zM G l hMod_recent yMod_recent 8 [.ref (ma 0)] h (fun v h' => (∃ s, v = some (.ref s)) ∧ zMod G h' ma S 0 ∧ zMfr ma h h') zNo 112 9344 := by
  obtain ⟨m1, m2, ⟨g, m3, m3a⟩, m4, ⟨f6, m5, m5a⟩, m6, m7⟩ := id H
  unfold zMfs at m2
  refine zM.of [some (.ref (ma 0))] (by decide +kernel) rfl (by decide) rfl (Nat.le_of_ble_eq_true rfl) rfl ?_
  refine z_aload_n dMod_recent_0 rfl ?_
  refine z_iconst dMod_recent_1 ?_
  refine z_put (k := 12) fd_Mod (by decide) fl_Mod_37 rfl dMod_recent_2 (by assumption) (by simp) rfl rfl ?_
  refine z_hx (fun h1 p1 f1 => ?_)
  have H1 : zMod G h1 ma S 0 := H.obj (nu := S.2.2.2.2) p1 f1
  have fz1 : zMfr ma h h1 := zMfr.of0 f1
  obtain ⟨-, u2, ⟨ug, u3, u3a⟩, -, -, u6, rk⟩ := id H1
  unfold zMfs at u2
  refine z_aload_n dMod_recent_5 rfl ?_
  refine z_get (k := 6) fd_Mod (by decide) fl_Mod_31 dMod_recent_6 (by assumption) (by rfl) ?_
  refine z_callS (bc' := 0) (bs' := 0) MS_Mod_told lk_Mod_118 dMod_recent_9 (k_Mod_told rk (by have := hO.2.2.1; omega)) rfl rfl (Nat.le_of_ble_eq_true rfl)  (Nat.le_of_ble_eq_true rfl) (Nat.le_of_ble_eq_true rfl) (by decide) (by decide) (fun _ _ q => q.elim) ?_
  rintro _ _ ⟨⟨s9, rfl⟩, rfl⟩
  refine z_aret rfl (Or.inl ⟨_, rfl⟩) (Or.inr ⟨_, rfl⟩) dMod_recent_12 ?_
  exact ⟨⟨_, rfl⟩, H1, fz1⟩
end STR9
