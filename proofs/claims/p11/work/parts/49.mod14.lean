section MOD14
variable {G : zG} {l : Launch} {h h' h'' : zHp} {ma : Nat → Nat} {S : zSt} {th : Int}
theorem zMod.cus {cu' : Nat → Nat → Int} (H : zMod G h ma S th) (hc : zMcu G h' ma cu') (hf : ∀ i, i < 13 → (i < 2 ∨ 6 < i) → h' (ma i) = h (ma i)) : zMod G h' ma (zsC S cu') th := by
  obtain ⟨m1, m2, ⟨g, m3, m3'⟩, -, ⟨f6, m5, m5'⟩, m6, m7⟩ := id H
  exact ⟨m1, (hf 0 (by omega) (by omega)).trans m2, ⟨g, (hf 1 (by omega) (by omega)).trans m3, m3'⟩, hc, ⟨f6, (hf 7 (by omega) (by omega)).trans m5, m5'⟩, fun k hk => (m6 k hk).kept (hf _ (by omega) (by omega)), m7.kept (hf 12 (by omega) (by omega))⟩
theorem zMcu.up {cu : Nat → Nat → Int} {c : Nat} {f1 f2 f3 f4 f5 g1 g2 g3 g4 g5 : Nat → Int} {t9 st li ix la : Int}
    (b1 : ∀ c, c < 3 → f1 c = cu c 0 ∧ (cu c 0 = 0 ∨ cu c 0 = 1)) (b2 : ∀ c, c < 3 → (f2 c = 0 ∨ f2 c = 1) ∧ (cu c 0 = 1 → f2 c = cu c 1)) (b3 : ∀ c, c < 3 → zI32 (f3 c) ∧ (cu c 0 = 1 → f3 c = cu c 2)) (b4 : ∀ c, c < 3 → zI32 (f4 c) ∧ (cu c 0 = 1 → f4 c = cu c 3)) (b5 : ∀ c, c < 3 → zI32 (f5 c) ∧ (cu c 0 = 1 → f5 c = cu c 4))
    (a1 : h' (ma 2) = some (zBools G 3 g1)) (a2 : h' (ma 3) = some (zBools G 3 g2)) (a3 : h' (ma 4) = some (zInts G 3 g3)) (a4 : h' (ma 5) = some (zInts G 3 g4)) (a5 : h' (ma 6) = some (zInts G 3 g5))
    (u1 : ∀ j, j ≠ c → g1 j = f1 j) (u2 : ∀ j, j ≠ c → g2 j = f2 j) (u3 : ∀ j, j ≠ c → g3 j = f3 j) (u4 : ∀ j, j ≠ c → g4 j = f4 j) (u5 : ∀ j, j ≠ c → g5 j = f5 j)
    (w1 : g1 c = t9 ∧ (t9 = 0 ∨ t9 = 1)) (w2 : (g2 c = 0 ∨ g2 c = 1) ∧ (t9 = 1 → g2 c = st)) (w3 : zI32 (g3 c) ∧ (t9 = 1 → g3 c = li)) (w4 : zI32 (g4 c) ∧ (t9 = 1 → g4 c = ix)) (w5 : zI32 (g5 c) ∧ (t9 = 1 → g5 c = la)) : zMcu G h' ma (zup cu c (zCv t9 st li ix la)) := by
  refine ⟨⟨g1, a1, fun j hj => ?_⟩, ⟨g2, a2, fun j hj => ?_⟩, ⟨g3, a3, fun j hj => ?_⟩, ⟨g4, a4, fun j hj => ?_⟩, ⟨g5, a5, fun j hj => ?_⟩⟩
  all_goals by_cases e : j = c
  · subst e; rw [zup_same]; exact w1
  · rw [zup_ne e, u1 j e]; exact b1 j hj
  · subst e; rw [zup_same]; exact w2
  · rw [zup_ne e, u2 j e]; exact b2 j hj
  · subst e; rw [zup_same]; exact w3
  · rw [zup_ne e, u3 j e]; exact b3 j hj
  · subst e; rw [zup_same]; exact w4
  · rw [zup_ne e, u4 j e]; exact b4 j hj
  · subst e; rw [zup_same]; exact w5
  · rw [zup_ne e, u5 j e]; exact b5 j hj
theorem zup_w {f : Nat → Int} {c : Nat} {x y t : Int} (hx : zI32 x) (e : x = y) : zI32 (zup f c x c) ∧ (t = 1 → zup f c x c = y) := by
  rw [zup_same]
  exact ⟨hx, fun _ => e⟩
theorem zup_u {f : Nat → Int} {c : Nat} {x : Int} : ∀ j, j ≠ c → zup f c x j = f j := fun _ hj => zup_ne hj
theorem zid_u {f : Nat → Int} {c : Nat} : ∀ j, j ≠ c → f j = f j := fun _ _ => rfl
theorem k_Mod_isNotThere {p : Int} (H : zMod G h ma S th) (hp : zI32 p) : zM G l hMod_isNotThere yMod_isNotThere 3 [.ref (ma 0), zi p] h (fun v h' => ∃ b9 : Int, v = some (zi b9) ∧ ((b9 = 1 ∧ ((0 ≤ p ∧ p < 3) ∧ ¬ S.2.1 p.toNat 0 = 1)) ∨ (b9 = 0 ∧ ¬ ((0 ≤ p ∧ p < 3) ∧ ¬ S.2.1 p.toNat 0 = 1))) ∧ h = h') zNo 0 0 := by
  obtain ⟨m1, m2, ⟨g, m3, m3a⟩, m4, ⟨f6, m5, m5a⟩, m6, m7⟩ := id H
  unfold zMfs at m2
  obtain ⟨⟨v1, a1, b1⟩, ⟨v2, a2, b2⟩, ⟨v3, a3, b3⟩, ⟨v4, a4, b4⟩, ⟨v5, a5, b5⟩⟩ := id m4
  refine zM.of [some (.ref (ma 0)), some (zi p)] (by decide +kernel) rfl (by decide) rfl (Nat.le_of_ble_eq_true rfl) rfl ?_
  refine z_iload_n dMod_isNotThere_0 rfl ?_
  refine z_callS MS_Mod_isNoCursor lk_Mod_141 dMod_isNotThere_1 (k_Mod_isNoCursor (by omega)) rfl rfl (Nat.le_of_ble_eq_true rfl)  (Nat.le_of_ble_eq_true rfl) (Nat.le_of_ble_eq_true rfl) (Nat.le_of_eq (Nat.zero_add _)) (Nat.le_of_eq (Nat.zero_add _)) (fun _ _ q => q.elim) ?_
  rintro _ _ ⟨n9, rfl, (⟨rfl, hn9⟩ | ⟨rfl, hn9⟩), rfl⟩
  · refine z_if_ne (tgt := 20) dMod_isNotThere_4 (by decide) (by omega) (fun c4 => ?_) (fun c4 => ?_)
    · refine z_iconst dMod_isNotThere_20 ?_
      refine z_iret rfl (by first | rfl | decide) dMod_isNotThere_21 ?_
      refine ⟨_, rfl, ?_, rfl⟩
      (try rw [Int.toNat_natCast])
      omega
    · exfalso; omega
  · obtain ⟨c, rfl⟩ := Int.eq_ofNat_of_zero_le (show 0 ≤ p by omega)
    have b1c := b1 c (by omega)
    refine z_if_ne (tgt := 20) dMod_isNotThere_4 (by decide) (by omega) (fun c4 => ?_) (fun c4 => ?_)
    · refine z_iconst dMod_isNotThere_20 ?_
      refine z_iret rfl (by first | rfl | decide) dMod_isNotThere_21 ?_
      refine ⟨_, rfl, ?_, rfl⟩
      (try rw [Int.toNat_natCast])
      omega
    · refine z_aload_n dMod_isNotThere_7 rfl ?_
      refine z_get (k := 1) fd_Mod (by decide) fl_Mod_14 dMod_isNotThere_8 (by assumption) (by rfl) ?_
      refine z_iload_n dMod_isNotThere_11 rfl ?_
      refine z_zald dMod_isNotThere_12 (by assumption) (by refine ⟨?_, ?_, ?_⟩ <;> omega) ?_
      rw [Int.toNat_natCast]
      refine z_if_ne (tgt := 20) dMod_isNotThere_13 (by decide) (by omega) (fun c13 => ?_) (fun c13 => ?_)
      · refine z_iconst dMod_isNotThere_20 ?_
        refine z_iret rfl (by first | rfl | decide) dMod_isNotThere_21 ?_
        refine ⟨_, rfl, ?_, rfl⟩
        (try rw [Int.toNat_natCast])
        omega
      · refine z_iconst dMod_isNotThere_16 ?_
        refine z_goto (tgt := 21) dMod_isNotThere_17 (by decide) ?_
        refine z_iret rfl (by first | rfl | decide) dMod_isNotThere_21 ?_
        refine ⟨_, rfl, ?_, rfl⟩
        (try rw [Int.toNat_natCast])
        omega
theorem k_Mod_goesF {c kk : Nat} (H : zMod G h ma S th) (hc : c < 3) (hth : S.2.1 c 0 = 1) (ek : S.2.1 c 2 = (kk : Int)) (hkk : kk < 4) (h16 : ∀ k, k < 4 → (S.1 k).length ≤ 16) (hix : 0 ≤ S.2.1 c 3 ∧ S.2.1 c 3 ≤ 16) : zM G l hMod_goes yMod_goes 1 [.ref (ma 0), zi (c : Int), zi 1] h (fun v h' => ((0 ≤ (S.2.1 c 3) ∧ (S.2.1 c 3) < ((S.1 (S.2.1 c 2).toNat).length : Int)) ∧ v = some (zi (zAt (S.1 (S.2.1 c 2).toNat) (S.2.1 c 3))) ∧ zMod G h' ma (zsC S (zup S.2.1 c (zCv (S.2.1 c 0) (S.2.1 c 1) (S.2.1 c 2) (S.2.1 c 3 + 1) (S.2.1 c 3)))) th ∧ (∀ z, z ≠ ma 5 → z ≠ ma 6 → h' z = h z)) ∨ (¬ (0 ≤ (S.2.1 c 3) ∧ (S.2.1 c 3) < ((S.1 (S.2.1 c 2).toNat).length : Int)) ∧ v = some (zi 10000) ∧ h = h')) zNo 0 0 := by
  obtain ⟨m1, m2, ⟨g, m3, m3a⟩, m4, ⟨f6, m5, m5a⟩, m6, m7⟩ := id H
  unfold zMfs at m2
  obtain ⟨⟨v1, a1, b1⟩, ⟨v2, a2, b2⟩, ⟨v3, a3, b3⟩, ⟨v4, a4, b4⟩, ⟨v5, a5, b5⟩⟩ := id m4
  have b1c := b1 c (by omega)
  have b2c := b2 c (by omega)
  have b3c := b3 c (by omega)
  have b4c := b4 c (by omega)
  have b5c := b5 c (by omega)
  have e2 := b2c.2 hth
  have e3 := b3c.2 hth
  have e4 := b4c.2 hth
  have e5 := b5c.2 hth
  have h16k := h16 kk hkk
  rw [ek, Int.toNat_natCast]
  obtain ⟨frkk, rkk1, rkk2, rkk3, rkk4⟩ := id (m6 kk (hkk))
  refine zM.of [some (.ref (ma 0)), some (zi (c : Int)), some (zi 1), none, none] (by decide +kernel) rfl (by decide) rfl (Nat.le_of_ble_eq_true rfl) rfl ?_
  refine z_aload_n dMod_goes_0 rfl ?_
  refine z_get (k := 0) fd_Mod (by decide) fl_Mod_11 dMod_goes_1 (by assumption) (by rfl) ?_
  refine z_aload_n dMod_goes_4 rfl ?_
  refine z_get (k := 3) fd_Mod (by decide) fl_Mod_21 dMod_goes_5 (by assumption) (by rfl) ?_
  refine z_iload_n dMod_goes_8 rfl ?_
  refine z_iald dMod_goes_9 (by assumption) (by refine ⟨?_, ?_, ?_⟩ <;> omega) ?_
  rw [Int.toNat_natCast]
  rw [e3, ek]
  refine z_aald (t := 4) (ty := .array .int) rfl rfl dMod_goes_10 m3 (by refine ⟨?_, ?_, ?_⟩ <;> omega) ?_
  rw [show (kk : Int).toNat = kk from rfl, m3a kk (by omega)]
  refine z_astore_n dMod_goes_11 (Nat.le_of_ble_eq_true rfl) ?_
  refine z_iload_n dMod_goes_12 rfl ?_
  refine z_if_eq (tgt := 25) dMod_goes_13 (by decide) (by omega) (fun c13 => ?_) (fun c13 => ?_)
  · exfalso; omega
  · refine z_aload_n dMod_goes_16 rfl ?_
    refine z_get (k := 4) fd_Mod (by decide) fl_Mod_25 dMod_goes_17 (by assumption) (by rfl) ?_
    refine z_iload_n dMod_goes_20 rfl ?_
    refine z_iald dMod_goes_21 (by assumption) (by refine ⟨?_, ?_, ?_⟩ <;> omega) ?_
    rw [Int.toNat_natCast]
    rw [e4]
    refine z_goto (tgt := 33) dMod_goes_22 (by decide) ?_
    refine z_istore dMod_goes_33 (Nat.le_of_ble_eq_true rfl) ?_
    refine z_iload dMod_goes_35 rfl ?_
    refine z_if_lt (tgt := 47) dMod_goes_37 (by decide) (by omega) (fun c37 => ?_) (fun c37 => ?_)
    · refine z_sipush dMod_goes_47 rfl ?_
      refine z_iret rfl rfl dMod_goes_50 ?_
      first
        | exact Or.inr ⟨by omega, rfl, rfl⟩
        | (refine Or.inl ⟨by omega, rfl, ?_, fun z z5 z6 => (g3 z z6).trans (g2 z z5)⟩
           have hmc : zMcu G h3 ma (zup S.2.1 c (zCv (S.2.1 c 0) (S.2.1 c 1) (kk : Int) (S.2.1 c 3 + 1) ((S.2.1 c 3)))) := zMcu.up b1 b2 b3 b4 b5 a1 a2 a3 a4 a5 zid_u zid_u zid_u zup_u zup_u b1c b2c ⟨b3c.1, fun _ => e3.trans ek⟩ (zup_w (by omega) rfl) (zup_w (by omega) rfl)
           exact H.cus hmc (fun i hi hr => (g3 _ (H.inj hi (by omega) (by omega))).trans (g2 _ (H.inj hi (by omega) (by omega)))))
    · refine z_iload dMod_goes_40 rfl ?_
      refine z_aload_n dMod_goes_42 rfl ?_
      refine z_alenI dMod_goes_43 (by assumption) ?_
      refine z_icmp_lt (tgt := 51) dMod_goes_44 (by decide) (by omega) (by omega) (fun c44 => ?_) (fun c44 => ?_)
      · refine z_aload_n dMod_goes_51 rfl ?_
        refine z_get (k := 4) fd_Mod (by decide) fl_Mod_25 dMod_goes_52 (by assumption) (by rfl) ?_
        refine z_iload_n dMod_goes_55 rfl ?_
        refine z_iload_n dMod_goes_56 rfl ?_
        refine z_if_eq (tgt := 67) dMod_goes_57 (by decide) (by omega) (fun c57 => ?_) (fun c57 => ?_)
        · exfalso; omega
        · refine z_iload dMod_goes_60 rfl ?_
          refine z_iconst dMod_goes_62 ?_
          refine z_iadd dMod_goes_63 ?_
          refine z_goto (tgt := 69) dMod_goes_64 (by decide) ?_
          refine z_iast dMod_goes_69 (by assumption) (by refine ⟨?_, ?_, ?_⟩ <;> omega) ?_
          refine z_hx (fun h2 p2 g2 => ?_)
          rw [Int.toNat_natCast] at p2
          have m2 := (g2 (ma (0)) (H.inj (i := 0) (j := 5) (by omega) (by omega) (by omega))).trans m2
          have a5 := (g2 (ma (6)) (H.inj (i := 6) (j := 5) (by omega) (by omega) (by omega))).trans a5
          have a4 := p2
          have a1 := (g2 (ma (2)) (H.inj (i := 2) (j := 5) (by omega) (by omega) (by omega))).trans a1
          have a2 := (g2 (ma (3)) (H.inj (i := 3) (j := 5) (by omega) (by omega) (by omega))).trans a2
          have a3 := (g2 (ma (4)) (H.inj (i := 4) (j := 5) (by omega) (by omega) (by omega))).trans a3
          have rkk1 := (g2 (ma (8 + kk)) (H.inj (i := 8 + kk) (j := 5) (by omega) (by omega) (by omega))).trans rkk1
          refine z_aload_n dMod_goes_70 rfl ?_
          refine z_get (k := 5) fd_Mod (by decide) fl_Mod_28 dMod_goes_71 (by assumption) (by rfl) ?_
          refine z_iload_n dMod_goes_74 rfl ?_
          refine z_iload dMod_goes_75 rfl ?_
          refine z_iast dMod_goes_77 (by assumption) (by refine ⟨?_, ?_, ?_⟩ <;> omega) ?_
          refine z_hx (fun h3 p3 g3 => ?_)
          rw [Int.toNat_natCast] at p3
          have m2 := (g3 (ma (0)) (H.inj (i := 0) (j := 6) (by omega) (by omega) (by omega))).trans m2
          have a5 := p3
          have a4 := (g3 (ma (5)) (H.inj (i := 5) (j := 6) (by omega) (by omega) (by omega))).trans a4
          have a1 := (g3 (ma (2)) (H.inj (i := 2) (j := 6) (by omega) (by omega) (by omega))).trans a1
          have a2 := (g3 (ma (3)) (H.inj (i := 3) (j := 6) (by omega) (by omega) (by omega))).trans a2
          have a3 := (g3 (ma (4)) (H.inj (i := 4) (j := 6) (by omega) (by omega) (by omega))).trans a3
          have rkk1 := (g3 (ma (8 + kk)) (H.inj (i := 8 + kk) (j := 6) (by omega) (by omega) (by omega))).trans rkk1
          refine z_aload_n dMod_goes_78 rfl ?_
          refine z_iload dMod_goes_79 rfl ?_
          refine z_iald dMod_goes_81 (by assumption) (by refine ⟨?_, ?_, ?_⟩ <;> omega) ?_
          rw [rkk3 _ (by omega), ← zAt_eq (by omega) (by omega)]
          refine z_iret rfl rfl dMod_goes_82 ?_
          first
            | exact Or.inr ⟨by omega, rfl, rfl⟩
            | (refine Or.inl ⟨by omega, rfl, ?_, fun z z5 z6 => (g3 z z6).trans (g2 z z5)⟩
               have hmc : zMcu G h3 ma (zup S.2.1 c (zCv (S.2.1 c 0) (S.2.1 c 1) (kk : Int) (S.2.1 c 3 + 1) ((S.2.1 c 3)))) := zMcu.up b1 b2 b3 b4 b5 a1 a2 a3 a4 a5 zid_u zid_u zid_u zup_u zup_u b1c b2c ⟨b3c.1, fun _ => e3.trans ek⟩ (zup_w (by omega) rfl) (zup_w (by omega) rfl)
               exact H.cus hmc (fun i hi hr => (g3 _ (H.inj hi (by omega) (by omega))).trans (g2 _ (H.inj hi (by omega) (by omega)))))
      · refine z_sipush dMod_goes_47 rfl ?_
        refine z_iret rfl rfl dMod_goes_50 ?_
        first
          | exact Or.inr ⟨by omega, rfl, rfl⟩
          | (refine Or.inl ⟨by omega, rfl, ?_, fun z z5 z6 => (g3 z z6).trans (g2 z z5)⟩
             have hmc : zMcu G h3 ma (zup S.2.1 c (zCv (S.2.1 c 0) (S.2.1 c 1) (kk : Int) (S.2.1 c 3 + 1) ((S.2.1 c 3)))) := zMcu.up b1 b2 b3 b4 b5 a1 a2 a3 a4 a5 zid_u zid_u zid_u zup_u zup_u b1c b2c ⟨b3c.1, fun _ => e3.trans ek⟩ (zup_w (by omega) rfl) (zup_w (by omega) rfl)
             exact H.cus hmc (fun i hi hr => (g3 _ (H.inj hi (by omega) (by omega))).trans (g2 _ (H.inj hi (by omega) (by omega)))))
theorem k_Mod_goesB {c kk : Nat} (H : zMod G h ma S th) (hc : c < 3) (hth : S.2.1 c 0 = 1) (ek : S.2.1 c 2 = (kk : Int)) (hkk : kk < 4) (h16 : ∀ k, k < 4 → (S.1 k).length ≤ 16) (hix : 0 ≤ S.2.1 c 3 ∧ S.2.1 c 3 ≤ 16) : zM G l hMod_goes yMod_goes 1 [.ref (ma 0), zi (c : Int), zi 0] h (fun v h' => ((0 ≤ (S.2.1 c 3 - 1) ∧ (S.2.1 c 3 - 1) < ((S.1 (S.2.1 c 2).toNat).length : Int)) ∧ v = some (zi (zAt (S.1 (S.2.1 c 2).toNat) (S.2.1 c 3 - 1))) ∧ zMod G h' ma (zsC S (zup S.2.1 c (zCv (S.2.1 c 0) (S.2.1 c 1) (S.2.1 c 2) ((S.2.1 c 3 - 1)) (S.2.1 c 3 - 1)))) th ∧ (∀ z, z ≠ ma 5 → z ≠ ma 6 → h' z = h z)) ∨ (¬ (0 ≤ (S.2.1 c 3 - 1) ∧ (S.2.1 c 3 - 1) < ((S.1 (S.2.1 c 2).toNat).length : Int)) ∧ v = some (zi 10000) ∧ h = h')) zNo 0 0 := by
  obtain ⟨m1, m2, ⟨g, m3, m3a⟩, m4, ⟨f6, m5, m5a⟩, m6, m7⟩ := id H
  unfold zMfs at m2
  obtain ⟨⟨v1, a1, b1⟩, ⟨v2, a2, b2⟩, ⟨v3, a3, b3⟩, ⟨v4, a4, b4⟩, ⟨v5, a5, b5⟩⟩ := id m4
  have b1c := b1 c (by omega)
  have b2c := b2 c (by omega)
  have b3c := b3 c (by omega)
  have b4c := b4 c (by omega)
  have b5c := b5 c (by omega)
  have e2 := b2c.2 hth
  have e3 := b3c.2 hth
  have e4 := b4c.2 hth
  have e5 := b5c.2 hth
  have h16k := h16 kk hkk
  rw [ek, Int.toNat_natCast]
  obtain ⟨frkk, rkk1, rkk2, rkk3, rkk4⟩ := id (m6 kk (hkk))
  refine zM.of [some (.ref (ma 0)), some (zi (c : Int)), some (zi 0), none, none] (by decide +kernel) rfl (by decide) rfl (Nat.le_of_ble_eq_true rfl) rfl ?_
  refine z_aload_n dMod_goes_0 rfl ?_
  refine z_get (k := 0) fd_Mod (by decide) fl_Mod_11 dMod_goes_1 (by assumption) (by rfl) ?_
  refine z_aload_n dMod_goes_4 rfl ?_
  refine z_get (k := 3) fd_Mod (by decide) fl_Mod_21 dMod_goes_5 (by assumption) (by rfl) ?_
  refine z_iload_n dMod_goes_8 rfl ?_
  refine z_iald dMod_goes_9 (by assumption) (by refine ⟨?_, ?_, ?_⟩ <;> omega) ?_
  rw [Int.toNat_natCast]
  rw [e3, ek]
  refine z_aald (t := 4) (ty := .array .int) rfl rfl dMod_goes_10 m3 (by refine ⟨?_, ?_, ?_⟩ <;> omega) ?_
  rw [show (kk : Int).toNat = kk from rfl, m3a kk (by omega)]
  refine z_astore_n dMod_goes_11 (Nat.le_of_ble_eq_true rfl) ?_
  refine z_iload_n dMod_goes_12 rfl ?_
  refine z_if_eq (tgt := 25) dMod_goes_13 (by decide) (by omega) (fun c13 => ?_) (fun c13 => ?_)
  · refine z_aload_n dMod_goes_25 rfl ?_
    refine z_get (k := 4) fd_Mod (by decide) fl_Mod_25 dMod_goes_26 (by assumption) (by rfl) ?_
    refine z_iload_n dMod_goes_29 rfl ?_
    refine z_iald dMod_goes_30 (by assumption) (by refine ⟨?_, ?_, ?_⟩ <;> omega) ?_
    rw [Int.toNat_natCast]
    rw [e4]
    refine z_iconst dMod_goes_31 ?_
    refine z_isub dMod_goes_32 ?_
    refine z_istore dMod_goes_33 (Nat.le_of_ble_eq_true rfl) ?_
    refine z_iload dMod_goes_35 rfl ?_
    refine z_if_lt (tgt := 47) dMod_goes_37 (by decide) (by omega) (fun c37 => ?_) (fun c37 => ?_)
    · refine z_sipush dMod_goes_47 rfl ?_
      refine z_iret rfl rfl dMod_goes_50 ?_
      first
        | exact Or.inr ⟨by omega, rfl, rfl⟩
        | (refine Or.inl ⟨by omega, rfl, ?_, fun z z5 z6 => (g3 z z6).trans (g2 z z5)⟩
           have hmc : zMcu G h3 ma (zup S.2.1 c (zCv (S.2.1 c 0) (S.2.1 c 1) (kk : Int) ((S.2.1 c 3 - 1)) ((S.2.1 c 3 - 1)))) := zMcu.up b1 b2 b3 b4 b5 a1 a2 a3 a4 a5 zid_u zid_u zid_u zup_u zup_u b1c b2c ⟨b3c.1, fun _ => e3.trans ek⟩ (zup_w (by omega) rfl) (zup_w (by omega) rfl)
           exact H.cus hmc (fun i hi hr => (g3 _ (H.inj hi (by omega) (by omega))).trans (g2 _ (H.inj hi (by omega) (by omega)))))
    · refine z_iload dMod_goes_40 rfl ?_
      refine z_aload_n dMod_goes_42 rfl ?_
      refine z_alenI dMod_goes_43 (by assumption) ?_
      refine z_icmp_lt (tgt := 51) dMod_goes_44 (by decide) (by omega) (by omega) (fun c44 => ?_) (fun c44 => ?_)
      · refine z_aload_n dMod_goes_51 rfl ?_
        refine z_get (k := 4) fd_Mod (by decide) fl_Mod_25 dMod_goes_52 (by assumption) (by rfl) ?_
        refine z_iload_n dMod_goes_55 rfl ?_
        refine z_iload_n dMod_goes_56 rfl ?_
        refine z_if_eq (tgt := 67) dMod_goes_57 (by decide) (by omega) (fun c57 => ?_) (fun c57 => ?_)
        · refine z_iload dMod_goes_67 rfl ?_
          refine z_iast dMod_goes_69 (by assumption) (by refine ⟨?_, ?_, ?_⟩ <;> omega) ?_
          refine z_hx (fun h2 p2 g2 => ?_)
          rw [Int.toNat_natCast] at p2
          have m2 := (g2 (ma (0)) (H.inj (i := 0) (j := 5) (by omega) (by omega) (by omega))).trans m2
          have a5 := (g2 (ma (6)) (H.inj (i := 6) (j := 5) (by omega) (by omega) (by omega))).trans a5
          have a4 := p2
          have a1 := (g2 (ma (2)) (H.inj (i := 2) (j := 5) (by omega) (by omega) (by omega))).trans a1
          have a2 := (g2 (ma (3)) (H.inj (i := 3) (j := 5) (by omega) (by omega) (by omega))).trans a2
          have a3 := (g2 (ma (4)) (H.inj (i := 4) (j := 5) (by omega) (by omega) (by omega))).trans a3
          have rkk1 := (g2 (ma (8 + kk)) (H.inj (i := 8 + kk) (j := 5) (by omega) (by omega) (by omega))).trans rkk1
          refine z_aload_n dMod_goes_70 rfl ?_
          refine z_get (k := 5) fd_Mod (by decide) fl_Mod_28 dMod_goes_71 (by assumption) (by rfl) ?_
          refine z_iload_n dMod_goes_74 rfl ?_
          refine z_iload dMod_goes_75 rfl ?_
          refine z_iast dMod_goes_77 (by assumption) (by refine ⟨?_, ?_, ?_⟩ <;> omega) ?_
          refine z_hx (fun h3 p3 g3 => ?_)
          rw [Int.toNat_natCast] at p3
          have m2 := (g3 (ma (0)) (H.inj (i := 0) (j := 6) (by omega) (by omega) (by omega))).trans m2
          have a5 := p3
          have a4 := (g3 (ma (5)) (H.inj (i := 5) (j := 6) (by omega) (by omega) (by omega))).trans a4
          have a1 := (g3 (ma (2)) (H.inj (i := 2) (j := 6) (by omega) (by omega) (by omega))).trans a1
          have a2 := (g3 (ma (3)) (H.inj (i := 3) (j := 6) (by omega) (by omega) (by omega))).trans a2
          have a3 := (g3 (ma (4)) (H.inj (i := 4) (j := 6) (by omega) (by omega) (by omega))).trans a3
          have rkk1 := (g3 (ma (8 + kk)) (H.inj (i := 8 + kk) (j := 6) (by omega) (by omega) (by omega))).trans rkk1
          refine z_aload_n dMod_goes_78 rfl ?_
          refine z_iload dMod_goes_79 rfl ?_
          refine z_iald dMod_goes_81 (by assumption) (by refine ⟨?_, ?_, ?_⟩ <;> omega) ?_
          rw [rkk3 _ (by omega), ← zAt_eq (by omega) (by omega)]
          refine z_iret rfl rfl dMod_goes_82 ?_
          first
            | exact Or.inr ⟨by omega, rfl, rfl⟩
            | (refine Or.inl ⟨by omega, rfl, ?_, fun z z5 z6 => (g3 z z6).trans (g2 z z5)⟩
               have hmc : zMcu G h3 ma (zup S.2.1 c (zCv (S.2.1 c 0) (S.2.1 c 1) (kk : Int) ((S.2.1 c 3 - 1)) ((S.2.1 c 3 - 1)))) := zMcu.up b1 b2 b3 b4 b5 a1 a2 a3 a4 a5 zid_u zid_u zid_u zup_u zup_u b1c b2c ⟨b3c.1, fun _ => e3.trans ek⟩ (zup_w (by omega) rfl) (zup_w (by omega) rfl)
               exact H.cus hmc (fun i hi hr => (g3 _ (H.inj hi (by omega) (by omega))).trans (g2 _ (H.inj hi (by omega) (by omega)))))
        · exfalso; omega
      · refine z_sipush dMod_goes_47 rfl ?_
        refine z_iret rfl rfl dMod_goes_50 ?_
        first
          | exact Or.inr ⟨by omega, rfl, rfl⟩
          | (refine Or.inl ⟨by omega, rfl, ?_, fun z z5 z6 => (g3 z z6).trans (g2 z z5)⟩
             have hmc : zMcu G h3 ma (zup S.2.1 c (zCv (S.2.1 c 0) (S.2.1 c 1) (kk : Int) ((S.2.1 c 3 - 1)) ((S.2.1 c 3 - 1)))) := zMcu.up b1 b2 b3 b4 b5 a1 a2 a3 a4 a5 zid_u zid_u zid_u zup_u zup_u b1c b2c ⟨b3c.1, fun _ => e3.trans ek⟩ (zup_w (by omega) rfl) (zup_w (by omega) rfl)
             exact H.cus hmc (fun i hi hr => (g3 _ (H.inj hi (by omega) (by omega))).trans (g2 _ (H.inj hi (by omega) (by omega)))))
  · exfalso; omega
theorem k_Mod_asksOn1 {p : Int} (H : zMod G h ma S th) (hp : zI32 p) (hO : zOk S) (h16 : ∀ k, k < 4 → (S.1 k).length ≤ 16) : zM G l hMod_asksOn yMod_asksOn 4 [.ref (ma 0), zi p, zi 1] h (zQm G ma h 1 9 2 (sp_forth S p)) zNo 0 0 := by
  obtain ⟨m1, m2, ⟨g, m3, m3a⟩, m4, ⟨f6, m5, m5a⟩, m6, m7⟩ := id H
  unfold zMfs at m2
  refine zM.of [some (.ref (ma 0)), some (zi p), some (zi 1)] (by decide +kernel) rfl (by decide) rfl (Nat.le_of_ble_eq_true rfl) rfl ?_
  refine z_aload_n dMod_asksOn_0 rfl ?_
  refine z_iload_n dMod_asksOn_1 rfl ?_
  refine z_callS MS_Mod_isNoCursor lk_Mod_141 dMod_asksOn_2 (k_Mod_isNoCursor (by omega)) rfl rfl (Nat.le_of_ble_eq_true rfl)  (Nat.le_of_ble_eq_true rfl) (Nat.le_of_ble_eq_true rfl) (Nat.le_of_eq (Nat.zero_add _)) (Nat.le_of_eq (Nat.zero_add _)) (fun _ _ q => q.elim) ?_
  rintro _ _ ⟨n9c, rfl, (⟨rfl, hn9c⟩ | ⟨rfl, hn9c⟩), rfl⟩
  · refine z_aload_n dMod_asksOn_5 rfl ?_
    refine z_iload_n dMod_asksOn_6 rfl ?_
    refine z_callV MV_Mod_isNotThere lk_Mod_144 dMod_asksOn_7 (k_Mod_isNotThere H (by omega)) rfl rfl (Nat.le_of_ble_eq_true rfl) rfl (by assumption) (Nat.le_of_ble_eq_true rfl) (Nat.le_of_ble_eq_true rfl) (Nat.le_of_eq (Nat.zero_add _)) (Nat.le_of_eq (Nat.zero_add _)) (fun _ _ q => q.elim) ?_
    rintro _ _ ⟨t8, rfl, ht8, rfl⟩
    try simp only [Int.toNat_natCast] at ht8
    refine z_iconst dMod_asksOn_10 ?_
    refine z_callV MV_Mod_fails lk_Mod_88 dMod_asksOn_11 (k_Mod_fails (by assumption) rfl (by omega) (by omega) (by omega)) rfl rfl (Nat.le_of_ble_eq_true rfl) rfl (by assumption) (Nat.le_of_ble_eq_true rfl) (Nat.le_of_ble_eq_true rfl) (Nat.le_of_eq (Nat.zero_add _)) (Nat.le_of_eq (Nat.zero_add _)) (fun _ _ q => q.elim) ?_
    rintro _ h1 ⟨t9, b8, rfl, ht, p1, g1⟩
    have H1 : zMod G h1 ma S t9 := H.obj (nu := S.2.2.2.2) (th' := t9) p1 g1
    have fz1 : zMfr ma h h1 := zMfr.of0 g1
    obtain ⟨-, n2, ⟨gg, n3, n3a⟩, n4, ⟨f61, n5, n5a⟩, n6, n7⟩ := id H1
    unfold zMfs at n2
    refine z_if_eq (tgt := 19) dMod_asksOn_14 (by decide) (by omega) (fun c14 => ?_) (fun c14 => ?_)
    · exfalso; omega
    · refine z_iconst dMod_asksOn_17 ?_
      refine z_iret rfl rfl dMod_asksOn_18 ?_
      rcases (show t9 = 0 ∨ t9 = 1 ∨ t9 = 2 ∨ t9 = 3 by omega) with t0 | t0 | t0 | t0
      all_goals first
        | (exfalso; omega)
        | exact zQm.ok H3 (by omega) (by assumption) (by unfold sp_forth; (try unfold spPut); (try simp only [Int.toNat_natCast]); (repeat (first | rw [if_pos (by omega)] | rw [if_neg (by omega)] | rw [if_pos (by assumption)] | rw [if_neg (by assumption)] | rw [if_pos (True.intro : True)])); (try (first | rfl | (congr 2; omega) | (congr 1; congr 1; omega))); done)
        | exact zQm.b1 H3 (by omega) (by assumption) (by unfold sp_forth; (try unfold spPut); (try simp only [Int.toNat_natCast]); (repeat (first | rw [if_pos (by omega)] | rw [if_neg (by omega)] | rw [if_pos (by assumption)] | rw [if_neg (by assumption)] | rw [if_pos (True.intro : True)])); (try (first | rfl | (congr 2; omega) | (congr 1; congr 1; omega))); done)
        | exact zQm.b2 H3 (by omega) (by assumption) (by unfold sp_forth; (try unfold spPut); (try simp only [Int.toNat_natCast]); (repeat (first | rw [if_pos (by omega)] | rw [if_neg (by omega)] | rw [if_pos (by assumption)] | rw [if_neg (by assumption)] | rw [if_pos (True.intro : True)])); (try (first | rfl | (congr 2; omega) | (congr 1; congr 1; omega))); done)
        | exact zQm.b3 H3 (by omega) (by assumption) (by unfold sp_forth; (try unfold spPut); (try simp only [Int.toNat_natCast]); (repeat (first | rw [if_pos (by omega)] | rw [if_neg (by omega)] | rw [if_pos (by assumption)] | rw [if_neg (by assumption)] | rw [if_pos (True.intro : True)])); (try (first | rfl | (congr 2; omega) | (congr 1; congr 1; omega))); done)
        | exact zQm.ok H2 (by omega) (by assumption) (by unfold sp_forth; (try unfold spPut); (try simp only [Int.toNat_natCast]); (repeat (first | rw [if_pos (by omega)] | rw [if_neg (by omega)] | rw [if_pos (by assumption)] | rw [if_neg (by assumption)] | rw [if_pos (True.intro : True)])); (try (first | rfl | (congr 2; omega) | (congr 1; congr 1; omega))); done)
        | exact zQm.b1 H2 (by omega) (by assumption) (by unfold sp_forth; (try unfold spPut); (try simp only [Int.toNat_natCast]); (repeat (first | rw [if_pos (by omega)] | rw [if_neg (by omega)] | rw [if_pos (by assumption)] | rw [if_neg (by assumption)] | rw [if_pos (True.intro : True)])); (try (first | rfl | (congr 2; omega) | (congr 1; congr 1; omega))); done)
        | exact zQm.b2 H2 (by omega) (by assumption) (by unfold sp_forth; (try unfold spPut); (try simp only [Int.toNat_natCast]); (repeat (first | rw [if_pos (by omega)] | rw [if_neg (by omega)] | rw [if_pos (by assumption)] | rw [if_neg (by assumption)] | rw [if_pos (True.intro : True)])); (try (first | rfl | (congr 2; omega) | (congr 1; congr 1; omega))); done)
        | exact zQm.b3 H2 (by omega) (by assumption) (by unfold sp_forth; (try unfold spPut); (try simp only [Int.toNat_natCast]); (repeat (first | rw [if_pos (by omega)] | rw [if_neg (by omega)] | rw [if_pos (by assumption)] | rw [if_neg (by assumption)] | rw [if_pos (True.intro : True)])); (try (first | rfl | (congr 2; omega) | (congr 1; congr 1; omega))); done)
        | exact zQm.ok H1 (by omega) (by assumption) (by unfold sp_forth; (try unfold spPut); (try simp only [Int.toNat_natCast]); (repeat (first | rw [if_pos (by omega)] | rw [if_neg (by omega)] | rw [if_pos (by assumption)] | rw [if_neg (by assumption)] | rw [if_pos (True.intro : True)])); (try (first | rfl | (congr 2; omega) | (congr 1; congr 1; omega))); done)
        | exact zQm.b1 H1 (by omega) (by assumption) (by unfold sp_forth; (try unfold spPut); (try simp only [Int.toNat_natCast]); (repeat (first | rw [if_pos (by omega)] | rw [if_neg (by omega)] | rw [if_pos (by assumption)] | rw [if_neg (by assumption)] | rw [if_pos (True.intro : True)])); (try (first | rfl | (congr 2; omega) | (congr 1; congr 1; omega))); done)
        | exact zQm.b2 H1 (by omega) (by assumption) (by unfold sp_forth; (try unfold spPut); (try simp only [Int.toNat_natCast]); (repeat (first | rw [if_pos (by omega)] | rw [if_neg (by omega)] | rw [if_pos (by assumption)] | rw [if_neg (by assumption)] | rw [if_pos (True.intro : True)])); (try (first | rfl | (congr 2; omega) | (congr 1; congr 1; omega))); done)
        | exact zQm.b3 H1 (by omega) (by assumption) (by unfold sp_forth; (try unfold spPut); (try simp only [Int.toNat_natCast]); (repeat (first | rw [if_pos (by omega)] | rw [if_neg (by omega)] | rw [if_pos (by assumption)] | rw [if_neg (by assumption)] | rw [if_pos (True.intro : True)])); (try (first | rfl | (congr 2; omega) | (congr 1; congr 1; omega))); done)
  · obtain ⟨c, rfl⟩ := Int.eq_ofNat_of_zero_le (show 0 ≤ p by omega)
    have hc : c < 3 := by omega
    refine z_aload_n dMod_asksOn_5 rfl ?_
    refine z_iload_n dMod_asksOn_6 rfl ?_
    refine z_callV MV_Mod_isNotThere lk_Mod_144 dMod_asksOn_7 (k_Mod_isNotThere H (by omega)) rfl rfl (Nat.le_of_ble_eq_true rfl) rfl (by assumption) (Nat.le_of_ble_eq_true rfl) (Nat.le_of_ble_eq_true rfl) (Nat.le_of_eq (Nat.zero_add _)) (Nat.le_of_eq (Nat.zero_add _)) (fun _ _ q => q.elim) ?_
    rintro _ _ ⟨t8, rfl, ht8, rfl⟩
    try simp only [Int.toNat_natCast] at ht8
    refine z_iconst dMod_asksOn_10 ?_
    refine z_callV MV_Mod_fails lk_Mod_88 dMod_asksOn_11 (k_Mod_fails (by assumption) rfl (by omega) (by omega) (by omega)) rfl rfl (Nat.le_of_ble_eq_true rfl) rfl (by assumption) (Nat.le_of_ble_eq_true rfl) (Nat.le_of_ble_eq_true rfl) (Nat.le_of_eq (Nat.zero_add _)) (Nat.le_of_eq (Nat.zero_add _)) (fun _ _ q => q.elim) ?_
    rintro _ h1 ⟨t9, b8, rfl, ht, p1, g1⟩
    have H1 : zMod G h1 ma S t9 := H.obj (nu := S.2.2.2.2) (th' := t9) p1 g1
    have fz1 : zMfr ma h h1 := zMfr.of0 g1
    obtain ⟨-, n2, ⟨gg, n3, n3a⟩, n4, ⟨f61, n5, n5a⟩, n6, n7⟩ := id H1
    unfold zMfs at n2
    refine z_if_eq (tgt := 19) dMod_asksOn_14 (by decide) (by omega) (fun c14 => ?_) (fun c14 => ?_)
    · obtain ⟨⟨v1, a1, b1⟩, ⟨v2, a2, b2⟩, ⟨v3, a3, b3⟩, ⟨v4, a4, b4⟩, ⟨v5, a5, b5⟩⟩ := id n4
      have hth : S.2.1 c 0 = 1 := by omega
      have b1c := b1 c (by omega)
      have b2c := b2 c (by omega)
      have b3c := b3 c (by omega)
      have b4c := b4 c (by omega)
      have b5c := b5 c (by omega)
      have e2 := b2c.2 hth
      have e3 := b3c.2 hth
      have e4 := b4c.2 hth
      have e5 := b5c.2 hth
      have ok9 := hO.1 c (by omega) hth
      obtain ⟨kk, ek⟩ := Int.eq_ofNat_of_zero_le ok9.1.1
      refine z_aload_n dMod_asksOn_19 rfl ?_
      refine z_get (k := 2) fd_Mod (by decide) fl_Mod_18 dMod_asksOn_20 (by assumption) (by rfl) ?_
      refine z_iload_n dMod_asksOn_23 rfl ?_
      refine z_zald dMod_asksOn_24 (by assumption) (by refine ⟨?_, ?_, ?_⟩ <;> omega) ?_
      rw [Int.toNat_natCast]
      rw [e2]
      refine z_if_eq (tgt := 35) dMod_asksOn_25 (by decide) (by omega) (fun c25 => ?_) (fun c25 => ?_)
      · refine z_aload_n dMod_asksOn_35 rfl ?_
        refine z_iload_n dMod_asksOn_36 rfl ?_
        refine z_iload_n dMod_asksOn_37 rfl ?_
        refine z_callV MV_Mod_goes lk_Mod_147 dMod_asksOn_38 (k_Mod_goesF H1 hc hth ek (by omega) h16 (by omega)) rfl rfl (Nat.le_of_ble_eq_true rfl) rfl (by assumption) (Nat.le_of_ble_eq_true rfl) (Nat.le_of_ble_eq_true rfl) (Nat.le_of_eq (Nat.zero_add _)) (Nat.le_of_eq (Nat.zero_add _)) (fun _ _ q => q.elim) ?_
        rintro _ h3 (⟨hP, rfl, H3, g3⟩ | ⟨hP, rfl, rfl⟩)
        · have fz3 : zMfr ma h h3 := fz1.tr (zMfr.of2 (i := 5) (j := 6) (by omega) (by omega) g3)
          refine z_iret rfl rfl dMod_asksOn_41 ?_
          rcases (show t9 = 0 ∨ t9 = 1 ∨ t9 = 2 ∨ t9 = 3 by omega) with t0 | t0 | t0 | t0
          all_goals first
            | (exfalso; omega)
            | exact zQm.ok H3 (by omega) (by assumption) (by unfold sp_forth; (try unfold spPut); (try simp only [Int.toNat_natCast]); (repeat (first | rw [if_pos (by omega)] | rw [if_neg (by omega)] | rw [if_pos (by assumption)] | rw [if_neg (by assumption)] | rw [if_pos (True.intro : True)])); (try (first | rfl | (congr 2; omega) | (congr 1; congr 1; omega))); done)
            | exact zQm.b1 H3 (by omega) (by assumption) (by unfold sp_forth; (try unfold spPut); (try simp only [Int.toNat_natCast]); (repeat (first | rw [if_pos (by omega)] | rw [if_neg (by omega)] | rw [if_pos (by assumption)] | rw [if_neg (by assumption)] | rw [if_pos (True.intro : True)])); (try (first | rfl | (congr 2; omega) | (congr 1; congr 1; omega))); done)
            | exact zQm.b2 H3 (by omega) (by assumption) (by unfold sp_forth; (try unfold spPut); (try simp only [Int.toNat_natCast]); (repeat (first | rw [if_pos (by omega)] | rw [if_neg (by omega)] | rw [if_pos (by assumption)] | rw [if_neg (by assumption)] | rw [if_pos (True.intro : True)])); (try (first | rfl | (congr 2; omega) | (congr 1; congr 1; omega))); done)
            | exact zQm.b3 H3 (by omega) (by assumption) (by unfold sp_forth; (try unfold spPut); (try simp only [Int.toNat_natCast]); (repeat (first | rw [if_pos (by omega)] | rw [if_neg (by omega)] | rw [if_pos (by assumption)] | rw [if_neg (by assumption)] | rw [if_pos (True.intro : True)])); (try (first | rfl | (congr 2; omega) | (congr 1; congr 1; omega))); done)
            | exact zQm.ok H2 (by omega) (by assumption) (by unfold sp_forth; (try unfold spPut); (try simp only [Int.toNat_natCast]); (repeat (first | rw [if_pos (by omega)] | rw [if_neg (by omega)] | rw [if_pos (by assumption)] | rw [if_neg (by assumption)] | rw [if_pos (True.intro : True)])); (try (first | rfl | (congr 2; omega) | (congr 1; congr 1; omega))); done)
            | exact zQm.b1 H2 (by omega) (by assumption) (by unfold sp_forth; (try unfold spPut); (try simp only [Int.toNat_natCast]); (repeat (first | rw [if_pos (by omega)] | rw [if_neg (by omega)] | rw [if_pos (by assumption)] | rw [if_neg (by assumption)] | rw [if_pos (True.intro : True)])); (try (first | rfl | (congr 2; omega) | (congr 1; congr 1; omega))); done)
            | exact zQm.b2 H2 (by omega) (by assumption) (by unfold sp_forth; (try unfold spPut); (try simp only [Int.toNat_natCast]); (repeat (first | rw [if_pos (by omega)] | rw [if_neg (by omega)] | rw [if_pos (by assumption)] | rw [if_neg (by assumption)] | rw [if_pos (True.intro : True)])); (try (first | rfl | (congr 2; omega) | (congr 1; congr 1; omega))); done)
            | exact zQm.b3 H2 (by omega) (by assumption) (by unfold sp_forth; (try unfold spPut); (try simp only [Int.toNat_natCast]); (repeat (first | rw [if_pos (by omega)] | rw [if_neg (by omega)] | rw [if_pos (by assumption)] | rw [if_neg (by assumption)] | rw [if_pos (True.intro : True)])); (try (first | rfl | (congr 2; omega) | (congr 1; congr 1; omega))); done)
            | exact zQm.ok H1 (by omega) (by assumption) (by unfold sp_forth; (try unfold spPut); (try simp only [Int.toNat_natCast]); (repeat (first | rw [if_pos (by omega)] | rw [if_neg (by omega)] | rw [if_pos (by assumption)] | rw [if_neg (by assumption)] | rw [if_pos (True.intro : True)])); (try (first | rfl | (congr 2; omega) | (congr 1; congr 1; omega))); done)
            | exact zQm.b1 H1 (by omega) (by assumption) (by unfold sp_forth; (try unfold spPut); (try simp only [Int.toNat_natCast]); (repeat (first | rw [if_pos (by omega)] | rw [if_neg (by omega)] | rw [if_pos (by assumption)] | rw [if_neg (by assumption)] | rw [if_pos (True.intro : True)])); (try (first | rfl | (congr 2; omega) | (congr 1; congr 1; omega))); done)
            | exact zQm.b2 H1 (by omega) (by assumption) (by unfold sp_forth; (try unfold spPut); (try simp only [Int.toNat_natCast]); (repeat (first | rw [if_pos (by omega)] | rw [if_neg (by omega)] | rw [if_pos (by assumption)] | rw [if_neg (by assumption)] | rw [if_pos (True.intro : True)])); (try (first | rfl | (congr 2; omega) | (congr 1; congr 1; omega))); done)
            | exact zQm.b3 H1 (by omega) (by assumption) (by unfold sp_forth; (try unfold spPut); (try simp only [Int.toNat_natCast]); (repeat (first | rw [if_pos (by omega)] | rw [if_neg (by omega)] | rw [if_pos (by assumption)] | rw [if_neg (by assumption)] | rw [if_pos (True.intro : True)])); (try (first | rfl | (congr 2; omega) | (congr 1; congr 1; omega))); done)
        · refine z_iret rfl rfl dMod_asksOn_41 ?_
          rcases (show t9 = 0 ∨ t9 = 1 ∨ t9 = 2 ∨ t9 = 3 by omega) with t0 | t0 | t0 | t0
          all_goals first
            | (exfalso; omega)
            | exact zQm.ok H3 (by omega) (by assumption) (by unfold sp_forth; (try unfold spPut); (try simp only [Int.toNat_natCast]); (repeat (first | rw [if_pos (by omega)] | rw [if_neg (by omega)] | rw [if_pos (by assumption)] | rw [if_neg (by assumption)] | rw [if_pos (True.intro : True)])); (try (first | rfl | (congr 2; omega) | (congr 1; congr 1; omega))); done)
            | exact zQm.b1 H3 (by omega) (by assumption) (by unfold sp_forth; (try unfold spPut); (try simp only [Int.toNat_natCast]); (repeat (first | rw [if_pos (by omega)] | rw [if_neg (by omega)] | rw [if_pos (by assumption)] | rw [if_neg (by assumption)] | rw [if_pos (True.intro : True)])); (try (first | rfl | (congr 2; omega) | (congr 1; congr 1; omega))); done)
            | exact zQm.b2 H3 (by omega) (by assumption) (by unfold sp_forth; (try unfold spPut); (try simp only [Int.toNat_natCast]); (repeat (first | rw [if_pos (by omega)] | rw [if_neg (by omega)] | rw [if_pos (by assumption)] | rw [if_neg (by assumption)] | rw [if_pos (True.intro : True)])); (try (first | rfl | (congr 2; omega) | (congr 1; congr 1; omega))); done)
            | exact zQm.b3 H3 (by omega) (by assumption) (by unfold sp_forth; (try unfold spPut); (try simp only [Int.toNat_natCast]); (repeat (first | rw [if_pos (by omega)] | rw [if_neg (by omega)] | rw [if_pos (by assumption)] | rw [if_neg (by assumption)] | rw [if_pos (True.intro : True)])); (try (first | rfl | (congr 2; omega) | (congr 1; congr 1; omega))); done)
            | exact zQm.ok H2 (by omega) (by assumption) (by unfold sp_forth; (try unfold spPut); (try simp only [Int.toNat_natCast]); (repeat (first | rw [if_pos (by omega)] | rw [if_neg (by omega)] | rw [if_pos (by assumption)] | rw [if_neg (by assumption)] | rw [if_pos (True.intro : True)])); (try (first | rfl | (congr 2; omega) | (congr 1; congr 1; omega))); done)
            | exact zQm.b1 H2 (by omega) (by assumption) (by unfold sp_forth; (try unfold spPut); (try simp only [Int.toNat_natCast]); (repeat (first | rw [if_pos (by omega)] | rw [if_neg (by omega)] | rw [if_pos (by assumption)] | rw [if_neg (by assumption)] | rw [if_pos (True.intro : True)])); (try (first | rfl | (congr 2; omega) | (congr 1; congr 1; omega))); done)
            | exact zQm.b2 H2 (by omega) (by assumption) (by unfold sp_forth; (try unfold spPut); (try simp only [Int.toNat_natCast]); (repeat (first | rw [if_pos (by omega)] | rw [if_neg (by omega)] | rw [if_pos (by assumption)] | rw [if_neg (by assumption)] | rw [if_pos (True.intro : True)])); (try (first | rfl | (congr 2; omega) | (congr 1; congr 1; omega))); done)
            | exact zQm.b3 H2 (by omega) (by assumption) (by unfold sp_forth; (try unfold spPut); (try simp only [Int.toNat_natCast]); (repeat (first | rw [if_pos (by omega)] | rw [if_neg (by omega)] | rw [if_pos (by assumption)] | rw [if_neg (by assumption)] | rw [if_pos (True.intro : True)])); (try (first | rfl | (congr 2; omega) | (congr 1; congr 1; omega))); done)
            | exact zQm.ok H1 (by omega) (by assumption) (by unfold sp_forth; (try unfold spPut); (try simp only [Int.toNat_natCast]); (repeat (first | rw [if_pos (by omega)] | rw [if_neg (by omega)] | rw [if_pos (by assumption)] | rw [if_neg (by assumption)] | rw [if_pos (True.intro : True)])); (try (first | rfl | (congr 2; omega) | (congr 1; congr 1; omega))); done)
            | exact zQm.b1 H1 (by omega) (by assumption) (by unfold sp_forth; (try unfold spPut); (try simp only [Int.toNat_natCast]); (repeat (first | rw [if_pos (by omega)] | rw [if_neg (by omega)] | rw [if_pos (by assumption)] | rw [if_neg (by assumption)] | rw [if_pos (True.intro : True)])); (try (first | rfl | (congr 2; omega) | (congr 1; congr 1; omega))); done)
            | exact zQm.b2 H1 (by omega) (by assumption) (by unfold sp_forth; (try unfold spPut); (try simp only [Int.toNat_natCast]); (repeat (first | rw [if_pos (by omega)] | rw [if_neg (by omega)] | rw [if_pos (by assumption)] | rw [if_neg (by assumption)] | rw [if_pos (True.intro : True)])); (try (first | rfl | (congr 2; omega) | (congr 1; congr 1; omega))); done)
            | exact zQm.b3 H1 (by omega) (by assumption) (by unfold sp_forth; (try unfold spPut); (try simp only [Int.toNat_natCast]); (repeat (first | rw [if_pos (by omega)] | rw [if_neg (by omega)] | rw [if_pos (by assumption)] | rw [if_neg (by assumption)] | rw [if_pos (True.intro : True)])); (try (first | rfl | (congr 2; omega) | (congr 1; congr 1; omega))); done)
      · refine z_aload_n dMod_asksOn_28 rfl ?_
        refine z_callV MV_Mod_refused lk_Mod_92 dMod_asksOn_29 (k_Mod_refused n2 rfl rfl) rfl rfl (Nat.le_of_ble_eq_true rfl) rfl (by assumption) (Nat.le_of_ble_eq_true rfl) (Nat.le_of_ble_eq_true rfl) (Nat.le_of_eq (Nat.zero_add _)) (Nat.le_of_eq (Nat.zero_add _)) (fun _ _ q => q.elim) ?_
        rintro _ h2 ⟨rfl, p2, g2⟩
        have H2 : zMod G h2 ma (zsRef S) t9 := H1.obj (nu := zup S.2.2.2.2 1 (S.2.2.2.2 1 + 1)) p2 g2
        have fz2 : zMfr ma h h2 := zMfr.of0 (fun q hq => (g2 q hq).trans (g1 q hq))
        refine z_goto (tgt := 41) dMod_asksOn_32 (by decide) ?_
        refine z_iret rfl rfl dMod_asksOn_41 ?_
        rcases (show t9 = 0 ∨ t9 = 1 ∨ t9 = 2 ∨ t9 = 3 by omega) with t0 | t0 | t0 | t0
        all_goals first
          | (exfalso; omega)
          | exact zQm.ok H3 (by omega) (by assumption) (by unfold sp_forth; (try unfold spPut); (try simp only [Int.toNat_natCast]); (repeat (first | rw [if_pos (by omega)] | rw [if_neg (by omega)] | rw [if_pos (by assumption)] | rw [if_neg (by assumption)] | rw [if_pos (True.intro : True)])); (try (first | rfl | (congr 2; omega) | (congr 1; congr 1; omega))); done)
          | exact zQm.b1 H3 (by omega) (by assumption) (by unfold sp_forth; (try unfold spPut); (try simp only [Int.toNat_natCast]); (repeat (first | rw [if_pos (by omega)] | rw [if_neg (by omega)] | rw [if_pos (by assumption)] | rw [if_neg (by assumption)] | rw [if_pos (True.intro : True)])); (try (first | rfl | (congr 2; omega) | (congr 1; congr 1; omega))); done)
          | exact zQm.b2 H3 (by omega) (by assumption) (by unfold sp_forth; (try unfold spPut); (try simp only [Int.toNat_natCast]); (repeat (first | rw [if_pos (by omega)] | rw [if_neg (by omega)] | rw [if_pos (by assumption)] | rw [if_neg (by assumption)] | rw [if_pos (True.intro : True)])); (try (first | rfl | (congr 2; omega) | (congr 1; congr 1; omega))); done)
          | exact zQm.b3 H3 (by omega) (by assumption) (by unfold sp_forth; (try unfold spPut); (try simp only [Int.toNat_natCast]); (repeat (first | rw [if_pos (by omega)] | rw [if_neg (by omega)] | rw [if_pos (by assumption)] | rw [if_neg (by assumption)] | rw [if_pos (True.intro : True)])); (try (first | rfl | (congr 2; omega) | (congr 1; congr 1; omega))); done)
          | exact zQm.ok H2 (by omega) (by assumption) (by unfold sp_forth; (try unfold spPut); (try simp only [Int.toNat_natCast]); (repeat (first | rw [if_pos (by omega)] | rw [if_neg (by omega)] | rw [if_pos (by assumption)] | rw [if_neg (by assumption)] | rw [if_pos (True.intro : True)])); (try (first | rfl | (congr 2; omega) | (congr 1; congr 1; omega))); done)
          | exact zQm.b1 H2 (by omega) (by assumption) (by unfold sp_forth; (try unfold spPut); (try simp only [Int.toNat_natCast]); (repeat (first | rw [if_pos (by omega)] | rw [if_neg (by omega)] | rw [if_pos (by assumption)] | rw [if_neg (by assumption)] | rw [if_pos (True.intro : True)])); (try (first | rfl | (congr 2; omega) | (congr 1; congr 1; omega))); done)
          | exact zQm.b2 H2 (by omega) (by assumption) (by unfold sp_forth; (try unfold spPut); (try simp only [Int.toNat_natCast]); (repeat (first | rw [if_pos (by omega)] | rw [if_neg (by omega)] | rw [if_pos (by assumption)] | rw [if_neg (by assumption)] | rw [if_pos (True.intro : True)])); (try (first | rfl | (congr 2; omega) | (congr 1; congr 1; omega))); done)
          | exact zQm.b3 H2 (by omega) (by assumption) (by unfold sp_forth; (try unfold spPut); (try simp only [Int.toNat_natCast]); (repeat (first | rw [if_pos (by omega)] | rw [if_neg (by omega)] | rw [if_pos (by assumption)] | rw [if_neg (by assumption)] | rw [if_pos (True.intro : True)])); (try (first | rfl | (congr 2; omega) | (congr 1; congr 1; omega))); done)
          | exact zQm.ok H1 (by omega) (by assumption) (by unfold sp_forth; (try unfold spPut); (try simp only [Int.toNat_natCast]); (repeat (first | rw [if_pos (by omega)] | rw [if_neg (by omega)] | rw [if_pos (by assumption)] | rw [if_neg (by assumption)] | rw [if_pos (True.intro : True)])); (try (first | rfl | (congr 2; omega) | (congr 1; congr 1; omega))); done)
          | exact zQm.b1 H1 (by omega) (by assumption) (by unfold sp_forth; (try unfold spPut); (try simp only [Int.toNat_natCast]); (repeat (first | rw [if_pos (by omega)] | rw [if_neg (by omega)] | rw [if_pos (by assumption)] | rw [if_neg (by assumption)] | rw [if_pos (True.intro : True)])); (try (first | rfl | (congr 2; omega) | (congr 1; congr 1; omega))); done)
          | exact zQm.b2 H1 (by omega) (by assumption) (by unfold sp_forth; (try unfold spPut); (try simp only [Int.toNat_natCast]); (repeat (first | rw [if_pos (by omega)] | rw [if_neg (by omega)] | rw [if_pos (by assumption)] | rw [if_neg (by assumption)] | rw [if_pos (True.intro : True)])); (try (first | rfl | (congr 2; omega) | (congr 1; congr 1; omega))); done)
          | exact zQm.b3 H1 (by omega) (by assumption) (by unfold sp_forth; (try unfold spPut); (try simp only [Int.toNat_natCast]); (repeat (first | rw [if_pos (by omega)] | rw [if_neg (by omega)] | rw [if_pos (by assumption)] | rw [if_neg (by assumption)] | rw [if_pos (True.intro : True)])); (try (first | rfl | (congr 2; omega) | (congr 1; congr 1; omega))); done)
    · refine z_iconst dMod_asksOn_17 ?_
      refine z_iret rfl rfl dMod_asksOn_18 ?_
      rcases (show t9 = 0 ∨ t9 = 1 ∨ t9 = 2 ∨ t9 = 3 by omega) with t0 | t0 | t0 | t0
      all_goals first
        | (exfalso; omega)
        | exact zQm.ok H3 (by omega) (by assumption) (by unfold sp_forth; (try unfold spPut); (try simp only [Int.toNat_natCast]); (repeat (first | rw [if_pos (by omega)] | rw [if_neg (by omega)] | rw [if_pos (by assumption)] | rw [if_neg (by assumption)] | rw [if_pos (True.intro : True)])); (try (first | rfl | (congr 2; omega) | (congr 1; congr 1; omega))); done)
        | exact zQm.b1 H3 (by omega) (by assumption) (by unfold sp_forth; (try unfold spPut); (try simp only [Int.toNat_natCast]); (repeat (first | rw [if_pos (by omega)] | rw [if_neg (by omega)] | rw [if_pos (by assumption)] | rw [if_neg (by assumption)] | rw [if_pos (True.intro : True)])); (try (first | rfl | (congr 2; omega) | (congr 1; congr 1; omega))); done)
        | exact zQm.b2 H3 (by omega) (by assumption) (by unfold sp_forth; (try unfold spPut); (try simp only [Int.toNat_natCast]); (repeat (first | rw [if_pos (by omega)] | rw [if_neg (by omega)] | rw [if_pos (by assumption)] | rw [if_neg (by assumption)] | rw [if_pos (True.intro : True)])); (try (first | rfl | (congr 2; omega) | (congr 1; congr 1; omega))); done)
        | exact zQm.b3 H3 (by omega) (by assumption) (by unfold sp_forth; (try unfold spPut); (try simp only [Int.toNat_natCast]); (repeat (first | rw [if_pos (by omega)] | rw [if_neg (by omega)] | rw [if_pos (by assumption)] | rw [if_neg (by assumption)] | rw [if_pos (True.intro : True)])); (try (first | rfl | (congr 2; omega) | (congr 1; congr 1; omega))); done)
        | exact zQm.ok H2 (by omega) (by assumption) (by unfold sp_forth; (try unfold spPut); (try simp only [Int.toNat_natCast]); (repeat (first | rw [if_pos (by omega)] | rw [if_neg (by omega)] | rw [if_pos (by assumption)] | rw [if_neg (by assumption)] | rw [if_pos (True.intro : True)])); (try (first | rfl | (congr 2; omega) | (congr 1; congr 1; omega))); done)
        | exact zQm.b1 H2 (by omega) (by assumption) (by unfold sp_forth; (try unfold spPut); (try simp only [Int.toNat_natCast]); (repeat (first | rw [if_pos (by omega)] | rw [if_neg (by omega)] | rw [if_pos (by assumption)] | rw [if_neg (by assumption)] | rw [if_pos (True.intro : True)])); (try (first | rfl | (congr 2; omega) | (congr 1; congr 1; omega))); done)
        | exact zQm.b2 H2 (by omega) (by assumption) (by unfold sp_forth; (try unfold spPut); (try simp only [Int.toNat_natCast]); (repeat (first | rw [if_pos (by omega)] | rw [if_neg (by omega)] | rw [if_pos (by assumption)] | rw [if_neg (by assumption)] | rw [if_pos (True.intro : True)])); (try (first | rfl | (congr 2; omega) | (congr 1; congr 1; omega))); done)
        | exact zQm.b3 H2 (by omega) (by assumption) (by unfold sp_forth; (try unfold spPut); (try simp only [Int.toNat_natCast]); (repeat (first | rw [if_pos (by omega)] | rw [if_neg (by omega)] | rw [if_pos (by assumption)] | rw [if_neg (by assumption)] | rw [if_pos (True.intro : True)])); (try (first | rfl | (congr 2; omega) | (congr 1; congr 1; omega))); done)
        | exact zQm.ok H1 (by omega) (by assumption) (by unfold sp_forth; (try unfold spPut); (try simp only [Int.toNat_natCast]); (repeat (first | rw [if_pos (by omega)] | rw [if_neg (by omega)] | rw [if_pos (by assumption)] | rw [if_neg (by assumption)] | rw [if_pos (True.intro : True)])); (try (first | rfl | (congr 2; omega) | (congr 1; congr 1; omega))); done)
        | exact zQm.b1 H1 (by omega) (by assumption) (by unfold sp_forth; (try unfold spPut); (try simp only [Int.toNat_natCast]); (repeat (first | rw [if_pos (by omega)] | rw [if_neg (by omega)] | rw [if_pos (by assumption)] | rw [if_neg (by assumption)] | rw [if_pos (True.intro : True)])); (try (first | rfl | (congr 2; omega) | (congr 1; congr 1; omega))); done)
        | exact zQm.b2 H1 (by omega) (by assumption) (by unfold sp_forth; (try unfold spPut); (try simp only [Int.toNat_natCast]); (repeat (first | rw [if_pos (by omega)] | rw [if_neg (by omega)] | rw [if_pos (by assumption)] | rw [if_neg (by assumption)] | rw [if_pos (True.intro : True)])); (try (first | rfl | (congr 2; omega) | (congr 1; congr 1; omega))); done)
        | exact zQm.b3 H1 (by omega) (by assumption) (by unfold sp_forth; (try unfold spPut); (try simp only [Int.toNat_natCast]); (repeat (first | rw [if_pos (by omega)] | rw [if_neg (by omega)] | rw [if_pos (by assumption)] | rw [if_neg (by assumption)] | rw [if_pos (True.intro : True)])); (try (first | rfl | (congr 2; omega) | (congr 1; congr 1; omega))); done)
theorem k_Mod_forth {p : Int} (H : zMod G h ma S th) (hp : zI32 p) (hO : zOk S) (h16 : ∀ k, k < 4 → (S.1 k).length ≤ 16) : zM G l hMod_forth yMod_forth 5 [.ref (ma 0), zi p] h (zQm G ma h 1 9 2 (sp_forth S p)) zNo 0 0 := by
  obtain ⟨m1, m2, ⟨g, m3, m3a⟩, m4, ⟨f6, m5, m5a⟩, m6, m7⟩ := id H
  unfold zMfs at m2
  refine zM.of [some (.ref (ma 0)), some (zi p)] (by decide +kernel) rfl (by decide) rfl (Nat.le_of_ble_eq_true rfl) rfl ?_
  refine z_aload_n dMod_forth_0 rfl ?_
  refine z_iload_n dMod_forth_1 rfl ?_
  refine z_iconst dMod_forth_2 ?_
  refine z_callV MV_Mod_asksOn lk_Mod_151 dMod_forth_3 (k_Mod_asksOn1 H hp hO h16) rfl rfl (Nat.le_of_ble_eq_true rfl) rfl (by assumption) (Nat.le_of_ble_eq_true rfl) (Nat.le_of_ble_eq_true rfl) (Nat.le_of_eq (Nat.zero_add _)) (Nat.le_of_eq (Nat.zero_add _)) (fun _ _ q => q.elim) ?_
  rintro _ h3 ⟨ma9, th9, z9, rfl, hq9⟩
  refine z_iret rfl rfl dMod_forth_6 ?_
  exact ⟨ma9, th9, z9, rfl, hq9⟩
theorem k_Mod_asksOn0 {p : Int} (H : zMod G h ma S th) (hp : zI32 p) (hO : zOk S) (h16 : ∀ k, k < 4 → (S.1 k).length ≤ 16) : zM G l hMod_asksOn yMod_asksOn 4 [.ref (ma 0), zi p, zi 0] h (zQm G ma h 1 9 2 (sp_back S p)) zNo 0 0 := by
  obtain ⟨m1, m2, ⟨g, m3, m3a⟩, m4, ⟨f6, m5, m5a⟩, m6, m7⟩ := id H
  unfold zMfs at m2
  refine zM.of [some (.ref (ma 0)), some (zi p), some (zi 0)] (by decide +kernel) rfl (by decide) rfl (Nat.le_of_ble_eq_true rfl) rfl ?_
  refine z_aload_n dMod_asksOn_0 rfl ?_
  refine z_iload_n dMod_asksOn_1 rfl ?_
  refine z_callS MS_Mod_isNoCursor lk_Mod_141 dMod_asksOn_2 (k_Mod_isNoCursor (by omega)) rfl rfl (Nat.le_of_ble_eq_true rfl)  (Nat.le_of_ble_eq_true rfl) (Nat.le_of_ble_eq_true rfl) (Nat.le_of_eq (Nat.zero_add _)) (Nat.le_of_eq (Nat.zero_add _)) (fun _ _ q => q.elim) ?_
  rintro _ _ ⟨n9c, rfl, (⟨rfl, hn9c⟩ | ⟨rfl, hn9c⟩), rfl⟩
  · refine z_aload_n dMod_asksOn_5 rfl ?_
    refine z_iload_n dMod_asksOn_6 rfl ?_
    refine z_callV MV_Mod_isNotThere lk_Mod_144 dMod_asksOn_7 (k_Mod_isNotThere H (by omega)) rfl rfl (Nat.le_of_ble_eq_true rfl) rfl (by assumption) (Nat.le_of_ble_eq_true rfl) (Nat.le_of_ble_eq_true rfl) (Nat.le_of_eq (Nat.zero_add _)) (Nat.le_of_eq (Nat.zero_add _)) (fun _ _ q => q.elim) ?_
    rintro _ _ ⟨t8, rfl, ht8, rfl⟩
    try simp only [Int.toNat_natCast] at ht8
    refine z_iconst dMod_asksOn_10 ?_
    refine z_callV MV_Mod_fails lk_Mod_88 dMod_asksOn_11 (k_Mod_fails (by assumption) rfl (by omega) (by omega) (by omega)) rfl rfl (Nat.le_of_ble_eq_true rfl) rfl (by assumption) (Nat.le_of_ble_eq_true rfl) (Nat.le_of_ble_eq_true rfl) (Nat.le_of_eq (Nat.zero_add _)) (Nat.le_of_eq (Nat.zero_add _)) (fun _ _ q => q.elim) ?_
    rintro _ h1 ⟨t9, b8, rfl, ht, p1, g1⟩
    have H1 : zMod G h1 ma S t9 := H.obj (nu := S.2.2.2.2) (th' := t9) p1 g1
    have fz1 : zMfr ma h h1 := zMfr.of0 g1
    obtain ⟨-, n2, ⟨gg, n3, n3a⟩, n4, ⟨f61, n5, n5a⟩, n6, n7⟩ := id H1
    unfold zMfs at n2
    refine z_if_eq (tgt := 19) dMod_asksOn_14 (by decide) (by omega) (fun c14 => ?_) (fun c14 => ?_)
    · exfalso; omega
    · refine z_iconst dMod_asksOn_17 ?_
      refine z_iret rfl rfl dMod_asksOn_18 ?_
      rcases (show t9 = 0 ∨ t9 = 1 ∨ t9 = 2 ∨ t9 = 3 by omega) with t0 | t0 | t0 | t0
      all_goals first
        | (exfalso; omega)
        | exact zQm.ok H3 (by omega) (by assumption) (by unfold sp_back; (try unfold spPut); (try simp only [Int.toNat_natCast]); (repeat (first | rw [if_pos (by omega)] | rw [if_neg (by omega)] | rw [if_pos (by assumption)] | rw [if_neg (by assumption)] | rw [if_pos (True.intro : True)])); (try (first | rfl | (congr 2; omega) | (congr 1; congr 1; omega))); done)
        | exact zQm.b1 H3 (by omega) (by assumption) (by unfold sp_back; (try unfold spPut); (try simp only [Int.toNat_natCast]); (repeat (first | rw [if_pos (by omega)] | rw [if_neg (by omega)] | rw [if_pos (by assumption)] | rw [if_neg (by assumption)] | rw [if_pos (True.intro : True)])); (try (first | rfl | (congr 2; omega) | (congr 1; congr 1; omega))); done)
        | exact zQm.b2 H3 (by omega) (by assumption) (by unfold sp_back; (try unfold spPut); (try simp only [Int.toNat_natCast]); (repeat (first | rw [if_pos (by omega)] | rw [if_neg (by omega)] | rw [if_pos (by assumption)] | rw [if_neg (by assumption)] | rw [if_pos (True.intro : True)])); (try (first | rfl | (congr 2; omega) | (congr 1; congr 1; omega))); done)
        | exact zQm.b3 H3 (by omega) (by assumption) (by unfold sp_back; (try unfold spPut); (try simp only [Int.toNat_natCast]); (repeat (first | rw [if_pos (by omega)] | rw [if_neg (by omega)] | rw [if_pos (by assumption)] | rw [if_neg (by assumption)] | rw [if_pos (True.intro : True)])); (try (first | rfl | (congr 2; omega) | (congr 1; congr 1; omega))); done)
        | exact zQm.ok H2 (by omega) (by assumption) (by unfold sp_back; (try unfold spPut); (try simp only [Int.toNat_natCast]); (repeat (first | rw [if_pos (by omega)] | rw [if_neg (by omega)] | rw [if_pos (by assumption)] | rw [if_neg (by assumption)] | rw [if_pos (True.intro : True)])); (try (first | rfl | (congr 2; omega) | (congr 1; congr 1; omega))); done)
        | exact zQm.b1 H2 (by omega) (by assumption) (by unfold sp_back; (try unfold spPut); (try simp only [Int.toNat_natCast]); (repeat (first | rw [if_pos (by omega)] | rw [if_neg (by omega)] | rw [if_pos (by assumption)] | rw [if_neg (by assumption)] | rw [if_pos (True.intro : True)])); (try (first | rfl | (congr 2; omega) | (congr 1; congr 1; omega))); done)
        | exact zQm.b2 H2 (by omega) (by assumption) (by unfold sp_back; (try unfold spPut); (try simp only [Int.toNat_natCast]); (repeat (first | rw [if_pos (by omega)] | rw [if_neg (by omega)] | rw [if_pos (by assumption)] | rw [if_neg (by assumption)] | rw [if_pos (True.intro : True)])); (try (first | rfl | (congr 2; omega) | (congr 1; congr 1; omega))); done)
        | exact zQm.b3 H2 (by omega) (by assumption) (by unfold sp_back; (try unfold spPut); (try simp only [Int.toNat_natCast]); (repeat (first | rw [if_pos (by omega)] | rw [if_neg (by omega)] | rw [if_pos (by assumption)] | rw [if_neg (by assumption)] | rw [if_pos (True.intro : True)])); (try (first | rfl | (congr 2; omega) | (congr 1; congr 1; omega))); done)
        | exact zQm.ok H1 (by omega) (by assumption) (by unfold sp_back; (try unfold spPut); (try simp only [Int.toNat_natCast]); (repeat (first | rw [if_pos (by omega)] | rw [if_neg (by omega)] | rw [if_pos (by assumption)] | rw [if_neg (by assumption)] | rw [if_pos (True.intro : True)])); (try (first | rfl | (congr 2; omega) | (congr 1; congr 1; omega))); done)
        | exact zQm.b1 H1 (by omega) (by assumption) (by unfold sp_back; (try unfold spPut); (try simp only [Int.toNat_natCast]); (repeat (first | rw [if_pos (by omega)] | rw [if_neg (by omega)] | rw [if_pos (by assumption)] | rw [if_neg (by assumption)] | rw [if_pos (True.intro : True)])); (try (first | rfl | (congr 2; omega) | (congr 1; congr 1; omega))); done)
        | exact zQm.b2 H1 (by omega) (by assumption) (by unfold sp_back; (try unfold spPut); (try simp only [Int.toNat_natCast]); (repeat (first | rw [if_pos (by omega)] | rw [if_neg (by omega)] | rw [if_pos (by assumption)] | rw [if_neg (by assumption)] | rw [if_pos (True.intro : True)])); (try (first | rfl | (congr 2; omega) | (congr 1; congr 1; omega))); done)
        | exact zQm.b3 H1 (by omega) (by assumption) (by unfold sp_back; (try unfold spPut); (try simp only [Int.toNat_natCast]); (repeat (first | rw [if_pos (by omega)] | rw [if_neg (by omega)] | rw [if_pos (by assumption)] | rw [if_neg (by assumption)] | rw [if_pos (True.intro : True)])); (try (first | rfl | (congr 2; omega) | (congr 1; congr 1; omega))); done)
  · obtain ⟨c, rfl⟩ := Int.eq_ofNat_of_zero_le (show 0 ≤ p by omega)
    have hc : c < 3 := by omega
    refine z_aload_n dMod_asksOn_5 rfl ?_
    refine z_iload_n dMod_asksOn_6 rfl ?_
    refine z_callV MV_Mod_isNotThere lk_Mod_144 dMod_asksOn_7 (k_Mod_isNotThere H (by omega)) rfl rfl (Nat.le_of_ble_eq_true rfl) rfl (by assumption) (Nat.le_of_ble_eq_true rfl) (Nat.le_of_ble_eq_true rfl) (Nat.le_of_eq (Nat.zero_add _)) (Nat.le_of_eq (Nat.zero_add _)) (fun _ _ q => q.elim) ?_
    rintro _ _ ⟨t8, rfl, ht8, rfl⟩
    try simp only [Int.toNat_natCast] at ht8
    refine z_iconst dMod_asksOn_10 ?_
    refine z_callV MV_Mod_fails lk_Mod_88 dMod_asksOn_11 (k_Mod_fails (by assumption) rfl (by omega) (by omega) (by omega)) rfl rfl (Nat.le_of_ble_eq_true rfl) rfl (by assumption) (Nat.le_of_ble_eq_true rfl) (Nat.le_of_ble_eq_true rfl) (Nat.le_of_eq (Nat.zero_add _)) (Nat.le_of_eq (Nat.zero_add _)) (fun _ _ q => q.elim) ?_
    rintro _ h1 ⟨t9, b8, rfl, ht, p1, g1⟩
    have H1 : zMod G h1 ma S t9 := H.obj (nu := S.2.2.2.2) (th' := t9) p1 g1
    have fz1 : zMfr ma h h1 := zMfr.of0 g1
    obtain ⟨-, n2, ⟨gg, n3, n3a⟩, n4, ⟨f61, n5, n5a⟩, n6, n7⟩ := id H1
    unfold zMfs at n2
    refine z_if_eq (tgt := 19) dMod_asksOn_14 (by decide) (by omega) (fun c14 => ?_) (fun c14 => ?_)
    · obtain ⟨⟨v1, a1, b1⟩, ⟨v2, a2, b2⟩, ⟨v3, a3, b3⟩, ⟨v4, a4, b4⟩, ⟨v5, a5, b5⟩⟩ := id n4
      have hth : S.2.1 c 0 = 1 := by omega
      have b1c := b1 c (by omega)
      have b2c := b2 c (by omega)
      have b3c := b3 c (by omega)
      have b4c := b4 c (by omega)
      have b5c := b5 c (by omega)
      have e2 := b2c.2 hth
      have e3 := b3c.2 hth
      have e4 := b4c.2 hth
      have e5 := b5c.2 hth
      have ok9 := hO.1 c (by omega) hth
      obtain ⟨kk, ek⟩ := Int.eq_ofNat_of_zero_le ok9.1.1
      refine z_aload_n dMod_asksOn_19 rfl ?_
      refine z_get (k := 2) fd_Mod (by decide) fl_Mod_18 dMod_asksOn_20 (by assumption) (by rfl) ?_
      refine z_iload_n dMod_asksOn_23 rfl ?_
      refine z_zald dMod_asksOn_24 (by assumption) (by refine ⟨?_, ?_, ?_⟩ <;> omega) ?_
      rw [Int.toNat_natCast]
      rw [e2]
      refine z_if_eq (tgt := 35) dMod_asksOn_25 (by decide) (by omega) (fun c25 => ?_) (fun c25 => ?_)
      · refine z_aload_n dMod_asksOn_35 rfl ?_
        refine z_iload_n dMod_asksOn_36 rfl ?_
        refine z_iload_n dMod_asksOn_37 rfl ?_
        refine z_callV MV_Mod_goes lk_Mod_147 dMod_asksOn_38 (k_Mod_goesB H1 hc hth ek (by omega) h16 (by omega)) rfl rfl (Nat.le_of_ble_eq_true rfl) rfl (by assumption) (Nat.le_of_ble_eq_true rfl) (Nat.le_of_ble_eq_true rfl) (Nat.le_of_eq (Nat.zero_add _)) (Nat.le_of_eq (Nat.zero_add _)) (fun _ _ q => q.elim) ?_
        rintro _ h3 (⟨hP, rfl, H3, g3⟩ | ⟨hP, rfl, rfl⟩)
        · have fz3 : zMfr ma h h3 := fz1.tr (zMfr.of2 (i := 5) (j := 6) (by omega) (by omega) g3)
          refine z_iret rfl rfl dMod_asksOn_41 ?_
          rcases (show t9 = 0 ∨ t9 = 1 ∨ t9 = 2 ∨ t9 = 3 by omega) with t0 | t0 | t0 | t0
          all_goals first
            | (exfalso; omega)
            | exact zQm.ok H3 (by omega) (by assumption) (by unfold sp_back; (try unfold spPut); (try simp only [Int.toNat_natCast]); (repeat (first | rw [if_pos (by omega)] | rw [if_neg (by omega)] | rw [if_pos (by assumption)] | rw [if_neg (by assumption)] | rw [if_pos (True.intro : True)])); (try (first | rfl | (congr 2; omega) | (congr 1; congr 1; omega))); done)
            | exact zQm.b1 H3 (by omega) (by assumption) (by unfold sp_back; (try unfold spPut); (try simp only [Int.toNat_natCast]); (repeat (first | rw [if_pos (by omega)] | rw [if_neg (by omega)] | rw [if_pos (by assumption)] | rw [if_neg (by assumption)] | rw [if_pos (True.intro : True)])); (try (first | rfl | (congr 2; omega) | (congr 1; congr 1; omega))); done)
            | exact zQm.b2 H3 (by omega) (by assumption) (by unfold sp_back; (try unfold spPut); (try simp only [Int.toNat_natCast]); (repeat (first | rw [if_pos (by omega)] | rw [if_neg (by omega)] | rw [if_pos (by assumption)] | rw [if_neg (by assumption)] | rw [if_pos (True.intro : True)])); (try (first | rfl | (congr 2; omega) | (congr 1; congr 1; omega))); done)
            | exact zQm.b3 H3 (by omega) (by assumption) (by unfold sp_back; (try unfold spPut); (try simp only [Int.toNat_natCast]); (repeat (first | rw [if_pos (by omega)] | rw [if_neg (by omega)] | rw [if_pos (by assumption)] | rw [if_neg (by assumption)] | rw [if_pos (True.intro : True)])); (try (first | rfl | (congr 2; omega) | (congr 1; congr 1; omega))); done)
            | exact zQm.ok H2 (by omega) (by assumption) (by unfold sp_back; (try unfold spPut); (try simp only [Int.toNat_natCast]); (repeat (first | rw [if_pos (by omega)] | rw [if_neg (by omega)] | rw [if_pos (by assumption)] | rw [if_neg (by assumption)] | rw [if_pos (True.intro : True)])); (try (first | rfl | (congr 2; omega) | (congr 1; congr 1; omega))); done)
            | exact zQm.b1 H2 (by omega) (by assumption) (by unfold sp_back; (try unfold spPut); (try simp only [Int.toNat_natCast]); (repeat (first | rw [if_pos (by omega)] | rw [if_neg (by omega)] | rw [if_pos (by assumption)] | rw [if_neg (by assumption)] | rw [if_pos (True.intro : True)])); (try (first | rfl | (congr 2; omega) | (congr 1; congr 1; omega))); done)
            | exact zQm.b2 H2 (by omega) (by assumption) (by unfold sp_back; (try unfold spPut); (try simp only [Int.toNat_natCast]); (repeat (first | rw [if_pos (by omega)] | rw [if_neg (by omega)] | rw [if_pos (by assumption)] | rw [if_neg (by assumption)] | rw [if_pos (True.intro : True)])); (try (first | rfl | (congr 2; omega) | (congr 1; congr 1; omega))); done)
            | exact zQm.b3 H2 (by omega) (by assumption) (by unfold sp_back; (try unfold spPut); (try simp only [Int.toNat_natCast]); (repeat (first | rw [if_pos (by omega)] | rw [if_neg (by omega)] | rw [if_pos (by assumption)] | rw [if_neg (by assumption)] | rw [if_pos (True.intro : True)])); (try (first | rfl | (congr 2; omega) | (congr 1; congr 1; omega))); done)
            | exact zQm.ok H1 (by omega) (by assumption) (by unfold sp_back; (try unfold spPut); (try simp only [Int.toNat_natCast]); (repeat (first | rw [if_pos (by omega)] | rw [if_neg (by omega)] | rw [if_pos (by assumption)] | rw [if_neg (by assumption)] | rw [if_pos (True.intro : True)])); (try (first | rfl | (congr 2; omega) | (congr 1; congr 1; omega))); done)
            | exact zQm.b1 H1 (by omega) (by assumption) (by unfold sp_back; (try unfold spPut); (try simp only [Int.toNat_natCast]); (repeat (first | rw [if_pos (by omega)] | rw [if_neg (by omega)] | rw [if_pos (by assumption)] | rw [if_neg (by assumption)] | rw [if_pos (True.intro : True)])); (try (first | rfl | (congr 2; omega) | (congr 1; congr 1; omega))); done)
            | exact zQm.b2 H1 (by omega) (by assumption) (by unfold sp_back; (try unfold spPut); (try simp only [Int.toNat_natCast]); (repeat (first | rw [if_pos (by omega)] | rw [if_neg (by omega)] | rw [if_pos (by assumption)] | rw [if_neg (by assumption)] | rw [if_pos (True.intro : True)])); (try (first | rfl | (congr 2; omega) | (congr 1; congr 1; omega))); done)
            | exact zQm.b3 H1 (by omega) (by assumption) (by unfold sp_back; (try unfold spPut); (try simp only [Int.toNat_natCast]); (repeat (first | rw [if_pos (by omega)] | rw [if_neg (by omega)] | rw [if_pos (by assumption)] | rw [if_neg (by assumption)] | rw [if_pos (True.intro : True)])); (try (first | rfl | (congr 2; omega) | (congr 1; congr 1; omega))); done)
        · refine z_iret rfl rfl dMod_asksOn_41 ?_
          rcases (show t9 = 0 ∨ t9 = 1 ∨ t9 = 2 ∨ t9 = 3 by omega) with t0 | t0 | t0 | t0
          all_goals first
            | (exfalso; omega)
            | exact zQm.ok H3 (by omega) (by assumption) (by unfold sp_back; (try unfold spPut); (try simp only [Int.toNat_natCast]); (repeat (first | rw [if_pos (by omega)] | rw [if_neg (by omega)] | rw [if_pos (by assumption)] | rw [if_neg (by assumption)] | rw [if_pos (True.intro : True)])); (try (first | rfl | (congr 2; omega) | (congr 1; congr 1; omega))); done)
            | exact zQm.b1 H3 (by omega) (by assumption) (by unfold sp_back; (try unfold spPut); (try simp only [Int.toNat_natCast]); (repeat (first | rw [if_pos (by omega)] | rw [if_neg (by omega)] | rw [if_pos (by assumption)] | rw [if_neg (by assumption)] | rw [if_pos (True.intro : True)])); (try (first | rfl | (congr 2; omega) | (congr 1; congr 1; omega))); done)
            | exact zQm.b2 H3 (by omega) (by assumption) (by unfold sp_back; (try unfold spPut); (try simp only [Int.toNat_natCast]); (repeat (first | rw [if_pos (by omega)] | rw [if_neg (by omega)] | rw [if_pos (by assumption)] | rw [if_neg (by assumption)] | rw [if_pos (True.intro : True)])); (try (first | rfl | (congr 2; omega) | (congr 1; congr 1; omega))); done)
            | exact zQm.b3 H3 (by omega) (by assumption) (by unfold sp_back; (try unfold spPut); (try simp only [Int.toNat_natCast]); (repeat (first | rw [if_pos (by omega)] | rw [if_neg (by omega)] | rw [if_pos (by assumption)] | rw [if_neg (by assumption)] | rw [if_pos (True.intro : True)])); (try (first | rfl | (congr 2; omega) | (congr 1; congr 1; omega))); done)
            | exact zQm.ok H2 (by omega) (by assumption) (by unfold sp_back; (try unfold spPut); (try simp only [Int.toNat_natCast]); (repeat (first | rw [if_pos (by omega)] | rw [if_neg (by omega)] | rw [if_pos (by assumption)] | rw [if_neg (by assumption)] | rw [if_pos (True.intro : True)])); (try (first | rfl | (congr 2; omega) | (congr 1; congr 1; omega))); done)
            | exact zQm.b1 H2 (by omega) (by assumption) (by unfold sp_back; (try unfold spPut); (try simp only [Int.toNat_natCast]); (repeat (first | rw [if_pos (by omega)] | rw [if_neg (by omega)] | rw [if_pos (by assumption)] | rw [if_neg (by assumption)] | rw [if_pos (True.intro : True)])); (try (first | rfl | (congr 2; omega) | (congr 1; congr 1; omega))); done)
            | exact zQm.b2 H2 (by omega) (by assumption) (by unfold sp_back; (try unfold spPut); (try simp only [Int.toNat_natCast]); (repeat (first | rw [if_pos (by omega)] | rw [if_neg (by omega)] | rw [if_pos (by assumption)] | rw [if_neg (by assumption)] | rw [if_pos (True.intro : True)])); (try (first | rfl | (congr 2; omega) | (congr 1; congr 1; omega))); done)
            | exact zQm.b3 H2 (by omega) (by assumption) (by unfold sp_back; (try unfold spPut); (try simp only [Int.toNat_natCast]); (repeat (first | rw [if_pos (by omega)] | rw [if_neg (by omega)] | rw [if_pos (by assumption)] | rw [if_neg (by assumption)] | rw [if_pos (True.intro : True)])); (try (first | rfl | (congr 2; omega) | (congr 1; congr 1; omega))); done)
            | exact zQm.ok H1 (by omega) (by assumption) (by unfold sp_back; (try unfold spPut); (try simp only [Int.toNat_natCast]); (repeat (first | rw [if_pos (by omega)] | rw [if_neg (by omega)] | rw [if_pos (by assumption)] | rw [if_neg (by assumption)] | rw [if_pos (True.intro : True)])); (try (first | rfl | (congr 2; omega) | (congr 1; congr 1; omega))); done)
            | exact zQm.b1 H1 (by omega) (by assumption) (by unfold sp_back; (try unfold spPut); (try simp only [Int.toNat_natCast]); (repeat (first | rw [if_pos (by omega)] | rw [if_neg (by omega)] | rw [if_pos (by assumption)] | rw [if_neg (by assumption)] | rw [if_pos (True.intro : True)])); (try (first | rfl | (congr 2; omega) | (congr 1; congr 1; omega))); done)
            | exact zQm.b2 H1 (by omega) (by assumption) (by unfold sp_back; (try unfold spPut); (try simp only [Int.toNat_natCast]); (repeat (first | rw [if_pos (by omega)] | rw [if_neg (by omega)] | rw [if_pos (by assumption)] | rw [if_neg (by assumption)] | rw [if_pos (True.intro : True)])); (try (first | rfl | (congr 2; omega) | (congr 1; congr 1; omega))); done)
            | exact zQm.b3 H1 (by omega) (by assumption) (by unfold sp_back; (try unfold spPut); (try simp only [Int.toNat_natCast]); (repeat (first | rw [if_pos (by omega)] | rw [if_neg (by omega)] | rw [if_pos (by assumption)] | rw [if_neg (by assumption)] | rw [if_pos (True.intro : True)])); (try (first | rfl | (congr 2; omega) | (congr 1; congr 1; omega))); done)
      · refine z_aload_n dMod_asksOn_28 rfl ?_
        refine z_callV MV_Mod_refused lk_Mod_92 dMod_asksOn_29 (k_Mod_refused n2 rfl rfl) rfl rfl (Nat.le_of_ble_eq_true rfl) rfl (by assumption) (Nat.le_of_ble_eq_true rfl) (Nat.le_of_ble_eq_true rfl) (Nat.le_of_eq (Nat.zero_add _)) (Nat.le_of_eq (Nat.zero_add _)) (fun _ _ q => q.elim) ?_
        rintro _ h2 ⟨rfl, p2, g2⟩
        have H2 : zMod G h2 ma (zsRef S) t9 := H1.obj (nu := zup S.2.2.2.2 1 (S.2.2.2.2 1 + 1)) p2 g2
        have fz2 : zMfr ma h h2 := zMfr.of0 (fun q hq => (g2 q hq).trans (g1 q hq))
        refine z_goto (tgt := 41) dMod_asksOn_32 (by decide) ?_
        refine z_iret rfl rfl dMod_asksOn_41 ?_
        rcases (show t9 = 0 ∨ t9 = 1 ∨ t9 = 2 ∨ t9 = 3 by omega) with t0 | t0 | t0 | t0
        all_goals first
          | (exfalso; omega)
          | exact zQm.ok H3 (by omega) (by assumption) (by unfold sp_back; (try unfold spPut); (try simp only [Int.toNat_natCast]); (repeat (first | rw [if_pos (by omega)] | rw [if_neg (by omega)] | rw [if_pos (by assumption)] | rw [if_neg (by assumption)] | rw [if_pos (True.intro : True)])); (try (first | rfl | (congr 2; omega) | (congr 1; congr 1; omega))); done)
          | exact zQm.b1 H3 (by omega) (by assumption) (by unfold sp_back; (try unfold spPut); (try simp only [Int.toNat_natCast]); (repeat (first | rw [if_pos (by omega)] | rw [if_neg (by omega)] | rw [if_pos (by assumption)] | rw [if_neg (by assumption)] | rw [if_pos (True.intro : True)])); (try (first | rfl | (congr 2; omega) | (congr 1; congr 1; omega))); done)
          | exact zQm.b2 H3 (by omega) (by assumption) (by unfold sp_back; (try unfold spPut); (try simp only [Int.toNat_natCast]); (repeat (first | rw [if_pos (by omega)] | rw [if_neg (by omega)] | rw [if_pos (by assumption)] | rw [if_neg (by assumption)] | rw [if_pos (True.intro : True)])); (try (first | rfl | (congr 2; omega) | (congr 1; congr 1; omega))); done)
          | exact zQm.b3 H3 (by omega) (by assumption) (by unfold sp_back; (try unfold spPut); (try simp only [Int.toNat_natCast]); (repeat (first | rw [if_pos (by omega)] | rw [if_neg (by omega)] | rw [if_pos (by assumption)] | rw [if_neg (by assumption)] | rw [if_pos (True.intro : True)])); (try (first | rfl | (congr 2; omega) | (congr 1; congr 1; omega))); done)
          | exact zQm.ok H2 (by omega) (by assumption) (by unfold sp_back; (try unfold spPut); (try simp only [Int.toNat_natCast]); (repeat (first | rw [if_pos (by omega)] | rw [if_neg (by omega)] | rw [if_pos (by assumption)] | rw [if_neg (by assumption)] | rw [if_pos (True.intro : True)])); (try (first | rfl | (congr 2; omega) | (congr 1; congr 1; omega))); done)
          | exact zQm.b1 H2 (by omega) (by assumption) (by unfold sp_back; (try unfold spPut); (try simp only [Int.toNat_natCast]); (repeat (first | rw [if_pos (by omega)] | rw [if_neg (by omega)] | rw [if_pos (by assumption)] | rw [if_neg (by assumption)] | rw [if_pos (True.intro : True)])); (try (first | rfl | (congr 2; omega) | (congr 1; congr 1; omega))); done)
          | exact zQm.b2 H2 (by omega) (by assumption) (by unfold sp_back; (try unfold spPut); (try simp only [Int.toNat_natCast]); (repeat (first | rw [if_pos (by omega)] | rw [if_neg (by omega)] | rw [if_pos (by assumption)] | rw [if_neg (by assumption)] | rw [if_pos (True.intro : True)])); (try (first | rfl | (congr 2; omega) | (congr 1; congr 1; omega))); done)
          | exact zQm.b3 H2 (by omega) (by assumption) (by unfold sp_back; (try unfold spPut); (try simp only [Int.toNat_natCast]); (repeat (first | rw [if_pos (by omega)] | rw [if_neg (by omega)] | rw [if_pos (by assumption)] | rw [if_neg (by assumption)] | rw [if_pos (True.intro : True)])); (try (first | rfl | (congr 2; omega) | (congr 1; congr 1; omega))); done)
          | exact zQm.ok H1 (by omega) (by assumption) (by unfold sp_back; (try unfold spPut); (try simp only [Int.toNat_natCast]); (repeat (first | rw [if_pos (by omega)] | rw [if_neg (by omega)] | rw [if_pos (by assumption)] | rw [if_neg (by assumption)] | rw [if_pos (True.intro : True)])); (try (first | rfl | (congr 2; omega) | (congr 1; congr 1; omega))); done)
          | exact zQm.b1 H1 (by omega) (by assumption) (by unfold sp_back; (try unfold spPut); (try simp only [Int.toNat_natCast]); (repeat (first | rw [if_pos (by omega)] | rw [if_neg (by omega)] | rw [if_pos (by assumption)] | rw [if_neg (by assumption)] | rw [if_pos (True.intro : True)])); (try (first | rfl | (congr 2; omega) | (congr 1; congr 1; omega))); done)
          | exact zQm.b2 H1 (by omega) (by assumption) (by unfold sp_back; (try unfold spPut); (try simp only [Int.toNat_natCast]); (repeat (first | rw [if_pos (by omega)] | rw [if_neg (by omega)] | rw [if_pos (by assumption)] | rw [if_neg (by assumption)] | rw [if_pos (True.intro : True)])); (try (first | rfl | (congr 2; omega) | (congr 1; congr 1; omega))); done)
          | exact zQm.b3 H1 (by omega) (by assumption) (by unfold sp_back; (try unfold spPut); (try simp only [Int.toNat_natCast]); (repeat (first | rw [if_pos (by omega)] | rw [if_neg (by omega)] | rw [if_pos (by assumption)] | rw [if_neg (by assumption)] | rw [if_pos (True.intro : True)])); (try (first | rfl | (congr 2; omega) | (congr 1; congr 1; omega))); done)
    · refine z_iconst dMod_asksOn_17 ?_
      refine z_iret rfl rfl dMod_asksOn_18 ?_
      rcases (show t9 = 0 ∨ t9 = 1 ∨ t9 = 2 ∨ t9 = 3 by omega) with t0 | t0 | t0 | t0
      all_goals first
        | (exfalso; omega)
        | exact zQm.ok H3 (by omega) (by assumption) (by unfold sp_back; (try unfold spPut); (try simp only [Int.toNat_natCast]); (repeat (first | rw [if_pos (by omega)] | rw [if_neg (by omega)] | rw [if_pos (by assumption)] | rw [if_neg (by assumption)] | rw [if_pos (True.intro : True)])); (try (first | rfl | (congr 2; omega) | (congr 1; congr 1; omega))); done)
        | exact zQm.b1 H3 (by omega) (by assumption) (by unfold sp_back; (try unfold spPut); (try simp only [Int.toNat_natCast]); (repeat (first | rw [if_pos (by omega)] | rw [if_neg (by omega)] | rw [if_pos (by assumption)] | rw [if_neg (by assumption)] | rw [if_pos (True.intro : True)])); (try (first | rfl | (congr 2; omega) | (congr 1; congr 1; omega))); done)
        | exact zQm.b2 H3 (by omega) (by assumption) (by unfold sp_back; (try unfold spPut); (try simp only [Int.toNat_natCast]); (repeat (first | rw [if_pos (by omega)] | rw [if_neg (by omega)] | rw [if_pos (by assumption)] | rw [if_neg (by assumption)] | rw [if_pos (True.intro : True)])); (try (first | rfl | (congr 2; omega) | (congr 1; congr 1; omega))); done)
        | exact zQm.b3 H3 (by omega) (by assumption) (by unfold sp_back; (try unfold spPut); (try simp only [Int.toNat_natCast]); (repeat (first | rw [if_pos (by omega)] | rw [if_neg (by omega)] | rw [if_pos (by assumption)] | rw [if_neg (by assumption)] | rw [if_pos (True.intro : True)])); (try (first | rfl | (congr 2; omega) | (congr 1; congr 1; omega))); done)
        | exact zQm.ok H2 (by omega) (by assumption) (by unfold sp_back; (try unfold spPut); (try simp only [Int.toNat_natCast]); (repeat (first | rw [if_pos (by omega)] | rw [if_neg (by omega)] | rw [if_pos (by assumption)] | rw [if_neg (by assumption)] | rw [if_pos (True.intro : True)])); (try (first | rfl | (congr 2; omega) | (congr 1; congr 1; omega))); done)
        | exact zQm.b1 H2 (by omega) (by assumption) (by unfold sp_back; (try unfold spPut); (try simp only [Int.toNat_natCast]); (repeat (first | rw [if_pos (by omega)] | rw [if_neg (by omega)] | rw [if_pos (by assumption)] | rw [if_neg (by assumption)] | rw [if_pos (True.intro : True)])); (try (first | rfl | (congr 2; omega) | (congr 1; congr 1; omega))); done)
        | exact zQm.b2 H2 (by omega) (by assumption) (by unfold sp_back; (try unfold spPut); (try simp only [Int.toNat_natCast]); (repeat (first | rw [if_pos (by omega)] | rw [if_neg (by omega)] | rw [if_pos (by assumption)] | rw [if_neg (by assumption)] | rw [if_pos (True.intro : True)])); (try (first | rfl | (congr 2; omega) | (congr 1; congr 1; omega))); done)
        | exact zQm.b3 H2 (by omega) (by assumption) (by unfold sp_back; (try unfold spPut); (try simp only [Int.toNat_natCast]); (repeat (first | rw [if_pos (by omega)] | rw [if_neg (by omega)] | rw [if_pos (by assumption)] | rw [if_neg (by assumption)] | rw [if_pos (True.intro : True)])); (try (first | rfl | (congr 2; omega) | (congr 1; congr 1; omega))); done)
        | exact zQm.ok H1 (by omega) (by assumption) (by unfold sp_back; (try unfold spPut); (try simp only [Int.toNat_natCast]); (repeat (first | rw [if_pos (by omega)] | rw [if_neg (by omega)] | rw [if_pos (by assumption)] | rw [if_neg (by assumption)] | rw [if_pos (True.intro : True)])); (try (first | rfl | (congr 2; omega) | (congr 1; congr 1; omega))); done)
        | exact zQm.b1 H1 (by omega) (by assumption) (by unfold sp_back; (try unfold spPut); (try simp only [Int.toNat_natCast]); (repeat (first | rw [if_pos (by omega)] | rw [if_neg (by omega)] | rw [if_pos (by assumption)] | rw [if_neg (by assumption)] | rw [if_pos (True.intro : True)])); (try (first | rfl | (congr 2; omega) | (congr 1; congr 1; omega))); done)
        | exact zQm.b2 H1 (by omega) (by assumption) (by unfold sp_back; (try unfold spPut); (try simp only [Int.toNat_natCast]); (repeat (first | rw [if_pos (by omega)] | rw [if_neg (by omega)] | rw [if_pos (by assumption)] | rw [if_neg (by assumption)] | rw [if_pos (True.intro : True)])); (try (first | rfl | (congr 2; omega) | (congr 1; congr 1; omega))); done)
        | exact zQm.b3 H1 (by omega) (by assumption) (by unfold sp_back; (try unfold spPut); (try simp only [Int.toNat_natCast]); (repeat (first | rw [if_pos (by omega)] | rw [if_neg (by omega)] | rw [if_pos (by assumption)] | rw [if_neg (by assumption)] | rw [if_pos (True.intro : True)])); (try (first | rfl | (congr 2; omega) | (congr 1; congr 1; omega))); done)
theorem k_Mod_back {p : Int} (H : zMod G h ma S th) (hp : zI32 p) (hO : zOk S) (h16 : ∀ k, k < 4 → (S.1 k).length ≤ 16) : zM G l hMod_back yMod_back 5 [.ref (ma 0), zi p] h (zQm G ma h 1 9 2 (sp_back S p)) zNo 0 0 := by
  obtain ⟨m1, m2, ⟨g, m3, m3a⟩, m4, ⟨f6, m5, m5a⟩, m6, m7⟩ := id H
  unfold zMfs at m2
  refine zM.of [some (.ref (ma 0)), some (zi p)] (by decide +kernel) rfl (by decide) rfl (Nat.le_of_ble_eq_true rfl) rfl ?_
  refine z_aload_n dMod_back_0 rfl ?_
  refine z_iload_n dMod_back_1 rfl ?_
  refine z_iconst dMod_back_2 ?_
  refine z_callV MV_Mod_asksOn lk_Mod_151 dMod_back_3 (k_Mod_asksOn0 H hp hO h16) rfl rfl (Nat.le_of_ble_eq_true rfl) rfl (by assumption) (Nat.le_of_ble_eq_true rfl) (Nat.le_of_ble_eq_true rfl) (Nat.le_of_eq (Nat.zero_add _)) (Nat.le_of_eq (Nat.zero_add _)) (fun _ _ q => q.elim) ?_
  rintro _ h3 ⟨ma9, th9, z9, rfl, hq9⟩
  refine z_iret rfl rfl dMod_back_6 ?_
  exact ⟨ma9, th9, z9, rfl, hq9⟩
end MOD14
