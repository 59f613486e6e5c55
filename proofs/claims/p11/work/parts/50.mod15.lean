section MOD15
variable {G : zG} {l : Launch} {h h' h'' : zHp} {ma : Nat → Nat} {S : zSt} {th : Int}
theorem zMfr.cu (hf : ∀ z, (∀ i, 2 ≤ i → i ≤ 6 → z ≠ ma i) → h' z = h z) : zMfr ma h h' := fun q e he hq => (hf q (fun i _ h6 => hq i (by omega))).trans he
theorem zMod.cusF {cu' : Nat → Nat → Int} (H : zMod G h ma S th) (hc : zMcu G h' ma cu') (hf : ∀ z, (∀ i, 2 ≤ i → i ≤ 6 → z ≠ ma i) → h' z = h z) : zMod G h' ma (zsC S cu') th := H.cus hc (fun i hi hr => hf _ (fun j h2 h6 => H.inj hi (by omega) (by omega)))
theorem zsSt_cur (S : zSt) (k : Int) (c : Nat) (X : Nat → Int) : zsC (zsStale S k c) (zup (zsStale S k c).2.1 c X) = zsStale (zsC S (zup S.2.1 c X)) k c := by
  have e : zup (zsStale S k c).2.1 c X = (zsStale (zsC S (zup S.2.1 c X)) k c).2.1 := by
    funext j f
    by_cases e : j = c
    · subst e
      rw [zup_same]
      show X f = if j < 3 ∧ f = 1 ∧ zup S.2.1 j X j 0 = 1 ∧ zup S.2.1 j X j 2 = k ∧ (j : Int) ≠ (j : Int) then 1 else zup S.2.1 j X j f
      rw [if_neg (fun z => z.2.2.2.2 rfl), zup_same]
    · rw [zup_ne e]
      show (if j < 3 ∧ f = 1 ∧ S.2.1 j 0 = 1 ∧ S.2.1 j 2 = k ∧ (j : Int) ≠ (c : Int) then 1 else S.2.1 j f) = if j < 3 ∧ f = 1 ∧ zup S.2.1 c X j 0 = 1 ∧ zup S.2.1 c X j 2 = k ∧ (j : Int) ≠ (c : Int) then 1 else zup S.2.1 c X j f
      rw [zup_ne e]
  rw [e]
  rfl
theorem zstc (S : zSt) (k : Int) (c f : Nat) : (zsStale S k c).2.1 c f = S.2.1 c f := if_neg (fun z => z.2.2.2.2 rfl)
theorem k_Mod_open {c p q : Int} (H : zMod G h ma S th) (z_c : zI32 c) (z_p : zI32 p) (z_q : zI32 q) (h16 : ∀ k, k < 4 → (S.1 k).length ≤ 16) : zM G l hMod_open yMod_open 4 [.ref (ma 0), zi c, zi p, zi q] h (zQm G ma h (1) (9) (9) (sp_open S c p q)) zNo 0 0 := by
  obtain ⟨m1, m2, ⟨g, m3, m3a⟩, m4, ⟨f6, m5, m5a⟩, m6, m7⟩ := id H
  unfold zMfs at m2
  refine zM.of [some (.ref (ma 0)), some (zi c), some (zi p), some (zi q)] (by decide +kernel) rfl (by decide) rfl (Nat.le_of_ble_eq_true rfl) rfl ?_
  refine z_aload_n dMod_open_0 rfl ?_
  refine z_iload_n dMod_open_1 rfl ?_
  refine z_callS MS_Mod_isNoCursor lk_Mod_141 dMod_open_2 (k_Mod_isNoCursor (by omega)) rfl rfl (Nat.le_of_ble_eq_true rfl)  (Nat.le_of_ble_eq_true rfl) (Nat.le_of_ble_eq_true rfl) (Nat.le_of_eq (Nat.zero_add _)) (Nat.le_of_eq (Nat.zero_add _)) (fun _ _ q => q.elim) ?_
  rintro _ _ ⟨n9c, rfl, (⟨rfl, hn9c⟩ | ⟨rfl, hn9c⟩), rfl⟩
  · refine z_if_ne (tgt := 30) dMod_open_5 (by decide) (by omega) (fun c5 => ?_) (fun c5 => ?_)
    · refine z_iconst dMod_open_30 ?_
      refine z_goto (tgt := 35) dMod_open_31 (by decide) ?_
      refine z_iconst dMod_open_35 ?_
      refine z_iconst dMod_open_36 ?_
      refine z_callV MV_Mod_fails lk_Mod_88 dMod_open_37 (k_Mod_fails (by assumption) rfl (by omega) (by omega) (by omega)) rfl rfl (Nat.le_of_ble_eq_true rfl) rfl (by assumption) (Nat.le_of_ble_eq_true rfl) (Nat.le_of_ble_eq_true rfl) (Nat.le_of_eq (Nat.zero_add _)) (Nat.le_of_eq (Nat.zero_add _)) (fun _ _ q => q.elim) ?_
      rintro _ h1 ⟨t9, b8, rfl, ht, p1, g1⟩
      have H1 : zMod G h1 ma S t9 := H.obj (nu := S.2.2.2.2) (th' := t9) p1 g1
      have fz1 : zMfr ma h h1 := zMfr.of0 g1
      obtain ⟨-, n2, ⟨gg, n3, n3a⟩, n4, ⟨f61, n5, n5a⟩, n6, n7⟩ := id H1
      unfold zMfs at n2
      refine z_if_eq (tgt := 45) dMod_open_40 (by decide) (by omega) (fun c40 => ?_) (fun c40 => ?_)
      · exfalso; omega
      · refine z_iconst dMod_open_43 ?_
        refine z_iret rfl rfl dMod_open_44 ?_
        rcases (show t9 = 0 ∨ t9 = 1 ∨ t9 = 2 ∨ t9 = 3 by omega) with t0 | t0 | t0 | t0
        all_goals first
          | (exfalso; omega)
          | exact zQm.ok H6 (by omega) (by assumption) (by unfold sp_open; (try unfold spPut); (try simp only [Int.toNat_natCast]); (repeat (first | rw [if_pos (by omega)] | rw [if_neg (by omega)] | rw [if_pos (by assumption)] | rw [if_neg (by assumption)] | rw [if_pos (True.intro : True)])); (try (first | rfl | (congr 2; omega) | (congr 1; congr 1; omega))); done)
          | exact zQm.b1 H6 (by omega) (by assumption) (by unfold sp_open; (try unfold spPut); (try simp only [Int.toNat_natCast]); (repeat (first | rw [if_pos (by omega)] | rw [if_neg (by omega)] | rw [if_pos (by assumption)] | rw [if_neg (by assumption)] | rw [if_pos (True.intro : True)])); (try (first | rfl | (congr 2; omega) | (congr 1; congr 1; omega))); done)
          | exact zQm.b2 H6 (by omega) (by assumption) (by unfold sp_open; (try unfold spPut); (try simp only [Int.toNat_natCast]); (repeat (first | rw [if_pos (by omega)] | rw [if_neg (by omega)] | rw [if_pos (by assumption)] | rw [if_neg (by assumption)] | rw [if_pos (True.intro : True)])); (try (first | rfl | (congr 2; omega) | (congr 1; congr 1; omega))); done)
          | exact zQm.b3 H6 (by omega) (by assumption) (by unfold sp_open; (try unfold spPut); (try simp only [Int.toNat_natCast]); (repeat (first | rw [if_pos (by omega)] | rw [if_neg (by omega)] | rw [if_pos (by assumption)] | rw [if_neg (by assumption)] | rw [if_pos (True.intro : True)])); (try (first | rfl | (congr 2; omega) | (congr 1; congr 1; omega))); done)
          | exact zQm.ok H1 (by omega) (by assumption) (by unfold sp_open; (try unfold spPut); (try simp only [Int.toNat_natCast]); (repeat (first | rw [if_pos (by omega)] | rw [if_neg (by omega)] | rw [if_pos (by assumption)] | rw [if_neg (by assumption)] | rw [if_pos (True.intro : True)])); (try (first | rfl | (congr 2; omega) | (congr 1; congr 1; omega))); done)
          | exact zQm.b1 H1 (by omega) (by assumption) (by unfold sp_open; (try unfold spPut); (try simp only [Int.toNat_natCast]); (repeat (first | rw [if_pos (by omega)] | rw [if_neg (by omega)] | rw [if_pos (by assumption)] | rw [if_neg (by assumption)] | rw [if_pos (True.intro : True)])); (try (first | rfl | (congr 2; omega) | (congr 1; congr 1; omega))); done)
          | exact zQm.b2 H1 (by omega) (by assumption) (by unfold sp_open; (try unfold spPut); (try simp only [Int.toNat_natCast]); (repeat (first | rw [if_pos (by omega)] | rw [if_neg (by omega)] | rw [if_pos (by assumption)] | rw [if_neg (by assumption)] | rw [if_pos (True.intro : True)])); (try (first | rfl | (congr 2; omega) | (congr 1; congr 1; omega))); done)
          | exact zQm.b3 H1 (by omega) (by assumption) (by unfold sp_open; (try unfold spPut); (try simp only [Int.toNat_natCast]); (repeat (first | rw [if_pos (by omega)] | rw [if_neg (by omega)] | rw [if_pos (by assumption)] | rw [if_neg (by assumption)] | rw [if_pos (True.intro : True)])); (try (first | rfl | (congr 2; omega) | (congr 1; congr 1; omega))); done)
    · exfalso; omega
  · obtain ⟨cc, rfl⟩ := Int.eq_ofNat_of_zero_le (show 0 ≤ c by omega)
    have hcc : cc < 3 := by omega
    refine z_if_ne (tgt := 30) dMod_open_5 (by decide) (by omega) (fun c5 => ?_) (fun c5 => ?_)
    · exfalso; omega
    · refine z_iload_n dMod_open_8 rfl ?_
      refine z_callS MS_Mod_isNo lk_Mod_81 dMod_open_9 (k_Mod_isNo (by omega)) rfl rfl (Nat.le_of_ble_eq_true rfl)  (Nat.le_of_ble_eq_true rfl) (Nat.le_of_ble_eq_true rfl) (Nat.le_of_eq (Nat.zero_add _)) (Nat.le_of_eq (Nat.zero_add _)) (fun _ _ q => q.elim) ?_
      rintro _ _ ⟨n9k, rfl, (⟨rfl, hn9k⟩ | ⟨rfl, hn9k⟩), rfl⟩
      · refine z_if_ne (tgt := 30) dMod_open_12 (by decide) (by omega) (fun c12 => ?_) (fun c12 => ?_)
        · refine z_iconst dMod_open_30 ?_
          refine z_goto (tgt := 35) dMod_open_31 (by decide) ?_
          refine z_iconst dMod_open_35 ?_
          refine z_iconst dMod_open_36 ?_
          refine z_callV MV_Mod_fails lk_Mod_88 dMod_open_37 (k_Mod_fails (by assumption) rfl (by omega) (by omega) (by omega)) rfl rfl (Nat.le_of_ble_eq_true rfl) rfl (by assumption) (Nat.le_of_ble_eq_true rfl) (Nat.le_of_ble_eq_true rfl) (Nat.le_of_eq (Nat.zero_add _)) (Nat.le_of_eq (Nat.zero_add _)) (fun _ _ q => q.elim) ?_
          rintro _ h1 ⟨t9, b8, rfl, ht, p1, g1⟩
          have H1 : zMod G h1 ma S t9 := H.obj (nu := S.2.2.2.2) (th' := t9) p1 g1
          have fz1 : zMfr ma h h1 := zMfr.of0 g1
          obtain ⟨-, n2, ⟨gg, n3, n3a⟩, n4, ⟨f61, n5, n5a⟩, n6, n7⟩ := id H1
          unfold zMfs at n2
          refine z_if_eq (tgt := 45) dMod_open_40 (by decide) (by omega) (fun c40 => ?_) (fun c40 => ?_)
          · exfalso; omega
          · refine z_iconst dMod_open_43 ?_
            refine z_iret rfl rfl dMod_open_44 ?_
            rcases (show t9 = 0 ∨ t9 = 1 ∨ t9 = 2 ∨ t9 = 3 by omega) with t0 | t0 | t0 | t0
            all_goals first
              | (exfalso; omega)
              | exact zQm.ok H6 (by omega) (by assumption) (by unfold sp_open; (try unfold spPut); (try simp only [Int.toNat_natCast]); (repeat (first | rw [if_pos (by omega)] | rw [if_neg (by omega)] | rw [if_pos (by assumption)] | rw [if_neg (by assumption)] | rw [if_pos (True.intro : True)])); (try (first | rfl | (congr 2; omega) | (congr 1; congr 1; omega))); done)
              | exact zQm.b1 H6 (by omega) (by assumption) (by unfold sp_open; (try unfold spPut); (try simp only [Int.toNat_natCast]); (repeat (first | rw [if_pos (by omega)] | rw [if_neg (by omega)] | rw [if_pos (by assumption)] | rw [if_neg (by assumption)] | rw [if_pos (True.intro : True)])); (try (first | rfl | (congr 2; omega) | (congr 1; congr 1; omega))); done)
              | exact zQm.b2 H6 (by omega) (by assumption) (by unfold sp_open; (try unfold spPut); (try simp only [Int.toNat_natCast]); (repeat (first | rw [if_pos (by omega)] | rw [if_neg (by omega)] | rw [if_pos (by assumption)] | rw [if_neg (by assumption)] | rw [if_pos (True.intro : True)])); (try (first | rfl | (congr 2; omega) | (congr 1; congr 1; omega))); done)
              | exact zQm.b3 H6 (by omega) (by assumption) (by unfold sp_open; (try unfold spPut); (try simp only [Int.toNat_natCast]); (repeat (first | rw [if_pos (by omega)] | rw [if_neg (by omega)] | rw [if_pos (by assumption)] | rw [if_neg (by assumption)] | rw [if_pos (True.intro : True)])); (try (first | rfl | (congr 2; omega) | (congr 1; congr 1; omega))); done)
              | exact zQm.ok H1 (by omega) (by assumption) (by unfold sp_open; (try unfold spPut); (try simp only [Int.toNat_natCast]); (repeat (first | rw [if_pos (by omega)] | rw [if_neg (by omega)] | rw [if_pos (by assumption)] | rw [if_neg (by assumption)] | rw [if_pos (True.intro : True)])); (try (first | rfl | (congr 2; omega) | (congr 1; congr 1; omega))); done)
              | exact zQm.b1 H1 (by omega) (by assumption) (by unfold sp_open; (try unfold spPut); (try simp only [Int.toNat_natCast]); (repeat (first | rw [if_pos (by omega)] | rw [if_neg (by omega)] | rw [if_pos (by assumption)] | rw [if_neg (by assumption)] | rw [if_pos (True.intro : True)])); (try (first | rfl | (congr 2; omega) | (congr 1; congr 1; omega))); done)
              | exact zQm.b2 H1 (by omega) (by assumption) (by unfold sp_open; (try unfold spPut); (try simp only [Int.toNat_natCast]); (repeat (first | rw [if_pos (by omega)] | rw [if_neg (by omega)] | rw [if_pos (by assumption)] | rw [if_neg (by assumption)] | rw [if_pos (True.intro : True)])); (try (first | rfl | (congr 2; omega) | (congr 1; congr 1; omega))); done)
              | exact zQm.b3 H1 (by omega) (by assumption) (by unfold sp_open; (try unfold spPut); (try simp only [Int.toNat_natCast]); (repeat (first | rw [if_pos (by omega)] | rw [if_neg (by omega)] | rw [if_pos (by assumption)] | rw [if_neg (by assumption)] | rw [if_pos (True.intro : True)])); (try (first | rfl | (congr 2; omega) | (congr 1; congr 1; omega))); done)
        · exfalso; omega
      · obtain ⟨k, rfl⟩ := Int.eq_ofNat_of_zero_le (show 0 ≤ p by omega)
        have hkk : k < 4 := by omega
        refine z_if_ne (tgt := 30) dMod_open_12 (by decide) (by omega) (fun c12 => ?_) (fun c12 => ?_)
        · exfalso; omega
        · obtain ⟨frk, rk1, rk2, rk3, rk4⟩ := id (m6 k (by omega))
          refine z_iload_n dMod_open_15 rfl ?_
          refine z_iconst dMod_open_16 ?_
          refine z_aload_n dMod_open_17 rfl ?_
          refine z_get (k := 0) fd_Mod (by decide) fl_Mod_11 dMod_open_18 (by assumption) (by rfl) ?_
          refine z_iload_n dMod_open_21 rfl ?_
          refine z_aald (t := 4) (ty := .array .int) rfl rfl dMod_open_22 m3 (by refine ⟨?_, ?_, ?_⟩ <;> omega) ?_
          rw [show (k : Int).toNat = k from rfl, m3a k (by omega)]
          refine z_alenI dMod_open_23 (by assumption) ?_
          refine z_callS MS_Mod_isOut lk_Mod_41 dMod_open_24 (k_Mod_isOut (by omega) (by omega) (by omega)) rfl rfl (Nat.le_of_ble_eq_true rfl)  (Nat.le_of_ble_eq_true rfl) (Nat.le_of_ble_eq_true rfl) (Nat.le_of_eq (Nat.zero_add _)) (Nat.le_of_eq (Nat.zero_add _)) (fun _ _ q => q.elim) ?_
          rintro _ _ ⟨o9, rfl, (⟨rfl, ho9⟩ | ⟨rfl, ho9⟩), rfl⟩
          · refine z_if_eq (tgt := 34) dMod_open_27 (by decide) (by omega) (fun c27 => ?_) (fun c27 => ?_)
            · exfalso; omega
            · refine z_iconst dMod_open_30 ?_
              refine z_goto (tgt := 35) dMod_open_31 (by decide) ?_
              refine z_iconst dMod_open_35 ?_
              refine z_iconst dMod_open_36 ?_
              refine z_callV MV_Mod_fails lk_Mod_88 dMod_open_37 (k_Mod_fails (by assumption) rfl (by omega) (by omega) (by omega)) rfl rfl (Nat.le_of_ble_eq_true rfl) rfl (by assumption) (Nat.le_of_ble_eq_true rfl) (Nat.le_of_ble_eq_true rfl) (Nat.le_of_eq (Nat.zero_add _)) (Nat.le_of_eq (Nat.zero_add _)) (fun _ _ q => q.elim) ?_
              rintro _ h1 ⟨t9, b8, rfl, ht, p1, g1⟩
              have H1 : zMod G h1 ma S t9 := H.obj (nu := S.2.2.2.2) (th' := t9) p1 g1
              have fz1 : zMfr ma h h1 := zMfr.of0 g1
              obtain ⟨-, n2, ⟨gg, n3, n3a⟩, n4, ⟨f61, n5, n5a⟩, n6, n7⟩ := id H1
              unfold zMfs at n2
              refine z_if_eq (tgt := 45) dMod_open_40 (by decide) (by omega) (fun c40 => ?_) (fun c40 => ?_)
              · exfalso; omega
              · refine z_iconst dMod_open_43 ?_
                refine z_iret rfl rfl dMod_open_44 ?_
                rcases (show t9 = 0 ∨ t9 = 1 ∨ t9 = 2 ∨ t9 = 3 by omega) with t0 | t0 | t0 | t0
                all_goals first
                  | (exfalso; omega)
                  | exact zQm.ok H6 (by omega) (by assumption) (by unfold sp_open; (try unfold spPut); (try simp only [Int.toNat_natCast]); (repeat (first | rw [if_pos (by omega)] | rw [if_neg (by omega)] | rw [if_pos (by assumption)] | rw [if_neg (by assumption)] | rw [if_pos (True.intro : True)])); (try (first | rfl | (congr 2; omega) | (congr 1; congr 1; omega))); done)
                  | exact zQm.b1 H6 (by omega) (by assumption) (by unfold sp_open; (try unfold spPut); (try simp only [Int.toNat_natCast]); (repeat (first | rw [if_pos (by omega)] | rw [if_neg (by omega)] | rw [if_pos (by assumption)] | rw [if_neg (by assumption)] | rw [if_pos (True.intro : True)])); (try (first | rfl | (congr 2; omega) | (congr 1; congr 1; omega))); done)
                  | exact zQm.b2 H6 (by omega) (by assumption) (by unfold sp_open; (try unfold spPut); (try simp only [Int.toNat_natCast]); (repeat (first | rw [if_pos (by omega)] | rw [if_neg (by omega)] | rw [if_pos (by assumption)] | rw [if_neg (by assumption)] | rw [if_pos (True.intro : True)])); (try (first | rfl | (congr 2; omega) | (congr 1; congr 1; omega))); done)
                  | exact zQm.b3 H6 (by omega) (by assumption) (by unfold sp_open; (try unfold spPut); (try simp only [Int.toNat_natCast]); (repeat (first | rw [if_pos (by omega)] | rw [if_neg (by omega)] | rw [if_pos (by assumption)] | rw [if_neg (by assumption)] | rw [if_pos (True.intro : True)])); (try (first | rfl | (congr 2; omega) | (congr 1; congr 1; omega))); done)
                  | exact zQm.ok H1 (by omega) (by assumption) (by unfold sp_open; (try unfold spPut); (try simp only [Int.toNat_natCast]); (repeat (first | rw [if_pos (by omega)] | rw [if_neg (by omega)] | rw [if_pos (by assumption)] | rw [if_neg (by assumption)] | rw [if_pos (True.intro : True)])); (try (first | rfl | (congr 2; omega) | (congr 1; congr 1; omega))); done)
                  | exact zQm.b1 H1 (by omega) (by assumption) (by unfold sp_open; (try unfold spPut); (try simp only [Int.toNat_natCast]); (repeat (first | rw [if_pos (by omega)] | rw [if_neg (by omega)] | rw [if_pos (by assumption)] | rw [if_neg (by assumption)] | rw [if_pos (True.intro : True)])); (try (first | rfl | (congr 2; omega) | (congr 1; congr 1; omega))); done)
                  | exact zQm.b2 H1 (by omega) (by assumption) (by unfold sp_open; (try unfold spPut); (try simp only [Int.toNat_natCast]); (repeat (first | rw [if_pos (by omega)] | rw [if_neg (by omega)] | rw [if_pos (by assumption)] | rw [if_neg (by assumption)] | rw [if_pos (True.intro : True)])); (try (first | rfl | (congr 2; omega) | (congr 1; congr 1; omega))); done)
                  | exact zQm.b3 H1 (by omega) (by assumption) (by unfold sp_open; (try unfold spPut); (try simp only [Int.toNat_natCast]); (repeat (first | rw [if_pos (by omega)] | rw [if_neg (by omega)] | rw [if_pos (by assumption)] | rw [if_neg (by assumption)] | rw [if_pos (True.intro : True)])); (try (first | rfl | (congr 2; omega) | (congr 1; congr 1; omega))); done)
          · refine z_if_eq (tgt := 34) dMod_open_27 (by decide) (by omega) (fun c27 => ?_) (fun c27 => ?_)
            · refine z_iconst dMod_open_34 ?_
              refine z_iconst dMod_open_35 ?_
              refine z_iconst dMod_open_36 ?_
              refine z_callV MV_Mod_fails lk_Mod_88 dMod_open_37 (k_Mod_fails (by assumption) rfl (by omega) (by omega) (by omega)) rfl rfl (Nat.le_of_ble_eq_true rfl) rfl (by assumption) (Nat.le_of_ble_eq_true rfl) (Nat.le_of_ble_eq_true rfl) (Nat.le_of_eq (Nat.zero_add _)) (Nat.le_of_eq (Nat.zero_add _)) (fun _ _ q => q.elim) ?_
              rintro _ h1 ⟨t9, b8, rfl, ht, p1, g1⟩
              have H1 : zMod G h1 ma S t9 := H.obj (nu := S.2.2.2.2) (th' := t9) p1 g1
              have fz1 : zMfr ma h h1 := zMfr.of0 g1
              obtain ⟨-, n2, ⟨gg, n3, n3a⟩, n4, ⟨f61, n5, n5a⟩, n6, n7⟩ := id H1
              unfold zMfs at n2
              refine z_if_eq (tgt := 45) dMod_open_40 (by decide) (by omega) (fun c40 => ?_) (fun c40 => ?_)
              · obtain ⟨frk, rk1, rk2, rk3, rk4⟩ := id (n6 k (by omega))
                have h16k := h16 k (by omega)
                have ezk : ∀ i : Int, 0 ≤ i → i < ((S.1 k).length : Int) → frk i.toNat = zAt (S.1 k) i := fun i x1 x2 => by rw [rk3 _ (by omega), zAt_eq x1 x2]
                obtain ⟨⟨v1, a1, b1⟩, ⟨v2, a2, b2⟩, ⟨v3, a3, b3⟩, ⟨v4, a4, b4⟩, ⟨v5, a5, b5⟩⟩ := id n4
                refine z_aload_n dMod_open_45 rfl ?_
                refine z_get (k := 1) fd_Mod (by decide) fl_Mod_14 dMod_open_46 (by assumption) (by rfl) ?_
                refine z_iload_n dMod_open_49 rfl ?_
                refine z_iconst dMod_open_50 ?_
                refine z_zast (by rfl) dMod_open_51 (by assumption) (by refine ⟨?_, ?_, ?_⟩ <;> omega) ?_
                refine z_hx (fun h2 p2 g2 => ?_)
                rw [Int.toNat_natCast] at p2
                have n2 := (g2 (ma (0)) (H1.inj (i := 0) (j := 2) (by omega) (by omega) (by omega))).trans n2
                have n3 := (g2 (ma (1)) (H1.inj (i := 1) (j := 2) (by omega) (by omega) (by omega))).trans n3
                have a1 := p2
                have a2 := (g2 (ma (3)) (H1.inj (i := 3) (j := 2) (by omega) (by omega) (by omega))).trans a2
                have a3 := (g2 (ma (4)) (H1.inj (i := 4) (j := 2) (by omega) (by omega) (by omega))).trans a3
                have a4 := (g2 (ma (5)) (H1.inj (i := 5) (j := 2) (by omega) (by omega) (by omega))).trans a4
                have a5 := (g2 (ma (6)) (H1.inj (i := 6) (j := 2) (by omega) (by omega) (by omega))).trans a5
                have rk1 := (g2 (ma (8 + k)) (H1.inj (i := 8 + k) (j := 2) (by omega) (by omega) (by omega))).trans rk1
                refine z_aload_n dMod_open_52 rfl ?_
                refine z_get (k := 2) fd_Mod (by decide) fl_Mod_18 dMod_open_53 (by assumption) (by rfl) ?_
                refine z_iload_n dMod_open_56 rfl ?_
                refine z_iconst dMod_open_57 ?_
                refine z_zast (by rfl) dMod_open_58 (by assumption) (by refine ⟨?_, ?_, ?_⟩ <;> omega) ?_
                refine z_hx (fun h3 p3 g3 => ?_)
                rw [Int.toNat_natCast] at p3
                have n2 := (g3 (ma (0)) (H1.inj (i := 0) (j := 3) (by omega) (by omega) (by omega))).trans n2
                have n3 := (g3 (ma (1)) (H1.inj (i := 1) (j := 3) (by omega) (by omega) (by omega))).trans n3
                have a1 := (g3 (ma (2)) (H1.inj (i := 2) (j := 3) (by omega) (by omega) (by omega))).trans a1
                have a2 := p3
                have a3 := (g3 (ma (4)) (H1.inj (i := 4) (j := 3) (by omega) (by omega) (by omega))).trans a3
                have a4 := (g3 (ma (5)) (H1.inj (i := 5) (j := 3) (by omega) (by omega) (by omega))).trans a4
                have a5 := (g3 (ma (6)) (H1.inj (i := 6) (j := 3) (by omega) (by omega) (by omega))).trans a5
                have rk1 := (g3 (ma (8 + k)) (H1.inj (i := 8 + k) (j := 3) (by omega) (by omega) (by omega))).trans rk1
                refine z_aload_n dMod_open_59 rfl ?_
                refine z_get (k := 3) fd_Mod (by decide) fl_Mod_21 dMod_open_60 (by assumption) (by rfl) ?_
                refine z_iload_n dMod_open_63 rfl ?_
                refine z_iload_n dMod_open_64 rfl ?_
                refine z_iast dMod_open_65 (by assumption) (by refine ⟨?_, ?_, ?_⟩ <;> omega) ?_
                refine z_hx (fun h4 p4 g4 => ?_)
                rw [Int.toNat_natCast] at p4
                have n2 := (g4 (ma (0)) (H1.inj (i := 0) (j := 4) (by omega) (by omega) (by omega))).trans n2
                have n3 := (g4 (ma (1)) (H1.inj (i := 1) (j := 4) (by omega) (by omega) (by omega))).trans n3
                have a1 := (g4 (ma (2)) (H1.inj (i := 2) (j := 4) (by omega) (by omega) (by omega))).trans a1
                have a2 := (g4 (ma (3)) (H1.inj (i := 3) (j := 4) (by omega) (by omega) (by omega))).trans a2
                have a3 := p4
                have a4 := (g4 (ma (5)) (H1.inj (i := 5) (j := 4) (by omega) (by omega) (by omega))).trans a4
                have a5 := (g4 (ma (6)) (H1.inj (i := 6) (j := 4) (by omega) (by omega) (by omega))).trans a5
                have rk1 := (g4 (ma (8 + k)) (H1.inj (i := 8 + k) (j := 4) (by omega) (by omega) (by omega))).trans rk1
                refine z_aload_n dMod_open_66 rfl ?_
                refine z_get (k := 4) fd_Mod (by decide) fl_Mod_25 dMod_open_67 (by assumption) (by rfl) ?_
                refine z_iload_n dMod_open_70 rfl ?_
                refine z_iload_n dMod_open_71 rfl ?_
                refine z_iast dMod_open_72 (by assumption) (by refine ⟨?_, ?_, ?_⟩ <;> omega) ?_
                refine z_hx (fun h5 p5 g5 => ?_)
                rw [Int.toNat_natCast] at p5
                have n2 := (g5 (ma (0)) (H1.inj (i := 0) (j := 5) (by omega) (by omega) (by omega))).trans n2
                have n3 := (g5 (ma (1)) (H1.inj (i := 1) (j := 5) (by omega) (by omega) (by omega))).trans n3
                have a1 := (g5 (ma (2)) (H1.inj (i := 2) (j := 5) (by omega) (by omega) (by omega))).trans a1
                have a2 := (g5 (ma (3)) (H1.inj (i := 3) (j := 5) (by omega) (by omega) (by omega))).trans a2
                have a3 := (g5 (ma (4)) (H1.inj (i := 4) (j := 5) (by omega) (by omega) (by omega))).trans a3
                have a4 := p5
                have a5 := (g5 (ma (6)) (H1.inj (i := 6) (j := 5) (by omega) (by omega) (by omega))).trans a5
                have rk1 := (g5 (ma (8 + k)) (H1.inj (i := 8 + k) (j := 5) (by omega) (by omega) (by omega))).trans rk1
                refine z_aload_n dMod_open_73 rfl ?_
                refine z_get (k := 5) fd_Mod (by decide) fl_Mod_28 dMod_open_74 (by assumption) (by rfl) ?_
                refine z_iload_n dMod_open_77 rfl ?_
                refine z_iconst dMod_open_78 ?_
                refine z_iast dMod_open_79 (by assumption) (by refine ⟨?_, ?_, ?_⟩ <;> omega) ?_
                refine z_hx (fun h6 p6 g6 => ?_)
                rw [Int.toNat_natCast] at p6
                have n2 := (g6 (ma (0)) (H1.inj (i := 0) (j := 6) (by omega) (by omega) (by omega))).trans n2
                have n3 := (g6 (ma (1)) (H1.inj (i := 1) (j := 6) (by omega) (by omega) (by omega))).trans n3
                have a1 := (g6 (ma (2)) (H1.inj (i := 2) (j := 6) (by omega) (by omega) (by omega))).trans a1
                have a2 := (g6 (ma (3)) (H1.inj (i := 3) (j := 6) (by omega) (by omega) (by omega))).trans a2
                have a3 := (g6 (ma (4)) (H1.inj (i := 4) (j := 6) (by omega) (by omega) (by omega))).trans a3
                have a4 := (g6 (ma (5)) (H1.inj (i := 5) (j := 6) (by omega) (by omega) (by omega))).trans a4
                have a5 := p6
                have rk1 := (g6 (ma (8 + k)) (H1.inj (i := 8 + k) (j := 6) (by omega) (by omega) (by omega))).trans rk1
                have F6 : ∀ z, (∀ i, 2 ≤ i → i ≤ 6 → z ≠ ma i) → h6 z = h1 z := fun z hz => (((((g6 z (hz 6 (by omega) (by omega))).trans (g5 z (hz 5 (by omega) (by omega)))).trans (g4 z (hz 4 (by omega) (by omega)))).trans (g3 z (hz 3 (by omega) (by omega)))).trans (g2 z (hz 2 (by omega) (by omega))))
                have hmc : zMcu G h6 ma (zup S.2.1 cc (zCv 1 0 (k : Int) q (-1))) := zMcu.up b1 b2 b3 b4 b5 a1 a2 a3 a4 a5 zup_u zup_u zup_u zup_u zup_u ⟨zup_same _ _ _, Or.inr rfl⟩ ⟨Or.inl (zup_same _ _ _), fun _ => zup_same _ _ _⟩ (zup_w (by omega) rfl) (zup_w (by omega) rfl) (zup_w (by omega) rfl)
                have H6 := H1.cusF hmc F6
                have fz6 : zMfr ma h h6 := fz1.tr (zMfr.cu F6)
                refine z_aload_n dMod_open_80 rfl ?_
                refine z_get (k := 0) fd_Mod (by decide) fl_Mod_11 dMod_open_81 (by assumption) (by rfl) ?_
                refine z_iload_n dMod_open_84 rfl ?_
                refine z_aald (t := 4) (ty := .array .int) rfl rfl dMod_open_85 n3 (by refine ⟨?_, ?_, ?_⟩ <;> omega) ?_
                rw [show (k : Int).toNat = k from rfl, n3a k (by omega)]
                refine z_alenI dMod_open_86 (by assumption) ?_
                refine z_iload_n dMod_open_87 rfl ?_
                refine z_isub dMod_open_88 ?_
                refine z_iret rfl rfl dMod_open_89 ?_
                rcases (show t9 = 0 ∨ t9 = 1 ∨ t9 = 2 ∨ t9 = 3 by omega) with t0 | t0 | t0 | t0
                all_goals first
                  | (exfalso; omega)
                  | exact zQm.ok H6 (by omega) (by assumption) (by unfold sp_open; (try unfold spPut); (try simp only [Int.toNat_natCast]); (repeat (first | rw [if_pos (by omega)] | rw [if_neg (by omega)] | rw [if_pos (by assumption)] | rw [if_neg (by assumption)] | rw [if_pos (True.intro : True)])); (try (first | rfl | (congr 2; omega) | (congr 1; congr 1; omega))); done)
                  | exact zQm.b1 H6 (by omega) (by assumption) (by unfold sp_open; (try unfold spPut); (try simp only [Int.toNat_natCast]); (repeat (first | rw [if_pos (by omega)] | rw [if_neg (by omega)] | rw [if_pos (by assumption)] | rw [if_neg (by assumption)] | rw [if_pos (True.intro : True)])); (try (first | rfl | (congr 2; omega) | (congr 1; congr 1; omega))); done)
                  | exact zQm.b2 H6 (by omega) (by assumption) (by unfold sp_open; (try unfold spPut); (try simp only [Int.toNat_natCast]); (repeat (first | rw [if_pos (by omega)] | rw [if_neg (by omega)] | rw [if_pos (by assumption)] | rw [if_neg (by assumption)] | rw [if_pos (True.intro : True)])); (try (first | rfl | (congr 2; omega) | (congr 1; congr 1; omega))); done)
                  | exact zQm.b3 H6 (by omega) (by assumption) (by unfold sp_open; (try unfold spPut); (try simp only [Int.toNat_natCast]); (repeat (first | rw [if_pos (by omega)] | rw [if_neg (by omega)] | rw [if_pos (by assumption)] | rw [if_neg (by assumption)] | rw [if_pos (True.intro : True)])); (try (first | rfl | (congr 2; omega) | (congr 1; congr 1; omega))); done)
                  | exact zQm.ok H1 (by omega) (by assumption) (by unfold sp_open; (try unfold spPut); (try simp only [Int.toNat_natCast]); (repeat (first | rw [if_pos (by omega)] | rw [if_neg (by omega)] | rw [if_pos (by assumption)] | rw [if_neg (by assumption)] | rw [if_pos (True.intro : True)])); (try (first | rfl | (congr 2; omega) | (congr 1; congr 1; omega))); done)
                  | exact zQm.b1 H1 (by omega) (by assumption) (by unfold sp_open; (try unfold spPut); (try simp only [Int.toNat_natCast]); (repeat (first | rw [if_pos (by omega)] | rw [if_neg (by omega)] | rw [if_pos (by assumption)] | rw [if_neg (by assumption)] | rw [if_pos (True.intro : True)])); (try (first | rfl | (congr 2; omega) | (congr 1; congr 1; omega))); done)
                  | exact zQm.b2 H1 (by omega) (by assumption) (by unfold sp_open; (try unfold spPut); (try simp only [Int.toNat_natCast]); (repeat (first | rw [if_pos (by omega)] | rw [if_neg (by omega)] | rw [if_pos (by assumption)] | rw [if_neg (by assumption)] | rw [if_pos (True.intro : True)])); (try (first | rfl | (congr 2; omega) | (congr 1; congr 1; omega))); done)
                  | exact zQm.b3 H1 (by omega) (by assumption) (by unfold sp_open; (try unfold spPut); (try simp only [Int.toNat_natCast]); (repeat (first | rw [if_pos (by omega)] | rw [if_neg (by omega)] | rw [if_pos (by assumption)] | rw [if_neg (by assumption)] | rw [if_pos (True.intro : True)])); (try (first | rfl | (congr 2; omega) | (congr 1; congr 1; omega))); done)
              · refine z_iconst dMod_open_43 ?_
                refine z_iret rfl rfl dMod_open_44 ?_
                rcases (show t9 = 0 ∨ t9 = 1 ∨ t9 = 2 ∨ t9 = 3 by omega) with t0 | t0 | t0 | t0
                all_goals first
                  | (exfalso; omega)
                  | exact zQm.ok H6 (by omega) (by assumption) (by unfold sp_open; (try unfold spPut); (try simp only [Int.toNat_natCast]); (repeat (first | rw [if_pos (by omega)] | rw [if_neg (by omega)] | rw [if_pos (by assumption)] | rw [if_neg (by assumption)] | rw [if_pos (True.intro : True)])); (try (first | rfl | (congr 2; omega) | (congr 1; congr 1; omega))); done)
                  | exact zQm.b1 H6 (by omega) (by assumption) (by unfold sp_open; (try unfold spPut); (try simp only [Int.toNat_natCast]); (repeat (first | rw [if_pos (by omega)] | rw [if_neg (by omega)] | rw [if_pos (by assumption)] | rw [if_neg (by assumption)] | rw [if_pos (True.intro : True)])); (try (first | rfl | (congr 2; omega) | (congr 1; congr 1; omega))); done)
                  | exact zQm.b2 H6 (by omega) (by assumption) (by unfold sp_open; (try unfold spPut); (try simp only [Int.toNat_natCast]); (repeat (first | rw [if_pos (by omega)] | rw [if_neg (by omega)] | rw [if_pos (by assumption)] | rw [if_neg (by assumption)] | rw [if_pos (True.intro : True)])); (try (first | rfl | (congr 2; omega) | (congr 1; congr 1; omega))); done)
                  | exact zQm.b3 H6 (by omega) (by assumption) (by unfold sp_open; (try unfold spPut); (try simp only [Int.toNat_natCast]); (repeat (first | rw [if_pos (by omega)] | rw [if_neg (by omega)] | rw [if_pos (by assumption)] | rw [if_neg (by assumption)] | rw [if_pos (True.intro : True)])); (try (first | rfl | (congr 2; omega) | (congr 1; congr 1; omega))); done)
                  | exact zQm.ok H1 (by omega) (by assumption) (by unfold sp_open; (try unfold spPut); (try simp only [Int.toNat_natCast]); (repeat (first | rw [if_pos (by omega)] | rw [if_neg (by omega)] | rw [if_pos (by assumption)] | rw [if_neg (by assumption)] | rw [if_pos (True.intro : True)])); (try (first | rfl | (congr 2; omega) | (congr 1; congr 1; omega))); done)
                  | exact zQm.b1 H1 (by omega) (by assumption) (by unfold sp_open; (try unfold spPut); (try simp only [Int.toNat_natCast]); (repeat (first | rw [if_pos (by omega)] | rw [if_neg (by omega)] | rw [if_pos (by assumption)] | rw [if_neg (by assumption)] | rw [if_pos (True.intro : True)])); (try (first | rfl | (congr 2; omega) | (congr 1; congr 1; omega))); done)
                  | exact zQm.b2 H1 (by omega) (by assumption) (by unfold sp_open; (try unfold spPut); (try simp only [Int.toNat_natCast]); (repeat (first | rw [if_pos (by omega)] | rw [if_neg (by omega)] | rw [if_pos (by assumption)] | rw [if_neg (by assumption)] | rw [if_pos (True.intro : True)])); (try (first | rfl | (congr 2; omega) | (congr 1; congr 1; omega))); done)
                  | exact zQm.b3 H1 (by omega) (by assumption) (by unfold sp_open; (try unfold spPut); (try simp only [Int.toNat_natCast]); (repeat (first | rw [if_pos (by omega)] | rw [if_neg (by omega)] | rw [if_pos (by assumption)] | rw [if_neg (by assumption)] | rw [if_pos (True.intro : True)])); (try (first | rfl | (congr 2; omega) | (congr 1; congr 1; omega))); done)
            · exfalso; omega
theorem k_Mod_shut {c : Int} (H : zMod G h ma S th) (z_c : zI32 c) (h16 : ∀ k, k < 4 → (S.1 k).length ≤ 16) : zM G l hMod_shut yMod_shut 4 [.ref (ma 0), zi c] h (zQm G ma h (1) (9) (9) (sp_shut S c)) zNo 0 0 := by
  obtain ⟨m1, m2, ⟨g, m3, m3a⟩, m4, ⟨f6, m5, m5a⟩, m6, m7⟩ := id H
  unfold zMfs at m2
  refine zM.of [some (.ref (ma 0)), some (zi c), none] (by decide +kernel) rfl (by decide) rfl (Nat.le_of_ble_eq_true rfl) rfl ?_
  refine z_aload_n dMod_shut_0 rfl ?_
  refine z_iload_n dMod_shut_1 rfl ?_
  refine z_callS MS_Mod_isNoCursor lk_Mod_141 dMod_shut_2 (k_Mod_isNoCursor (by omega)) rfl rfl (Nat.le_of_ble_eq_true rfl)  (Nat.le_of_ble_eq_true rfl) (Nat.le_of_ble_eq_true rfl) (Nat.le_of_eq (Nat.zero_add _)) (Nat.le_of_eq (Nat.zero_add _)) (fun _ _ q => q.elim) ?_
  rintro _ _ ⟨n9c, rfl, (⟨rfl, hn9c⟩ | ⟨rfl, hn9c⟩), rfl⟩
  · refine z_iconst dMod_shut_5 ?_
    refine z_iconst dMod_shut_6 ?_
    refine z_callV MV_Mod_fails lk_Mod_88 dMod_shut_7 (k_Mod_fails (by assumption) rfl (by omega) (by omega) (by omega)) rfl rfl (Nat.le_of_ble_eq_true rfl) rfl (by assumption) (Nat.le_of_ble_eq_true rfl) (Nat.le_of_ble_eq_true rfl) (Nat.le_of_eq (Nat.zero_add _)) (Nat.le_of_eq (Nat.zero_add _)) (fun _ _ q => q.elim) ?_
    rintro _ h1 ⟨t9, b8, rfl, ht, p1, g1⟩
    have H1 : zMod G h1 ma S t9 := H.obj (nu := S.2.2.2.2) (th' := t9) p1 g1
    have fz1 : zMfr ma h h1 := zMfr.of0 g1
    obtain ⟨-, n2, ⟨gg, n3, n3a⟩, n4, ⟨f61, n5, n5a⟩, n6, n7⟩ := id H1
    unfold zMfs at n2
    refine z_if_eq (tgt := 15) dMod_shut_10 (by decide) (by omega) (fun c10 => ?_) (fun c10 => ?_)
    · exfalso; omega
    · refine z_iconst dMod_shut_13 ?_
      refine z_iret rfl (by first | rfl | (rcases b1c.2 with e9 | e9 <;> (rw [e9]; rfl))) dMod_shut_14 ?_
      rcases (show t9 = 0 ∨ t9 = 1 ∨ t9 = 2 ∨ t9 = 3 by omega) with t0 | t0 | t0 | t0
      all_goals first
        | (exfalso; omega)
        | exact zQm.ok H3 (by omega) (by assumption) (by unfold sp_shut; (try unfold spPut); (try simp only [Int.toNat_natCast]); (repeat (first | rw [if_pos (by omega)] | rw [if_neg (by omega)] | rw [if_pos (by assumption)] | rw [if_neg (by assumption)] | rw [if_pos (True.intro : True)])); (try (first | rfl | (congr 2; omega) | (congr 1; congr 1; omega))); done)
        | exact zQm.b1 H3 (by omega) (by assumption) (by unfold sp_shut; (try unfold spPut); (try simp only [Int.toNat_natCast]); (repeat (first | rw [if_pos (by omega)] | rw [if_neg (by omega)] | rw [if_pos (by assumption)] | rw [if_neg (by assumption)] | rw [if_pos (True.intro : True)])); (try (first | rfl | (congr 2; omega) | (congr 1; congr 1; omega))); done)
        | exact zQm.b2 H3 (by omega) (by assumption) (by unfold sp_shut; (try unfold spPut); (try simp only [Int.toNat_natCast]); (repeat (first | rw [if_pos (by omega)] | rw [if_neg (by omega)] | rw [if_pos (by assumption)] | rw [if_neg (by assumption)] | rw [if_pos (True.intro : True)])); (try (first | rfl | (congr 2; omega) | (congr 1; congr 1; omega))); done)
        | exact zQm.b3 H3 (by omega) (by assumption) (by unfold sp_shut; (try unfold spPut); (try simp only [Int.toNat_natCast]); (repeat (first | rw [if_pos (by omega)] | rw [if_neg (by omega)] | rw [if_pos (by assumption)] | rw [if_neg (by assumption)] | rw [if_pos (True.intro : True)])); (try (first | rfl | (congr 2; omega) | (congr 1; congr 1; omega))); done)
        | exact zQm.ok H1 (by omega) (by assumption) (by unfold sp_shut; (try unfold spPut); (try simp only [Int.toNat_natCast]); (repeat (first | rw [if_pos (by omega)] | rw [if_neg (by omega)] | rw [if_pos (by assumption)] | rw [if_neg (by assumption)] | rw [if_pos (True.intro : True)])); (try (first | rfl | (congr 2; omega) | (congr 1; congr 1; omega))); done)
        | exact zQm.b1 H1 (by omega) (by assumption) (by unfold sp_shut; (try unfold spPut); (try simp only [Int.toNat_natCast]); (repeat (first | rw [if_pos (by omega)] | rw [if_neg (by omega)] | rw [if_pos (by assumption)] | rw [if_neg (by assumption)] | rw [if_pos (True.intro : True)])); (try (first | rfl | (congr 2; omega) | (congr 1; congr 1; omega))); done)
        | exact zQm.b2 H1 (by omega) (by assumption) (by unfold sp_shut; (try unfold spPut); (try simp only [Int.toNat_natCast]); (repeat (first | rw [if_pos (by omega)] | rw [if_neg (by omega)] | rw [if_pos (by assumption)] | rw [if_neg (by assumption)] | rw [if_pos (True.intro : True)])); (try (first | rfl | (congr 2; omega) | (congr 1; congr 1; omega))); done)
        | exact zQm.b3 H1 (by omega) (by assumption) (by unfold sp_shut; (try unfold spPut); (try simp only [Int.toNat_natCast]); (repeat (first | rw [if_pos (by omega)] | rw [if_neg (by omega)] | rw [if_pos (by assumption)] | rw [if_neg (by assumption)] | rw [if_pos (True.intro : True)])); (try (first | rfl | (congr 2; omega) | (congr 1; congr 1; omega))); done)
  · obtain ⟨cc, rfl⟩ := Int.eq_ofNat_of_zero_le (show 0 ≤ c by omega)
    have hcc : cc < 3 := by omega
    refine z_iconst dMod_shut_5 ?_
    refine z_iconst dMod_shut_6 ?_
    refine z_callV MV_Mod_fails lk_Mod_88 dMod_shut_7 (k_Mod_fails (by assumption) rfl (by omega) (by omega) (by omega)) rfl rfl (Nat.le_of_ble_eq_true rfl) rfl (by assumption) (Nat.le_of_ble_eq_true rfl) (Nat.le_of_ble_eq_true rfl) (Nat.le_of_eq (Nat.zero_add _)) (Nat.le_of_eq (Nat.zero_add _)) (fun _ _ q => q.elim) ?_
    rintro _ h1 ⟨t9, b8, rfl, ht, p1, g1⟩
    have H1 : zMod G h1 ma S t9 := H.obj (nu := S.2.2.2.2) (th' := t9) p1 g1
    have fz1 : zMfr ma h h1 := zMfr.of0 g1
    obtain ⟨-, n2, ⟨gg, n3, n3a⟩, n4, ⟨f61, n5, n5a⟩, n6, n7⟩ := id H1
    unfold zMfs at n2
    refine z_if_eq (tgt := 15) dMod_shut_10 (by decide) (by omega) (fun c10 => ?_) (fun c10 => ?_)
    · obtain ⟨⟨v1, a1, b1⟩, ⟨v2, a2, b2⟩, ⟨v3, a3, b3⟩, ⟨v4, a4, b4⟩, ⟨v5, a5, b5⟩⟩ := id n4
      have b1c := b1 cc (by omega)
      have b2c := b2 cc (by omega)
      have b3c := b3 cc (by omega)
      have b4c := b4 cc (by omega)
      have b5c := b5 cc (by omega)
      refine z_aload_n dMod_shut_15 rfl ?_
      refine z_get (k := 1) fd_Mod (by decide) fl_Mod_14 dMod_shut_16 (by assumption) (by rfl) ?_
      refine z_iload_n dMod_shut_19 rfl ?_
      refine z_zald dMod_shut_20 (by assumption) (by refine ⟨?_, ?_, ?_⟩ <;> omega) ?_
      rw [Int.toNat_natCast]
      rw [b1c.1]
      refine z_istore_n dMod_shut_21 (Nat.le_of_ble_eq_true rfl) ?_
      refine z_aload_n dMod_shut_22 rfl ?_
      refine z_get (k := 1) fd_Mod (by decide) fl_Mod_14 dMod_shut_23 (by assumption) (by rfl) ?_
      refine z_iload_n dMod_shut_26 rfl ?_
      refine z_iconst dMod_shut_27 ?_
      refine z_zast (by rfl) dMod_shut_28 (by assumption) (by refine ⟨?_, ?_, ?_⟩ <;> omega) ?_
      refine z_hx (fun h2 p2 g2 => ?_)
      rw [Int.toNat_natCast] at p2
      have n2 := (g2 (ma (0)) (H1.inj (i := 0) (j := 2) (by omega) (by omega) (by omega))).trans n2
      have n3 := (g2 (ma (1)) (H1.inj (i := 1) (j := 2) (by omega) (by omega) (by omega))).trans n3
      have a1 := p2
      have a2 := (g2 (ma (3)) (H1.inj (i := 3) (j := 2) (by omega) (by omega) (by omega))).trans a2
      have a3 := (g2 (ma (4)) (H1.inj (i := 4) (j := 2) (by omega) (by omega) (by omega))).trans a3
      have a4 := (g2 (ma (5)) (H1.inj (i := 5) (j := 2) (by omega) (by omega) (by omega))).trans a4
      have a5 := (g2 (ma (6)) (H1.inj (i := 6) (j := 2) (by omega) (by omega) (by omega))).trans a5
      refine z_aload_n dMod_shut_29 rfl ?_
      refine z_get (k := 2) fd_Mod (by decide) fl_Mod_18 dMod_shut_30 (by assumption) (by rfl) ?_
      refine z_iload_n dMod_shut_33 rfl ?_
      refine z_iconst dMod_shut_34 ?_
      refine z_zast (by rfl) dMod_shut_35 (by assumption) (by refine ⟨?_, ?_, ?_⟩ <;> omega) ?_
      refine z_hx (fun h3 p3 g3 => ?_)
      rw [Int.toNat_natCast] at p3
      have n2 := (g3 (ma (0)) (H1.inj (i := 0) (j := 3) (by omega) (by omega) (by omega))).trans n2
      have n3 := (g3 (ma (1)) (H1.inj (i := 1) (j := 3) (by omega) (by omega) (by omega))).trans n3
      have a1 := (g3 (ma (2)) (H1.inj (i := 2) (j := 3) (by omega) (by omega) (by omega))).trans a1
      have a2 := p3
      have a3 := (g3 (ma (4)) (H1.inj (i := 4) (j := 3) (by omega) (by omega) (by omega))).trans a3
      have a4 := (g3 (ma (5)) (H1.inj (i := 5) (j := 3) (by omega) (by omega) (by omega))).trans a4
      have a5 := (g3 (ma (6)) (H1.inj (i := 6) (j := 3) (by omega) (by omega) (by omega))).trans a5
      have F3 : ∀ z, (∀ i, 2 ≤ i → i ≤ 6 → z ≠ ma i) → h3 z = h1 z := fun z hz => ((g3 z (hz 3 (by omega) (by omega))).trans (g2 z (hz 2 (by omega) (by omega))))
      have hmc : zMcu G h3 ma (zup S.2.1 cc (zCv 0 0 0 0 0)) := zMcu.up b1 b2 b3 b4 b5 a1 a2 a3 a4 a5 zup_u zup_u zid_u zid_u zid_u ⟨zup_same _ _ _, Or.inl rfl⟩ ⟨Or.inl (zup_same _ _ _), fun q => absurd q (by decide)⟩ ⟨b3c.1, fun q => absurd q (by decide)⟩ ⟨b4c.1, fun q => absurd q (by decide)⟩ ⟨b5c.1, fun q => absurd q (by decide)⟩
      have H3 := H1.cusF hmc F3
      have fz3 : zMfr ma h h3 := fz1.tr (zMfr.cu F3)
      refine z_iload_n dMod_shut_36 rfl ?_
      refine z_iret rfl (by first | rfl | (rcases b1c.2 with e9 | e9 <;> (rw [e9]; rfl))) dMod_shut_37 ?_
      rcases (show t9 = 0 ∨ t9 = 1 ∨ t9 = 2 ∨ t9 = 3 by omega) with t0 | t0 | t0 | t0
      all_goals first
        | (exfalso; omega)
        | exact zQm.ok H3 (by omega) (by assumption) (by unfold sp_shut; (try unfold spPut); (try simp only [Int.toNat_natCast]); (repeat (first | rw [if_pos (by omega)] | rw [if_neg (by omega)] | rw [if_pos (by assumption)] | rw [if_neg (by assumption)] | rw [if_pos (True.intro : True)])); (try (first | rfl | (congr 2; omega) | (congr 1; congr 1; omega))); done)
        | exact zQm.b1 H3 (by omega) (by assumption) (by unfold sp_shut; (try unfold spPut); (try simp only [Int.toNat_natCast]); (repeat (first | rw [if_pos (by omega)] | rw [if_neg (by omega)] | rw [if_pos (by assumption)] | rw [if_neg (by assumption)] | rw [if_pos (True.intro : True)])); (try (first | rfl | (congr 2; omega) | (congr 1; congr 1; omega))); done)
        | exact zQm.b2 H3 (by omega) (by assumption) (by unfold sp_shut; (try unfold spPut); (try simp only [Int.toNat_natCast]); (repeat (first | rw [if_pos (by omega)] | rw [if_neg (by omega)] | rw [if_pos (by assumption)] | rw [if_neg (by assumption)] | rw [if_pos (True.intro : True)])); (try (first | rfl | (congr 2; omega) | (congr 1; congr 1; omega))); done)
        | exact zQm.b3 H3 (by omega) (by assumption) (by unfold sp_shut; (try unfold spPut); (try simp only [Int.toNat_natCast]); (repeat (first | rw [if_pos (by omega)] | rw [if_neg (by omega)] | rw [if_pos (by assumption)] | rw [if_neg (by assumption)] | rw [if_pos (True.intro : True)])); (try (first | rfl | (congr 2; omega) | (congr 1; congr 1; omega))); done)
        | exact zQm.ok H1 (by omega) (by assumption) (by unfold sp_shut; (try unfold spPut); (try simp only [Int.toNat_natCast]); (repeat (first | rw [if_pos (by omega)] | rw [if_neg (by omega)] | rw [if_pos (by assumption)] | rw [if_neg (by assumption)] | rw [if_pos (True.intro : True)])); (try (first | rfl | (congr 2; omega) | (congr 1; congr 1; omega))); done)
        | exact zQm.b1 H1 (by omega) (by assumption) (by unfold sp_shut; (try unfold spPut); (try simp only [Int.toNat_natCast]); (repeat (first | rw [if_pos (by omega)] | rw [if_neg (by omega)] | rw [if_pos (by assumption)] | rw [if_neg (by assumption)] | rw [if_pos (True.intro : True)])); (try (first | rfl | (congr 2; omega) | (congr 1; congr 1; omega))); done)
        | exact zQm.b2 H1 (by omega) (by assumption) (by unfold sp_shut; (try unfold spPut); (try simp only [Int.toNat_natCast]); (repeat (first | rw [if_pos (by omega)] | rw [if_neg (by omega)] | rw [if_pos (by assumption)] | rw [if_neg (by assumption)] | rw [if_pos (True.intro : True)])); (try (first | rfl | (congr 2; omega) | (congr 1; congr 1; omega))); done)
        | exact zQm.b3 H1 (by omega) (by assumption) (by unfold sp_shut; (try unfold spPut); (try simp only [Int.toNat_natCast]); (repeat (first | rw [if_pos (by omega)] | rw [if_neg (by omega)] | rw [if_pos (by assumption)] | rw [if_neg (by assumption)] | rw [if_pos (True.intro : True)])); (try (first | rfl | (congr 2; omega) | (congr 1; congr 1; omega))); done)
    · refine z_iconst dMod_shut_13 ?_
      refine z_iret rfl (by first | rfl | (rcases b1c.2 with e9 | e9 <;> (rw [e9]; rfl))) dMod_shut_14 ?_
      rcases (show t9 = 0 ∨ t9 = 1 ∨ t9 = 2 ∨ t9 = 3 by omega) with t0 | t0 | t0 | t0
      all_goals first
        | (exfalso; omega)
        | exact zQm.ok H3 (by omega) (by assumption) (by unfold sp_shut; (try unfold spPut); (try simp only [Int.toNat_natCast]); (repeat (first | rw [if_pos (by omega)] | rw [if_neg (by omega)] | rw [if_pos (by assumption)] | rw [if_neg (by assumption)] | rw [if_pos (True.intro : True)])); (try (first | rfl | (congr 2; omega) | (congr 1; congr 1; omega))); done)
        | exact zQm.b1 H3 (by omega) (by assumption) (by unfold sp_shut; (try unfold spPut); (try simp only [Int.toNat_natCast]); (repeat (first | rw [if_pos (by omega)] | rw [if_neg (by omega)] | rw [if_pos (by assumption)] | rw [if_neg (by assumption)] | rw [if_pos (True.intro : True)])); (try (first | rfl | (congr 2; omega) | (congr 1; congr 1; omega))); done)
        | exact zQm.b2 H3 (by omega) (by assumption) (by unfold sp_shut; (try unfold spPut); (try simp only [Int.toNat_natCast]); (repeat (first | rw [if_pos (by omega)] | rw [if_neg (by omega)] | rw [if_pos (by assumption)] | rw [if_neg (by assumption)] | rw [if_pos (True.intro : True)])); (try (first | rfl | (congr 2; omega) | (congr 1; congr 1; omega))); done)
        | exact zQm.b3 H3 (by omega) (by assumption) (by unfold sp_shut; (try unfold spPut); (try simp only [Int.toNat_natCast]); (repeat (first | rw [if_pos (by omega)] | rw [if_neg (by omega)] | rw [if_pos (by assumption)] | rw [if_neg (by assumption)] | rw [if_pos (True.intro : True)])); (try (first | rfl | (congr 2; omega) | (congr 1; congr 1; omega))); done)
        | exact zQm.ok H1 (by omega) (by assumption) (by unfold sp_shut; (try unfold spPut); (try simp only [Int.toNat_natCast]); (repeat (first | rw [if_pos (by omega)] | rw [if_neg (by omega)] | rw [if_pos (by assumption)] | rw [if_neg (by assumption)] | rw [if_pos (True.intro : True)])); (try (first | rfl | (congr 2; omega) | (congr 1; congr 1; omega))); done)
        | exact zQm.b1 H1 (by omega) (by assumption) (by unfold sp_shut; (try unfold spPut); (try simp only [Int.toNat_natCast]); (repeat (first | rw [if_pos (by omega)] | rw [if_neg (by omega)] | rw [if_pos (by assumption)] | rw [if_neg (by assumption)] | rw [if_pos (True.intro : True)])); (try (first | rfl | (congr 2; omega) | (congr 1; congr 1; omega))); done)
        | exact zQm.b2 H1 (by omega) (by assumption) (by unfold sp_shut; (try unfold spPut); (try simp only [Int.toNat_natCast]); (repeat (first | rw [if_pos (by omega)] | rw [if_neg (by omega)] | rw [if_pos (by assumption)] | rw [if_neg (by assumption)] | rw [if_pos (True.intro : True)])); (try (first | rfl | (congr 2; omega) | (congr 1; congr 1; omega))); done)
        | exact zQm.b3 H1 (by omega) (by assumption) (by unfold sp_shut; (try unfold spPut); (try simp only [Int.toNat_natCast]); (repeat (first | rw [if_pos (by omega)] | rw [if_neg (by omega)] | rw [if_pos (by assumption)] | rw [if_neg (by assumption)] | rw [if_pos (True.intro : True)])); (try (first | rfl | (congr 2; omega) | (congr 1; congr 1; omega))); done)
theorem k_Mod_changes {p x : Int} (H : zMod G h ma S th) (z_p : zI32 p) (z_x : zI32 x) (hO : zOk S) (h16 : ∀ k, k < 4 → (S.1 k).length ≤ 16) : zM G l hMod_changes yMod_changes 4 [.ref (ma 0), zi p, zi x] h (zQm G ma h (1) (2) (3) (sp_changes S p x)) zNo 0 0 := by
  obtain ⟨m1, m2, ⟨g, m3, m3a⟩, m4, ⟨f6, m5, m5a⟩, m6, m7⟩ := id H
  unfold zMfs at m2
  refine zM.of [some (.ref (ma 0)), some (zi p), some (zi x)] (by decide +kernel) rfl (by decide) rfl (Nat.le_of_ble_eq_true rfl) rfl ?_
  refine z_aload_n dMod_changes_0 rfl ?_
  refine z_iload_n dMod_changes_1 rfl ?_
  refine z_callS MS_Mod_isNoCursor lk_Mod_141 dMod_changes_2 (k_Mod_isNoCursor (by omega)) rfl rfl (Nat.le_of_ble_eq_true rfl)  (Nat.le_of_ble_eq_true rfl) (Nat.le_of_ble_eq_true rfl) (Nat.le_of_eq (Nat.zero_add _)) (Nat.le_of_eq (Nat.zero_add _)) (fun _ _ q => q.elim) ?_
  rintro _ _ ⟨n9c, rfl, (⟨rfl, hn9c⟩ | ⟨rfl, hn9c⟩), rfl⟩
  · refine z_iload_n dMod_changes_5 rfl ?_
    refine z_callS MS_Mod_isNoItem lk_Mod_85 dMod_changes_6 (k_Mod_isNoItem (by omega)) rfl rfl (Nat.le_of_ble_eq_true rfl)  (Nat.le_of_ble_eq_true rfl) (Nat.le_of_ble_eq_true rfl) (Nat.le_of_eq (Nat.zero_add _)) (Nat.le_of_eq (Nat.zero_add _)) (fun _ _ q => q.elim) ?_
    rintro _ _ ⟨i9, rfl, hi9, rfl⟩
    refine z_aload_n dMod_changes_9 rfl ?_
    refine z_iload_n dMod_changes_10 rfl ?_
    refine z_callV MV_Mod_isNotThere lk_Mod_144 dMod_changes_11 (k_Mod_isNotThere H (by omega)) rfl rfl (Nat.le_of_ble_eq_true rfl) rfl (by assumption) (Nat.le_of_ble_eq_true rfl) (Nat.le_of_ble_eq_true rfl) (Nat.le_of_eq (Nat.zero_add _)) (Nat.le_of_eq (Nat.zero_add _)) (fun _ _ q => q.elim) ?_
    rintro _ _ ⟨t8, rfl, ht8, rfl⟩
    try simp only [Int.toNat_natCast] at ht8
    refine z_callV MV_Mod_fails lk_Mod_88 dMod_changes_14 (k_Mod_fails (by assumption) rfl (by omega) (by omega) (by omega)) rfl rfl (Nat.le_of_ble_eq_true rfl) rfl (by assumption) (Nat.le_of_ble_eq_true rfl) (Nat.le_of_ble_eq_true rfl) (Nat.le_of_eq (Nat.zero_add _)) (Nat.le_of_eq (Nat.zero_add _)) (fun _ _ q => q.elim) ?_
    rintro _ h1 ⟨t9, b8, rfl, ht, p1, g1⟩
    have H1 : zMod G h1 ma S t9 := H.obj (nu := S.2.2.2.2) (th' := t9) p1 g1
    have fz1 : zMfr ma h h1 := zMfr.of0 g1
    obtain ⟨-, n2, ⟨gg, n3, n3a⟩, n4, ⟨f61, n5, n5a⟩, n6, n7⟩ := id H1
    unfold zMfs at n2
    refine z_if_eq (tgt := 22) dMod_changes_17 (by decide) (by omega) (fun c17 => ?_) (fun c17 => ?_)
    · exfalso; omega
    · refine z_iconst dMod_changes_20 ?_
      refine z_iret rfl rfl dMod_changes_21 ?_
      rcases (show t9 = 0 ∨ t9 = 1 ∨ t9 = 2 ∨ t9 = 3 by omega) with t0 | t0 | t0 | t0
      all_goals first
        | (exfalso; omega)
        | exact zQm.ok H2 (by omega) (by assumption) (by unfold sp_changes; (try unfold spPut); (try simp only [Int.toNat_natCast]); (try simp only [ek, Int.toNat_natCast]); (repeat (first | rw [if_pos (by omega)] | rw [if_neg (by omega)] | rw [if_pos (by assumption)] | rw [if_neg (by assumption)] | rw [if_pos (True.intro : True)])); (try (first | rfl | (congr 2; omega) | (congr 1; congr 1; omega))); done)
        | exact zQm.b1 H2 (by omega) (by assumption) (by unfold sp_changes; (try unfold spPut); (try simp only [Int.toNat_natCast]); (try simp only [ek, Int.toNat_natCast]); (repeat (first | rw [if_pos (by omega)] | rw [if_neg (by omega)] | rw [if_pos (by assumption)] | rw [if_neg (by assumption)] | rw [if_pos (True.intro : True)])); (try (first | rfl | (congr 2; omega) | (congr 1; congr 1; omega))); done)
        | exact zQm.b2 H2 (by omega) (by assumption) (by unfold sp_changes; (try unfold spPut); (try simp only [Int.toNat_natCast]); (try simp only [ek, Int.toNat_natCast]); (repeat (first | rw [if_pos (by omega)] | rw [if_neg (by omega)] | rw [if_pos (by assumption)] | rw [if_neg (by assumption)] | rw [if_pos (True.intro : True)])); (try (first | rfl | (congr 2; omega) | (congr 1; congr 1; omega))); done)
        | exact zQm.b3 H2 (by omega) (by assumption) (by unfold sp_changes; (try unfold spPut); (try simp only [Int.toNat_natCast]); (try simp only [ek, Int.toNat_natCast]); (repeat (first | rw [if_pos (by omega)] | rw [if_neg (by omega)] | rw [if_pos (by assumption)] | rw [if_neg (by assumption)] | rw [if_pos (True.intro : True)])); (try (first | rfl | (congr 2; omega) | (congr 1; congr 1; omega))); done)
        | exact zQm.ok H1 (by omega) (by assumption) (by unfold sp_changes; (try unfold spPut); (try simp only [Int.toNat_natCast]); (try simp only [ek, Int.toNat_natCast]); (repeat (first | rw [if_pos (by omega)] | rw [if_neg (by omega)] | rw [if_pos (by assumption)] | rw [if_neg (by assumption)] | rw [if_pos (True.intro : True)])); (try (first | rfl | (congr 2; omega) | (congr 1; congr 1; omega))); done)
        | exact zQm.b1 H1 (by omega) (by assumption) (by unfold sp_changes; (try unfold spPut); (try simp only [Int.toNat_natCast]); (try simp only [ek, Int.toNat_natCast]); (repeat (first | rw [if_pos (by omega)] | rw [if_neg (by omega)] | rw [if_pos (by assumption)] | rw [if_neg (by assumption)] | rw [if_pos (True.intro : True)])); (try (first | rfl | (congr 2; omega) | (congr 1; congr 1; omega))); done)
        | exact zQm.b2 H1 (by omega) (by assumption) (by unfold sp_changes; (try unfold spPut); (try simp only [Int.toNat_natCast]); (try simp only [ek, Int.toNat_natCast]); (repeat (first | rw [if_pos (by omega)] | rw [if_neg (by omega)] | rw [if_pos (by assumption)] | rw [if_neg (by assumption)] | rw [if_pos (True.intro : True)])); (try (first | rfl | (congr 2; omega) | (congr 1; congr 1; omega))); done)
        | exact zQm.b3 H1 (by omega) (by assumption) (by unfold sp_changes; (try unfold spPut); (try simp only [Int.toNat_natCast]); (try simp only [ek, Int.toNat_natCast]); (repeat (first | rw [if_pos (by omega)] | rw [if_neg (by omega)] | rw [if_pos (by assumption)] | rw [if_neg (by assumption)] | rw [if_pos (True.intro : True)])); (try (first | rfl | (congr 2; omega) | (congr 1; congr 1; omega))); done)
  · obtain ⟨c, rfl⟩ := Int.eq_ofNat_of_zero_le (show 0 ≤ p by omega)
    have hc : c < 3 := by omega
    refine z_iload_n dMod_changes_5 rfl ?_
    refine z_callS MS_Mod_isNoItem lk_Mod_85 dMod_changes_6 (k_Mod_isNoItem (by omega)) rfl rfl (Nat.le_of_ble_eq_true rfl)  (Nat.le_of_ble_eq_true rfl) (Nat.le_of_ble_eq_true rfl) (Nat.le_of_eq (Nat.zero_add _)) (Nat.le_of_eq (Nat.zero_add _)) (fun _ _ q => q.elim) ?_
    rintro _ _ ⟨i9, rfl, hi9, rfl⟩
    refine z_aload_n dMod_changes_9 rfl ?_
    refine z_iload_n dMod_changes_10 rfl ?_
    refine z_callV MV_Mod_isNotThere lk_Mod_144 dMod_changes_11 (k_Mod_isNotThere H (by omega)) rfl rfl (Nat.le_of_ble_eq_true rfl) rfl (by assumption) (Nat.le_of_ble_eq_true rfl) (Nat.le_of_ble_eq_true rfl) (Nat.le_of_eq (Nat.zero_add _)) (Nat.le_of_eq (Nat.zero_add _)) (fun _ _ q => q.elim) ?_
    rintro _ _ ⟨t8, rfl, ht8, rfl⟩
    try simp only [Int.toNat_natCast] at ht8
    refine z_callV MV_Mod_fails lk_Mod_88 dMod_changes_14 (k_Mod_fails (by assumption) rfl (by omega) (by omega) (by omega)) rfl rfl (Nat.le_of_ble_eq_true rfl) rfl (by assumption) (Nat.le_of_ble_eq_true rfl) (Nat.le_of_ble_eq_true rfl) (Nat.le_of_eq (Nat.zero_add _)) (Nat.le_of_eq (Nat.zero_add _)) (fun _ _ q => q.elim) ?_
    rintro _ h1 ⟨t9, b8, rfl, ht, p1, g1⟩
    have H1 : zMod G h1 ma S t9 := H.obj (nu := S.2.2.2.2) (th' := t9) p1 g1
    have fz1 : zMfr ma h h1 := zMfr.of0 g1
    obtain ⟨-, n2, ⟨gg, n3, n3a⟩, n4, ⟨f61, n5, n5a⟩, n6, n7⟩ := id H1
    unfold zMfs at n2
    refine z_if_eq (tgt := 22) dMod_changes_17 (by decide) (by omega) (fun c17 => ?_) (fun c17 => ?_)
    · obtain ⟨⟨v1, a1, b1⟩, ⟨v2, a2, b2⟩, ⟨v3, a3, b3⟩, ⟨v4, a4, b4⟩, ⟨v5, a5, b5⟩⟩ := id n4
      have hth : S.2.1 c 0 = 1 := by omega
      have b1c := b1 c (by omega)
      have b2c := b2 c (by omega)
      have b3c := b3 c (by omega)
      have b4c := b4 c (by omega)
      have b5c := b5 c (by omega)
      have e2 := b2c.2 hth
      have e3 := b3c.2 hth
      have e4 := b4c.2 hth
      have e5 := b5c.2 hth
      have ok9 := hO.1 c (by omega) hth
      obtain ⟨kk, ek⟩ := Int.eq_ofNat_of_zero_le ok9.1.1
      have hkk : kk < 4 := by omega
      have ok8 := ok9.2.2.2
      rw [ek, Int.toNat_natCast] at ok8
      have h16k := h16 kk hkk
      obtain ⟨frkk, rkk1, rkk2, rkk3, rkk4⟩ := id (n6 kk hkk)
      refine z_aload_n dMod_changes_22 rfl ?_
      refine z_get (k := 2) fd_Mod (by decide) fl_Mod_18 dMod_changes_23 (by assumption) (by rfl) ?_
      refine z_iload_n dMod_changes_26 rfl ?_
      refine z_zald dMod_changes_27 (by assumption) (by refine ⟨?_, ?_, ?_⟩ <;> omega) ?_
      rw [Int.toNat_natCast]
      rw [e2]
      refine z_if_ne (tgt := 41) dMod_changes_28 (by decide) (by omega) (fun c28 => ?_) (fun c28 => ?_)
      · refine z_aload_n dMod_changes_41 rfl ?_
        refine z_callV MV_Mod_refused lk_Mod_92 dMod_changes_42 (k_Mod_refused n2 rfl rfl) rfl rfl (Nat.le_of_ble_eq_true rfl) rfl (by assumption) (Nat.le_of_ble_eq_true rfl) (Nat.le_of_ble_eq_true rfl) (Nat.le_of_eq (Nat.zero_add _)) (Nat.le_of_eq (Nat.zero_add _)) (fun _ _ q => q.elim) ?_
        rintro _ h2 ⟨rfl, p2, g2⟩
        have H2 : zMod G h2 ma (zsRef S) t9 := H1.obj (nu := zup S.2.2.2.2 1 (S.2.2.2.2 1 + 1)) p2 g2
        have fz2 : zMfr ma h h2 := zMfr.of0 (fun q hq => (g2 q hq).trans (g1 q hq))
        refine z_iret rfl rfl dMod_changes_45 ?_
        rcases (show t9 = 0 ∨ t9 = 1 ∨ t9 = 2 ∨ t9 = 3 by omega) with t0 | t0 | t0 | t0
        all_goals first
          | (exfalso; omega)
          | exact zQm.ok H2 (by omega) (by assumption) (by unfold sp_changes; (try unfold spPut); (try simp only [Int.toNat_natCast]); (try simp only [ek, Int.toNat_natCast]); (repeat (first | rw [if_pos (by omega)] | rw [if_neg (by omega)] | rw [if_pos (by assumption)] | rw [if_neg (by assumption)] | rw [if_pos (True.intro : True)])); (try (first | rfl | (congr 2; omega) | (congr 1; congr 1; omega))); done)
          | exact zQm.b1 H2 (by omega) (by assumption) (by unfold sp_changes; (try unfold spPut); (try simp only [Int.toNat_natCast]); (try simp only [ek, Int.toNat_natCast]); (repeat (first | rw [if_pos (by omega)] | rw [if_neg (by omega)] | rw [if_pos (by assumption)] | rw [if_neg (by assumption)] | rw [if_pos (True.intro : True)])); (try (first | rfl | (congr 2; omega) | (congr 1; congr 1; omega))); done)
          | exact zQm.b2 H2 (by omega) (by assumption) (by unfold sp_changes; (try unfold spPut); (try simp only [Int.toNat_natCast]); (try simp only [ek, Int.toNat_natCast]); (repeat (first | rw [if_pos (by omega)] | rw [if_neg (by omega)] | rw [if_pos (by assumption)] | rw [if_neg (by assumption)] | rw [if_pos (True.intro : True)])); (try (first | rfl | (congr 2; omega) | (congr 1; congr 1; omega))); done)
          | exact zQm.b3 H2 (by omega) (by assumption) (by unfold sp_changes; (try unfold spPut); (try simp only [Int.toNat_natCast]); (try simp only [ek, Int.toNat_natCast]); (repeat (first | rw [if_pos (by omega)] | rw [if_neg (by omega)] | rw [if_pos (by assumption)] | rw [if_neg (by assumption)] | rw [if_pos (True.intro : True)])); (try (first | rfl | (congr 2; omega) | (congr 1; congr 1; omega))); done)
          | exact zQm.ok H1 (by omega) (by assumption) (by unfold sp_changes; (try unfold spPut); (try simp only [Int.toNat_natCast]); (try simp only [ek, Int.toNat_natCast]); (repeat (first | rw [if_pos (by omega)] | rw [if_neg (by omega)] | rw [if_pos (by assumption)] | rw [if_neg (by assumption)] | rw [if_pos (True.intro : True)])); (try (first | rfl | (congr 2; omega) | (congr 1; congr 1; omega))); done)
          | exact zQm.b1 H1 (by omega) (by assumption) (by unfold sp_changes; (try unfold spPut); (try simp only [Int.toNat_natCast]); (try simp only [ek, Int.toNat_natCast]); (repeat (first | rw [if_pos (by omega)] | rw [if_neg (by omega)] | rw [if_pos (by assumption)] | rw [if_neg (by assumption)] | rw [if_pos (True.intro : True)])); (try (first | rfl | (congr 2; omega) | (congr 1; congr 1; omega))); done)
          | exact zQm.b2 H1 (by omega) (by assumption) (by unfold sp_changes; (try unfold spPut); (try simp only [Int.toNat_natCast]); (try simp only [ek, Int.toNat_natCast]); (repeat (first | rw [if_pos (by omega)] | rw [if_neg (by omega)] | rw [if_pos (by assumption)] | rw [if_neg (by assumption)] | rw [if_pos (True.intro : True)])); (try (first | rfl | (congr 2; omega) | (congr 1; congr 1; omega))); done)
          | exact zQm.b3 H1 (by omega) (by assumption) (by unfold sp_changes; (try unfold spPut); (try simp only [Int.toNat_natCast]); (try simp only [ek, Int.toNat_natCast]); (repeat (first | rw [if_pos (by omega)] | rw [if_neg (by omega)] | rw [if_pos (by assumption)] | rw [if_neg (by assumption)] | rw [if_pos (True.intro : True)])); (try (first | rfl | (congr 2; omega) | (congr 1; congr 1; omega))); done)
      · refine z_aload_n dMod_changes_31 rfl ?_
        refine z_get (k := 5) fd_Mod (by decide) fl_Mod_28 dMod_changes_32 (by assumption) (by rfl) ?_
        refine z_iload_n dMod_changes_35 rfl ?_
        refine z_iald dMod_changes_36 (by assumption) (by refine ⟨?_, ?_, ?_⟩ <;> omega) ?_
        rw [Int.toNat_natCast]
        rw [e5]
        refine z_iconst dMod_changes_37 ?_
        refine z_icmp_ne (tgt := 46) dMod_changes_38 (by decide) (by omega) (by omega) (fun c38 => ?_) (fun c38 => ?_)
        · refine z_aload_n dMod_changes_46 rfl ?_
          refine z_get (k := 0) fd_Mod (by decide) fl_Mod_11 dMod_changes_47 (by assumption) (by rfl) ?_
          refine z_aload_n dMod_changes_50 rfl ?_
          refine z_get (k := 3) fd_Mod (by decide) fl_Mod_21 dMod_changes_51 (by assumption) (by rfl) ?_
          refine z_iload_n dMod_changes_54 rfl ?_
          refine z_iald dMod_changes_55 (by assumption) (by refine ⟨?_, ?_, ?_⟩ <;> omega) ?_
          rw [Int.toNat_natCast]
          rw [e3, ek]
          refine z_aald (t := 4) (ty := .array .int) rfl rfl dMod_changes_56 n3 (by refine ⟨?_, ?_, ?_⟩ <;> omega) ?_
          rw [show (kk : Int).toNat = kk from rfl, n3a kk (by omega)]
          refine z_aload_n dMod_changes_57 rfl ?_
          refine z_get (k := 5) fd_Mod (by decide) fl_Mod_28 dMod_changes_58 (by assumption) (by rfl) ?_
          refine z_iload_n dMod_changes_61 rfl ?_
          refine z_iald dMod_changes_62 (by assumption) (by refine ⟨?_, ?_, ?_⟩ <;> omega) ?_
          rw [Int.toNat_natCast]
          rw [e5]
          refine z_iload_n dMod_changes_63 rfl ?_
          refine z_iast dMod_changes_64 (by assumption) (by refine ⟨?_, ?_, ?_⟩ <;> omega) ?_
          refine z_hx (fun h2 p2 g2 => ?_)
          have r2 : zAr G h2 (ma (8 + kk)) (zSet (S.1 kk) (S.2.1 c 4) x) := zAr.st p2 rkk2 rkk3 rkk4 (by omega) (by omega)
          have H2 : zMod G h2 ma (zsL S kk (zSet (S.1 kk) (S.2.1 c 4) x)) t9 := H1.row1 hkk r2 g2
          have fz2 : zMfr ma h h2 := fz1.tr (zMfr.of1 (i := 8 + kk) (by omega) g2)
          have n2 := (g2 _ (H1.inj (i := 0) (j := 8 + kk) (by omega) (by omega) (by omega))).trans n2
          have a4 := (g2 _ (H1.inj (i := 5) (j := 8 + kk) (by omega) (by omega) (by omega))).trans a4
          refine z_aload_n dMod_changes_65 rfl ?_
          refine z_get (k := 4) fd_Mod (by decide) fl_Mod_25 dMod_changes_66 (by assumption) (by rfl) ?_
          refine z_iload_n dMod_changes_69 rfl ?_
          refine z_iald dMod_changes_70 (by assumption) (by refine ⟨?_, ?_, ?_⟩ <;> omega) ?_
          rw [Int.toNat_natCast]
          rw [e4]
          refine z_iret rfl rfl dMod_changes_71 ?_
          rcases (show t9 = 0 ∨ t9 = 1 ∨ t9 = 2 ∨ t9 = 3 by omega) with t0 | t0 | t0 | t0
          all_goals first
            | (exfalso; omega)
            | exact zQm.ok H2 (by omega) (by assumption) (by unfold sp_changes; (try unfold spPut); (try simp only [Int.toNat_natCast]); (try simp only [ek, Int.toNat_natCast]); (repeat (first | rw [if_pos (by omega)] | rw [if_neg (by omega)] | rw [if_pos (by assumption)] | rw [if_neg (by assumption)] | rw [if_pos (True.intro : True)])); (try (first | rfl | (congr 2; omega) | (congr 1; congr 1; omega))); done)
            | exact zQm.b1 H2 (by omega) (by assumption) (by unfold sp_changes; (try unfold spPut); (try simp only [Int.toNat_natCast]); (try simp only [ek, Int.toNat_natCast]); (repeat (first | rw [if_pos (by omega)] | rw [if_neg (by omega)] | rw [if_pos (by assumption)] | rw [if_neg (by assumption)] | rw [if_pos (True.intro : True)])); (try (first | rfl | (congr 2; omega) | (congr 1; congr 1; omega))); done)
            | exact zQm.b2 H2 (by omega) (by assumption) (by unfold sp_changes; (try unfold spPut); (try simp only [Int.toNat_natCast]); (try simp only [ek, Int.toNat_natCast]); (repeat (first | rw [if_pos (by omega)] | rw [if_neg (by omega)] | rw [if_pos (by assumption)] | rw [if_neg (by assumption)] | rw [if_pos (True.intro : True)])); (try (first | rfl | (congr 2; omega) | (congr 1; congr 1; omega))); done)
            | exact zQm.b3 H2 (by omega) (by assumption) (by unfold sp_changes; (try unfold spPut); (try simp only [Int.toNat_natCast]); (try simp only [ek, Int.toNat_natCast]); (repeat (first | rw [if_pos (by omega)] | rw [if_neg (by omega)] | rw [if_pos (by assumption)] | rw [if_neg (by assumption)] | rw [if_pos (True.intro : True)])); (try (first | rfl | (congr 2; omega) | (congr 1; congr 1; omega))); done)
            | exact zQm.ok H1 (by omega) (by assumption) (by unfold sp_changes; (try unfold spPut); (try simp only [Int.toNat_natCast]); (try simp only [ek, Int.toNat_natCast]); (repeat (first | rw [if_pos (by omega)] | rw [if_neg (by omega)] | rw [if_pos (by assumption)] | rw [if_neg (by assumption)] | rw [if_pos (True.intro : True)])); (try (first | rfl | (congr 2; omega) | (congr 1; congr 1; omega))); done)
            | exact zQm.b1 H1 (by omega) (by assumption) (by unfold sp_changes; (try unfold spPut); (try simp only [Int.toNat_natCast]); (try simp only [ek, Int.toNat_natCast]); (repeat (first | rw [if_pos (by omega)] | rw [if_neg (by omega)] | rw [if_pos (by assumption)] | rw [if_neg (by assumption)] | rw [if_pos (True.intro : True)])); (try (first | rfl | (congr 2; omega) | (congr 1; congr 1; omega))); done)
            | exact zQm.b2 H1 (by omega) (by assumption) (by unfold sp_changes; (try unfold spPut); (try simp only [Int.toNat_natCast]); (try simp only [ek, Int.toNat_natCast]); (repeat (first | rw [if_pos (by omega)] | rw [if_neg (by omega)] | rw [if_pos (by assumption)] | rw [if_neg (by assumption)] | rw [if_pos (True.intro : True)])); (try (first | rfl | (congr 2; omega) | (congr 1; congr 1; omega))); done)
            | exact zQm.b3 H1 (by omega) (by assumption) (by unfold sp_changes; (try unfold spPut); (try simp only [Int.toNat_natCast]); (try simp only [ek, Int.toNat_natCast]); (repeat (first | rw [if_pos (by omega)] | rw [if_neg (by omega)] | rw [if_pos (by assumption)] | rw [if_neg (by assumption)] | rw [if_pos (True.intro : True)])); (try (first | rfl | (congr 2; omega) | (congr 1; congr 1; omega))); done)
        · refine z_aload_n dMod_changes_41 rfl ?_
          refine z_callV MV_Mod_refused lk_Mod_92 dMod_changes_42 (k_Mod_refused n2 rfl rfl) rfl rfl (Nat.le_of_ble_eq_true rfl) rfl (by assumption) (Nat.le_of_ble_eq_true rfl) (Nat.le_of_ble_eq_true rfl) (Nat.le_of_eq (Nat.zero_add _)) (Nat.le_of_eq (Nat.zero_add _)) (fun _ _ q => q.elim) ?_
          rintro _ h2 ⟨rfl, p2, g2⟩
          have H2 : zMod G h2 ma (zsRef S) t9 := H1.obj (nu := zup S.2.2.2.2 1 (S.2.2.2.2 1 + 1)) p2 g2
          have fz2 : zMfr ma h h2 := zMfr.of0 (fun q hq => (g2 q hq).trans (g1 q hq))
          refine z_iret rfl rfl dMod_changes_45 ?_
          rcases (show t9 = 0 ∨ t9 = 1 ∨ t9 = 2 ∨ t9 = 3 by omega) with t0 | t0 | t0 | t0
          all_goals first
            | (exfalso; omega)
            | exact zQm.ok H2 (by omega) (by assumption) (by unfold sp_changes; (try unfold spPut); (try simp only [Int.toNat_natCast]); (try simp only [ek, Int.toNat_natCast]); (repeat (first | rw [if_pos (by omega)] | rw [if_neg (by omega)] | rw [if_pos (by assumption)] | rw [if_neg (by assumption)] | rw [if_pos (True.intro : True)])); (try (first | rfl | (congr 2; omega) | (congr 1; congr 1; omega))); done)
            | exact zQm.b1 H2 (by omega) (by assumption) (by unfold sp_changes; (try unfold spPut); (try simp only [Int.toNat_natCast]); (try simp only [ek, Int.toNat_natCast]); (repeat (first | rw [if_pos (by omega)] | rw [if_neg (by omega)] | rw [if_pos (by assumption)] | rw [if_neg (by assumption)] | rw [if_pos (True.intro : True)])); (try (first | rfl | (congr 2; omega) | (congr 1; congr 1; omega))); done)
            | exact zQm.b2 H2 (by omega) (by assumption) (by unfold sp_changes; (try unfold spPut); (try simp only [Int.toNat_natCast]); (try simp only [ek, Int.toNat_natCast]); (repeat (first | rw [if_pos (by omega)] | rw [if_neg (by omega)] | rw [if_pos (by assumption)] | rw [if_neg (by assumption)] | rw [if_pos (True.intro : True)])); (try (first | rfl | (congr 2; omega) | (congr 1; congr 1; omega))); done)
            | exact zQm.b3 H2 (by omega) (by assumption) (by unfold sp_changes; (try unfold spPut); (try simp only [Int.toNat_natCast]); (try simp only [ek, Int.toNat_natCast]); (repeat (first | rw [if_pos (by omega)] | rw [if_neg (by omega)] | rw [if_pos (by assumption)] | rw [if_neg (by assumption)] | rw [if_pos (True.intro : True)])); (try (first | rfl | (congr 2; omega) | (congr 1; congr 1; omega))); done)
            | exact zQm.ok H1 (by omega) (by assumption) (by unfold sp_changes; (try unfold spPut); (try simp only [Int.toNat_natCast]); (try simp only [ek, Int.toNat_natCast]); (repeat (first | rw [if_pos (by omega)] | rw [if_neg (by omega)] | rw [if_pos (by assumption)] | rw [if_neg (by assumption)] | rw [if_pos (True.intro : True)])); (try (first | rfl | (congr 2; omega) | (congr 1; congr 1; omega))); done)
            | exact zQm.b1 H1 (by omega) (by assumption) (by unfold sp_changes; (try unfold spPut); (try simp only [Int.toNat_natCast]); (try simp only [ek, Int.toNat_natCast]); (repeat (first | rw [if_pos (by omega)] | rw [if_neg (by omega)] | rw [if_pos (by assumption)] | rw [if_neg (by assumption)] | rw [if_pos (True.intro : True)])); (try (first | rfl | (congr 2; omega) | (congr 1; congr 1; omega))); done)
            | exact zQm.b2 H1 (by omega) (by assumption) (by unfold sp_changes; (try unfold spPut); (try simp only [Int.toNat_natCast]); (try simp only [ek, Int.toNat_natCast]); (repeat (first | rw [if_pos (by omega)] | rw [if_neg (by omega)] | rw [if_pos (by assumption)] | rw [if_neg (by assumption)] | rw [if_pos (True.intro : True)])); (try (first | rfl | (congr 2; omega) | (congr 1; congr 1; omega))); done)
            | exact zQm.b3 H1 (by omega) (by assumption) (by unfold sp_changes; (try unfold spPut); (try simp only [Int.toNat_natCast]); (try simp only [ek, Int.toNat_natCast]); (repeat (first | rw [if_pos (by omega)] | rw [if_neg (by omega)] | rw [if_pos (by assumption)] | rw [if_neg (by assumption)] | rw [if_pos (True.intro : True)])); (try (first | rfl | (congr 2; omega) | (congr 1; congr 1; omega))); done)
    · refine z_iconst dMod_changes_20 ?_
      refine z_iret rfl rfl dMod_changes_21 ?_
      rcases (show t9 = 0 ∨ t9 = 1 ∨ t9 = 2 ∨ t9 = 3 by omega) with t0 | t0 | t0 | t0
      all_goals first
        | (exfalso; omega)
        | exact zQm.ok H2 (by omega) (by assumption) (by unfold sp_changes; (try unfold spPut); (try simp only [Int.toNat_natCast]); (try simp only [ek, Int.toNat_natCast]); (repeat (first | rw [if_pos (by omega)] | rw [if_neg (by omega)] | rw [if_pos (by assumption)] | rw [if_neg (by assumption)] | rw [if_pos (True.intro : True)])); (try (first | rfl | (congr 2; omega) | (congr 1; congr 1; omega))); done)
        | exact zQm.b1 H2 (by omega) (by assumption) (by unfold sp_changes; (try unfold spPut); (try simp only [Int.toNat_natCast]); (try simp only [ek, Int.toNat_natCast]); (repeat (first | rw [if_pos (by omega)] | rw [if_neg (by omega)] | rw [if_pos (by assumption)] | rw [if_neg (by assumption)] | rw [if_pos (True.intro : True)])); (try (first | rfl | (congr 2; omega) | (congr 1; congr 1; omega))); done)
        | exact zQm.b2 H2 (by omega) (by assumption) (by unfold sp_changes; (try unfold spPut); (try simp only [Int.toNat_natCast]); (try simp only [ek, Int.toNat_natCast]); (repeat (first | rw [if_pos (by omega)] | rw [if_neg (by omega)] | rw [if_pos (by assumption)] | rw [if_neg (by assumption)] | rw [if_pos (True.intro : True)])); (try (first | rfl | (congr 2; omega) | (congr 1; congr 1; omega))); done)
        | exact zQm.b3 H2 (by omega) (by assumption) (by unfold sp_changes; (try unfold spPut); (try simp only [Int.toNat_natCast]); (try simp only [ek, Int.toNat_natCast]); (repeat (first | rw [if_pos (by omega)] | rw [if_neg (by omega)] | rw [if_pos (by assumption)] | rw [if_neg (by assumption)] | rw [if_pos (True.intro : True)])); (try (first | rfl | (congr 2; omega) | (congr 1; congr 1; omega))); done)
        | exact zQm.ok H1 (by omega) (by assumption) (by unfold sp_changes; (try unfold spPut); (try simp only [Int.toNat_natCast]); (try simp only [ek, Int.toNat_natCast]); (repeat (first | rw [if_pos (by omega)] | rw [if_neg (by omega)] | rw [if_pos (by assumption)] | rw [if_neg (by assumption)] | rw [if_pos (True.intro : True)])); (try (first | rfl | (congr 2; omega) | (congr 1; congr 1; omega))); done)
        | exact zQm.b1 H1 (by omega) (by assumption) (by unfold sp_changes; (try unfold spPut); (try simp only [Int.toNat_natCast]); (try simp only [ek, Int.toNat_natCast]); (repeat (first | rw [if_pos (by omega)] | rw [if_neg (by omega)] | rw [if_pos (by assumption)] | rw [if_neg (by assumption)] | rw [if_pos (True.intro : True)])); (try (first | rfl | (congr 2; omega) | (congr 1; congr 1; omega))); done)
        | exact zQm.b2 H1 (by omega) (by assumption) (by unfold sp_changes; (try unfold spPut); (try simp only [Int.toNat_natCast]); (try simp only [ek, Int.toNat_natCast]); (repeat (first | rw [if_pos (by omega)] | rw [if_neg (by omega)] | rw [if_pos (by assumption)] | rw [if_neg (by assumption)] | rw [if_pos (True.intro : True)])); (try (first | rfl | (congr 2; omega) | (congr 1; congr 1; omega))); done)
        | exact zQm.b3 H1 (by omega) (by assumption) (by unfold sp_changes; (try unfold spPut); (try simp only [Int.toNat_natCast]); (try simp only [ek, Int.toNat_natCast]); (repeat (first | rw [if_pos (by omega)] | rw [if_neg (by omega)] | rw [if_pos (by assumption)] | rw [if_neg (by assumption)] | rw [if_pos (True.intro : True)])); (try (first | rfl | (congr 2; omega) | (congr 1; congr 1; omega))); done)
theorem k_Mod_puts {p x : Int} (H : zMod G h ma S th) (z_p : zI32 p) (z_x : zI32 x) (hO : zOk S) (h16 : ∀ k, k < 4 → (S.1 k).length ≤ 16) : zM G l hMod_puts yMod_puts 4 [.ref (ma 0), zi p, zi x] h (zQm G ma h (1) (2) (3) (sp_puts S p x)) zNo 1 61 := by
  obtain ⟨m1, m2, ⟨g, m3, m3a⟩, m4, ⟨f6, m5, m5a⟩, m6, m7⟩ := id H
  unfold zMfs at m2
  refine zM.of [some (.ref (ma 0)), some (zi p), some (zi x)] (by decide +kernel) rfl (by decide) rfl (Nat.le_of_ble_eq_true rfl) rfl ?_
  refine z_aload_n dMod_puts_0 rfl ?_
  refine z_iload_n dMod_puts_1 rfl ?_
  refine z_callS MS_Mod_isNoCursor lk_Mod_141 dMod_puts_2 (k_Mod_isNoCursor (by omega)) rfl rfl (Nat.le_of_ble_eq_true rfl)  (Nat.le_of_ble_eq_true rfl) (Nat.le_of_ble_eq_true rfl) (Nat.le_of_eq (Nat.zero_add _)) (Nat.le_of_eq (Nat.zero_add _)) (fun _ _ q => q.elim) ?_
  rintro _ _ ⟨n9c, rfl, (⟨rfl, hn9c⟩ | ⟨rfl, hn9c⟩), rfl⟩
  · refine z_iload_n dMod_puts_5 rfl ?_
    refine z_callS MS_Mod_isNoItem lk_Mod_85 dMod_puts_6 (k_Mod_isNoItem (by omega)) rfl rfl (Nat.le_of_ble_eq_true rfl)  (Nat.le_of_ble_eq_true rfl) (Nat.le_of_ble_eq_true rfl) (Nat.le_of_eq (Nat.zero_add _)) (Nat.le_of_eq (Nat.zero_add _)) (fun _ _ q => q.elim) ?_
    rintro _ _ ⟨i9, rfl, hi9, rfl⟩
    refine z_aload_n dMod_puts_9 rfl ?_
    refine z_iload_n dMod_puts_10 rfl ?_
    refine z_callV MV_Mod_isNotThere lk_Mod_144 dMod_puts_11 (k_Mod_isNotThere H (by omega)) rfl rfl (Nat.le_of_ble_eq_true rfl) rfl (by assumption) (Nat.le_of_ble_eq_true rfl) (Nat.le_of_ble_eq_true rfl) (Nat.le_of_eq (Nat.zero_add _)) (Nat.le_of_eq (Nat.zero_add _)) (fun _ _ q => q.elim) ?_
    rintro _ _ ⟨t8, rfl, ht8, rfl⟩
    try simp only [Int.toNat_natCast] at ht8
    refine z_callV MV_Mod_fails lk_Mod_88 dMod_puts_14 (k_Mod_fails (by assumption) rfl (by omega) (by omega) (by omega)) rfl rfl (Nat.le_of_ble_eq_true rfl) rfl (by assumption) (Nat.le_of_ble_eq_true rfl) (Nat.le_of_ble_eq_true rfl) (Nat.le_of_eq (Nat.zero_add _)) (Nat.le_of_eq (Nat.zero_add _)) (fun _ _ q => q.elim) ?_
    rintro _ h1 ⟨t9, b8, rfl, ht, p1, g1⟩
    have H1 : zMod G h1 ma S t9 := H.obj (nu := S.2.2.2.2) (th' := t9) p1 g1
    have fz1 : zMfr ma h h1 := zMfr.of0 g1
    obtain ⟨-, n2, ⟨gg, n3, n3a⟩, n4, ⟨f61, n5, n5a⟩, n6, n7⟩ := id H1
    unfold zMfs at n2
    refine z_if_eq (tgt := 22) dMod_puts_17 (by decide) (by omega) (fun c17 => ?_) (fun c17 => ?_)
    · exfalso; omega
    · refine z_iconst dMod_puts_20 ?_
      refine z_iret rfl rfl dMod_puts_21 ?_
      rcases (show t9 = 0 ∨ t9 = 1 ∨ t9 = 2 ∨ t9 = 3 by omega) with t0 | t0 | t0 | t0
      all_goals first
        | (exfalso; omega)
        | exact zQm.okB H9 (Or.inr ⟨dq2, gq2⟩) (by omega) (by assumption) (by unfold sp_puts; (try unfold spPut); (try simp only [Int.toNat_natCast]); (try simp only [ek, Int.toNat_natCast]); (repeat (first | rw [if_pos (by omega)] | rw [if_neg (by omega)] | rw [if_pos (by assumption)] | rw [if_neg (by assumption)] | rw [if_pos (True.intro : True)])); (try (first | rfl | (congr 2; omega) | (congr 1; congr 1; omega))); done)
        | exact zQm.ok H2 (by omega) (by assumption) (by unfold sp_puts; (try unfold spPut); (try simp only [Int.toNat_natCast]); (try simp only [ek, Int.toNat_natCast]); (repeat (first | rw [if_pos (by omega)] | rw [if_neg (by omega)] | rw [if_pos (by assumption)] | rw [if_neg (by assumption)] | rw [if_pos (True.intro : True)])); (try (first | rfl | (congr 2; omega) | (congr 1; congr 1; omega))); done)
        | exact zQm.b1 H2 (by omega) (by assumption) (by unfold sp_puts; (try unfold spPut); (try simp only [Int.toNat_natCast]); (try simp only [ek, Int.toNat_natCast]); (repeat (first | rw [if_pos (by omega)] | rw [if_neg (by omega)] | rw [if_pos (by assumption)] | rw [if_neg (by assumption)] | rw [if_pos (True.intro : True)])); (try (first | rfl | (congr 2; omega) | (congr 1; congr 1; omega))); done)
        | exact zQm.b2 H2 (by omega) (by assumption) (by unfold sp_puts; (try unfold spPut); (try simp only [Int.toNat_natCast]); (try simp only [ek, Int.toNat_natCast]); (repeat (first | rw [if_pos (by omega)] | rw [if_neg (by omega)] | rw [if_pos (by assumption)] | rw [if_neg (by assumption)] | rw [if_pos (True.intro : True)])); (try (first | rfl | (congr 2; omega) | (congr 1; congr 1; omega))); done)
        | exact zQm.b3 H2 (by omega) (by assumption) (by unfold sp_puts; (try unfold spPut); (try simp only [Int.toNat_natCast]); (try simp only [ek, Int.toNat_natCast]); (repeat (first | rw [if_pos (by omega)] | rw [if_neg (by omega)] | rw [if_pos (by assumption)] | rw [if_neg (by assumption)] | rw [if_pos (True.intro : True)])); (try (first | rfl | (congr 2; omega) | (congr 1; congr 1; omega))); done)
        | exact zQm.ok H1 (by omega) (by assumption) (by unfold sp_puts; (try unfold spPut); (try simp only [Int.toNat_natCast]); (try simp only [ek, Int.toNat_natCast]); (repeat (first | rw [if_pos (by omega)] | rw [if_neg (by omega)] | rw [if_pos (by assumption)] | rw [if_neg (by assumption)] | rw [if_pos (True.intro : True)])); (try (first | rfl | (congr 2; omega) | (congr 1; congr 1; omega))); done)
        | exact zQm.b1 H1 (by omega) (by assumption) (by unfold sp_puts; (try unfold spPut); (try simp only [Int.toNat_natCast]); (try simp only [ek, Int.toNat_natCast]); (repeat (first | rw [if_pos (by omega)] | rw [if_neg (by omega)] | rw [if_pos (by assumption)] | rw [if_neg (by assumption)] | rw [if_pos (True.intro : True)])); (try (first | rfl | (congr 2; omega) | (congr 1; congr 1; omega))); done)
        | exact zQm.b2 H1 (by omega) (by assumption) (by unfold sp_puts; (try unfold spPut); (try simp only [Int.toNat_natCast]); (try simp only [ek, Int.toNat_natCast]); (repeat (first | rw [if_pos (by omega)] | rw [if_neg (by omega)] | rw [if_pos (by assumption)] | rw [if_neg (by assumption)] | rw [if_pos (True.intro : True)])); (try (first | rfl | (congr 2; omega) | (congr 1; congr 1; omega))); done)
        | exact zQm.b3 H1 (by omega) (by assumption) (by unfold sp_puts; (try unfold spPut); (try simp only [Int.toNat_natCast]); (try simp only [ek, Int.toNat_natCast]); (repeat (first | rw [if_pos (by omega)] | rw [if_neg (by omega)] | rw [if_pos (by assumption)] | rw [if_neg (by assumption)] | rw [if_pos (True.intro : True)])); (try (first | rfl | (congr 2; omega) | (congr 1; congr 1; omega))); done)
  · obtain ⟨c, rfl⟩ := Int.eq_ofNat_of_zero_le (show 0 ≤ p by omega)
    have hc : c < 3 := by omega
    refine z_iload_n dMod_puts_5 rfl ?_
    refine z_callS MS_Mod_isNoItem lk_Mod_85 dMod_puts_6 (k_Mod_isNoItem (by omega)) rfl rfl (Nat.le_of_ble_eq_true rfl)  (Nat.le_of_ble_eq_true rfl) (Nat.le_of_ble_eq_true rfl) (Nat.le_of_eq (Nat.zero_add _)) (Nat.le_of_eq (Nat.zero_add _)) (fun _ _ q => q.elim) ?_
    rintro _ _ ⟨i9, rfl, hi9, rfl⟩
    refine z_aload_n dMod_puts_9 rfl ?_
    refine z_iload_n dMod_puts_10 rfl ?_
    refine z_callV MV_Mod_isNotThere lk_Mod_144 dMod_puts_11 (k_Mod_isNotThere H (by omega)) rfl rfl (Nat.le_of_ble_eq_true rfl) rfl (by assumption) (Nat.le_of_ble_eq_true rfl) (Nat.le_of_ble_eq_true rfl) (Nat.le_of_eq (Nat.zero_add _)) (Nat.le_of_eq (Nat.zero_add _)) (fun _ _ q => q.elim) ?_
    rintro _ _ ⟨t8, rfl, ht8, rfl⟩
    try simp only [Int.toNat_natCast] at ht8
    refine z_callV MV_Mod_fails lk_Mod_88 dMod_puts_14 (k_Mod_fails (by assumption) rfl (by omega) (by omega) (by omega)) rfl rfl (Nat.le_of_ble_eq_true rfl) rfl (by assumption) (Nat.le_of_ble_eq_true rfl) (Nat.le_of_ble_eq_true rfl) (Nat.le_of_eq (Nat.zero_add _)) (Nat.le_of_eq (Nat.zero_add _)) (fun _ _ q => q.elim) ?_
    rintro _ h1 ⟨t9, b8, rfl, ht, p1, g1⟩
    have H1 : zMod G h1 ma S t9 := H.obj (nu := S.2.2.2.2) (th' := t9) p1 g1
    have fz1 : zMfr ma h h1 := zMfr.of0 g1
    obtain ⟨-, n2, ⟨gg, n3, n3a⟩, n4, ⟨f61, n5, n5a⟩, n6, n7⟩ := id H1
    unfold zMfs at n2
    refine z_if_eq (tgt := 22) dMod_puts_17 (by decide) (by omega) (fun c17 => ?_) (fun c17 => ?_)
    · obtain ⟨⟨v1, a1, b1⟩, ⟨v2, a2, b2⟩, ⟨v3, a3, b3⟩, ⟨v4, a4, b4⟩, ⟨v5, a5, b5⟩⟩ := id n4
      have hth : S.2.1 c 0 = 1 := by omega
      have b1c := b1 c (by omega)
      have b2c := b2 c (by omega)
      have b3c := b3 c (by omega)
      have b4c := b4 c (by omega)
      have b5c := b5 c (by omega)
      have e2 := b2c.2 hth
      have e3 := b3c.2 hth
      have e4 := b4c.2 hth
      have e5 := b5c.2 hth
      have ok9 := hO.1 c (by omega) hth
      obtain ⟨kk, ek⟩ := Int.eq_ofNat_of_zero_le ok9.1.1
      have hkk : kk < 4 := by omega
      have ok8 := ok9.2.2.2
      rw [ek, Int.toNat_natCast] at ok8
      have h16k := h16 kk hkk
      obtain ⟨frkk, rkk1, rkk2, rkk3, rkk4⟩ := id (n6 kk hkk)
      refine z_aload_n dMod_puts_22 rfl ?_
      refine z_get (k := 2) fd_Mod (by decide) fl_Mod_18 dMod_puts_23 (by assumption) (by rfl) ?_
      refine z_iload_n dMod_puts_26 rfl ?_
      refine z_zald dMod_puts_27 (by assumption) (by refine ⟨?_, ?_, ?_⟩ <;> omega) ?_
      rw [Int.toNat_natCast]
      rw [e2]
      refine z_if_ne (tgt := 48) dMod_puts_28 (by decide) (by omega) (fun c28 => ?_) (fun c28 => ?_)
      · refine z_aload_n dMod_puts_48 rfl ?_
        refine z_callV MV_Mod_refused lk_Mod_92 dMod_puts_49 (k_Mod_refused n2 rfl rfl) rfl rfl (Nat.le_of_ble_eq_true rfl) rfl (by assumption) (Nat.le_of_ble_eq_true rfl) (Nat.le_of_ble_eq_true rfl) (Nat.le_of_eq (Nat.zero_add _)) (Nat.le_of_eq (Nat.zero_add _)) (fun _ _ q => q.elim) ?_
        rintro _ h2 ⟨rfl, p2, g2⟩
        have H2 : zMod G h2 ma (zsRef S) t9 := H1.obj (nu := zup S.2.2.2.2 1 (S.2.2.2.2 1 + 1)) p2 g2
        have fz2 : zMfr ma h h2 := zMfr.of0 (fun q hq => (g2 q hq).trans (g1 q hq))
        refine z_iret rfl rfl dMod_puts_52 ?_
        rcases (show t9 = 0 ∨ t9 = 1 ∨ t9 = 2 ∨ t9 = 3 by omega) with t0 | t0 | t0 | t0
        all_goals first
          | (exfalso; omega)
          | exact zQm.okB H9 (Or.inr ⟨dq2, gq2⟩) (by omega) (by assumption) (by unfold sp_puts; (try unfold spPut); (try simp only [Int.toNat_natCast]); (try simp only [ek, Int.toNat_natCast]); (repeat (first | rw [if_pos (by omega)] | rw [if_neg (by omega)] | rw [if_pos (by assumption)] | rw [if_neg (by assumption)] | rw [if_pos (True.intro : True)])); (try (first | rfl | (congr 2; omega) | (congr 1; congr 1; omega))); done)
          | exact zQm.ok H2 (by omega) (by assumption) (by unfold sp_puts; (try unfold spPut); (try simp only [Int.toNat_natCast]); (try simp only [ek, Int.toNat_natCast]); (repeat (first | rw [if_pos (by omega)] | rw [if_neg (by omega)] | rw [if_pos (by assumption)] | rw [if_neg (by assumption)] | rw [if_pos (True.intro : True)])); (try (first | rfl | (congr 2; omega) | (congr 1; congr 1; omega))); done)
          | exact zQm.b1 H2 (by omega) (by assumption) (by unfold sp_puts; (try unfold spPut); (try simp only [Int.toNat_natCast]); (try simp only [ek, Int.toNat_natCast]); (repeat (first | rw [if_pos (by omega)] | rw [if_neg (by omega)] | rw [if_pos (by assumption)] | rw [if_neg (by assumption)] | rw [if_pos (True.intro : True)])); (try (first | rfl | (congr 2; omega) | (congr 1; congr 1; omega))); done)
          | exact zQm.b2 H2 (by omega) (by assumption) (by unfold sp_puts; (try unfold spPut); (try simp only [Int.toNat_natCast]); (try simp only [ek, Int.toNat_natCast]); (repeat (first | rw [if_pos (by omega)] | rw [if_neg (by omega)] | rw [if_pos (by assumption)] | rw [if_neg (by assumption)] | rw [if_pos (True.intro : True)])); (try (first | rfl | (congr 2; omega) | (congr 1; congr 1; omega))); done)
          | exact zQm.b3 H2 (by omega) (by assumption) (by unfold sp_puts; (try unfold spPut); (try simp only [Int.toNat_natCast]); (try simp only [ek, Int.toNat_natCast]); (repeat (first | rw [if_pos (by omega)] | rw [if_neg (by omega)] | rw [if_pos (by assumption)] | rw [if_neg (by assumption)] | rw [if_pos (True.intro : True)])); (try (first | rfl | (congr 2; omega) | (congr 1; congr 1; omega))); done)
          | exact zQm.ok H1 (by omega) (by assumption) (by unfold sp_puts; (try unfold spPut); (try simp only [Int.toNat_natCast]); (try simp only [ek, Int.toNat_natCast]); (repeat (first | rw [if_pos (by omega)] | rw [if_neg (by omega)] | rw [if_pos (by assumption)] | rw [if_neg (by assumption)] | rw [if_pos (True.intro : True)])); (try (first | rfl | (congr 2; omega) | (congr 1; congr 1; omega))); done)
          | exact zQm.b1 H1 (by omega) (by assumption) (by unfold sp_puts; (try unfold spPut); (try simp only [Int.toNat_natCast]); (try simp only [ek, Int.toNat_natCast]); (repeat (first | rw [if_pos (by omega)] | rw [if_neg (by omega)] | rw [if_pos (by assumption)] | rw [if_neg (by assumption)] | rw [if_pos (True.intro : True)])); (try (first | rfl | (congr 2; omega) | (congr 1; congr 1; omega))); done)
          | exact zQm.b2 H1 (by omega) (by assumption) (by unfold sp_puts; (try unfold spPut); (try simp only [Int.toNat_natCast]); (try simp only [ek, Int.toNat_natCast]); (repeat (first | rw [if_pos (by omega)] | rw [if_neg (by omega)] | rw [if_pos (by assumption)] | rw [if_neg (by assumption)] | rw [if_pos (True.intro : True)])); (try (first | rfl | (congr 2; omega) | (congr 1; congr 1; omega))); done)
          | exact zQm.b3 H1 (by omega) (by assumption) (by unfold sp_puts; (try unfold spPut); (try simp only [Int.toNat_natCast]); (try simp only [ek, Int.toNat_natCast]); (repeat (first | rw [if_pos (by omega)] | rw [if_neg (by omega)] | rw [if_pos (by assumption)] | rw [if_neg (by assumption)] | rw [if_pos (True.intro : True)])); (try (first | rfl | (congr 2; omega) | (congr 1; congr 1; omega))); done)
      · refine z_aload_n dMod_puts_31 rfl ?_
        refine z_get (k := 0) fd_Mod (by decide) fl_Mod_11 dMod_puts_32 (by assumption) (by rfl) ?_
        refine z_aload_n dMod_puts_35 rfl ?_
        refine z_get (k := 3) fd_Mod (by decide) fl_Mod_21 dMod_puts_36 (by assumption) (by rfl) ?_
        refine z_iload_n dMod_puts_39 rfl ?_
        refine z_iald dMod_puts_40 (by assumption) (by refine ⟨?_, ?_, ?_⟩ <;> omega) ?_
        rw [Int.toNat_natCast]
        rw [e3, ek]
        refine z_aald (t := 4) (ty := .array .int) rfl rfl dMod_puts_41 n3 (by refine ⟨?_, ?_, ?_⟩ <;> omega) ?_
        rw [show (kk : Int).toNat = kk from rfl, n3a kk (by omega)]
        refine z_alenI dMod_puts_42 (by assumption) ?_
        refine z_bipush dMod_puts_43 rfl ?_
        refine z_icmp_ne (tgt := 53) dMod_puts_45 (by decide) (by omega) (by omega) (fun c45 => ?_) (fun c45 => ?_)
        · refine z_aload_n dMod_puts_53 rfl ?_
          refine z_aload_n dMod_puts_54 rfl ?_
          refine z_get (k := 3) fd_Mod (by decide) fl_Mod_21 dMod_puts_55 (by assumption) (by rfl) ?_
          refine z_iload_n dMod_puts_58 rfl ?_
          refine z_iald dMod_puts_59 (by assumption) (by refine ⟨?_, ?_, ?_⟩ <;> omega) ?_
          rw [Int.toNat_natCast]
          rw [e3, ek]
          refine z_aload_n dMod_puts_60 rfl ?_
          refine z_get (k := 0) fd_Mod (by decide) fl_Mod_11 dMod_puts_61 (by assumption) (by rfl) ?_
          refine z_aload_n dMod_puts_64 rfl ?_
          refine z_get (k := 3) fd_Mod (by decide) fl_Mod_21 dMod_puts_65 (by assumption) (by rfl) ?_
          refine z_iload_n dMod_puts_68 rfl ?_
          refine z_iald dMod_puts_69 (by assumption) (by refine ⟨?_, ?_, ?_⟩ <;> omega) ?_
          rw [Int.toNat_natCast]
          rw [e3, ek]
          refine z_aald (t := 4) (ty := .array .int) rfl rfl dMod_puts_70 n3 (by refine ⟨?_, ?_, ?_⟩ <;> omega) ?_
          rw [show (kk : Int).toNat = kk from rfl, n3a kk (by omega)]
          refine z_aload_n dMod_puts_71 rfl ?_
          refine z_get (k := 4) fd_Mod (by decide) fl_Mod_25 dMod_puts_72 (by assumption) (by rfl) ?_
          refine z_iload_n dMod_puts_75 rfl ?_
          refine z_iald dMod_puts_76 (by assumption) (by refine ⟨?_, ?_, ?_⟩ <;> omega) ?_
          rw [Int.toNat_natCast]
          rw [e4]
          refine z_iload_n dMod_puts_77 rfl ?_
          refine z_callS (bc' := 0) (bs' := 0) MS_Mod_with lk_Mod_49 dMod_puts_78 (k_Mod_with (n6 kk hkk) (by omega) (by omega) (by omega)) rfl rfl (Nat.le_of_ble_eq_true rfl)  (Nat.le_of_ble_eq_true rfl) (Nat.le_of_ble_eq_true rfl) (by decide) (by decide) (fun _ _ q => q.elim) ?_
          rintro _ h2 ⟨q2, rfl, hq2, gq2, r2, F2⟩
          have H2 : zMod G h2 ma S t9 := H1.keep hq2 F2
          have fz2 : zMfr ma h h2 := fz1.tr (zMfr.new hq2 F2)
          have dq2 : zDm h q2 := hq2.up H1 fz1
          have oc2 := H2.2.1
          have hzl := zIns_len (S.1 kk) (S.2.1 c 3) x
          refine z_iload_n dMod_puts_81 rfl ?_
          refine z_callV MV_Mod_become lk_Mod_77 dMod_puts_82 (k_Mod_become H2 hkk r2 (fun i hi _ => H1.nq hq2 hi) (by omega)) rfl rfl (Nat.le_of_ble_eq_true rfl) rfl (by assumption) (Nat.le_of_ble_eq_true rfl) (Nat.le_of_ble_eq_true rfl) (Nat.le_of_eq (Nat.zero_add _)) (Nat.le_of_eq (Nat.zero_add _)) (fun _ _ q => q.elim) ?_
          rintro _ h3 ⟨rfl, H3, F3⟩
          have fz3 : zMfr ma h h3 := fz2.tr (zMfr.bec F3)
          obtain ⟨mb, hmb⟩ : ∃ mb, zup ma (8 + kk) q2 = mb := ⟨_, rfl⟩
          rw [hmb] at H3
          have eb : ∀ i, i < 8 → mb i = ma i := fun i hi => by rw [← hmb]; exact zup_ne (by omega)
          obtain ⟨-, w2, -, w4, -⟩ := id H3
          unfold zMfs at w2
          rw [eb 0 (by omega)] at w2
          obtain ⟨⟨v1, a1, b1⟩, ⟨v2, a2, b2⟩, ⟨v3, a3, b3⟩, ⟨v4, a4, b4⟩, ⟨v5, a5, b5⟩⟩ := id w4
          have sc : ∀ f : Nat, (zsStale (zsL S kk (zIns (S.1 kk) (S.2.1 c 3) x)) (kk : Int) c).2.1 c f = S.2.1 c f := fun f => zstc (zsL S kk (zIns (S.1 kk) (S.2.1 c 3) x)) (kk : Int) c f
          have hth' := (sc 0).trans hth
          have x1 := (b1 c (by omega)).1.trans (sc 0)
          have x2 := ((b2 c (by omega)).2 hth').trans (sc 1)
          have x2b := (b2 c (by omega)).1
          have x3 := ((b3 c (by omega)).2 hth').trans ((sc 2).trans ek)
          have x4 := ((b4 c (by omega)).2 hth').trans (sc 3)
          have x5 := ((b5 c (by omega)).2 hth').trans (sc 4)
          refine z_aload_n dMod_puts_85 rfl ?_
          refine z_get (k := 4) fd_Mod (by decide) fl_Mod_25 dMod_puts_86 (by assumption) (by rfl) ?_
          refine z_iload_n dMod_puts_89 rfl ?_
          refine z_dup2 rfl rfl dMod_puts_90 ?_
          refine z_iald dMod_puts_91 (by assumption) (by refine ⟨?_, ?_, ?_⟩ <;> omega) ?_
          rw [Int.toNat_natCast]
          rw [x4]
          refine z_iconst dMod_puts_92 ?_
          refine z_iadd dMod_puts_93 ?_
          refine z_iast dMod_puts_94 (by assumption) (by refine ⟨?_, ?_, ?_⟩ <;> omega) ?_
          refine z_hx (fun h4 p4 g4 => ?_)
          rw [Int.toNat_natCast] at p4
          have w2 := (g4 (ma 0) (by rw [← eb 0 (by omega)]; exact H3.inj (by omega) (by omega) (by omega))).trans w2
          have a1 := (g4 (mb 2) (H3.inj (i := 2) (j := 5) (by omega) (by omega) (by omega))).trans a1
          have a2 := (g4 (mb 3) (H3.inj (i := 3) (j := 5) (by omega) (by omega) (by omega))).trans a2
          have a3 := (g4 (mb 4) (H3.inj (i := 4) (j := 5) (by omega) (by omega) (by omega))).trans a3
          have a4 := p4
          have a5 := (g4 (mb 6) (H3.inj (i := 6) (j := 5) (by omega) (by omega) (by omega))).trans a5
          refine z_aload_n dMod_puts_95 rfl ?_
          refine z_get (k := 5) fd_Mod (by decide) fl_Mod_28 dMod_puts_96 (by assumption) (by rfl) ?_
          refine z_iload_n dMod_puts_99 rfl ?_
          refine z_iconst dMod_puts_100 ?_
          refine z_iast dMod_puts_101 (by assumption) (by refine ⟨?_, ?_, ?_⟩ <;> omega) ?_
          refine z_hx (fun h5 p5 g5 => ?_)
          rw [Int.toNat_natCast] at p5
          have w2 := (g5 (ma 0) (by rw [← eb 0 (by omega)]; exact H3.inj (by omega) (by omega) (by omega))).trans w2
          have a1 := (g5 (mb 2) (H3.inj (i := 2) (j := 6) (by omega) (by omega) (by omega))).trans a1
          have a2 := (g5 (mb 3) (H3.inj (i := 3) (j := 6) (by omega) (by omega) (by omega))).trans a2
          have a3 := (g5 (mb 4) (H3.inj (i := 4) (j := 6) (by omega) (by omega) (by omega))).trans a3
          have a4 := (g5 (mb 5) (H3.inj (i := 5) (j := 6) (by omega) (by omega) (by omega))).trans a4
          have a5 := p5
          refine z_aload_n dMod_puts_102 rfl ?_
          refine z_get (k := 4) fd_Mod (by decide) fl_Mod_25 dMod_puts_103 (by assumption) (by rfl) ?_
          refine z_iload_n dMod_puts_106 rfl ?_
          refine z_iald dMod_puts_107 (by assumption) (by refine ⟨?_, ?_, ?_⟩ <;> omega) ?_
          rw [Int.toNat_natCast]
          rw [zup_same]
          have F9 : ∀ z, (∀ i, 2 ≤ i → i ≤ 6 → z ≠ mb i) → h5 z = h3 z := fun z hz => (g5 z (hz 6 (by omega) (by omega))).trans (g4 z (hz 5 (by omega) (by omega)))
          have hmc : zMcu G h5 mb (zup (zsStale (zsL S kk (zIns (S.1 kk) (S.2.1 c 3) x)) kk c).2.1 c (zCv (S.2.1 c 0) (S.2.1 c 1) (kk : Int) (S.2.1 c 3 + 1) (-1))) := zMcu.up b1 b2 b3 b4 b5 a1 a2 a3 a4 a5 zid_u zid_u zid_u zup_u zup_u ⟨x1, b1c.2⟩ ⟨x2b, fun _ => x2⟩ ⟨by omega, fun _ => x3⟩ (zup_w (by omega) rfl) (zup_w (by omega) rfl)
          have H9 := H3.cusF hmc F9
          rw [zsSt_cur] at H9
          have fz9 : zMfr ma h h5 := fz3.tr (fun q e he hq => (F9 q (fun i i2 i6 => by rw [eb i (by omega)]; exact hq i (by omega))).trans he)
          subst hmb
          refine z_iret rfl rfl dMod_puts_108 ?_
          rcases (show t9 = 0 ∨ t9 = 1 ∨ t9 = 2 ∨ t9 = 3 by omega) with t0 | t0 | t0 | t0
          all_goals first
            | (exfalso; omega)
            | exact zQm.okB H9 (Or.inr ⟨dq2, gq2⟩) (by omega) (by assumption) (by unfold sp_puts; (try unfold spPut); (try simp only [Int.toNat_natCast]); (try simp only [ek, Int.toNat_natCast]); (repeat (first | rw [if_pos (by omega)] | rw [if_neg (by omega)] | rw [if_pos (by assumption)] | rw [if_neg (by assumption)] | rw [if_pos (True.intro : True)])); (try (first | rfl | (congr 2; omega) | (congr 1; congr 1; omega))); done)
            | exact zQm.ok H2 (by omega) (by assumption) (by unfold sp_puts; (try unfold spPut); (try simp only [Int.toNat_natCast]); (try simp only [ek, Int.toNat_natCast]); (repeat (first | rw [if_pos (by omega)] | rw [if_neg (by omega)] | rw [if_pos (by assumption)] | rw [if_neg (by assumption)] | rw [if_pos (True.intro : True)])); (try (first | rfl | (congr 2; omega) | (congr 1; congr 1; omega))); done)
            | exact zQm.b1 H2 (by omega) (by assumption) (by unfold sp_puts; (try unfold spPut); (try simp only [Int.toNat_natCast]); (try simp only [ek, Int.toNat_natCast]); (repeat (first | rw [if_pos (by omega)] | rw [if_neg (by omega)] | rw [if_pos (by assumption)] | rw [if_neg (by assumption)] | rw [if_pos (True.intro : True)])); (try (first | rfl | (congr 2; omega) | (congr 1; congr 1; omega))); done)
            | exact zQm.b2 H2 (by omega) (by assumption) (by unfold sp_puts; (try unfold spPut); (try simp only [Int.toNat_natCast]); (try simp only [ek, Int.toNat_natCast]); (repeat (first | rw [if_pos (by omega)] | rw [if_neg (by omega)] | rw [if_pos (by assumption)] | rw [if_neg (by assumption)] | rw [if_pos (True.intro : True)])); (try (first | rfl | (congr 2; omega) | (congr 1; congr 1; omega))); done)
            | exact zQm.b3 H2 (by omega) (by assumption) (by unfold sp_puts; (try unfold spPut); (try simp only [Int.toNat_natCast]); (try simp only [ek, Int.toNat_natCast]); (repeat (first | rw [if_pos (by omega)] | rw [if_neg (by omega)] | rw [if_pos (by assumption)] | rw [if_neg (by assumption)] | rw [if_pos (True.intro : True)])); (try (first | rfl | (congr 2; omega) | (congr 1; congr 1; omega))); done)
            | exact zQm.ok H1 (by omega) (by assumption) (by unfold sp_puts; (try unfold spPut); (try simp only [Int.toNat_natCast]); (try simp only [ek, Int.toNat_natCast]); (repeat (first | rw [if_pos (by omega)] | rw [if_neg (by omega)] | rw [if_pos (by assumption)] | rw [if_neg (by assumption)] | rw [if_pos (True.intro : True)])); (try (first | rfl | (congr 2; omega) | (congr 1; congr 1; omega))); done)
            | exact zQm.b1 H1 (by omega) (by assumption) (by unfold sp_puts; (try unfold spPut); (try simp only [Int.toNat_natCast]); (try simp only [ek, Int.toNat_natCast]); (repeat (first | rw [if_pos (by omega)] | rw [if_neg (by omega)] | rw [if_pos (by assumption)] | rw [if_neg (by assumption)] | rw [if_pos (True.intro : True)])); (try (first | rfl | (congr 2; omega) | (congr 1; congr 1; omega))); done)
            | exact zQm.b2 H1 (by omega) (by assumption) (by unfold sp_puts; (try unfold spPut); (try simp only [Int.toNat_natCast]); (try simp only [ek, Int.toNat_natCast]); (repeat (first | rw [if_pos (by omega)] | rw [if_neg (by omega)] | rw [if_pos (by assumption)] | rw [if_neg (by assumption)] | rw [if_pos (True.intro : True)])); (try (first | rfl | (congr 2; omega) | (congr 1; congr 1; omega))); done)
            | exact zQm.b3 H1 (by omega) (by assumption) (by unfold sp_puts; (try unfold spPut); (try simp only [Int.toNat_natCast]); (try simp only [ek, Int.toNat_natCast]); (repeat (first | rw [if_pos (by omega)] | rw [if_neg (by omega)] | rw [if_pos (by assumption)] | rw [if_neg (by assumption)] | rw [if_pos (True.intro : True)])); (try (first | rfl | (congr 2; omega) | (congr 1; congr 1; omega))); done)
        · refine z_aload_n dMod_puts_48 rfl ?_
          refine z_callV MV_Mod_refused lk_Mod_92 dMod_puts_49 (k_Mod_refused n2 rfl rfl) rfl rfl (Nat.le_of_ble_eq_true rfl) rfl (by assumption) (Nat.le_of_ble_eq_true rfl) (Nat.le_of_ble_eq_true rfl) (Nat.le_of_eq (Nat.zero_add _)) (Nat.le_of_eq (Nat.zero_add _)) (fun _ _ q => q.elim) ?_
          rintro _ h2 ⟨rfl, p2, g2⟩
          have H2 : zMod G h2 ma (zsRef S) t9 := H1.obj (nu := zup S.2.2.2.2 1 (S.2.2.2.2 1 + 1)) p2 g2
          have fz2 : zMfr ma h h2 := zMfr.of0 (fun q hq => (g2 q hq).trans (g1 q hq))
          refine z_iret rfl rfl dMod_puts_52 ?_
          rcases (show t9 = 0 ∨ t9 = 1 ∨ t9 = 2 ∨ t9 = 3 by omega) with t0 | t0 | t0 | t0
          all_goals first
            | (exfalso; omega)
            | exact zQm.okB H9 (Or.inr ⟨dq2, gq2⟩) (by omega) (by assumption) (by unfold sp_puts; (try unfold spPut); (try simp only [Int.toNat_natCast]); (try simp only [ek, Int.toNat_natCast]); (repeat (first | rw [if_pos (by omega)] | rw [if_neg (by omega)] | rw [if_pos (by assumption)] | rw [if_neg (by assumption)] | rw [if_pos (True.intro : True)])); (try (first | rfl | (congr 2; omega) | (congr 1; congr 1; omega))); done)
            | exact zQm.ok H2 (by omega) (by assumption) (by unfold sp_puts; (try unfold spPut); (try simp only [Int.toNat_natCast]); (try simp only [ek, Int.toNat_natCast]); (repeat (first | rw [if_pos (by omega)] | rw [if_neg (by omega)] | rw [if_pos (by assumption)] | rw [if_neg (by assumption)] | rw [if_pos (True.intro : True)])); (try (first | rfl | (congr 2; omega) | (congr 1; congr 1; omega))); done)
            | exact zQm.b1 H2 (by omega) (by assumption) (by unfold sp_puts; (try unfold spPut); (try simp only [Int.toNat_natCast]); (try simp only [ek, Int.toNat_natCast]); (repeat (first | rw [if_pos (by omega)] | rw [if_neg (by omega)] | rw [if_pos (by assumption)] | rw [if_neg (by assumption)] | rw [if_pos (True.intro : True)])); (try (first | rfl | (congr 2; omega) | (congr 1; congr 1; omega))); done)
            | exact zQm.b2 H2 (by omega) (by assumption) (by unfold sp_puts; (try unfold spPut); (try simp only [Int.toNat_natCast]); (try simp only [ek, Int.toNat_natCast]); (repeat (first | rw [if_pos (by omega)] | rw [if_neg (by omega)] | rw [if_pos (by assumption)] | rw [if_neg (by assumption)] | rw [if_pos (True.intro : True)])); (try (first | rfl | (congr 2; omega) | (congr 1; congr 1; omega))); done)
            | exact zQm.b3 H2 (by omega) (by assumption) (by unfold sp_puts; (try unfold spPut); (try simp only [Int.toNat_natCast]); (try simp only [ek, Int.toNat_natCast]); (repeat (first | rw [if_pos (by omega)] | rw [if_neg (by omega)] | rw [if_pos (by assumption)] | rw [if_neg (by assumption)] | rw [if_pos (True.intro : True)])); (try (first | rfl | (congr 2; omega) | (congr 1; congr 1; omega))); done)
            | exact zQm.ok H1 (by omega) (by assumption) (by unfold sp_puts; (try unfold spPut); (try simp only [Int.toNat_natCast]); (try simp only [ek, Int.toNat_natCast]); (repeat (first | rw [if_pos (by omega)] | rw [if_neg (by omega)] | rw [if_pos (by assumption)] | rw [if_neg (by assumption)] | rw [if_pos (True.intro : True)])); (try (first | rfl | (congr 2; omega) | (congr 1; congr 1; omega))); done)
            | exact zQm.b1 H1 (by omega) (by assumption) (by unfold sp_puts; (try unfold spPut); (try simp only [Int.toNat_natCast]); (try simp only [ek, Int.toNat_natCast]); (repeat (first | rw [if_pos (by omega)] | rw [if_neg (by omega)] | rw [if_pos (by assumption)] | rw [if_neg (by assumption)] | rw [if_pos (True.intro : True)])); (try (first | rfl | (congr 2; omega) | (congr 1; congr 1; omega))); done)
            | exact zQm.b2 H1 (by omega) (by assumption) (by unfold sp_puts; (try unfold spPut); (try simp only [Int.toNat_natCast]); (try simp only [ek, Int.toNat_natCast]); (repeat (first | rw [if_pos (by omega)] | rw [if_neg (by omega)] | rw [if_pos (by assumption)] | rw [if_neg (by assumption)] | rw [if_pos (True.intro : True)])); (try (first | rfl | (congr 2; omega) | (congr 1; congr 1; omega))); done)
            | exact zQm.b3 H1 (by omega) (by assumption) (by unfold sp_puts; (try unfold spPut); (try simp only [Int.toNat_natCast]); (try simp only [ek, Int.toNat_natCast]); (repeat (first | rw [if_pos (by omega)] | rw [if_neg (by omega)] | rw [if_pos (by assumption)] | rw [if_neg (by assumption)] | rw [if_pos (True.intro : True)])); (try (first | rfl | (congr 2; omega) | (congr 1; congr 1; omega))); done)
    · refine z_iconst dMod_puts_20 ?_
      refine z_iret rfl rfl dMod_puts_21 ?_
      rcases (show t9 = 0 ∨ t9 = 1 ∨ t9 = 2 ∨ t9 = 3 by omega) with t0 | t0 | t0 | t0
      all_goals first
        | (exfalso; omega)
        | exact zQm.okB H9 (Or.inr ⟨dq2, gq2⟩) (by omega) (by assumption) (by unfold sp_puts; (try unfold spPut); (try simp only [Int.toNat_natCast]); (try simp only [ek, Int.toNat_natCast]); (repeat (first | rw [if_pos (by omega)] | rw [if_neg (by omega)] | rw [if_pos (by assumption)] | rw [if_neg (by assumption)] | rw [if_pos (True.intro : True)])); (try (first | rfl | (congr 2; omega) | (congr 1; congr 1; omega))); done)
        | exact zQm.ok H2 (by omega) (by assumption) (by unfold sp_puts; (try unfold spPut); (try simp only [Int.toNat_natCast]); (try simp only [ek, Int.toNat_natCast]); (repeat (first | rw [if_pos (by omega)] | rw [if_neg (by omega)] | rw [if_pos (by assumption)] | rw [if_neg (by assumption)] | rw [if_pos (True.intro : True)])); (try (first | rfl | (congr 2; omega) | (congr 1; congr 1; omega))); done)
        | exact zQm.b1 H2 (by omega) (by assumption) (by unfold sp_puts; (try unfold spPut); (try simp only [Int.toNat_natCast]); (try simp only [ek, Int.toNat_natCast]); (repeat (first | rw [if_pos (by omega)] | rw [if_neg (by omega)] | rw [if_pos (by assumption)] | rw [if_neg (by assumption)] | rw [if_pos (True.intro : True)])); (try (first | rfl | (congr 2; omega) | (congr 1; congr 1; omega))); done)
        | exact zQm.b2 H2 (by omega) (by assumption) (by unfold sp_puts; (try unfold spPut); (try simp only [Int.toNat_natCast]); (try simp only [ek, Int.toNat_natCast]); (repeat (first | rw [if_pos (by omega)] | rw [if_neg (by omega)] | rw [if_pos (by assumption)] | rw [if_neg (by assumption)] | rw [if_pos (True.intro : True)])); (try (first | rfl | (congr 2; omega) | (congr 1; congr 1; omega))); done)
        | exact zQm.b3 H2 (by omega) (by assumption) (by unfold sp_puts; (try unfold spPut); (try simp only [Int.toNat_natCast]); (try simp only [ek, Int.toNat_natCast]); (repeat (first | rw [if_pos (by omega)] | rw [if_neg (by omega)] | rw [if_pos (by assumption)] | rw [if_neg (by assumption)] | rw [if_pos (True.intro : True)])); (try (first | rfl | (congr 2; omega) | (congr 1; congr 1; omega))); done)
        | exact zQm.ok H1 (by omega) (by assumption) (by unfold sp_puts; (try unfold spPut); (try simp only [Int.toNat_natCast]); (try simp only [ek, Int.toNat_natCast]); (repeat (first | rw [if_pos (by omega)] | rw [if_neg (by omega)] | rw [if_pos (by assumption)] | rw [if_neg (by assumption)] | rw [if_pos (True.intro : True)])); (try (first | rfl | (congr 2; omega) | (congr 1; congr 1; omega))); done)
        | exact zQm.b1 H1 (by omega) (by assumption) (by unfold sp_puts; (try unfold spPut); (try simp only [Int.toNat_natCast]); (try simp only [ek, Int.toNat_natCast]); (repeat (first | rw [if_pos (by omega)] | rw [if_neg (by omega)] | rw [if_pos (by assumption)] | rw [if_neg (by assumption)] | rw [if_pos (True.intro : True)])); (try (first | rfl | (congr 2; omega) | (congr 1; congr 1; omega))); done)
        | exact zQm.b2 H1 (by omega) (by assumption) (by unfold sp_puts; (try unfold spPut); (try simp only [Int.toNat_natCast]); (try simp only [ek, Int.toNat_natCast]); (repeat (first | rw [if_pos (by omega)] | rw [if_neg (by omega)] | rw [if_pos (by assumption)] | rw [if_neg (by assumption)] | rw [if_pos (True.intro : True)])); (try (first | rfl | (congr 2; omega) | (congr 1; congr 1; omega))); done)
        | exact zQm.b3 H1 (by omega) (by assumption) (by unfold sp_puts; (try unfold spPut); (try simp only [Int.toNat_natCast]); (try simp only [ek, Int.toNat_natCast]); (repeat (first | rw [if_pos (by omega)] | rw [if_neg (by omega)] | rw [if_pos (by assumption)] | rw [if_neg (by assumption)] | rw [if_pos (True.intro : True)])); (try (first | rfl | (congr 2; omega) | (congr 1; congr 1; omega))); done)
theorem k_Mod_cuts {p : Int} (H : zMod G h ma S th) (z_p : zI32 p) (hO : zOk S) (h16 : ∀ k, k < 4 → (S.1 k).length ≤ 16) : zM G l hMod_cuts yMod_cuts 4 [.ref (ma 0), zi p] h (zQm G ma h (1) (9) (2) (sp_cuts S p)) zNo 1 60 := by
  obtain ⟨m1, m2, ⟨g, m3, m3a⟩, m4, ⟨f6, m5, m5a⟩, m6, m7⟩ := id H
  unfold zMfs at m2
  refine zM.of [some (.ref (ma 0)), some (zi p)] (by decide +kernel) rfl (by decide) rfl (Nat.le_of_ble_eq_true rfl) rfl ?_
  refine z_aload_n dMod_cuts_0 rfl ?_
  refine z_iload_n dMod_cuts_1 rfl ?_
  refine z_callS MS_Mod_isNoCursor lk_Mod_141 dMod_cuts_2 (k_Mod_isNoCursor (by omega)) rfl rfl (Nat.le_of_ble_eq_true rfl)  (Nat.le_of_ble_eq_true rfl) (Nat.le_of_ble_eq_true rfl) (Nat.le_of_eq (Nat.zero_add _)) (Nat.le_of_eq (Nat.zero_add _)) (fun _ _ q => q.elim) ?_
  rintro _ _ ⟨n9c, rfl, (⟨rfl, hn9c⟩ | ⟨rfl, hn9c⟩), rfl⟩
  · refine z_aload_n dMod_cuts_5 rfl ?_
    refine z_iload_n dMod_cuts_6 rfl ?_
    refine z_callV MV_Mod_isNotThere lk_Mod_144 dMod_cuts_7 (k_Mod_isNotThere H (by omega)) rfl rfl (Nat.le_of_ble_eq_true rfl) rfl (by assumption) (Nat.le_of_ble_eq_true rfl) (Nat.le_of_ble_eq_true rfl) (Nat.le_of_eq (Nat.zero_add _)) (Nat.le_of_eq (Nat.zero_add _)) (fun _ _ q => q.elim) ?_
    rintro _ _ ⟨t8, rfl, ht8, rfl⟩
    try simp only [Int.toNat_natCast] at ht8
    refine z_iconst dMod_cuts_10 ?_
    refine z_callV MV_Mod_fails lk_Mod_88 dMod_cuts_11 (k_Mod_fails (by assumption) rfl (by omega) (by omega) (by omega)) rfl rfl (Nat.le_of_ble_eq_true rfl) rfl (by assumption) (Nat.le_of_ble_eq_true rfl) (Nat.le_of_ble_eq_true rfl) (Nat.le_of_eq (Nat.zero_add _)) (Nat.le_of_eq (Nat.zero_add _)) (fun _ _ q => q.elim) ?_
    rintro _ h1 ⟨t9, b8, rfl, ht, p1, g1⟩
    have H1 : zMod G h1 ma S t9 := H.obj (nu := S.2.2.2.2) (th' := t9) p1 g1
    have fz1 : zMfr ma h h1 := zMfr.of0 g1
    obtain ⟨-, n2, ⟨gg, n3, n3a⟩, n4, ⟨f61, n5, n5a⟩, n6, n7⟩ := id H1
    unfold zMfs at n2
    refine z_if_eq (tgt := 19) dMod_cuts_14 (by decide) (by omega) (fun c14 => ?_) (fun c14 => ?_)
    · exfalso; omega
    · refine z_iconst dMod_cuts_17 ?_
      refine z_iret rfl rfl dMod_cuts_18 ?_
      rcases (show t9 = 0 ∨ t9 = 1 ∨ t9 = 2 ∨ t9 = 3 by omega) with t0 | t0 | t0 | t0
      all_goals first
        | (exfalso; omega)
        | exact zQm.ok H1 (by omega) (by assumption) (by unfold sp_cuts; (try unfold spPut); (try simp only [Int.toNat_natCast]); (try simp only [ek, Int.toNat_natCast]); (repeat (first | rw [if_pos (by omega)] | rw [if_neg (by omega)] | rw [if_pos (by assumption)] | rw [if_neg (by assumption)] | rw [if_pos (True.intro : True)])); (try (first | rfl | (congr 2; omega) | (congr 1; congr 1; omega))); done)
        | exact zQm.b1 H1 (by omega) (by assumption) (by unfold sp_cuts; (try unfold spPut); (try simp only [Int.toNat_natCast]); (try simp only [ek, Int.toNat_natCast]); (repeat (first | rw [if_pos (by omega)] | rw [if_neg (by omega)] | rw [if_pos (by assumption)] | rw [if_neg (by assumption)] | rw [if_pos (True.intro : True)])); (try (first | rfl | (congr 2; omega) | (congr 1; congr 1; omega))); done)
        | exact zQm.b2 H1 (by omega) (by assumption) (by unfold sp_cuts; (try unfold spPut); (try simp only [Int.toNat_natCast]); (try simp only [ek, Int.toNat_natCast]); (repeat (first | rw [if_pos (by omega)] | rw [if_neg (by omega)] | rw [if_pos (by assumption)] | rw [if_neg (by assumption)] | rw [if_pos (True.intro : True)])); (try (first | rfl | (congr 2; omega) | (congr 1; congr 1; omega))); done)
        | exact zQm.b3 H1 (by omega) (by assumption) (by unfold sp_cuts; (try unfold spPut); (try simp only [Int.toNat_natCast]); (try simp only [ek, Int.toNat_natCast]); (repeat (first | rw [if_pos (by omega)] | rw [if_neg (by omega)] | rw [if_pos (by assumption)] | rw [if_neg (by assumption)] | rw [if_pos (True.intro : True)])); (try (first | rfl | (congr 2; omega) | (congr 1; congr 1; omega))); done)
        | exact zQm.ok H2 (by omega) (by assumption) (by unfold sp_cuts; (try unfold spPut); (try simp only [Int.toNat_natCast]); (try simp only [ek, Int.toNat_natCast]); (repeat (first | rw [if_pos (by omega)] | rw [if_neg (by omega)] | rw [if_pos (by assumption)] | rw [if_neg (by assumption)] | rw [if_pos (True.intro : True)])); (try (first | rfl | (congr 2; omega) | (congr 1; congr 1; omega))); done)
        | exact zQm.b1 H2 (by omega) (by assumption) (by unfold sp_cuts; (try unfold spPut); (try simp only [Int.toNat_natCast]); (try simp only [ek, Int.toNat_natCast]); (repeat (first | rw [if_pos (by omega)] | rw [if_neg (by omega)] | rw [if_pos (by assumption)] | rw [if_neg (by assumption)] | rw [if_pos (True.intro : True)])); (try (first | rfl | (congr 2; omega) | (congr 1; congr 1; omega))); done)
        | exact zQm.b2 H2 (by omega) (by assumption) (by unfold sp_cuts; (try unfold spPut); (try simp only [Int.toNat_natCast]); (try simp only [ek, Int.toNat_natCast]); (repeat (first | rw [if_pos (by omega)] | rw [if_neg (by omega)] | rw [if_pos (by assumption)] | rw [if_neg (by assumption)] | rw [if_pos (True.intro : True)])); (try (first | rfl | (congr 2; omega) | (congr 1; congr 1; omega))); done)
        | exact zQm.b3 H2 (by omega) (by assumption) (by unfold sp_cuts; (try unfold spPut); (try simp only [Int.toNat_natCast]); (try simp only [ek, Int.toNat_natCast]); (repeat (first | rw [if_pos (by omega)] | rw [if_neg (by omega)] | rw [if_pos (by assumption)] | rw [if_neg (by assumption)] | rw [if_pos (True.intro : True)])); (try (first | rfl | (congr 2; omega) | (congr 1; congr 1; omega))); done)
  · obtain ⟨c, rfl⟩ := Int.eq_ofNat_of_zero_le (show 0 ≤ p by omega)
    have hc : c < 3 := by omega
    refine z_aload_n dMod_cuts_5 rfl ?_
    refine z_iload_n dMod_cuts_6 rfl ?_
    refine z_callV MV_Mod_isNotThere lk_Mod_144 dMod_cuts_7 (k_Mod_isNotThere H (by omega)) rfl rfl (Nat.le_of_ble_eq_true rfl) rfl (by assumption) (Nat.le_of_ble_eq_true rfl) (Nat.le_of_ble_eq_true rfl) (Nat.le_of_eq (Nat.zero_add _)) (Nat.le_of_eq (Nat.zero_add _)) (fun _ _ q => q.elim) ?_
    rintro _ _ ⟨t8, rfl, ht8, rfl⟩
    try simp only [Int.toNat_natCast] at ht8
    refine z_iconst dMod_cuts_10 ?_
    refine z_callV MV_Mod_fails lk_Mod_88 dMod_cuts_11 (k_Mod_fails (by assumption) rfl (by omega) (by omega) (by omega)) rfl rfl (Nat.le_of_ble_eq_true rfl) rfl (by assumption) (Nat.le_of_ble_eq_true rfl) (Nat.le_of_ble_eq_true rfl) (Nat.le_of_eq (Nat.zero_add _)) (Nat.le_of_eq (Nat.zero_add _)) (fun _ _ q => q.elim) ?_
    rintro _ h1 ⟨t9, b8, rfl, ht, p1, g1⟩
    have H1 : zMod G h1 ma S t9 := H.obj (nu := S.2.2.2.2) (th' := t9) p1 g1
    have fz1 : zMfr ma h h1 := zMfr.of0 g1
    obtain ⟨-, n2, ⟨gg, n3, n3a⟩, n4, ⟨f61, n5, n5a⟩, n6, n7⟩ := id H1
    unfold zMfs at n2
    refine z_if_eq (tgt := 19) dMod_cuts_14 (by decide) (by omega) (fun c14 => ?_) (fun c14 => ?_)
    · obtain ⟨⟨v1, a1, b1⟩, ⟨v2, a2, b2⟩, ⟨v3, a3, b3⟩, ⟨v4, a4, b4⟩, ⟨v5, a5, b5⟩⟩ := id n4
      have hth : S.2.1 c 0 = 1 := by omega
      have b1c := b1 c (by omega)
      have b2c := b2 c (by omega)
      have b3c := b3 c (by omega)
      have b4c := b4 c (by omega)
      have b5c := b5 c (by omega)
      have e2 := b2c.2 hth
      have e3 := b3c.2 hth
      have e4 := b4c.2 hth
      have e5 := b5c.2 hth
      have ok9 := hO.1 c (by omega) hth
      obtain ⟨kk, ek⟩ := Int.eq_ofNat_of_zero_le ok9.1.1
      have hkk : kk < 4 := by omega
      have ok8 := ok9.2.2.2
      rw [ek, Int.toNat_natCast] at ok8
      have h16k := h16 kk hkk
      obtain ⟨frkk, rkk1, rkk2, rkk3, rkk4⟩ := id (n6 kk hkk)
      refine z_aload_n dMod_cuts_19 rfl ?_
      refine z_get (k := 2) fd_Mod (by decide) fl_Mod_18 dMod_cuts_20 (by assumption) (by rfl) ?_
      refine z_iload_n dMod_cuts_23 rfl ?_
      refine z_zald dMod_cuts_24 (by assumption) (by refine ⟨?_, ?_, ?_⟩ <;> omega) ?_
      rw [Int.toNat_natCast]
      rw [e2]
      refine z_if_ne (tgt := 38) dMod_cuts_25 (by decide) (by omega) (fun c25 => ?_) (fun c25 => ?_)
      · refine z_aload_n dMod_cuts_38 rfl ?_
        refine z_callV MV_Mod_refused lk_Mod_92 dMod_cuts_39 (k_Mod_refused n2 rfl rfl) rfl rfl (Nat.le_of_ble_eq_true rfl) rfl (by assumption) (Nat.le_of_ble_eq_true rfl) (Nat.le_of_ble_eq_true rfl) (Nat.le_of_eq (Nat.zero_add _)) (Nat.le_of_eq (Nat.zero_add _)) (fun _ _ q => q.elim) ?_
        rintro _ h2 ⟨rfl, p2, g2⟩
        have H2 : zMod G h2 ma (zsRef S) t9 := H1.obj (nu := zup S.2.2.2.2 1 (S.2.2.2.2 1 + 1)) p2 g2
        have fz2 : zMfr ma h h2 := zMfr.of0 (fun q hq => (g2 q hq).trans (g1 q hq))
        refine z_iret rfl rfl dMod_cuts_42 ?_
        rcases (show t9 = 0 ∨ t9 = 1 ∨ t9 = 2 ∨ t9 = 3 by omega) with t0 | t0 | t0 | t0
        all_goals first
          | (exfalso; omega)
          | exact zQm.ok H1 (by omega) (by assumption) (by unfold sp_cuts; (try unfold spPut); (try simp only [Int.toNat_natCast]); (try simp only [ek, Int.toNat_natCast]); (repeat (first | rw [if_pos (by omega)] | rw [if_neg (by omega)] | rw [if_pos (by assumption)] | rw [if_neg (by assumption)] | rw [if_pos (True.intro : True)])); (try (first | rfl | (congr 2; omega) | (congr 1; congr 1; omega))); done)
          | exact zQm.b1 H1 (by omega) (by assumption) (by unfold sp_cuts; (try unfold spPut); (try simp only [Int.toNat_natCast]); (try simp only [ek, Int.toNat_natCast]); (repeat (first | rw [if_pos (by omega)] | rw [if_neg (by omega)] | rw [if_pos (by assumption)] | rw [if_neg (by assumption)] | rw [if_pos (True.intro : True)])); (try (first | rfl | (congr 2; omega) | (congr 1; congr 1; omega))); done)
          | exact zQm.b2 H1 (by omega) (by assumption) (by unfold sp_cuts; (try unfold spPut); (try simp only [Int.toNat_natCast]); (try simp only [ek, Int.toNat_natCast]); (repeat (first | rw [if_pos (by omega)] | rw [if_neg (by omega)] | rw [if_pos (by assumption)] | rw [if_neg (by assumption)] | rw [if_pos (True.intro : True)])); (try (first | rfl | (congr 2; omega) | (congr 1; congr 1; omega))); done)
          | exact zQm.b3 H1 (by omega) (by assumption) (by unfold sp_cuts; (try unfold spPut); (try simp only [Int.toNat_natCast]); (try simp only [ek, Int.toNat_natCast]); (repeat (first | rw [if_pos (by omega)] | rw [if_neg (by omega)] | rw [if_pos (by assumption)] | rw [if_neg (by assumption)] | rw [if_pos (True.intro : True)])); (try (first | rfl | (congr 2; omega) | (congr 1; congr 1; omega))); done)
          | exact zQm.ok H2 (by omega) (by assumption) (by unfold sp_cuts; (try unfold spPut); (try simp only [Int.toNat_natCast]); (try simp only [ek, Int.toNat_natCast]); (repeat (first | rw [if_pos (by omega)] | rw [if_neg (by omega)] | rw [if_pos (by assumption)] | rw [if_neg (by assumption)] | rw [if_pos (True.intro : True)])); (try (first | rfl | (congr 2; omega) | (congr 1; congr 1; omega))); done)
          | exact zQm.b1 H2 (by omega) (by assumption) (by unfold sp_cuts; (try unfold spPut); (try simp only [Int.toNat_natCast]); (try simp only [ek, Int.toNat_natCast]); (repeat (first | rw [if_pos (by omega)] | rw [if_neg (by omega)] | rw [if_pos (by assumption)] | rw [if_neg (by assumption)] | rw [if_pos (True.intro : True)])); (try (first | rfl | (congr 2; omega) | (congr 1; congr 1; omega))); done)
          | exact zQm.b2 H2 (by omega) (by assumption) (by unfold sp_cuts; (try unfold spPut); (try simp only [Int.toNat_natCast]); (try simp only [ek, Int.toNat_natCast]); (repeat (first | rw [if_pos (by omega)] | rw [if_neg (by omega)] | rw [if_pos (by assumption)] | rw [if_neg (by assumption)] | rw [if_pos (True.intro : True)])); (try (first | rfl | (congr 2; omega) | (congr 1; congr 1; omega))); done)
          | exact zQm.b3 H2 (by omega) (by assumption) (by unfold sp_cuts; (try unfold spPut); (try simp only [Int.toNat_natCast]); (try simp only [ek, Int.toNat_natCast]); (repeat (first | rw [if_pos (by omega)] | rw [if_neg (by omega)] | rw [if_pos (by assumption)] | rw [if_neg (by assumption)] | rw [if_pos (True.intro : True)])); (try (first | rfl | (congr 2; omega) | (congr 1; congr 1; omega))); done)
      · refine z_aload_n dMod_cuts_28 rfl ?_
        refine z_get (k := 5) fd_Mod (by decide) fl_Mod_28 dMod_cuts_29 (by assumption) (by rfl) ?_
        refine z_iload_n dMod_cuts_32 rfl ?_
        refine z_iald dMod_cuts_33 (by assumption) (by refine ⟨?_, ?_, ?_⟩ <;> omega) ?_
        rw [Int.toNat_natCast]
        rw [e5]
        refine z_iconst dMod_cuts_34 ?_
        refine z_icmp_ne (tgt := 43) dMod_cuts_35 (by decide) (by omega) (by omega) (fun c35 => ?_) (fun c35 => ?_)
        · refine z_aload_n dMod_cuts_43 rfl ?_
          refine z_aload_n dMod_cuts_44 rfl ?_
          refine z_get (k := 3) fd_Mod (by decide) fl_Mod_21 dMod_cuts_45 (by assumption) (by rfl) ?_
          refine z_iload_n dMod_cuts_48 rfl ?_
          refine z_iald dMod_cuts_49 (by assumption) (by refine ⟨?_, ?_, ?_⟩ <;> omega) ?_
          rw [Int.toNat_natCast]
          rw [e3, ek]
          refine z_aload_n dMod_cuts_50 rfl ?_
          refine z_get (k := 0) fd_Mod (by decide) fl_Mod_11 dMod_cuts_51 (by assumption) (by rfl) ?_
          refine z_aload_n dMod_cuts_54 rfl ?_
          refine z_get (k := 3) fd_Mod (by decide) fl_Mod_21 dMod_cuts_55 (by assumption) (by rfl) ?_
          refine z_iload_n dMod_cuts_58 rfl ?_
          refine z_iald dMod_cuts_59 (by assumption) (by refine ⟨?_, ?_, ?_⟩ <;> omega) ?_
          rw [Int.toNat_natCast]
          rw [e3, ek]
          refine z_aald (t := 4) (ty := .array .int) rfl rfl dMod_cuts_60 n3 (by refine ⟨?_, ?_, ?_⟩ <;> omega) ?_
          rw [show (kk : Int).toNat = kk from rfl, n3a kk (by omega)]
          refine z_aload_n dMod_cuts_61 rfl ?_
          refine z_get (k := 5) fd_Mod (by decide) fl_Mod_28 dMod_cuts_62 (by assumption) (by rfl) ?_
          refine z_iload_n dMod_cuts_65 rfl ?_
          refine z_iald dMod_cuts_66 (by assumption) (by refine ⟨?_, ?_, ?_⟩ <;> omega) ?_
          rw [Int.toNat_natCast]
          rw [e5]
          refine z_callS (bc' := 0) (bs' := 0) MS_Mod_without lk_Mod_102 dMod_cuts_67 (k_Mod_without (n6 kk hkk) (by omega) (by omega)) rfl rfl (Nat.le_of_ble_eq_true rfl)  (Nat.le_of_ble_eq_true rfl) (Nat.le_of_ble_eq_true rfl) (by decide) (by decide) (fun _ _ q => q.elim) ?_
          rintro _ h2 ⟨q2, rfl, hq2, gq2, r2, F2⟩
          have H2 : zMod G h2 ma S t9 := H1.keep hq2 F2
          have fz2 : zMfr ma h h2 := fz1.tr (zMfr.new hq2 F2)
          have dq2 : zDm h q2 := hq2.up H1 fz1
          have oc2 := H2.2.1
          refine z_iload_n dMod_cuts_70 rfl ?_
          refine z_callV MV_Mod_become lk_Mod_77 dMod_cuts_71 (k_Mod_become H2 hkk r2 (fun i hi _ => H1.nq hq2 hi) (by omega)) rfl rfl (Nat.le_of_ble_eq_true rfl) rfl (by assumption) (Nat.le_of_ble_eq_true rfl) (Nat.le_of_ble_eq_true rfl) (Nat.le_of_eq (Nat.zero_add _)) (Nat.le_of_eq (Nat.zero_add _)) (fun _ _ q => q.elim) ?_
          rintro _ h3 ⟨rfl, H3, F3⟩
          have fz3 : zMfr ma h h3 := fz2.tr (zMfr.bec F3)
          obtain ⟨mb, hmb⟩ : ∃ mb, zup ma (8 + kk) q2 = mb := ⟨_, rfl⟩
          rw [hmb] at H3
          have eb : ∀ i, i < 8 → mb i = ma i := fun i hi => by rw [← hmb]; exact zup_ne (by omega)
          obtain ⟨-, w2, -, w4, -⟩ := id H3
          unfold zMfs at w2
          rw [eb 0 (by omega)] at w2
          obtain ⟨⟨v1, a1, b1⟩, ⟨v2, a2, b2⟩, ⟨v3, a3, b3⟩, ⟨v4, a4, b4⟩, ⟨v5, a5, b5⟩⟩ := id w4
          have sc : ∀ f : Nat, (zsStale (zsL S kk (zDel (S.1 kk) (S.2.1 c 4))) (kk : Int) c).2.1 c f = S.2.1 c f := fun f => zstc (zsL S kk (zDel (S.1 kk) (S.2.1 c 4))) (kk : Int) c f
          have hth' := (sc 0).trans hth
          have x1 := (b1 c (by omega)).1.trans (sc 0)
          have x2 := ((b2 c (by omega)).2 hth').trans (sc 1)
          have x2b := (b2 c (by omega)).1
          have x3 := ((b3 c (by omega)).2 hth').trans ((sc 2).trans ek)
          have x4 := ((b4 c (by omega)).2 hth').trans (sc 3)
          have x5 := ((b5 c (by omega)).2 hth').trans (sc 4)
          refine z_aload_n dMod_cuts_74 rfl ?_
          refine z_get (k := 5) fd_Mod (by decide) fl_Mod_28 dMod_cuts_75 (by assumption) (by rfl) ?_
          refine z_iload_n dMod_cuts_78 rfl ?_
          refine z_iald dMod_cuts_79 (by assumption) (by refine ⟨?_, ?_, ?_⟩ <;> omega) ?_
          rw [Int.toNat_natCast]
          rw [x5]
          refine z_aload_n dMod_cuts_80 rfl ?_
          refine z_get (k := 4) fd_Mod (by decide) fl_Mod_25 dMod_cuts_81 (by assumption) (by rfl) ?_
          refine z_iload_n dMod_cuts_84 rfl ?_
          refine z_iald dMod_cuts_85 (by assumption) (by refine ⟨?_, ?_, ?_⟩ <;> omega) ?_
          rw [Int.toNat_natCast]
          rw [x4]
          refine z_icmp_ge (tgt := 99) dMod_cuts_86 (by decide) (by omega) (by omega) (fun c86 => ?_) (fun c86 => ?_)
          · refine z_aload_n dMod_cuts_99 rfl ?_
            refine z_get (k := 5) fd_Mod (by decide) fl_Mod_28 dMod_cuts_100 (by assumption) (by rfl) ?_
            refine z_iload_n dMod_cuts_103 rfl ?_
            refine z_iconst dMod_cuts_104 ?_
            refine z_iast dMod_cuts_105 (by assumption) (by refine ⟨?_, ?_, ?_⟩ <;> omega) ?_
            refine z_hx (fun h4 p4 g4 => ?_)
            rw [Int.toNat_natCast] at p4
            have w2 := (g4 (ma 0) (by rw [← eb 0 (by omega)]; exact H3.inj (by omega) (by omega) (by omega))).trans w2
            have a1 := (g4 (mb 2) (H3.inj (i := 2) (j := 6) (by omega) (by omega) (by omega))).trans a1
            have a2 := (g4 (mb 3) (H3.inj (i := 3) (j := 6) (by omega) (by omega) (by omega))).trans a2
            have a3 := (g4 (mb 4) (H3.inj (i := 4) (j := 6) (by omega) (by omega) (by omega))).trans a3
            have a4 := (g4 (mb 5) (H3.inj (i := 5) (j := 6) (by omega) (by omega) (by omega))).trans a4
            have a5 := p4
            refine z_aload_n dMod_cuts_106 rfl ?_
            refine z_get (k := 4) fd_Mod (by decide) fl_Mod_25 dMod_cuts_107 (by assumption) (by rfl) ?_
            refine z_iload_n dMod_cuts_110 rfl ?_
            refine z_iald dMod_cuts_111 (by assumption) (by refine ⟨?_, ?_, ?_⟩ <;> omega) ?_
            rw [Int.toNat_natCast]
            rw [x4]
            have F9 : ∀ z, (∀ i, 2 ≤ i → i ≤ 6 → z ≠ mb i) → h4 z = h3 z := fun z hz => g4 z (hz 6 (by omega) (by omega))
            have hmc : zMcu G h4 mb (zup (zsStale (zsL S kk (zDel (S.1 kk) (S.2.1 c 4))) kk c).2.1 c (zCv (S.2.1 c 0) (S.2.1 c 1) (kk : Int) (S.2.1 c 3) (-1))) := zMcu.up b1 b2 b3 b4 b5 a1 a2 a3 a4 a5 zid_u zid_u zid_u zid_u zup_u ⟨x1, b1c.2⟩ ⟨x2b, fun _ => x2⟩ ⟨by omega, fun _ => x3⟩ ⟨by omega, fun _ => x4⟩ (zup_w (by omega) rfl)
            have H9 := H3.cusF hmc F9
            rw [zsSt_cur] at H9
            have fz9 : zMfr ma h h4 := fz3.tr (fun q e he hq => (F9 q (fun i i2 i6 => by rw [eb i (by omega)]; exact hq i (by omega))).trans he)
            subst hmb
            refine z_iret rfl rfl dMod_cuts_112 ?_
            rcases (show t9 = 0 ∨ t9 = 1 ∨ t9 = 2 ∨ t9 = 3 by omega) with t0 | t0 | t0 | t0
            all_goals first
              | (exfalso; omega)
              | exact zQm.okB H9 (Or.inr ⟨dq2, gq2⟩) (by omega) (by assumption) (by unfold sp_cuts; (try unfold spPut); (try simp only [Int.toNat_natCast]); (try simp only [ek, Int.toNat_natCast]); (repeat (first | rw [if_pos (by omega)] | rw [if_neg (by omega)] | rw [if_pos (by assumption)] | rw [if_neg (by assumption)] | rw [if_pos (True.intro : True)])); (try (first | rfl | (congr 2; omega) | (congr 1; congr 1; omega))); done)
              | exact zQm.ok H2 (by omega) (by assumption) (by unfold sp_cuts; (try unfold spPut); (try simp only [Int.toNat_natCast]); (try simp only [ek, Int.toNat_natCast]); (repeat (first | rw [if_pos (by omega)] | rw [if_neg (by omega)] | rw [if_pos (by assumption)] | rw [if_neg (by assumption)] | rw [if_pos (True.intro : True)])); (try (first | rfl | (congr 2; omega) | (congr 1; congr 1; omega))); done)
              | exact zQm.b1 H2 (by omega) (by assumption) (by unfold sp_cuts; (try unfold spPut); (try simp only [Int.toNat_natCast]); (try simp only [ek, Int.toNat_natCast]); (repeat (first | rw [if_pos (by omega)] | rw [if_neg (by omega)] | rw [if_pos (by assumption)] | rw [if_neg (by assumption)] | rw [if_pos (True.intro : True)])); (try (first | rfl | (congr 2; omega) | (congr 1; congr 1; omega))); done)
              | exact zQm.b2 H2 (by omega) (by assumption) (by unfold sp_cuts; (try unfold spPut); (try simp only [Int.toNat_natCast]); (try simp only [ek, Int.toNat_natCast]); (repeat (first | rw [if_pos (by omega)] | rw [if_neg (by omega)] | rw [if_pos (by assumption)] | rw [if_neg (by assumption)] | rw [if_pos (True.intro : True)])); (try (first | rfl | (congr 2; omega) | (congr 1; congr 1; omega))); done)
              | exact zQm.b3 H2 (by omega) (by assumption) (by unfold sp_cuts; (try unfold spPut); (try simp only [Int.toNat_natCast]); (try simp only [ek, Int.toNat_natCast]); (repeat (first | rw [if_pos (by omega)] | rw [if_neg (by omega)] | rw [if_pos (by assumption)] | rw [if_neg (by assumption)] | rw [if_pos (True.intro : True)])); (try (first | rfl | (congr 2; omega) | (congr 1; congr 1; omega))); done)
              | exact zQm.ok H1 (by omega) (by assumption) (by unfold sp_cuts; (try unfold spPut); (try simp only [Int.toNat_natCast]); (try simp only [ek, Int.toNat_natCast]); (repeat (first | rw [if_pos (by omega)] | rw [if_neg (by omega)] | rw [if_pos (by assumption)] | rw [if_neg (by assumption)] | rw [if_pos (True.intro : True)])); (try (first | rfl | (congr 2; omega) | (congr 1; congr 1; omega))); done)
              | exact zQm.b1 H1 (by omega) (by assumption) (by unfold sp_cuts; (try unfold spPut); (try simp only [Int.toNat_natCast]); (try simp only [ek, Int.toNat_natCast]); (repeat (first | rw [if_pos (by omega)] | rw [if_neg (by omega)] | rw [if_pos (by assumption)] | rw [if_neg (by assumption)] | rw [if_pos (True.intro : True)])); (try (first | rfl | (congr 2; omega) | (congr 1; congr 1; omega))); done)
              | exact zQm.b2 H1 (by omega) (by assumption) (by unfold sp_cuts; (try unfold spPut); (try simp only [Int.toNat_natCast]); (try simp only [ek, Int.toNat_natCast]); (repeat (first | rw [if_pos (by omega)] | rw [if_neg (by omega)] | rw [if_pos (by assumption)] | rw [if_neg (by assumption)] | rw [if_pos (True.intro : True)])); (try (first | rfl | (congr 2; omega) | (congr 1; congr 1; omega))); done)
              | exact zQm.b3 H1 (by omega) (by assumption) (by unfold sp_cuts; (try unfold spPut); (try simp only [Int.toNat_natCast]); (try simp only [ek, Int.toNat_natCast]); (repeat (first | rw [if_pos (by omega)] | rw [if_neg (by omega)] | rw [if_pos (by assumption)] | rw [if_neg (by assumption)] | rw [if_pos (True.intro : True)])); (try (first | rfl | (congr 2; omega) | (congr 1; congr 1; omega))); done)
          · refine z_aload_n dMod_cuts_89 rfl ?_
            refine z_get (k := 4) fd_Mod (by decide) fl_Mod_25 dMod_cuts_90 (by assumption) (by rfl) ?_
            refine z_iload_n dMod_cuts_93 rfl ?_
            refine z_dup2 rfl rfl dMod_cuts_94 ?_
            refine z_iald dMod_cuts_95 (by assumption) (by refine ⟨?_, ?_, ?_⟩ <;> omega) ?_
            rw [Int.toNat_natCast]
            rw [x4]
            refine z_iconst dMod_cuts_96 ?_
            refine z_isub dMod_cuts_97 ?_
            refine z_iast dMod_cuts_98 (by assumption) (by refine ⟨?_, ?_, ?_⟩ <;> omega) ?_
            refine z_hx (fun h4 p4 g4 => ?_)
            rw [Int.toNat_natCast] at p4
            have w2 := (g4 (ma 0) (by rw [← eb 0 (by omega)]; exact H3.inj (by omega) (by omega) (by omega))).trans w2
            have a1 := (g4 (mb 2) (H3.inj (i := 2) (j := 5) (by omega) (by omega) (by omega))).trans a1
            have a2 := (g4 (mb 3) (H3.inj (i := 3) (j := 5) (by omega) (by omega) (by omega))).trans a2
            have a3 := (g4 (mb 4) (H3.inj (i := 4) (j := 5) (by omega) (by omega) (by omega))).trans a3
            have a4 := p4
            have a5 := (g4 (mb 6) (H3.inj (i := 6) (j := 5) (by omega) (by omega) (by omega))).trans a5
            refine z_aload_n dMod_cuts_99 rfl ?_
            refine z_get (k := 5) fd_Mod (by decide) fl_Mod_28 dMod_cuts_100 (by assumption) (by rfl) ?_
            refine z_iload_n dMod_cuts_103 rfl ?_
            refine z_iconst dMod_cuts_104 ?_
            refine z_iast dMod_cuts_105 (by assumption) (by refine ⟨?_, ?_, ?_⟩ <;> omega) ?_
            refine z_hx (fun h5 p5 g5 => ?_)
            rw [Int.toNat_natCast] at p5
            have w2 := (g5 (ma 0) (by rw [← eb 0 (by omega)]; exact H3.inj (by omega) (by omega) (by omega))).trans w2
            have a1 := (g5 (mb 2) (H3.inj (i := 2) (j := 6) (by omega) (by omega) (by omega))).trans a1
            have a2 := (g5 (mb 3) (H3.inj (i := 3) (j := 6) (by omega) (by omega) (by omega))).trans a2
            have a3 := (g5 (mb 4) (H3.inj (i := 4) (j := 6) (by omega) (by omega) (by omega))).trans a3
            have a4 := (g5 (mb 5) (H3.inj (i := 5) (j := 6) (by omega) (by omega) (by omega))).trans a4
            have a5 := p5
            refine z_aload_n dMod_cuts_106 rfl ?_
            refine z_get (k := 4) fd_Mod (by decide) fl_Mod_25 dMod_cuts_107 (by assumption) (by rfl) ?_
            refine z_iload_n dMod_cuts_110 rfl ?_
            refine z_iald dMod_cuts_111 (by assumption) (by refine ⟨?_, ?_, ?_⟩ <;> omega) ?_
            rw [Int.toNat_natCast]
            rw [zup_same]
            have F9 : ∀ z, (∀ i, 2 ≤ i → i ≤ 6 → z ≠ mb i) → h5 z = h3 z := fun z hz => (g5 z (hz 6 (by omega) (by omega))).trans (g4 z (hz 5 (by omega) (by omega)))
            have hmc : zMcu G h5 mb (zup (zsStale (zsL S kk (zDel (S.1 kk) (S.2.1 c 4))) kk c).2.1 c (zCv (S.2.1 c 0) (S.2.1 c 1) (kk : Int) (S.2.1 c 3 - 1) (-1))) := zMcu.up b1 b2 b3 b4 b5 a1 a2 a3 a4 a5 zid_u zid_u zid_u zup_u zup_u ⟨x1, b1c.2⟩ ⟨x2b, fun _ => x2⟩ ⟨by omega, fun _ => x3⟩ (zup_w (by omega) rfl) (zup_w (by omega) rfl)
            have H9 := H3.cusF hmc F9
            rw [zsSt_cur] at H9
            have fz9 : zMfr ma h h5 := fz3.tr (fun q e he hq => (F9 q (fun i i2 i6 => by rw [eb i (by omega)]; exact hq i (by omega))).trans he)
            subst hmb
            refine z_iret rfl rfl dMod_cuts_112 ?_
            rcases (show t9 = 0 ∨ t9 = 1 ∨ t9 = 2 ∨ t9 = 3 by omega) with t0 | t0 | t0 | t0
            all_goals first
              | (exfalso; omega)
              | exact zQm.okB H9 (Or.inr ⟨dq2, gq2⟩) (by omega) (by assumption) (by unfold sp_cuts; (try unfold spPut); (try simp only [Int.toNat_natCast]); (try simp only [ek, Int.toNat_natCast]); (repeat (first | rw [if_pos (by omega)] | rw [if_neg (by omega)] | rw [if_pos (by assumption)] | rw [if_neg (by assumption)] | rw [if_pos (True.intro : True)])); (try (first | rfl | (congr 2; omega) | (congr 1; congr 1; omega))); done)
              | exact zQm.ok H2 (by omega) (by assumption) (by unfold sp_cuts; (try unfold spPut); (try simp only [Int.toNat_natCast]); (try simp only [ek, Int.toNat_natCast]); (repeat (first | rw [if_pos (by omega)] | rw [if_neg (by omega)] | rw [if_pos (by assumption)] | rw [if_neg (by assumption)] | rw [if_pos (True.intro : True)])); (try (first | rfl | (congr 2; omega) | (congr 1; congr 1; omega))); done)
              | exact zQm.b1 H2 (by omega) (by assumption) (by unfold sp_cuts; (try unfold spPut); (try simp only [Int.toNat_natCast]); (try simp only [ek, Int.toNat_natCast]); (repeat (first | rw [if_pos (by omega)] | rw [if_neg (by omega)] | rw [if_pos (by assumption)] | rw [if_neg (by assumption)] | rw [if_pos (True.intro : True)])); (try (first | rfl | (congr 2; omega) | (congr 1; congr 1; omega))); done)
              | exact zQm.b2 H2 (by omega) (by assumption) (by unfold sp_cuts; (try unfold spPut); (try simp only [Int.toNat_natCast]); (try simp only [ek, Int.toNat_natCast]); (repeat (first | rw [if_pos (by omega)] | rw [if_neg (by omega)] | rw [if_pos (by assumption)] | rw [if_neg (by assumption)] | rw [if_pos (True.intro : True)])); (try (first | rfl | (congr 2; omega) | (congr 1; congr 1; omega))); done)
              | exact zQm.b3 H2 (by omega) (by assumption) (by unfold sp_cuts; (try unfold spPut); (try simp only [Int.toNat_natCast]); (try simp only [ek, Int.toNat_natCast]); (repeat (first | rw [if_pos (by omega)] | rw [if_neg (by omega)] | rw [if_pos (by assumption)] | rw [if_neg (by assumption)] | rw [if_pos (True.intro : True)])); (try (first | rfl | (congr 2; omega) | (congr 1; congr 1; omega))); done)
              | exact zQm.ok H1 (by omega) (by assumption) (by unfold sp_cuts; (try unfold spPut); (try simp only [Int.toNat_natCast]); (try simp only [ek, Int.toNat_natCast]); (repeat (first | rw [if_pos (by omega)] | rw [if_neg (by omega)] | rw [if_pos (by assumption)] | rw [if_neg (by assumption)] | rw [if_pos (True.intro : True)])); (try (first | rfl | (congr 2; omega) | (congr 1; congr 1; omega))); done)
              | exact zQm.b1 H1 (by omega) (by assumption) (by unfold sp_cuts; (try unfold spPut); (try simp only [Int.toNat_natCast]); (try simp only [ek, Int.toNat_natCast]); (repeat (first | rw [if_pos (by omega)] | rw [if_neg (by omega)] | rw [if_pos (by assumption)] | rw [if_neg (by assumption)] | rw [if_pos (True.intro : True)])); (try (first | rfl | (congr 2; omega) | (congr 1; congr 1; omega))); done)
              | exact zQm.b2 H1 (by omega) (by assumption) (by unfold sp_cuts; (try unfold spPut); (try simp only [Int.toNat_natCast]); (try simp only [ek, Int.toNat_natCast]); (repeat (first | rw [if_pos (by omega)] | rw [if_neg (by omega)] | rw [if_pos (by assumption)] | rw [if_neg (by assumption)] | rw [if_pos (True.intro : True)])); (try (first | rfl | (congr 2; omega) | (congr 1; congr 1; omega))); done)
              | exact zQm.b3 H1 (by omega) (by assumption) (by unfold sp_cuts; (try unfold spPut); (try simp only [Int.toNat_natCast]); (try simp only [ek, Int.toNat_natCast]); (repeat (first | rw [if_pos (by omega)] | rw [if_neg (by omega)] | rw [if_pos (by assumption)] | rw [if_neg (by assumption)] | rw [if_pos (True.intro : True)])); (try (first | rfl | (congr 2; omega) | (congr 1; congr 1; omega))); done)
        · refine z_aload_n dMod_cuts_38 rfl ?_
          refine z_callV MV_Mod_refused lk_Mod_92 dMod_cuts_39 (k_Mod_refused n2 rfl rfl) rfl rfl (Nat.le_of_ble_eq_true rfl) rfl (by assumption) (Nat.le_of_ble_eq_true rfl) (Nat.le_of_ble_eq_true rfl) (Nat.le_of_eq (Nat.zero_add _)) (Nat.le_of_eq (Nat.zero_add _)) (fun _ _ q => q.elim) ?_
          rintro _ h2 ⟨rfl, p2, g2⟩
          have H2 : zMod G h2 ma (zsRef S) t9 := H1.obj (nu := zup S.2.2.2.2 1 (S.2.2.2.2 1 + 1)) p2 g2
          have fz2 : zMfr ma h h2 := zMfr.of0 (fun q hq => (g2 q hq).trans (g1 q hq))
          refine z_iret rfl rfl dMod_cuts_42 ?_
          rcases (show t9 = 0 ∨ t9 = 1 ∨ t9 = 2 ∨ t9 = 3 by omega) with t0 | t0 | t0 | t0
          all_goals first
            | (exfalso; omega)
            | exact zQm.ok H1 (by omega) (by assumption) (by unfold sp_cuts; (try unfold spPut); (try simp only [Int.toNat_natCast]); (try simp only [ek, Int.toNat_natCast]); (repeat (first | rw [if_pos (by omega)] | rw [if_neg (by omega)] | rw [if_pos (by assumption)] | rw [if_neg (by assumption)] | rw [if_pos (True.intro : True)])); (try (first | rfl | (congr 2; omega) | (congr 1; congr 1; omega))); done)
            | exact zQm.b1 H1 (by omega) (by assumption) (by unfold sp_cuts; (try unfold spPut); (try simp only [Int.toNat_natCast]); (try simp only [ek, Int.toNat_natCast]); (repeat (first | rw [if_pos (by omega)] | rw [if_neg (by omega)] | rw [if_pos (by assumption)] | rw [if_neg (by assumption)] | rw [if_pos (True.intro : True)])); (try (first | rfl | (congr 2; omega) | (congr 1; congr 1; omega))); done)
            | exact zQm.b2 H1 (by omega) (by assumption) (by unfold sp_cuts; (try unfold spPut); (try simp only [Int.toNat_natCast]); (try simp only [ek, Int.toNat_natCast]); (repeat (first | rw [if_pos (by omega)] | rw [if_neg (by omega)] | rw [if_pos (by assumption)] | rw [if_neg (by assumption)] | rw [if_pos (True.intro : True)])); (try (first | rfl | (congr 2; omega) | (congr 1; congr 1; omega))); done)
            | exact zQm.b3 H1 (by omega) (by assumption) (by unfold sp_cuts; (try unfold spPut); (try simp only [Int.toNat_natCast]); (try simp only [ek, Int.toNat_natCast]); (repeat (first | rw [if_pos (by omega)] | rw [if_neg (by omega)] | rw [if_pos (by assumption)] | rw [if_neg (by assumption)] | rw [if_pos (True.intro : True)])); (try (first | rfl | (congr 2; omega) | (congr 1; congr 1; omega))); done)
            | exact zQm.ok H2 (by omega) (by assumption) (by unfold sp_cuts; (try unfold spPut); (try simp only [Int.toNat_natCast]); (try simp only [ek, Int.toNat_natCast]); (repeat (first | rw [if_pos (by omega)] | rw [if_neg (by omega)] | rw [if_pos (by assumption)] | rw [if_neg (by assumption)] | rw [if_pos (True.intro : True)])); (try (first | rfl | (congr 2; omega) | (congr 1; congr 1; omega))); done)
            | exact zQm.b1 H2 (by omega) (by assumption) (by unfold sp_cuts; (try unfold spPut); (try simp only [Int.toNat_natCast]); (try simp only [ek, Int.toNat_natCast]); (repeat (first | rw [if_pos (by omega)] | rw [if_neg (by omega)] | rw [if_pos (by assumption)] | rw [if_neg (by assumption)] | rw [if_pos (True.intro : True)])); (try (first | rfl | (congr 2; omega) | (congr 1; congr 1; omega))); done)
            | exact zQm.b2 H2 (by omega) (by assumption) (by unfold sp_cuts; (try unfold spPut); (try simp only [Int.toNat_natCast]); (try simp only [ek, Int.toNat_natCast]); (repeat (first | rw [if_pos (by omega)] | rw [if_neg (by omega)] | rw [if_pos (by assumption)] | rw [if_neg (by assumption)] | rw [if_pos (True.intro : True)])); (try (first | rfl | (congr 2; omega) | (congr 1; congr 1; omega))); done)
            | exact zQm.b3 H2 (by omega) (by assumption) (by unfold sp_cuts; (try unfold spPut); (try simp only [Int.toNat_natCast]); (try simp only [ek, Int.toNat_natCast]); (repeat (first | rw [if_pos (by omega)] | rw [if_neg (by omega)] | rw [if_pos (by assumption)] | rw [if_neg (by assumption)] | rw [if_pos (True.intro : True)])); (try (first | rfl | (congr 2; omega) | (congr 1; congr 1; omega))); done)
    · refine z_iconst dMod_cuts_17 ?_
      refine z_iret rfl rfl dMod_cuts_18 ?_
      rcases (show t9 = 0 ∨ t9 = 1 ∨ t9 = 2 ∨ t9 = 3 by omega) with t0 | t0 | t0 | t0
      all_goals first
        | (exfalso; omega)
        | exact zQm.ok H1 (by omega) (by assumption) (by unfold sp_cuts; (try unfold spPut); (try simp only [Int.toNat_natCast]); (try simp only [ek, Int.toNat_natCast]); (repeat (first | rw [if_pos (by omega)] | rw [if_neg (by omega)] | rw [if_pos (by assumption)] | rw [if_neg (by assumption)] | rw [if_pos (True.intro : True)])); (try (first | rfl | (congr 2; omega) | (congr 1; congr 1; omega))); done)
        | exact zQm.b1 H1 (by omega) (by assumption) (by unfold sp_cuts; (try unfold spPut); (try simp only [Int.toNat_natCast]); (try simp only [ek, Int.toNat_natCast]); (repeat (first | rw [if_pos (by omega)] | rw [if_neg (by omega)] | rw [if_pos (by assumption)] | rw [if_neg (by assumption)] | rw [if_pos (True.intro : True)])); (try (first | rfl | (congr 2; omega) | (congr 1; congr 1; omega))); done)
        | exact zQm.b2 H1 (by omega) (by assumption) (by unfold sp_cuts; (try unfold spPut); (try simp only [Int.toNat_natCast]); (try simp only [ek, Int.toNat_natCast]); (repeat (first | rw [if_pos (by omega)] | rw [if_neg (by omega)] | rw [if_pos (by assumption)] | rw [if_neg (by assumption)] | rw [if_pos (True.intro : True)])); (try (first | rfl | (congr 2; omega) | (congr 1; congr 1; omega))); done)
        | exact zQm.b3 H1 (by omega) (by assumption) (by unfold sp_cuts; (try unfold spPut); (try simp only [Int.toNat_natCast]); (try simp only [ek, Int.toNat_natCast]); (repeat (first | rw [if_pos (by omega)] | rw [if_neg (by omega)] | rw [if_pos (by assumption)] | rw [if_neg (by assumption)] | rw [if_pos (True.intro : True)])); (try (first | rfl | (congr 2; omega) | (congr 1; congr 1; omega))); done)
        | exact zQm.ok H2 (by omega) (by assumption) (by unfold sp_cuts; (try unfold spPut); (try simp only [Int.toNat_natCast]); (try simp only [ek, Int.toNat_natCast]); (repeat (first | rw [if_pos (by omega)] | rw [if_neg (by omega)] | rw [if_pos (by assumption)] | rw [if_neg (by assumption)] | rw [if_pos (True.intro : True)])); (try (first | rfl | (congr 2; omega) | (congr 1; congr 1; omega))); done)
        | exact zQm.b1 H2 (by omega) (by assumption) (by unfold sp_cuts; (try unfold spPut); (try simp only [Int.toNat_natCast]); (try simp only [ek, Int.toNat_natCast]); (repeat (first | rw [if_pos (by omega)] | rw [if_neg (by omega)] | rw [if_pos (by assumption)] | rw [if_neg (by assumption)] | rw [if_pos (True.intro : True)])); (try (first | rfl | (congr 2; omega) | (congr 1; congr 1; omega))); done)
        | exact zQm.b2 H2 (by omega) (by assumption) (by unfold sp_cuts; (try unfold spPut); (try simp only [Int.toNat_natCast]); (try simp only [ek, Int.toNat_natCast]); (repeat (first | rw [if_pos (by omega)] | rw [if_neg (by omega)] | rw [if_pos (by assumption)] | rw [if_neg (by assumption)] | rw [if_pos (True.intro : True)])); (try (first | rfl | (congr 2; omega) | (congr 1; congr 1; omega))); done)
        | exact zQm.b3 H2 (by omega) (by assumption) (by unfold sp_cuts; (try unfold spPut); (try simp only [Int.toNat_natCast]); (try simp only [ek, Int.toNat_natCast]); (repeat (first | rw [if_pos (by omega)] | rw [if_neg (by omega)] | rw [if_pos (by assumption)] | rw [if_neg (by assumption)] | rw [if_pos (True.intro : True)])); (try (first | rfl | (congr 2; omega) | (congr 1; congr 1; omega))); done)
end MOD15
