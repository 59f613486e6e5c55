section MOD6
variable {G : zG} {l : Launch} {h h' : zHp} {ma : Nat → Nat} {S : zSt} {th : Int}
theorem zMod.row1 {k : Nat} {L : List Int} (H : zMod G h ma S th) (hk : k < 4) (hr : zAr G h' (ma (8 + k)) L) (hf : ∀ q, q ≠ ma (8 + k) → h' q = h q) : zMod G h' ma (zsL S k L) th := by
  obtain ⟨m1, m2, ⟨g, m3, m3'⟩, ⟨⟨f1, a1, b1⟩, ⟨f2, a2, b2⟩, ⟨f3, a3, b3⟩, ⟨f4, a4, b4⟩, ⟨f5, a5, b5⟩⟩, ⟨f6, m5, m5'⟩, m6, m7⟩ := id H
  have kp : ∀ i, i < 13 → i ≠ 8 + k → h' (ma i) = h (ma i) := fun i hi h1 => hf _ (H.inj hi (by omega) h1)
  refine ⟨m1, (kp 0 (by omega) (by omega)).trans m2, ⟨g, (kp 1 (by omega) (by omega)).trans m3, m3'⟩, ⟨⟨f1, (kp 2 (by omega) (by omega)).trans a1, b1⟩, ⟨f2, (kp 3 (by omega) (by omega)).trans a2, b2⟩, ⟨f3, (kp 4 (by omega) (by omega)).trans a3, b3⟩, ⟨f4, (kp 5 (by omega) (by omega)).trans a4, b4⟩, ⟨f5, (kp 6 (by omega) (by omega)).trans a5, b5⟩⟩, ⟨f6, (kp 7 (by omega) (by omega)).trans m5, m5'⟩, fun j hj => ?_, m7.kept (kp 12 (by omega) (by omega))⟩
  show zAr G h' (ma (8 + j)) (zup S.1 k L j)
  by_cases e : j = k
  · subst e
    rw [zup_same]
    exact hr
  · rw [zup_ne e]
    exact (m6 j hj).kept (kp _ (by omega) (by omega))
theorem zMfr.of1 {i : Nat} (hi : i < 13) (hf : ∀ q, q ≠ ma i → h' q = h q) : zMfr ma h h' := fun q e he hq => (hf q (hq i hi)).trans he
theorem zMfr.tr {h'' : zHp} (a : zMfr ma h h') (b : zMfr ma h' h'') : zMfr ma h h'' := fun q e he hq => b q e (a q e he hq) hq
theorem zAt_eq {L : List Int} {i : Int} (h1 : 0 ≤ i) (h2 : i < L.length) : zAt L i = L.getD i.toNat 0 := by
  unfold zAt
  rw [if_pos ⟨h1, h2⟩]
theorem k_Mod_areSame {p o : Int} (H : zMod G h ma S th) (z_p : zI32 p) (z_o : zI32 o)  : zM G l hMod_areSame yMod_areSame 3 [.ref (ma 0), zi p, zi o] h (zQm G ma h (1) (2) (3) (sp_areSame S p o)) zNo 0 0 := by
  obtain ⟨m1, m2, ⟨g, m3, m3a⟩, m4, ⟨f6, m5, m5a⟩, m6, m7⟩ := id H
  unfold zMfs at m2
  refine zM.of [some (.ref (ma 0)), some (zi p), some (zi o)] (by decide +kernel) rfl (by decide) rfl (Nat.le_of_ble_eq_true rfl) rfl ?_
  refine z_aload_n dMod_areSame_0 rfl ?_
  refine z_iload_n dMod_areSame_1 rfl ?_
  refine z_callS MS_Mod_isNo lk_Mod_81 dMod_areSame_2 (k_Mod_isNo (by omega)) rfl rfl (Nat.le_of_ble_eq_true rfl)  (Nat.le_of_ble_eq_true rfl) (Nat.le_of_ble_eq_true rfl) (Nat.le_of_eq (Nat.zero_add _)) (Nat.le_of_eq (Nat.zero_add _)) (fun _ _ q => q.elim) ?_
  rintro _ _ ⟨n9k, rfl, (⟨rfl, hn9k⟩ | ⟨rfl, hn9k⟩), rfl⟩
  · refine z_if_ne (tgt := 15) dMod_areSame_5 (by decide) (by omega) (fun c5 => ?_) (fun c5 => ?_)
    · refine z_iconst dMod_areSame_15 ?_
      refine z_goto (tgt := 20) dMod_areSame_16 (by decide) ?_
      refine z_iconst dMod_areSame_20 ?_
      refine z_iconst dMod_areSame_21 ?_
      refine z_callV MV_Mod_fails lk_Mod_88 dMod_areSame_22 (k_Mod_fails (by assumption) rfl (by omega) (by omega) (by omega)) rfl rfl (Nat.le_of_ble_eq_true rfl) rfl (by assumption) (Nat.le_of_ble_eq_true rfl) (Nat.le_of_ble_eq_true rfl) (Nat.le_of_eq (Nat.zero_add _)) (Nat.le_of_eq (Nat.zero_add _)) (fun _ _ q => q.elim) ?_
      rintro _ h1 ⟨t9, b8, rfl, ht, p1, g1⟩
      have H1 : zMod G h1 ma S t9 := H.obj (nu := S.2.2.2.2) (th' := t9) p1 g1
      have fz1 : zMfr ma h h1 := zMfr.of0 g1
      obtain ⟨-, n2, ⟨gg, n3, n3a⟩, n4, ⟨f61, n5, n5a⟩, n6, n7⟩ := id H1
      unfold zMfs at n2
      refine z_if_ne (tgt := 50) dMod_areSame_25 (by decide) (by omega) (fun c25 => ?_) (fun c25 => ?_)
      · refine z_iconst dMod_areSame_50 ?_
        refine z_iret rfl rfl dMod_areSame_51 ?_
        first
          | (exfalso; omega)
          | exact zQm.ok H1 (by omega) (by assumption) (by unfold sp_areSame; (try unfold spPut); (try simp only [Int.toNat_natCast]); (repeat (first | rw [if_pos (by omega)] | rw [if_neg (by omega)] | rw [if_pos (by assumption)] | rw [if_neg (by assumption)] | rw [if_pos (True.intro : True)])); (try (first | rfl | (congr 2; omega) | (congr 1; congr 1; omega))); done)
          | exact zQm.b1 H1 (by omega) (by assumption) (by unfold sp_areSame; (try unfold spPut); (try simp only [Int.toNat_natCast]); (repeat (first | rw [if_pos (by omega)] | rw [if_neg (by omega)] | rw [if_pos (by assumption)] | rw [if_neg (by assumption)] | rw [if_pos (True.intro : True)])); (try (first | rfl | (congr 2; omega) | (congr 1; congr 1; omega))); done)
          | exact zQm.b2 H1 (by omega) (by assumption) (by unfold sp_areSame; (try unfold spPut); (try simp only [Int.toNat_natCast]); (repeat (first | rw [if_pos (by omega)] | rw [if_neg (by omega)] | rw [if_pos (by assumption)] | rw [if_neg (by assumption)] | rw [if_pos (True.intro : True)])); (try (first | rfl | (congr 2; omega) | (congr 1; congr 1; omega))); done)
          | exact zQm.b3 H1 (by omega) (by assumption) (by unfold sp_areSame; (try unfold spPut); (try simp only [Int.toNat_natCast]); (repeat (first | rw [if_pos (by omega)] | rw [if_neg (by omega)] | rw [if_pos (by assumption)] | rw [if_neg (by assumption)] | rw [if_pos (True.intro : True)])); (try (first | rfl | (congr 2; omega) | (congr 1; congr 1; omega))); done)
      · exfalso; omega
    · exfalso; omega
  · obtain ⟨k, rfl⟩ := Int.eq_ofNat_of_zero_le (show 0 ≤ p by omega)
    have hkk : k < 4 := by omega
    refine z_if_ne (tgt := 15) dMod_areSame_5 (by decide) (by omega) (fun c5 => ?_) (fun c5 => ?_)
    · exfalso; omega
    · refine z_iload_n dMod_areSame_8 rfl ?_
      refine z_callS MS_Mod_isNo lk_Mod_81 dMod_areSame_9 (k_Mod_isNo (by omega)) rfl rfl (Nat.le_of_ble_eq_true rfl)  (Nat.le_of_ble_eq_true rfl) (Nat.le_of_ble_eq_true rfl) (Nat.le_of_eq (Nat.zero_add _)) (Nat.le_of_eq (Nat.zero_add _)) (fun _ _ q => q.elim) ?_
      rintro _ _ ⟨n9j, rfl, (⟨rfl, hn9j⟩ | ⟨rfl, hn9j⟩), rfl⟩
      · refine z_if_eq (tgt := 19) dMod_areSame_12 (by decide) (by omega) (fun c12 => ?_) (fun c12 => ?_)
        · refine z_iconst dMod_areSame_19 ?_
          refine z_iconst dMod_areSame_20 ?_
          refine z_iconst dMod_areSame_21 ?_
          refine z_callV MV_Mod_fails lk_Mod_88 dMod_areSame_22 (k_Mod_fails (by assumption) rfl (by omega) (by omega) (by omega)) rfl rfl (Nat.le_of_ble_eq_true rfl) rfl (by assumption) (Nat.le_of_ble_eq_true rfl) (Nat.le_of_ble_eq_true rfl) (Nat.le_of_eq (Nat.zero_add _)) (Nat.le_of_eq (Nat.zero_add _)) (fun _ _ q => q.elim) ?_
          rintro _ h1 ⟨t9, b8, rfl, ht, p1, g1⟩
          have H1 : zMod G h1 ma S t9 := H.obj (nu := S.2.2.2.2) (th' := t9) p1 g1
          have fz1 : zMfr ma h h1 := zMfr.of0 g1
          obtain ⟨-, n2, ⟨gg, n3, n3a⟩, n4, ⟨f61, n5, n5a⟩, n6, n7⟩ := id H1
          unfold zMfs at n2
          refine z_if_ne (tgt := 50) dMod_areSame_25 (by decide) (by omega) (fun c25 => ?_) (fun c25 => ?_)
          · refine z_iconst dMod_areSame_50 ?_
            refine z_iret rfl rfl dMod_areSame_51 ?_
            first
              | (exfalso; omega)
              | exact zQm.ok H1 (by omega) (by assumption) (by unfold sp_areSame; (try unfold spPut); (try simp only [Int.toNat_natCast]); (repeat (first | rw [if_pos (by omega)] | rw [if_neg (by omega)] | rw [if_pos (by assumption)] | rw [if_neg (by assumption)] | rw [if_pos (True.intro : True)])); (try (first | rfl | (congr 2; omega) | (congr 1; congr 1; omega))); done)
              | exact zQm.b1 H1 (by omega) (by assumption) (by unfold sp_areSame; (try unfold spPut); (try simp only [Int.toNat_natCast]); (repeat (first | rw [if_pos (by omega)] | rw [if_neg (by omega)] | rw [if_pos (by assumption)] | rw [if_neg (by assumption)] | rw [if_pos (True.intro : True)])); (try (first | rfl | (congr 2; omega) | (congr 1; congr 1; omega))); done)
              | exact zQm.b2 H1 (by omega) (by assumption) (by unfold sp_areSame; (try unfold spPut); (try simp only [Int.toNat_natCast]); (repeat (first | rw [if_pos (by omega)] | rw [if_neg (by omega)] | rw [if_pos (by assumption)] | rw [if_neg (by assumption)] | rw [if_pos (True.intro : True)])); (try (first | rfl | (congr 2; omega) | (congr 1; congr 1; omega))); done)
              | exact zQm.b3 H1 (by omega) (by assumption) (by unfold sp_areSame; (try unfold spPut); (try simp only [Int.toNat_natCast]); (repeat (first | rw [if_pos (by omega)] | rw [if_neg (by omega)] | rw [if_pos (by assumption)] | rw [if_neg (by assumption)] | rw [if_pos (True.intro : True)])); (try (first | rfl | (congr 2; omega) | (congr 1; congr 1; omega))); done)
          · exfalso; omega
        · refine z_iconst dMod_areSame_15 ?_
          refine z_goto (tgt := 20) dMod_areSame_16 (by decide) ?_
          refine z_iconst dMod_areSame_20 ?_
          refine z_iconst dMod_areSame_21 ?_
          refine z_callV MV_Mod_fails lk_Mod_88 dMod_areSame_22 (k_Mod_fails (by assumption) rfl (by omega) (by omega) (by omega)) rfl rfl (Nat.le_of_ble_eq_true rfl) rfl (by assumption) (Nat.le_of_ble_eq_true rfl) (Nat.le_of_ble_eq_true rfl) (Nat.le_of_eq (Nat.zero_add _)) (Nat.le_of_eq (Nat.zero_add _)) (fun _ _ q => q.elim) ?_
          rintro _ h1 ⟨t9, b8, rfl, ht, p1, g1⟩
          have H1 : zMod G h1 ma S t9 := H.obj (nu := S.2.2.2.2) (th' := t9) p1 g1
          have fz1 : zMfr ma h h1 := zMfr.of0 g1
          obtain ⟨-, n2, ⟨gg, n3, n3a⟩, n4, ⟨f61, n5, n5a⟩, n6, n7⟩ := id H1
          unfold zMfs at n2
          refine z_if_ne (tgt := 50) dMod_areSame_25 (by decide) (by omega) (fun c25 => ?_) (fun c25 => ?_)
          · refine z_iconst dMod_areSame_50 ?_
            refine z_iret rfl rfl dMod_areSame_51 ?_
            first
              | (exfalso; omega)
              | exact zQm.ok H1 (by omega) (by assumption) (by unfold sp_areSame; (try unfold spPut); (try simp only [Int.toNat_natCast]); (repeat (first | rw [if_pos (by omega)] | rw [if_neg (by omega)] | rw [if_pos (by assumption)] | rw [if_neg (by assumption)] | rw [if_pos (True.intro : True)])); (try (first | rfl | (congr 2; omega) | (congr 1; congr 1; omega))); done)
              | exact zQm.b1 H1 (by omega) (by assumption) (by unfold sp_areSame; (try unfold spPut); (try simp only [Int.toNat_natCast]); (repeat (first | rw [if_pos (by omega)] | rw [if_neg (by omega)] | rw [if_pos (by assumption)] | rw [if_neg (by assumption)] | rw [if_pos (True.intro : True)])); (try (first | rfl | (congr 2; omega) | (congr 1; congr 1; omega))); done)
              | exact zQm.b2 H1 (by omega) (by assumption) (by unfold sp_areSame; (try unfold spPut); (try simp only [Int.toNat_natCast]); (repeat (first | rw [if_pos (by omega)] | rw [if_neg (by omega)] | rw [if_pos (by assumption)] | rw [if_neg (by assumption)] | rw [if_pos (True.intro : True)])); (try (first | rfl | (congr 2; omega) | (congr 1; congr 1; omega))); done)
              | exact zQm.b3 H1 (by omega) (by assumption) (by unfold sp_areSame; (try unfold spPut); (try simp only [Int.toNat_natCast]); (repeat (first | rw [if_pos (by omega)] | rw [if_neg (by omega)] | rw [if_pos (by assumption)] | rw [if_neg (by assumption)] | rw [if_pos (True.intro : True)])); (try (first | rfl | (congr 2; omega) | (congr 1; congr 1; omega))); done)
          · exfalso; omega
      · obtain ⟨j, rfl⟩ := Int.eq_ofNat_of_zero_le (show 0 ≤ o by omega)
        have hkj : j < 4 := by omega
        refine z_if_eq (tgt := 19) dMod_areSame_12 (by decide) (by omega) (fun c12 => ?_) (fun c12 => ?_)
        · refine z_iconst dMod_areSame_19 ?_
          refine z_iconst dMod_areSame_20 ?_
          refine z_iconst dMod_areSame_21 ?_
          refine z_callV MV_Mod_fails lk_Mod_88 dMod_areSame_22 (k_Mod_fails (by assumption) rfl (by omega) (by omega) (by omega)) rfl rfl (Nat.le_of_ble_eq_true rfl) rfl (by assumption) (Nat.le_of_ble_eq_true rfl) (Nat.le_of_ble_eq_true rfl) (Nat.le_of_eq (Nat.zero_add _)) (Nat.le_of_eq (Nat.zero_add _)) (fun _ _ q => q.elim) ?_
          rintro _ h1 ⟨t9, b8, rfl, ht, p1, g1⟩
          have H1 : zMod G h1 ma S t9 := H.obj (nu := S.2.2.2.2) (th' := t9) p1 g1
          have fz1 : zMfr ma h h1 := zMfr.of0 g1
          obtain ⟨-, n2, ⟨gg, n3, n3a⟩, n4, ⟨f61, n5, n5a⟩, n6, n7⟩ := id H1
          unfold zMfs at n2
          refine z_if_ne (tgt := 50) dMod_areSame_25 (by decide) (by omega) (fun c25 => ?_) (fun c25 => ?_)
          · refine z_iconst dMod_areSame_50 ?_
            refine z_iret rfl rfl dMod_areSame_51 ?_
            first
              | (exfalso; omega)
              | exact zQm.ok H1 (by omega) (by assumption) (by unfold sp_areSame; (try unfold spPut); (try simp only [Int.toNat_natCast]); (repeat (first | rw [if_pos (by omega)] | rw [if_neg (by omega)] | rw [if_pos (by assumption)] | rw [if_neg (by assumption)] | rw [if_pos (True.intro : True)])); (try (first | rfl | (congr 2; omega) | (congr 1; congr 1; omega))); done)
              | exact zQm.b1 H1 (by omega) (by assumption) (by unfold sp_areSame; (try unfold spPut); (try simp only [Int.toNat_natCast]); (repeat (first | rw [if_pos (by omega)] | rw [if_neg (by omega)] | rw [if_pos (by assumption)] | rw [if_neg (by assumption)] | rw [if_pos (True.intro : True)])); (try (first | rfl | (congr 2; omega) | (congr 1; congr 1; omega))); done)
              | exact zQm.b2 H1 (by omega) (by assumption) (by unfold sp_areSame; (try unfold spPut); (try simp only [Int.toNat_natCast]); (repeat (first | rw [if_pos (by omega)] | rw [if_neg (by omega)] | rw [if_pos (by assumption)] | rw [if_neg (by assumption)] | rw [if_pos (True.intro : True)])); (try (first | rfl | (congr 2; omega) | (congr 1; congr 1; omega))); done)
              | exact zQm.b3 H1 (by omega) (by assumption) (by unfold sp_areSame; (try unfold spPut); (try simp only [Int.toNat_natCast]); (repeat (first | rw [if_pos (by omega)] | rw [if_neg (by omega)] | rw [if_pos (by assumption)] | rw [if_neg (by assumption)] | rw [if_pos (True.intro : True)])); (try (first | rfl | (congr 2; omega) | (congr 1; congr 1; omega))); done)
          · obtain ⟨frk, rk1, rk2, rk3, rk4⟩ := id (n6 k (by omega))
            obtain ⟨frj, rj1, rj2, rj3, rj4⟩ := id (n6 j (by omega))
            refine z_aload_n dMod_areSame_28 rfl ?_
            refine z_get (k := 0) fd_Mod (by decide) fl_Mod_11 dMod_areSame_29 (by assumption) (by rfl) ?_
            refine z_iload_n dMod_areSame_32 rfl ?_
            refine z_aald (t := 4) (ty := .array .int) rfl rfl dMod_areSame_33 n3 (by refine ⟨?_, ?_, ?_⟩ <;> omega) ?_
            rw [show (k : Int).toNat = k from rfl, n3a k (by omega)]
            refine z_aload_n dMod_areSame_34 rfl ?_
            refine z_get (k := 0) fd_Mod (by decide) fl_Mod_11 dMod_areSame_35 (by assumption) (by rfl) ?_
            refine z_iload_n dMod_areSame_38 rfl ?_
            refine z_aald (t := 4) (ty := .array .int) rfl rfl dMod_areSame_39 n3 (by refine ⟨?_, ?_, ?_⟩ <;> omega) ?_
            rw [show (j : Int).toNat = j from rfl, n3a j (by omega)]
            refine z_callS MS_Mod_areLike lk_Mod_137 dMod_areSame_40 (k_Mod_areLike (n6 k (by omega)) (n6 j (by omega))) rfl rfl (Nat.le_of_ble_eq_true rfl)  (Nat.le_of_ble_eq_true rfl) (Nat.le_of_ble_eq_true rfl) (Nat.le_of_eq (Nat.zero_add _)) (Nat.le_of_eq (Nat.zero_add _)) (fun _ _ q => q.elim) ?_
            rintro _ _ ⟨b7, rfl, (⟨rfl, m9⟩ | ⟨rfl, m9⟩), rfl⟩
            · refine z_if_eq (tgt := 50) dMod_areSame_43 (by decide) (by omega) (fun c43 => ?_) (fun c43 => ?_)
              · refine z_iconst dMod_areSame_50 ?_
                refine z_iret rfl rfl dMod_areSame_51 ?_
                first
                  | (exfalso; omega)
                  | exact zQm.ok H1 (by omega) (by assumption) (by unfold sp_areSame; (try unfold spPut); (try simp only [Int.toNat_natCast]); (repeat (first | rw [if_pos (by omega)] | rw [if_neg (by omega)] | rw [if_pos (by assumption)] | rw [if_neg (by assumption)] | rw [if_pos (True.intro : True)])); (try (first | rfl | (congr 2; omega) | (congr 1; congr 1; omega))); done)
                  | exact zQm.b1 H1 (by omega) (by assumption) (by unfold sp_areSame; (try unfold spPut); (try simp only [Int.toNat_natCast]); (repeat (first | rw [if_pos (by omega)] | rw [if_neg (by omega)] | rw [if_pos (by assumption)] | rw [if_neg (by assumption)] | rw [if_pos (True.intro : True)])); (try (first | rfl | (congr 2; omega) | (congr 1; congr 1; omega))); done)
                  | exact zQm.b2 H1 (by omega) (by assumption) (by unfold sp_areSame; (try unfold spPut); (try simp only [Int.toNat_natCast]); (repeat (first | rw [if_pos (by omega)] | rw [if_neg (by omega)] | rw [if_pos (by assumption)] | rw [if_neg (by assumption)] | rw [if_pos (True.intro : True)])); (try (first | rfl | (congr 2; omega) | (congr 1; congr 1; omega))); done)
                  | exact zQm.b3 H1 (by omega) (by assumption) (by unfold sp_areSame; (try unfold spPut); (try simp only [Int.toNat_natCast]); (repeat (first | rw [if_pos (by omega)] | rw [if_neg (by omega)] | rw [if_pos (by assumption)] | rw [if_neg (by assumption)] | rw [if_pos (True.intro : True)])); (try (first | rfl | (congr 2; omega) | (congr 1; congr 1; omega))); done)
              · refine z_iconst dMod_areSame_46 ?_
                refine z_goto (tgt := 51) dMod_areSame_47 (by decide) ?_
                refine z_iret rfl rfl dMod_areSame_51 ?_
                first
                  | (exfalso; omega)
                  | exact zQm.ok H1 (by omega) (by assumption) (by unfold sp_areSame; (try unfold spPut); (try simp only [Int.toNat_natCast]); (repeat (first | rw [if_pos (by omega)] | rw [if_neg (by omega)] | rw [if_pos (by assumption)] | rw [if_neg (by assumption)] | rw [if_pos (True.intro : True)])); (try (first | rfl | (congr 2; omega) | (congr 1; congr 1; omega))); done)
                  | exact zQm.b1 H1 (by omega) (by assumption) (by unfold sp_areSame; (try unfold spPut); (try simp only [Int.toNat_natCast]); (repeat (first | rw [if_pos (by omega)] | rw [if_neg (by omega)] | rw [if_pos (by assumption)] | rw [if_neg (by assumption)] | rw [if_pos (True.intro : True)])); (try (first | rfl | (congr 2; omega) | (congr 1; congr 1; omega))); done)
                  | exact zQm.b2 H1 (by omega) (by assumption) (by unfold sp_areSame; (try unfold spPut); (try simp only [Int.toNat_natCast]); (repeat (first | rw [if_pos (by omega)] | rw [if_neg (by omega)] | rw [if_pos (by assumption)] | rw [if_neg (by assumption)] | rw [if_pos (True.intro : True)])); (try (first | rfl | (congr 2; omega) | (congr 1; congr 1; omega))); done)
                  | exact zQm.b3 H1 (by omega) (by assumption) (by unfold sp_areSame; (try unfold spPut); (try simp only [Int.toNat_natCast]); (repeat (first | rw [if_pos (by omega)] | rw [if_neg (by omega)] | rw [if_pos (by assumption)] | rw [if_neg (by assumption)] | rw [if_pos (True.intro : True)])); (try (first | rfl | (congr 2; omega) | (congr 1; congr 1; omega))); done)
            · refine z_if_eq (tgt := 50) dMod_areSame_43 (by decide) (by omega) (fun c43 => ?_) (fun c43 => ?_)
              · refine z_iconst dMod_areSame_50 ?_
                refine z_iret rfl rfl dMod_areSame_51 ?_
                first
                  | (exfalso; omega)
                  | exact zQm.ok H1 (by omega) (by assumption) (by unfold sp_areSame; (try unfold spPut); (try simp only [Int.toNat_natCast]); (repeat (first | rw [if_pos (by omega)] | rw [if_neg (by omega)] | rw [if_pos (by assumption)] | rw [if_neg (by assumption)] | rw [if_pos (True.intro : True)])); (try (first | rfl | (congr 2; omega) | (congr 1; congr 1; omega))); done)
                  | exact zQm.b1 H1 (by omega) (by assumption) (by unfold sp_areSame; (try unfold spPut); (try simp only [Int.toNat_natCast]); (repeat (first | rw [if_pos (by omega)] | rw [if_neg (by omega)] | rw [if_pos (by assumption)] | rw [if_neg (by assumption)] | rw [if_pos (True.intro : True)])); (try (first | rfl | (congr 2; omega) | (congr 1; congr 1; omega))); done)
                  | exact zQm.b2 H1 (by omega) (by assumption) (by unfold sp_areSame; (try unfold spPut); (try simp only [Int.toNat_natCast]); (repeat (first | rw [if_pos (by omega)] | rw [if_neg (by omega)] | rw [if_pos (by assumption)] | rw [if_neg (by assumption)] | rw [if_pos (True.intro : True)])); (try (first | rfl | (congr 2; omega) | (congr 1; congr 1; omega))); done)
                  | exact zQm.b3 H1 (by omega) (by assumption) (by unfold sp_areSame; (try unfold spPut); (try simp only [Int.toNat_natCast]); (repeat (first | rw [if_pos (by omega)] | rw [if_neg (by omega)] | rw [if_pos (by assumption)] | rw [if_neg (by assumption)] | rw [if_pos (True.intro : True)])); (try (first | rfl | (congr 2; omega) | (congr 1; congr 1; omega))); done)
              · refine z_iconst dMod_areSame_46 ?_
                refine z_goto (tgt := 51) dMod_areSame_47 (by decide) ?_
                refine z_iret rfl rfl dMod_areSame_51 ?_
                first
                  | (exfalso; omega)
                  | exact zQm.ok H1 (by omega) (by assumption) (by unfold sp_areSame; (try unfold spPut); (try simp only [Int.toNat_natCast]); (repeat (first | rw [if_pos (by omega)] | rw [if_neg (by omega)] | rw [if_pos (by assumption)] | rw [if_neg (by assumption)] | rw [if_pos (True.intro : True)])); (try (first | rfl | (congr 2; omega) | (congr 1; congr 1; omega))); done)
                  | exact zQm.b1 H1 (by omega) (by assumption) (by unfold sp_areSame; (try unfold spPut); (try simp only [Int.toNat_natCast]); (repeat (first | rw [if_pos (by omega)] | rw [if_neg (by omega)] | rw [if_pos (by assumption)] | rw [if_neg (by assumption)] | rw [if_pos (True.intro : True)])); (try (first | rfl | (congr 2; omega) | (congr 1; congr 1; omega))); done)
                  | exact zQm.b2 H1 (by omega) (by assumption) (by unfold sp_areSame; (try unfold spPut); (try simp only [Int.toNat_natCast]); (repeat (first | rw [if_pos (by omega)] | rw [if_neg (by omega)] | rw [if_pos (by assumption)] | rw [if_neg (by assumption)] | rw [if_pos (True.intro : True)])); (try (first | rfl | (congr 2; omega) | (congr 1; congr 1; omega))); done)
                  | exact zQm.b3 H1 (by omega) (by assumption) (by unfold sp_areSame; (try unfold spPut); (try simp only [Int.toNat_natCast]); (repeat (first | rw [if_pos (by omega)] | rw [if_neg (by omega)] | rw [if_pos (by assumption)] | rw [if_neg (by assumption)] | rw [if_pos (True.intro : True)])); (try (first | rfl | (congr 2; omega) | (congr 1; congr 1; omega))); done)
        · refine z_iconst dMod_areSame_15 ?_
          refine z_goto (tgt := 20) dMod_areSame_16 (by decide) ?_
          refine z_iconst dMod_areSame_20 ?_
          refine z_iconst dMod_areSame_21 ?_
          refine z_callV MV_Mod_fails lk_Mod_88 dMod_areSame_22 (k_Mod_fails (by assumption) rfl (by omega) (by omega) (by omega)) rfl rfl (Nat.le_of_ble_eq_true rfl) rfl (by assumption) (Nat.le_of_ble_eq_true rfl) (Nat.le_of_ble_eq_true rfl) (Nat.le_of_eq (Nat.zero_add _)) (Nat.le_of_eq (Nat.zero_add _)) (fun _ _ q => q.elim) ?_
          rintro _ h1 ⟨t9, b8, rfl, ht, p1, g1⟩
          have H1 : zMod G h1 ma S t9 := H.obj (nu := S.2.2.2.2) (th' := t9) p1 g1
          have fz1 : zMfr ma h h1 := zMfr.of0 g1
          obtain ⟨-, n2, ⟨gg, n3, n3a⟩, n4, ⟨f61, n5, n5a⟩, n6, n7⟩ := id H1
          unfold zMfs at n2
          refine z_if_ne (tgt := 50) dMod_areSame_25 (by decide) (by omega) (fun c25 => ?_) (fun c25 => ?_)
          · refine z_iconst dMod_areSame_50 ?_
            refine z_iret rfl rfl dMod_areSame_51 ?_
            first
              | (exfalso; omega)
              | exact zQm.ok H1 (by omega) (by assumption) (by unfold sp_areSame; (try unfold spPut); (try simp only [Int.toNat_natCast]); (repeat (first | rw [if_pos (by omega)] | rw [if_neg (by omega)] | rw [if_pos (by assumption)] | rw [if_neg (by assumption)] | rw [if_pos (True.intro : True)])); (try (first | rfl | (congr 2; omega) | (congr 1; congr 1; omega))); done)
              | exact zQm.b1 H1 (by omega) (by assumption) (by unfold sp_areSame; (try unfold spPut); (try simp only [Int.toNat_natCast]); (repeat (first | rw [if_pos (by omega)] | rw [if_neg (by omega)] | rw [if_pos (by assumption)] | rw [if_neg (by assumption)] | rw [if_pos (True.intro : True)])); (try (first | rfl | (congr 2; omega) | (congr 1; congr 1; omega))); done)
              | exact zQm.b2 H1 (by omega) (by assumption) (by unfold sp_areSame; (try unfold spPut); (try simp only [Int.toNat_natCast]); (repeat (first | rw [if_pos (by omega)] | rw [if_neg (by omega)] | rw [if_pos (by assumption)] | rw [if_neg (by assumption)] | rw [if_pos (True.intro : True)])); (try (first | rfl | (congr 2; omega) | (congr 1; congr 1; omega))); done)
              | exact zQm.b3 H1 (by omega) (by assumption) (by unfold sp_areSame; (try unfold spPut); (try simp only [Int.toNat_natCast]); (repeat (first | rw [if_pos (by omega)] | rw [if_neg (by omega)] | rw [if_pos (by assumption)] | rw [if_neg (by assumption)] | rw [if_pos (True.intro : True)])); (try (first | rfl | (congr 2; omega) | (congr 1; congr 1; omega))); done)
          · obtain ⟨frk, rk1, rk2, rk3, rk4⟩ := id (n6 k (by omega))
            obtain ⟨frj, rj1, rj2, rj3, rj4⟩ := id (n6 j (by omega))
            refine z_aload_n dMod_areSame_28 rfl ?_
            refine z_get (k := 0) fd_Mod (by decide) fl_Mod_11 dMod_areSame_29 (by assumption) (by rfl) ?_
            refine z_iload_n dMod_areSame_32 rfl ?_
            refine z_aald (t := 4) (ty := .array .int) rfl rfl dMod_areSame_33 n3 (by refine ⟨?_, ?_, ?_⟩ <;> omega) ?_
            rw [show (k : Int).toNat = k from rfl, n3a k (by omega)]
            refine z_aload_n dMod_areSame_34 rfl ?_
            refine z_get (k := 0) fd_Mod (by decide) fl_Mod_11 dMod_areSame_35 (by assumption) (by rfl) ?_
            refine z_iload_n dMod_areSame_38 rfl ?_
            refine z_aald (t := 4) (ty := .array .int) rfl rfl dMod_areSame_39 n3 (by refine ⟨?_, ?_, ?_⟩ <;> omega) ?_
            rw [show (j : Int).toNat = j from rfl, n3a j (by omega)]
            refine z_callS MS_Mod_areLike lk_Mod_137 dMod_areSame_40 (k_Mod_areLike (n6 k (by omega)) (n6 j (by omega))) rfl rfl (Nat.le_of_ble_eq_true rfl)  (Nat.le_of_ble_eq_true rfl) (Nat.le_of_ble_eq_true rfl) (Nat.le_of_eq (Nat.zero_add _)) (Nat.le_of_eq (Nat.zero_add _)) (fun _ _ q => q.elim) ?_
            rintro _ _ ⟨b7, rfl, (⟨rfl, m9⟩ | ⟨rfl, m9⟩), rfl⟩
            · refine z_if_eq (tgt := 50) dMod_areSame_43 (by decide) (by omega) (fun c43 => ?_) (fun c43 => ?_)
              · refine z_iconst dMod_areSame_50 ?_
                refine z_iret rfl rfl dMod_areSame_51 ?_
                first
                  | (exfalso; omega)
                  | exact zQm.ok H1 (by omega) (by assumption) (by unfold sp_areSame; (try unfold spPut); (try simp only [Int.toNat_natCast]); (repeat (first | rw [if_pos (by omega)] | rw [if_neg (by omega)] | rw [if_pos (by assumption)] | rw [if_neg (by assumption)] | rw [if_pos (True.intro : True)])); (try (first | rfl | (congr 2; omega) | (congr 1; congr 1; omega))); done)
                  | exact zQm.b1 H1 (by omega) (by assumption) (by unfold sp_areSame; (try unfold spPut); (try simp only [Int.toNat_natCast]); (repeat (first | rw [if_pos (by omega)] | rw [if_neg (by omega)] | rw [if_pos (by assumption)] | rw [if_neg (by assumption)] | rw [if_pos (True.intro : True)])); (try (first | rfl | (congr 2; omega) | (congr 1; congr 1; omega))); done)
                  | exact zQm.b2 H1 (by omega) (by assumption) (by unfold sp_areSame; (try unfold spPut); (try simp only [Int.toNat_natCast]); (repeat (first | rw [if_pos (by omega)] | rw [if_neg (by omega)] | rw [if_pos (by assumption)] | rw [if_neg (by assumption)] | rw [if_pos (True.intro : True)])); (try (first | rfl | (congr 2; omega) | (congr 1; congr 1; omega))); done)
                  | exact zQm.b3 H1 (by omega) (by assumption) (by unfold sp_areSame; (try unfold spPut); (try simp only [Int.toNat_natCast]); (repeat (first | rw [if_pos (by omega)] | rw [if_neg (by omega)] | rw [if_pos (by assumption)] | rw [if_neg (by assumption)] | rw [if_pos (True.intro : True)])); (try (first | rfl | (congr 2; omega) | (congr 1; congr 1; omega))); done)
              · refine z_iconst dMod_areSame_46 ?_
                refine z_goto (tgt := 51) dMod_areSame_47 (by decide) ?_
                refine z_iret rfl rfl dMod_areSame_51 ?_
                first
                  | (exfalso; omega)
                  | exact zQm.ok H1 (by omega) (by assumption) (by unfold sp_areSame; (try unfold spPut); (try simp only [Int.toNat_natCast]); (repeat (first | rw [if_pos (by omega)] | rw [if_neg (by omega)] | rw [if_pos (by assumption)] | rw [if_neg (by assumption)] | rw [if_pos (True.intro : True)])); (try (first | rfl | (congr 2; omega) | (congr 1; congr 1; omega))); done)
                  | exact zQm.b1 H1 (by omega) (by assumption) (by unfold sp_areSame; (try unfold spPut); (try simp only [Int.toNat_natCast]); (repeat (first | rw [if_pos (by omega)] | rw [if_neg (by omega)] | rw [if_pos (by assumption)] | rw [if_neg (by assumption)] | rw [if_pos (True.intro : True)])); (try (first | rfl | (congr 2; omega) | (congr 1; congr 1; omega))); done)
                  | exact zQm.b2 H1 (by omega) (by assumption) (by unfold sp_areSame; (try unfold spPut); (try simp only [Int.toNat_natCast]); (repeat (first | rw [if_pos (by omega)] | rw [if_neg (by omega)] | rw [if_pos (by assumption)] | rw [if_neg (by assumption)] | rw [if_pos (True.intro : True)])); (try (first | rfl | (congr 2; omega) | (congr 1; congr 1; omega))); done)
                  | exact zQm.b3 H1 (by omega) (by assumption) (by unfold sp_areSame; (try unfold spPut); (try simp only [Int.toNat_natCast]); (repeat (first | rw [if_pos (by omega)] | rw [if_neg (by omega)] | rw [if_pos (by assumption)] | rw [if_neg (by assumption)] | rw [if_pos (True.intro : True)])); (try (first | rfl | (congr 2; omega) | (congr 1; congr 1; omega))); done)
            · refine z_if_eq (tgt := 50) dMod_areSame_43 (by decide) (by omega) (fun c43 => ?_) (fun c43 => ?_)
              · refine z_iconst dMod_areSame_50 ?_
                refine z_iret rfl rfl dMod_areSame_51 ?_
                first
                  | (exfalso; omega)
                  | exact zQm.ok H1 (by omega) (by assumption) (by unfold sp_areSame; (try unfold spPut); (try simp only [Int.toNat_natCast]); (repeat (first | rw [if_pos (by omega)] | rw [if_neg (by omega)] | rw [if_pos (by assumption)] | rw [if_neg (by assumption)] | rw [if_pos (True.intro : True)])); (try (first | rfl | (congr 2; omega) | (congr 1; congr 1; omega))); done)
                  | exact zQm.b1 H1 (by omega) (by assumption) (by unfold sp_areSame; (try unfold spPut); (try simp only [Int.toNat_natCast]); (repeat (first | rw [if_pos (by omega)] | rw [if_neg (by omega)] | rw [if_pos (by assumption)] | rw [if_neg (by assumption)] | rw [if_pos (True.intro : True)])); (try (first | rfl | (congr 2; omega) | (congr 1; congr 1; omega))); done)
                  | exact zQm.b2 H1 (by omega) (by assumption) (by unfold sp_areSame; (try unfold spPut); (try simp only [Int.toNat_natCast]); (repeat (first | rw [if_pos (by omega)] | rw [if_neg (by omega)] | rw [if_pos (by assumption)] | rw [if_neg (by assumption)] | rw [if_pos (True.intro : True)])); (try (first | rfl | (congr 2; omega) | (congr 1; congr 1; omega))); done)
                  | exact zQm.b3 H1 (by omega) (by assumption) (by unfold sp_areSame; (try unfold spPut); (try simp only [Int.toNat_natCast]); (repeat (first | rw [if_pos (by omega)] | rw [if_neg (by omega)] | rw [if_pos (by assumption)] | rw [if_neg (by assumption)] | rw [if_pos (True.intro : True)])); (try (first | rfl | (congr 2; omega) | (congr 1; congr 1; omega))); done)
              · refine z_iconst dMod_areSame_46 ?_
                refine z_goto (tgt := 51) dMod_areSame_47 (by decide) ?_
                refine z_iret rfl rfl dMod_areSame_51 ?_
                first
                  | (exfalso; omega)
                  | exact zQm.ok H1 (by omega) (by assumption) (by unfold sp_areSame; (try unfold spPut); (try simp only [Int.toNat_natCast]); (repeat (first | rw [if_pos (by omega)] | rw [if_neg (by omega)] | rw [if_pos (by assumption)] | rw [if_neg (by assumption)] | rw [if_pos (True.intro : True)])); (try (first | rfl | (congr 2; omega) | (congr 1; congr 1; omega))); done)
                  | exact zQm.b1 H1 (by omega) (by assumption) (by unfold sp_areSame; (try unfold spPut); (try simp only [Int.toNat_natCast]); (repeat (first | rw [if_pos (by omega)] | rw [if_neg (by omega)] | rw [if_pos (by assumption)] | rw [if_neg (by assumption)] | rw [if_pos (True.intro : True)])); (try (first | rfl | (congr 2; omega) | (congr 1; congr 1; omega))); done)
                  | exact zQm.b2 H1 (by omega) (by assumption) (by unfold sp_areSame; (try unfold spPut); (try simp only [Int.toNat_natCast]); (repeat (first | rw [if_pos (by omega)] | rw [if_neg (by omega)] | rw [if_pos (by assumption)] | rw [if_neg (by assumption)] | rw [if_pos (True.intro : True)])); (try (first | rfl | (congr 2; omega) | (congr 1; congr 1; omega))); done)
                  | exact zQm.b3 H1 (by omega) (by assumption) (by unfold sp_areSame; (try unfold spPut); (try simp only [Int.toNat_natCast]); (repeat (first | rw [if_pos (by omega)] | rw [if_neg (by omega)] | rw [if_pos (by assumption)] | rw [if_neg (by assumption)] | rw [if_pos (True.intro : True)])); (try (first | rfl | (congr 2; omega) | (congr 1; congr 1; omega))); done)
theorem k_Mod_look {p w : Int} (H : zMod G h ma S th) (z_p : zI32 p) (z_w : zI32 w)  : zM G l hMod_look yMod_look 3 [.ref (ma 0), zi p, zi w] h (zQm G ma h (1) (2) (3) (sp_look S p w)) zNo 0 0 := by
  obtain ⟨m1, m2, ⟨g, m3, m3a⟩, m4, ⟨f6, m5, m5a⟩, m6, m7⟩ := id H
  unfold zMfs at m2
  refine zM.of [some (.ref (ma 0)), some (zi p), some (zi w), none] (by decide +kernel) rfl (by decide) rfl (Nat.le_of_ble_eq_true rfl) rfl ?_
  refine z_aload_n dMod_look_0 rfl ?_
  refine z_iload_n dMod_look_1 rfl ?_
  refine z_callS MS_Mod_isNo lk_Mod_81 dMod_look_2 (k_Mod_isNo (by omega)) rfl rfl (Nat.le_of_ble_eq_true rfl)  (Nat.le_of_ble_eq_true rfl) (Nat.le_of_ble_eq_true rfl) (Nat.le_of_eq (Nat.zero_add _)) (Nat.le_of_eq (Nat.zero_add _)) (fun _ _ q => q.elim) ?_
  rintro _ _ ⟨n9, rfl, hn9, rfl⟩
  refine z_iload_n dMod_look_5 rfl ?_
  refine z_iconst dMod_look_6 ?_
  refine z_iconst dMod_look_7 ?_
  refine z_callS MS_Mod_isOut lk_Mod_41 dMod_look_8 (k_Mod_isOut (by omega) (by omega) (by omega)) rfl rfl (Nat.le_of_ble_eq_true rfl)  (Nat.le_of_ble_eq_true rfl) (Nat.le_of_ble_eq_true rfl) (Nat.le_of_eq (Nat.zero_add _)) (Nat.le_of_eq (Nat.zero_add _)) (fun _ _ q => q.elim) ?_
  rintro _ _ ⟨o9, rfl, ho9, rfl⟩
  refine z_iconst dMod_look_11 ?_
  refine z_callV MV_Mod_fails lk_Mod_88 dMod_look_12 (k_Mod_fails (by assumption) rfl (by omega) (by omega) (by omega)) rfl rfl (Nat.le_of_ble_eq_true rfl) rfl (by assumption) (Nat.le_of_ble_eq_true rfl) (Nat.le_of_ble_eq_true rfl) (Nat.le_of_eq (Nat.zero_add _)) (Nat.le_of_eq (Nat.zero_add _)) (fun _ _ q => q.elim) ?_
  rintro _ h1 ⟨t9, b8, rfl, ht, p1, g1⟩
  have H1 : zMod G h1 ma S t9 := H.obj (nu := S.2.2.2.2) (th' := t9) p1 g1
  have fz1 : zMfr ma h h1 := zMfr.of0 g1
  obtain ⟨-, n2, ⟨gg, n3, n3a⟩, n4, ⟨f61, n5, n5a⟩, n6, n7⟩ := id H1
  unfold zMfs at n2
  refine z_if_eq (tgt := 20) dMod_look_15 (by decide) (by omega) (fun c15 => ?_) (fun c15 => ?_)
  · obtain ⟨k, rfl⟩ := Int.eq_ofNat_of_zero_le (show 0 ≤ p by omega)
    obtain ⟨frk, rk1, rk2, rk3, rk4⟩ := id (n6 k (by omega))
    have ezk : ∀ i : Int, 0 ≤ i → i < ((S.1 k).length : Int) → frk i.toNat = zAt (S.1 k) i := fun i x1 x2 => by rw [rk3 _ (by omega), zAt_eq x1 x2]
    refine z_aload_n dMod_look_20 rfl ?_
    refine z_get (k := 0) fd_Mod (by decide) fl_Mod_11 dMod_look_21 (by assumption) (by rfl) ?_
    refine z_iload_n dMod_look_24 rfl ?_
    refine z_aald (t := 4) (ty := .array .int) rfl rfl dMod_look_25 n3 (by refine ⟨?_, ?_, ?_⟩ <;> omega) ?_
    rw [show (k : Int).toNat = k from rfl, n3a k (by omega)]
    refine z_astore_n dMod_look_26 (Nat.le_of_ble_eq_true rfl) ?_
    refine z_aload_n dMod_look_27 rfl ?_
    refine z_alenI dMod_look_28 (by assumption) ?_
    refine z_if_ne (tgt := 58) dMod_look_29 (by decide) (by omega) (fun c29 => ?_) (fun c29 => ?_)
    · refine z_aload_n dMod_look_58 rfl ?_
      refine z_iload_n dMod_look_59 rfl ?_
      refine z_callS MS_Mod_isAtEnd lk_Mod_99 dMod_look_60 (k_Mod_isAtEnd (by omega)) rfl rfl (Nat.le_of_ble_eq_true rfl)  (Nat.le_of_ble_eq_true rfl) (Nat.le_of_ble_eq_true rfl) (Nat.le_of_eq (Nat.zero_add _)) (Nat.le_of_eq (Nat.zero_add _)) (fun _ _ q => q.elim) ?_
      rintro _ _ ⟨b7, rfl, hb7, rfl⟩
      refine z_if_eq (tgt := 73) dMod_look_63 (by decide) (by omega) (fun c63 => ?_) (fun c63 => ?_)
      · refine z_iconst dMod_look_73 ?_
        refine z_iald dMod_look_74 (by assumption) (by refine ⟨?_, ?_, ?_⟩ <;> omega) ?_
        rw [ezk _ (by omega) (by omega)]
        refine z_iret rfl rfl dMod_look_75 ?_
        rcases (show t9 = 0 ∨ t9 = 1 ∨ t9 = 2 ∨ t9 = 3 by omega) with t0 | t0 | t0 | t0
        all_goals first
          | (exfalso; omega)
          | exact zQm.ok H2 (by omega) (by assumption) (by unfold sp_look; (try unfold spPut); (try simp only [Int.toNat_natCast]); (repeat (first | rw [if_pos (by omega)] | rw [if_neg (by omega)] | rw [if_pos (by assumption)] | rw [if_neg (by assumption)] | rw [if_pos (True.intro : True)])); (try (first | rfl | (congr 2; omega) | (congr 1; congr 1; omega))); done)
          | exact zQm.b1 H2 (by omega) (by assumption) (by unfold sp_look; (try unfold spPut); (try simp only [Int.toNat_natCast]); (repeat (first | rw [if_pos (by omega)] | rw [if_neg (by omega)] | rw [if_pos (by assumption)] | rw [if_neg (by assumption)] | rw [if_pos (True.intro : True)])); (try (first | rfl | (congr 2; omega) | (congr 1; congr 1; omega))); done)
          | exact zQm.b2 H2 (by omega) (by assumption) (by unfold sp_look; (try unfold spPut); (try simp only [Int.toNat_natCast]); (repeat (first | rw [if_pos (by omega)] | rw [if_neg (by omega)] | rw [if_pos (by assumption)] | rw [if_neg (by assumption)] | rw [if_pos (True.intro : True)])); (try (first | rfl | (congr 2; omega) | (congr 1; congr 1; omega))); done)
          | exact zQm.b3 H2 (by omega) (by assumption) (by unfold sp_look; (try unfold spPut); (try simp only [Int.toNat_natCast]); (repeat (first | rw [if_pos (by omega)] | rw [if_neg (by omega)] | rw [if_pos (by assumption)] | rw [if_neg (by assumption)] | rw [if_pos (True.intro : True)])); (try (first | rfl | (congr 2; omega) | (congr 1; congr 1; omega))); done)
          | exact zQm.ok H1 (by omega) (by assumption) (by unfold sp_look; (try unfold spPut); (try simp only [Int.toNat_natCast]); (repeat (first | rw [if_pos (by omega)] | rw [if_neg (by omega)] | rw [if_pos (by assumption)] | rw [if_neg (by assumption)] | rw [if_pos (True.intro : True)])); (try (first | rfl | (congr 2; omega) | (congr 1; congr 1; omega))); done)
          | exact zQm.b1 H1 (by omega) (by assumption) (by unfold sp_look; (try unfold spPut); (try simp only [Int.toNat_natCast]); (repeat (first | rw [if_pos (by omega)] | rw [if_neg (by omega)] | rw [if_pos (by assumption)] | rw [if_neg (by assumption)] | rw [if_pos (True.intro : True)])); (try (first | rfl | (congr 2; omega) | (congr 1; congr 1; omega))); done)
          | exact zQm.b2 H1 (by omega) (by assumption) (by unfold sp_look; (try unfold spPut); (try simp only [Int.toNat_natCast]); (repeat (first | rw [if_pos (by omega)] | rw [if_neg (by omega)] | rw [if_pos (by assumption)] | rw [if_neg (by assumption)] | rw [if_pos (True.intro : True)])); (try (first | rfl | (congr 2; omega) | (congr 1; congr 1; omega))); done)
          | exact zQm.b3 H1 (by omega) (by assumption) (by unfold sp_look; (try unfold spPut); (try simp only [Int.toNat_natCast]); (repeat (first | rw [if_pos (by omega)] | rw [if_neg (by omega)] | rw [if_pos (by assumption)] | rw [if_neg (by assumption)] | rw [if_pos (True.intro : True)])); (try (first | rfl | (congr 2; omega) | (congr 1; congr 1; omega))); done)
      · refine z_aload_n dMod_look_66 rfl ?_
        refine z_alenI dMod_look_67 (by assumption) ?_
        refine z_iconst dMod_look_68 ?_
        refine z_isub dMod_look_69 ?_
        refine z_goto (tgt := 74) dMod_look_70 (by decide) ?_
        refine z_iald dMod_look_74 (by assumption) (by refine ⟨?_, ?_, ?_⟩ <;> omega) ?_
        rw [ezk _ (by omega) (by omega)]
        refine z_iret rfl rfl dMod_look_75 ?_
        rcases (show t9 = 0 ∨ t9 = 1 ∨ t9 = 2 ∨ t9 = 3 by omega) with t0 | t0 | t0 | t0
        all_goals first
          | (exfalso; omega)
          | exact zQm.ok H2 (by omega) (by assumption) (by unfold sp_look; (try unfold spPut); (try simp only [Int.toNat_natCast]); (repeat (first | rw [if_pos (by omega)] | rw [if_neg (by omega)] | rw [if_pos (by assumption)] | rw [if_neg (by assumption)] | rw [if_pos (True.intro : True)])); (try (first | rfl | (congr 2; omega) | (congr 1; congr 1; omega))); done)
          | exact zQm.b1 H2 (by omega) (by assumption) (by unfold sp_look; (try unfold spPut); (try simp only [Int.toNat_natCast]); (repeat (first | rw [if_pos (by omega)] | rw [if_neg (by omega)] | rw [if_pos (by assumption)] | rw [if_neg (by assumption)] | rw [if_pos (True.intro : True)])); (try (first | rfl | (congr 2; omega) | (congr 1; congr 1; omega))); done)
          | exact zQm.b2 H2 (by omega) (by assumption) (by unfold sp_look; (try unfold spPut); (try simp only [Int.toNat_natCast]); (repeat (first | rw [if_pos (by omega)] | rw [if_neg (by omega)] | rw [if_pos (by assumption)] | rw [if_neg (by assumption)] | rw [if_pos (True.intro : True)])); (try (first | rfl | (congr 2; omega) | (congr 1; congr 1; omega))); done)
          | exact zQm.b3 H2 (by omega) (by assumption) (by unfold sp_look; (try unfold spPut); (try simp only [Int.toNat_natCast]); (repeat (first | rw [if_pos (by omega)] | rw [if_neg (by omega)] | rw [if_pos (by assumption)] | rw [if_neg (by assumption)] | rw [if_pos (True.intro : True)])); (try (first | rfl | (congr 2; omega) | (congr 1; congr 1; omega))); done)
          | exact zQm.ok H1 (by omega) (by assumption) (by unfold sp_look; (try unfold spPut); (try simp only [Int.toNat_natCast]); (repeat (first | rw [if_pos (by omega)] | rw [if_neg (by omega)] | rw [if_pos (by assumption)] | rw [if_neg (by assumption)] | rw [if_pos (True.intro : True)])); (try (first | rfl | (congr 2; omega) | (congr 1; congr 1; omega))); done)
          | exact zQm.b1 H1 (by omega) (by assumption) (by unfold sp_look; (try unfold spPut); (try simp only [Int.toNat_natCast]); (repeat (first | rw [if_pos (by omega)] | rw [if_neg (by omega)] | rw [if_pos (by assumption)] | rw [if_neg (by assumption)] | rw [if_pos (True.intro : True)])); (try (first | rfl | (congr 2; omega) | (congr 1; congr 1; omega))); done)
          | exact zQm.b2 H1 (by omega) (by assumption) (by unfold sp_look; (try unfold spPut); (try simp only [Int.toNat_natCast]); (repeat (first | rw [if_pos (by omega)] | rw [if_neg (by omega)] | rw [if_pos (by assumption)] | rw [if_neg (by assumption)] | rw [if_pos (True.intro : True)])); (try (first | rfl | (congr 2; omega) | (congr 1; congr 1; omega))); done)
          | exact zQm.b3 H1 (by omega) (by assumption) (by unfold sp_look; (try unfold spPut); (try simp only [Int.toNat_natCast]); (repeat (first | rw [if_pos (by omega)] | rw [if_neg (by omega)] | rw [if_pos (by assumption)] | rw [if_neg (by assumption)] | rw [if_pos (True.intro : True)])); (try (first | rfl | (congr 2; omega) | (congr 1; congr 1; omega))); done)
    · refine z_iload_n dMod_look_32 rfl ?_
      refine z_iconst dMod_look_33 ?_
      refine z_icmp_eq (tgt := 47) dMod_look_34 (by decide) (by omega) (by omega) (fun c34 => ?_) (fun c34 => ?_)
      · refine z_sipush dMod_look_47 rfl ?_
        refine z_goto (tgt := 57) dMod_look_50 (by decide) ?_
        refine z_iret rfl rfl dMod_look_57 ?_
        rcases (show t9 = 0 ∨ t9 = 1 ∨ t9 = 2 ∨ t9 = 3 by omega) with t0 | t0 | t0 | t0
        all_goals first
          | (exfalso; omega)
          | exact zQm.ok H2 (by omega) (by assumption) (by unfold sp_look; (try unfold spPut); (try simp only [Int.toNat_natCast]); (repeat (first | rw [if_pos (by omega)] | rw [if_neg (by omega)] | rw [if_pos (by assumption)] | rw [if_neg (by assumption)] | rw [if_pos (True.intro : True)])); (try (first | rfl | (congr 2; omega) | (congr 1; congr 1; omega))); done)
          | exact zQm.b1 H2 (by omega) (by assumption) (by unfold sp_look; (try unfold spPut); (try simp only [Int.toNat_natCast]); (repeat (first | rw [if_pos (by omega)] | rw [if_neg (by omega)] | rw [if_pos (by assumption)] | rw [if_neg (by assumption)] | rw [if_pos (True.intro : True)])); (try (first | rfl | (congr 2; omega) | (congr 1; congr 1; omega))); done)
          | exact zQm.b2 H2 (by omega) (by assumption) (by unfold sp_look; (try unfold spPut); (try simp only [Int.toNat_natCast]); (repeat (first | rw [if_pos (by omega)] | rw [if_neg (by omega)] | rw [if_pos (by assumption)] | rw [if_neg (by assumption)] | rw [if_pos (True.intro : True)])); (try (first | rfl | (congr 2; omega) | (congr 1; congr 1; omega))); done)
          | exact zQm.b3 H2 (by omega) (by assumption) (by unfold sp_look; (try unfold spPut); (try simp only [Int.toNat_natCast]); (repeat (first | rw [if_pos (by omega)] | rw [if_neg (by omega)] | rw [if_pos (by assumption)] | rw [if_neg (by assumption)] | rw [if_pos (True.intro : True)])); (try (first | rfl | (congr 2; omega) | (congr 1; congr 1; omega))); done)
          | exact zQm.ok H1 (by omega) (by assumption) (by unfold sp_look; (try unfold spPut); (try simp only [Int.toNat_natCast]); (repeat (first | rw [if_pos (by omega)] | rw [if_neg (by omega)] | rw [if_pos (by assumption)] | rw [if_neg (by assumption)] | rw [if_pos (True.intro : True)])); (try (first | rfl | (congr 2; omega) | (congr 1; congr 1; omega))); done)
          | exact zQm.b1 H1 (by omega) (by assumption) (by unfold sp_look; (try unfold spPut); (try simp only [Int.toNat_natCast]); (repeat (first | rw [if_pos (by omega)] | rw [if_neg (by omega)] | rw [if_pos (by assumption)] | rw [if_neg (by assumption)] | rw [if_pos (True.intro : True)])); (try (first | rfl | (congr 2; omega) | (congr 1; congr 1; omega))); done)
          | exact zQm.b2 H1 (by omega) (by assumption) (by unfold sp_look; (try unfold spPut); (try simp only [Int.toNat_natCast]); (repeat (first | rw [if_pos (by omega)] | rw [if_neg (by omega)] | rw [if_pos (by assumption)] | rw [if_neg (by assumption)] | rw [if_pos (True.intro : True)])); (try (first | rfl | (congr 2; omega) | (congr 1; congr 1; omega))); done)
          | exact zQm.b3 H1 (by omega) (by assumption) (by unfold sp_look; (try unfold spPut); (try simp only [Int.toNat_natCast]); (repeat (first | rw [if_pos (by omega)] | rw [if_neg (by omega)] | rw [if_pos (by assumption)] | rw [if_neg (by assumption)] | rw [if_pos (True.intro : True)])); (try (first | rfl | (congr 2; omega) | (congr 1; congr 1; omega))); done)
      · refine z_iload_n dMod_look_37 rfl ?_
        refine z_iconst dMod_look_38 ?_
        refine z_icmp_eq (tgt := 47) dMod_look_39 (by decide) (by omega) (by omega) (fun c39 => ?_) (fun c39 => ?_)
        · refine z_sipush dMod_look_47 rfl ?_
          refine z_goto (tgt := 57) dMod_look_50 (by decide) ?_
          refine z_iret rfl rfl dMod_look_57 ?_
          rcases (show t9 = 0 ∨ t9 = 1 ∨ t9 = 2 ∨ t9 = 3 by omega) with t0 | t0 | t0 | t0
          all_goals first
            | (exfalso; omega)
            | exact zQm.ok H2 (by omega) (by assumption) (by unfold sp_look; (try unfold spPut); (try simp only [Int.toNat_natCast]); (repeat (first | rw [if_pos (by omega)] | rw [if_neg (by omega)] | rw [if_pos (by assumption)] | rw [if_neg (by assumption)] | rw [if_pos (True.intro : True)])); (try (first | rfl | (congr 2; omega) | (congr 1; congr 1; omega))); done)
            | exact zQm.b1 H2 (by omega) (by assumption) (by unfold sp_look; (try unfold spPut); (try simp only [Int.toNat_natCast]); (repeat (first | rw [if_pos (by omega)] | rw [if_neg (by omega)] | rw [if_pos (by assumption)] | rw [if_neg (by assumption)] | rw [if_pos (True.intro : True)])); (try (first | rfl | (congr 2; omega) | (congr 1; congr 1; omega))); done)
            | exact zQm.b2 H2 (by omega) (by assumption) (by unfold sp_look; (try unfold spPut); (try simp only [Int.toNat_natCast]); (repeat (first | rw [if_pos (by omega)] | rw [if_neg (by omega)] | rw [if_pos (by assumption)] | rw [if_neg (by assumption)] | rw [if_pos (True.intro : True)])); (try (first | rfl | (congr 2; omega) | (congr 1; congr 1; omega))); done)
            | exact zQm.b3 H2 (by omega) (by assumption) (by unfold sp_look; (try unfold spPut); (try simp only [Int.toNat_natCast]); (repeat (first | rw [if_pos (by omega)] | rw [if_neg (by omega)] | rw [if_pos (by assumption)] | rw [if_neg (by assumption)] | rw [if_pos (True.intro : True)])); (try (first | rfl | (congr 2; omega) | (congr 1; congr 1; omega))); done)
            | exact zQm.ok H1 (by omega) (by assumption) (by unfold sp_look; (try unfold spPut); (try simp only [Int.toNat_natCast]); (repeat (first | rw [if_pos (by omega)] | rw [if_neg (by omega)] | rw [if_pos (by assumption)] | rw [if_neg (by assumption)] | rw [if_pos (True.intro : True)])); (try (first | rfl | (congr 2; omega) | (congr 1; congr 1; omega))); done)
            | exact zQm.b1 H1 (by omega) (by assumption) (by unfold sp_look; (try unfold spPut); (try simp only [Int.toNat_natCast]); (repeat (first | rw [if_pos (by omega)] | rw [if_neg (by omega)] | rw [if_pos (by assumption)] | rw [if_neg (by assumption)] | rw [if_pos (True.intro : True)])); (try (first | rfl | (congr 2; omega) | (congr 1; congr 1; omega))); done)
            | exact zQm.b2 H1 (by omega) (by assumption) (by unfold sp_look; (try unfold spPut); (try simp only [Int.toNat_natCast]); (repeat (first | rw [if_pos (by omega)] | rw [if_neg (by omega)] | rw [if_pos (by assumption)] | rw [if_neg (by assumption)] | rw [if_pos (True.intro : True)])); (try (first | rfl | (congr 2; omega) | (congr 1; congr 1; omega))); done)
            | exact zQm.b3 H1 (by omega) (by assumption) (by unfold sp_look; (try unfold spPut); (try simp only [Int.toNat_natCast]); (repeat (first | rw [if_pos (by omega)] | rw [if_neg (by omega)] | rw [if_pos (by assumption)] | rw [if_neg (by assumption)] | rw [if_pos (True.intro : True)])); (try (first | rfl | (congr 2; omega) | (congr 1; congr 1; omega))); done)
        · refine z_iload_n dMod_look_42 rfl ?_
          refine z_iconst dMod_look_43 ?_
          refine z_icmp_ne (tgt := 53) dMod_look_44 (by decide) (by omega) (by omega) (fun c44 => ?_) (fun c44 => ?_)
          · refine z_aload_n dMod_look_53 rfl ?_
            refine z_callV MV_Mod_refused lk_Mod_92 dMod_look_54 (k_Mod_refused n2 rfl rfl) rfl rfl (Nat.le_of_ble_eq_true rfl) rfl (by assumption) (Nat.le_of_ble_eq_true rfl) (Nat.le_of_ble_eq_true rfl) (Nat.le_of_eq (Nat.zero_add _)) (Nat.le_of_eq (Nat.zero_add _)) (fun _ _ q => q.elim) ?_
            rintro _ h2 ⟨rfl, p2, g2⟩
            have H2 : zMod G h2 ma (zsRef S) t9 := H1.obj (nu := zup S.2.2.2.2 1 (S.2.2.2.2 1 + 1)) p2 g2
            have fz2 : zMfr ma h h2 := zMfr.of0 (fun q hq => (g2 q hq).trans (g1 q hq))
            refine z_iret rfl rfl dMod_look_57 ?_
            rcases (show t9 = 0 ∨ t9 = 1 ∨ t9 = 2 ∨ t9 = 3 by omega) with t0 | t0 | t0 | t0
            all_goals first
              | (exfalso; omega)
              | exact zQm.ok H2 (by omega) (by assumption) (by unfold sp_look; (try unfold spPut); (try simp only [Int.toNat_natCast]); (repeat (first | rw [if_pos (by omega)] | rw [if_neg (by omega)] | rw [if_pos (by assumption)] | rw [if_neg (by assumption)] | rw [if_pos (True.intro : True)])); (try (first | rfl | (congr 2; omega) | (congr 1; congr 1; omega))); done)
              | exact zQm.b1 H2 (by omega) (by assumption) (by unfold sp_look; (try unfold spPut); (try simp only [Int.toNat_natCast]); (repeat (first | rw [if_pos (by omega)] | rw [if_neg (by omega)] | rw [if_pos (by assumption)] | rw [if_neg (by assumption)] | rw [if_pos (True.intro : True)])); (try (first | rfl | (congr 2; omega) | (congr 1; congr 1; omega))); done)
              | exact zQm.b2 H2 (by omega) (by assumption) (by unfold sp_look; (try unfold spPut); (try simp only [Int.toNat_natCast]); (repeat (first | rw [if_pos (by omega)] | rw [if_neg (by omega)] | rw [if_pos (by assumption)] | rw [if_neg (by assumption)] | rw [if_pos (True.intro : True)])); (try (first | rfl | (congr 2; omega) | (congr 1; congr 1; omega))); done)
              | exact zQm.b3 H2 (by omega) (by assumption) (by unfold sp_look; (try unfold spPut); (try simp only [Int.toNat_natCast]); (repeat (first | rw [if_pos (by omega)] | rw [if_neg (by omega)] | rw [if_pos (by assumption)] | rw [if_neg (by assumption)] | rw [if_pos (True.intro : True)])); (try (first | rfl | (congr 2; omega) | (congr 1; congr 1; omega))); done)
              | exact zQm.ok H1 (by omega) (by assumption) (by unfold sp_look; (try unfold spPut); (try simp only [Int.toNat_natCast]); (repeat (first | rw [if_pos (by omega)] | rw [if_neg (by omega)] | rw [if_pos (by assumption)] | rw [if_neg (by assumption)] | rw [if_pos (True.intro : True)])); (try (first | rfl | (congr 2; omega) | (congr 1; congr 1; omega))); done)
              | exact zQm.b1 H1 (by omega) (by assumption) (by unfold sp_look; (try unfold spPut); (try simp only [Int.toNat_natCast]); (repeat (first | rw [if_pos (by omega)] | rw [if_neg (by omega)] | rw [if_pos (by assumption)] | rw [if_neg (by assumption)] | rw [if_pos (True.intro : True)])); (try (first | rfl | (congr 2; omega) | (congr 1; congr 1; omega))); done)
              | exact zQm.b2 H1 (by omega) (by assumption) (by unfold sp_look; (try unfold spPut); (try simp only [Int.toNat_natCast]); (repeat (first | rw [if_pos (by omega)] | rw [if_neg (by omega)] | rw [if_pos (by assumption)] | rw [if_neg (by assumption)] | rw [if_pos (True.intro : True)])); (try (first | rfl | (congr 2; omega) | (congr 1; congr 1; omega))); done)
              | exact zQm.b3 H1 (by omega) (by assumption) (by unfold sp_look; (try unfold spPut); (try simp only [Int.toNat_natCast]); (repeat (first | rw [if_pos (by omega)] | rw [if_neg (by omega)] | rw [if_pos (by assumption)] | rw [if_neg (by assumption)] | rw [if_pos (True.intro : True)])); (try (first | rfl | (congr 2; omega) | (congr 1; congr 1; omega))); done)
          · refine z_sipush dMod_look_47 rfl ?_
            refine z_goto (tgt := 57) dMod_look_50 (by decide) ?_
            refine z_iret rfl rfl dMod_look_57 ?_
            rcases (show t9 = 0 ∨ t9 = 1 ∨ t9 = 2 ∨ t9 = 3 by omega) with t0 | t0 | t0 | t0
            all_goals first
              | (exfalso; omega)
              | exact zQm.ok H2 (by omega) (by assumption) (by unfold sp_look; (try unfold spPut); (try simp only [Int.toNat_natCast]); (repeat (first | rw [if_pos (by omega)] | rw [if_neg (by omega)] | rw [if_pos (by assumption)] | rw [if_neg (by assumption)] | rw [if_pos (True.intro : True)])); (try (first | rfl | (congr 2; omega) | (congr 1; congr 1; omega))); done)
              | exact zQm.b1 H2 (by omega) (by assumption) (by unfold sp_look; (try unfold spPut); (try simp only [Int.toNat_natCast]); (repeat (first | rw [if_pos (by omega)] | rw [if_neg (by omega)] | rw [if_pos (by assumption)] | rw [if_neg (by assumption)] | rw [if_pos (True.intro : True)])); (try (first | rfl | (congr 2; omega) | (congr 1; congr 1; omega))); done)
              | exact zQm.b2 H2 (by omega) (by assumption) (by unfold sp_look; (try unfold spPut); (try simp only [Int.toNat_natCast]); (repeat (first | rw [if_pos (by omega)] | rw [if_neg (by omega)] | rw [if_pos (by assumption)] | rw [if_neg (by assumption)] | rw [if_pos (True.intro : True)])); (try (first | rfl | (congr 2; omega) | (congr 1; congr 1; omega))); done)
              | exact zQm.b3 H2 (by omega) (by assumption) (by unfold sp_look; (try unfold spPut); (try simp only [Int.toNat_natCast]); (repeat (first | rw [if_pos (by omega)] | rw [if_neg (by omega)] | rw [if_pos (by assumption)] | rw [if_neg (by assumption)] | rw [if_pos (True.intro : True)])); (try (first | rfl | (congr 2; omega) | (congr 1; congr 1; omega))); done)
              | exact zQm.ok H1 (by omega) (by assumption) (by unfold sp_look; (try unfold spPut); (try simp only [Int.toNat_natCast]); (repeat (first | rw [if_pos (by omega)] | rw [if_neg (by omega)] | rw [if_pos (by assumption)] | rw [if_neg (by assumption)] | rw [if_pos (True.intro : True)])); (try (first | rfl | (congr 2; omega) | (congr 1; congr 1; omega))); done)
              | exact zQm.b1 H1 (by omega) (by assumption) (by unfold sp_look; (try unfold spPut); (try simp only [Int.toNat_natCast]); (repeat (first | rw [if_pos (by omega)] | rw [if_neg (by omega)] | rw [if_pos (by assumption)] | rw [if_neg (by assumption)] | rw [if_pos (True.intro : True)])); (try (first | rfl | (congr 2; omega) | (congr 1; congr 1; omega))); done)
              | exact zQm.b2 H1 (by omega) (by assumption) (by unfold sp_look; (try unfold spPut); (try simp only [Int.toNat_natCast]); (repeat (first | rw [if_pos (by omega)] | rw [if_neg (by omega)] | rw [if_pos (by assumption)] | rw [if_neg (by assumption)] | rw [if_pos (True.intro : True)])); (try (first | rfl | (congr 2; omega) | (congr 1; congr 1; omega))); done)
              | exact zQm.b3 H1 (by omega) (by assumption) (by unfold sp_look; (try unfold spPut); (try simp only [Int.toNat_natCast]); (repeat (first | rw [if_pos (by omega)] | rw [if_neg (by omega)] | rw [if_pos (by assumption)] | rw [if_neg (by assumption)] | rw [if_pos (True.intro : True)])); (try (first | rfl | (congr 2; omega) | (congr 1; congr 1; omega))); done)
  · refine z_iconst dMod_look_18 ?_
    refine z_iret rfl rfl dMod_look_19 ?_
    rcases (show t9 = 0 ∨ t9 = 1 ∨ t9 = 2 ∨ t9 = 3 by omega) with t0 | t0 | t0 | t0
    all_goals first
      | (exfalso; omega)
      | exact zQm.ok H2 (by omega) (by assumption) (by unfold sp_look; (try unfold spPut); (try simp only [Int.toNat_natCast]); (repeat (first | rw [if_pos (by omega)] | rw [if_neg (by omega)] | rw [if_pos (by assumption)] | rw [if_neg (by assumption)] | rw [if_pos (True.intro : True)])); (try (first | rfl | (congr 2; omega) | (congr 1; congr 1; omega))); done)
      | exact zQm.b1 H2 (by omega) (by assumption) (by unfold sp_look; (try unfold spPut); (try simp only [Int.toNat_natCast]); (repeat (first | rw [if_pos (by omega)] | rw [if_neg (by omega)] | rw [if_pos (by assumption)] | rw [if_neg (by assumption)] | rw [if_pos (True.intro : True)])); (try (first | rfl | (congr 2; omega) | (congr 1; congr 1; omega))); done)
      | exact zQm.b2 H2 (by omega) (by assumption) (by unfold sp_look; (try unfold spPut); (try simp only [Int.toNat_natCast]); (repeat (first | rw [if_pos (by omega)] | rw [if_neg (by omega)] | rw [if_pos (by assumption)] | rw [if_neg (by assumption)] | rw [if_pos (True.intro : True)])); (try (first | rfl | (congr 2; omega) | (congr 1; congr 1; omega))); done)
      | exact zQm.b3 H2 (by omega) (by assumption) (by unfold sp_look; (try unfold spPut); (try simp only [Int.toNat_natCast]); (repeat (first | rw [if_pos (by omega)] | rw [if_neg (by omega)] | rw [if_pos (by assumption)] | rw [if_neg (by assumption)] | rw [if_pos (True.intro : True)])); (try (first | rfl | (congr 2; omega) | (congr 1; congr 1; omega))); done)
      | exact zQm.ok H1 (by omega) (by assumption) (by unfold sp_look; (try unfold spPut); (try simp only [Int.toNat_natCast]); (repeat (first | rw [if_pos (by omega)] | rw [if_neg (by omega)] | rw [if_pos (by assumption)] | rw [if_neg (by assumption)] | rw [if_pos (True.intro : True)])); (try (first | rfl | (congr 2; omega) | (congr 1; congr 1; omega))); done)
      | exact zQm.b1 H1 (by omega) (by assumption) (by unfold sp_look; (try unfold spPut); (try simp only [Int.toNat_natCast]); (repeat (first | rw [if_pos (by omega)] | rw [if_neg (by omega)] | rw [if_pos (by assumption)] | rw [if_neg (by assumption)] | rw [if_pos (True.intro : True)])); (try (first | rfl | (congr 2; omega) | (congr 1; congr 1; omega))); done)
      | exact zQm.b2 H1 (by omega) (by assumption) (by unfold sp_look; (try unfold spPut); (try simp only [Int.toNat_natCast]); (repeat (first | rw [if_pos (by omega)] | rw [if_neg (by omega)] | rw [if_pos (by assumption)] | rw [if_neg (by assumption)] | rw [if_pos (True.intro : True)])); (try (first | rfl | (congr 2; omega) | (congr 1; congr 1; omega))); done)
      | exact zQm.b3 H1 (by omega) (by assumption) (by unfold sp_look; (try unfold spPut); (try simp only [Int.toNat_natCast]); (repeat (first | rw [if_pos (by omega)] | rw [if_neg (by omega)] | rw [if_pos (by assumption)] | rw [if_neg (by assumption)] | rw [if_pos (True.intro : True)])); (try (first | rfl | (congr 2; omega) | (congr 1; congr 1; omega))); done)
theorem k_Mod_set {p q x : Int} (H : zMod G h ma S th) (z_p : zI32 p) (z_q : zI32 q) (z_x : zI32 x)  : zM G l hMod_set yMod_set 3 [.ref (ma 0), zi p, zi q, zi x] h (zQm G ma h (1) (2) (3) (sp_set S p q x)) zNo 0 0 := by
  obtain ⟨m1, m2, ⟨g, m3, m3a⟩, m4, ⟨f6, m5, m5a⟩, m6, m7⟩ := id H
  unfold zMfs at m2
  refine zM.of [some (.ref (ma 0)), some (zi p), some (zi q), some (zi x), none] (by decide +kernel) rfl (by decide) rfl (Nat.le_of_ble_eq_true rfl) rfl ?_
  refine z_aload_n dMod_set_0 rfl ?_
  refine z_iload_n dMod_set_1 rfl ?_
  refine z_callS MS_Mod_isNo lk_Mod_81 dMod_set_2 (k_Mod_isNo (by omega)) rfl rfl (Nat.le_of_ble_eq_true rfl)  (Nat.le_of_ble_eq_true rfl) (Nat.le_of_ble_eq_true rfl) (Nat.le_of_eq (Nat.zero_add _)) (Nat.le_of_eq (Nat.zero_add _)) (fun _ _ q => q.elim) ?_
  rintro _ _ ⟨n9k, rfl, (⟨rfl, hn9k⟩ | ⟨rfl, hn9k⟩), rfl⟩
  · refine z_if_ne (tgt := 17) dMod_set_5 (by decide) (by omega) (fun c5 => ?_) (fun c5 => ?_)
    · refine z_iconst dMod_set_17 ?_
      refine z_goto (tgt := 22) dMod_set_18 (by decide) ?_
      refine z_iload_n dMod_set_22 rfl ?_
      refine z_callS MS_Mod_isNoItem lk_Mod_85 dMod_set_23 (k_Mod_isNoItem (by omega)) rfl rfl (Nat.le_of_ble_eq_true rfl)  (Nat.le_of_ble_eq_true rfl) (Nat.le_of_ble_eq_true rfl) (Nat.le_of_eq (Nat.zero_add _)) (Nat.le_of_eq (Nat.zero_add _)) (fun _ _ q => q.elim) ?_
      rintro _ _ ⟨i9, rfl, hi9, rfl⟩
      refine z_iconst dMod_set_26 ?_
      refine z_callV MV_Mod_fails lk_Mod_88 dMod_set_27 (k_Mod_fails (by assumption) rfl (by omega) (by omega) (by omega)) rfl rfl (Nat.le_of_ble_eq_true rfl) rfl (by assumption) (Nat.le_of_ble_eq_true rfl) (Nat.le_of_ble_eq_true rfl) (Nat.le_of_eq (Nat.zero_add _)) (Nat.le_of_eq (Nat.zero_add _)) (fun _ _ q => q.elim) ?_
      rintro _ h1 ⟨t9, b8, rfl, ht, p1, g1⟩
      have H1 : zMod G h1 ma S t9 := H.obj (nu := S.2.2.2.2) (th' := t9) p1 g1
      have fz1 : zMfr ma h h1 := zMfr.of0 g1
      obtain ⟨-, n2, ⟨gg, n3, n3a⟩, n4, ⟨f61, n5, n5a⟩, n6, n7⟩ := id H1
      unfold zMfs at n2
      refine z_if_eq (tgt := 35) dMod_set_30 (by decide) (by omega) (fun c30 => ?_) (fun c30 => ?_)
      · exfalso; omega
      · refine z_iconst dMod_set_33 ?_
        refine z_iret rfl rfl dMod_set_34 ?_
        rcases (show t9 = 0 ∨ t9 = 1 ∨ t9 = 2 ∨ t9 = 3 by omega) with t0 | t0 | t0 | t0
        all_goals first
          | (exfalso; omega)
          | exact zQm.ok H2 (by omega) (by assumption) (by unfold sp_set; (try unfold spPut); (try simp only [Int.toNat_natCast]); (repeat (first | rw [if_pos (by omega)] | rw [if_neg (by omega)] | rw [if_pos (by assumption)] | rw [if_neg (by assumption)] | rw [if_pos (True.intro : True)])); (try (first | rfl | (congr 2; omega) | (congr 1; congr 1; omega))); done)
          | exact zQm.b1 H2 (by omega) (by assumption) (by unfold sp_set; (try unfold spPut); (try simp only [Int.toNat_natCast]); (repeat (first | rw [if_pos (by omega)] | rw [if_neg (by omega)] | rw [if_pos (by assumption)] | rw [if_neg (by assumption)] | rw [if_pos (True.intro : True)])); (try (first | rfl | (congr 2; omega) | (congr 1; congr 1; omega))); done)
          | exact zQm.b2 H2 (by omega) (by assumption) (by unfold sp_set; (try unfold spPut); (try simp only [Int.toNat_natCast]); (repeat (first | rw [if_pos (by omega)] | rw [if_neg (by omega)] | rw [if_pos (by assumption)] | rw [if_neg (by assumption)] | rw [if_pos (True.intro : True)])); (try (first | rfl | (congr 2; omega) | (congr 1; congr 1; omega))); done)
          | exact zQm.b3 H2 (by omega) (by assumption) (by unfold sp_set; (try unfold spPut); (try simp only [Int.toNat_natCast]); (repeat (first | rw [if_pos (by omega)] | rw [if_neg (by omega)] | rw [if_pos (by assumption)] | rw [if_neg (by assumption)] | rw [if_pos (True.intro : True)])); (try (first | rfl | (congr 2; omega) | (congr 1; congr 1; omega))); done)
          | exact zQm.ok H1 (by omega) (by assumption) (by unfold sp_set; (try unfold spPut); (try simp only [Int.toNat_natCast]); (repeat (first | rw [if_pos (by omega)] | rw [if_neg (by omega)] | rw [if_pos (by assumption)] | rw [if_neg (by assumption)] | rw [if_pos (True.intro : True)])); (try (first | rfl | (congr 2; omega) | (congr 1; congr 1; omega))); done)
          | exact zQm.b1 H1 (by omega) (by assumption) (by unfold sp_set; (try unfold spPut); (try simp only [Int.toNat_natCast]); (repeat (first | rw [if_pos (by omega)] | rw [if_neg (by omega)] | rw [if_pos (by assumption)] | rw [if_neg (by assumption)] | rw [if_pos (True.intro : True)])); (try (first | rfl | (congr 2; omega) | (congr 1; congr 1; omega))); done)
          | exact zQm.b2 H1 (by omega) (by assumption) (by unfold sp_set; (try unfold spPut); (try simp only [Int.toNat_natCast]); (repeat (first | rw [if_pos (by omega)] | rw [if_neg (by omega)] | rw [if_pos (by assumption)] | rw [if_neg (by assumption)] | rw [if_pos (True.intro : True)])); (try (first | rfl | (congr 2; omega) | (congr 1; congr 1; omega))); done)
          | exact zQm.b3 H1 (by omega) (by assumption) (by unfold sp_set; (try unfold spPut); (try simp only [Int.toNat_natCast]); (repeat (first | rw [if_pos (by omega)] | rw [if_neg (by omega)] | rw [if_pos (by assumption)] | rw [if_neg (by assumption)] | rw [if_pos (True.intro : True)])); (try (first | rfl | (congr 2; omega) | (congr 1; congr 1; omega))); done)
    · exfalso; omega
  · obtain ⟨k, rfl⟩ := Int.eq_ofNat_of_zero_le (show 0 ≤ p by omega)
    have hkk : k < 4 := by omega
    refine z_if_ne (tgt := 17) dMod_set_5 (by decide) (by omega) (fun c5 => ?_) (fun c5 => ?_)
    · refine z_iconst dMod_set_17 ?_
      refine z_goto (tgt := 22) dMod_set_18 (by decide) ?_
      refine z_iload_n dMod_set_22 rfl ?_
      refine z_callS MS_Mod_isNoItem lk_Mod_85 dMod_set_23 (k_Mod_isNoItem (by omega)) rfl rfl (Nat.le_of_ble_eq_true rfl)  (Nat.le_of_ble_eq_true rfl) (Nat.le_of_ble_eq_true rfl) (Nat.le_of_eq (Nat.zero_add _)) (Nat.le_of_eq (Nat.zero_add _)) (fun _ _ q => q.elim) ?_
      rintro _ _ ⟨i9, rfl, hi9, rfl⟩
      refine z_iconst dMod_set_26 ?_
      refine z_callV MV_Mod_fails lk_Mod_88 dMod_set_27 (k_Mod_fails (by assumption) rfl (by omega) (by omega) (by omega)) rfl rfl (Nat.le_of_ble_eq_true rfl) rfl (by assumption) (Nat.le_of_ble_eq_true rfl) (Nat.le_of_ble_eq_true rfl) (Nat.le_of_eq (Nat.zero_add _)) (Nat.le_of_eq (Nat.zero_add _)) (fun _ _ q => q.elim) ?_
      rintro _ h1 ⟨t9, b8, rfl, ht, p1, g1⟩
      have H1 : zMod G h1 ma S t9 := H.obj (nu := S.2.2.2.2) (th' := t9) p1 g1
      have fz1 : zMfr ma h h1 := zMfr.of0 g1
      obtain ⟨-, n2, ⟨gg, n3, n3a⟩, n4, ⟨f61, n5, n5a⟩, n6, n7⟩ := id H1
      unfold zMfs at n2
      refine z_if_eq (tgt := 35) dMod_set_30 (by decide) (by omega) (fun c30 => ?_) (fun c30 => ?_)
      · obtain ⟨frk, rk1, rk2, rk3, rk4⟩ := id (n6 k (by omega))
        have ezk : ∀ i : Int, 0 ≤ i → i < ((S.1 k).length : Int) → frk i.toNat = zAt (S.1 k) i := fun i x1 x2 => by rw [rk3 _ (by omega), zAt_eq x1 x2]
        refine z_aload_n dMod_set_35 rfl ?_
        refine z_get (k := 0) fd_Mod (by decide) fl_Mod_11 dMod_set_36 (by assumption) (by rfl) ?_
        refine z_iload_n dMod_set_39 rfl ?_
        refine z_aald (t := 4) (ty := .array .int) rfl rfl dMod_set_40 n3 (by refine ⟨?_, ?_, ?_⟩ <;> omega) ?_
        rw [show (k : Int).toNat = k from rfl, n3a k (by omega)]
        refine z_iload_n dMod_set_41 rfl ?_
        refine z_iald dMod_set_42 (by assumption) (by refine ⟨?_, ?_, ?_⟩ <;> omega) ?_
        rw [ezk _ (by omega) (by omega)]
        refine z_istore dMod_set_43 (Nat.le_of_ble_eq_true rfl) ?_
        refine z_aload_n dMod_set_45 rfl ?_
        refine z_get (k := 0) fd_Mod (by decide) fl_Mod_11 dMod_set_46 (by assumption) (by rfl) ?_
        refine z_iload_n dMod_set_49 rfl ?_
        refine z_aald (t := 4) (ty := .array .int) rfl rfl dMod_set_50 n3 (by refine ⟨?_, ?_, ?_⟩ <;> omega) ?_
        rw [show (k : Int).toNat = k from rfl, n3a k (by omega)]
        refine z_iload_n dMod_set_51 rfl ?_
        refine z_iload_n dMod_set_52 rfl ?_
        refine z_iast dMod_set_53 (by assumption) (by refine ⟨?_, ?_, ?_⟩ <;> omega) ?_
        refine z_hx (fun h2 p2 g2 => ?_)
        have hs : zSet (S.1 k) q x = (S.1 k).set q.toNat x := if_pos (by omega)
        have hr2 : zAr G h2 (ma (8 + k)) (zSet (S.1 k) q x) := by
          refine ⟨_, by rw [zSet_len]; exact p2, by rw [zSet_len]; exact rk2, fun j hj => ?_, fun j hj => ?_⟩
          · rw [zSet_len] at hj
            rw [zSet_at _ _ _ hj]
            by_cases e9 : (j : Int) = q
            · rw [if_pos e9, show j = q.toNat by omega, zup_same]
            · rw [if_neg e9, zup_ne (by omega)]
              exact rk3 j hj
          · rw [zSet_len] at hj
            rw [zSet_at _ _ _ hj]
            split
            · omega
            · exact rk4 j hj
        have H2 : zMod G h2 ma (zsL S k (zSet (S.1 k) q x)) t9 := H1.row1 (by omega) hr2 g2
        have fz2 : zMfr ma h h2 := fz1.tr (zMfr.of1 (i := 8 + k) (by omega) g2)
        refine z_iload dMod_set_54 rfl ?_
        refine z_iret rfl rfl dMod_set_56 ?_
        rcases (show t9 = 0 ∨ t9 = 1 ∨ t9 = 2 ∨ t9 = 3 by omega) with t0 | t0 | t0 | t0
        all_goals first
          | (exfalso; omega)
          | exact zQm.ok H2 (by omega) (by assumption) (by unfold sp_set; (try unfold spPut); (try simp only [Int.toNat_natCast]); (repeat (first | rw [if_pos (by omega)] | rw [if_neg (by omega)] | rw [if_pos (by assumption)] | rw [if_neg (by assumption)] | rw [if_pos (True.intro : True)])); (try (first | rfl | (congr 2; omega) | (congr 1; congr 1; omega))); done)
          | exact zQm.b1 H2 (by omega) (by assumption) (by unfold sp_set; (try unfold spPut); (try simp only [Int.toNat_natCast]); (repeat (first | rw [if_pos (by omega)] | rw [if_neg (by omega)] | rw [if_pos (by assumption)] | rw [if_neg (by assumption)] | rw [if_pos (True.intro : True)])); (try (first | rfl | (congr 2; omega) | (congr 1; congr 1; omega))); done)
          | exact zQm.b2 H2 (by omega) (by assumption) (by unfold sp_set; (try unfold spPut); (try simp only [Int.toNat_natCast]); (repeat (first | rw [if_pos (by omega)] | rw [if_neg (by omega)] | rw [if_pos (by assumption)] | rw [if_neg (by assumption)] | rw [if_pos (True.intro : True)])); (try (first | rfl | (congr 2; omega) | (congr 1; congr 1; omega))); done)
          | exact zQm.b3 H2 (by omega) (by assumption) (by unfold sp_set; (try unfold spPut); (try simp only [Int.toNat_natCast]); (repeat (first | rw [if_pos (by omega)] | rw [if_neg (by omega)] | rw [if_pos (by assumption)] | rw [if_neg (by assumption)] | rw [if_pos (True.intro : True)])); (try (first | rfl | (congr 2; omega) | (congr 1; congr 1; omega))); done)
          | exact zQm.ok H1 (by omega) (by assumption) (by unfold sp_set; (try unfold spPut); (try simp only [Int.toNat_natCast]); (repeat (first | rw [if_pos (by omega)] | rw [if_neg (by omega)] | rw [if_pos (by assumption)] | rw [if_neg (by assumption)] | rw [if_pos (True.intro : True)])); (try (first | rfl | (congr 2; omega) | (congr 1; congr 1; omega))); done)
          | exact zQm.b1 H1 (by omega) (by assumption) (by unfold sp_set; (try unfold spPut); (try simp only [Int.toNat_natCast]); (repeat (first | rw [if_pos (by omega)] | rw [if_neg (by omega)] | rw [if_pos (by assumption)] | rw [if_neg (by assumption)] | rw [if_pos (True.intro : True)])); (try (first | rfl | (congr 2; omega) | (congr 1; congr 1; omega))); done)
          | exact zQm.b2 H1 (by omega) (by assumption) (by unfold sp_set; (try unfold spPut); (try simp only [Int.toNat_natCast]); (repeat (first | rw [if_pos (by omega)] | rw [if_neg (by omega)] | rw [if_pos (by assumption)] | rw [if_neg (by assumption)] | rw [if_pos (True.intro : True)])); (try (first | rfl | (congr 2; omega) | (congr 1; congr 1; omega))); done)
          | exact zQm.b3 H1 (by omega) (by assumption) (by unfold sp_set; (try unfold spPut); (try simp only [Int.toNat_natCast]); (repeat (first | rw [if_pos (by omega)] | rw [if_neg (by omega)] | rw [if_pos (by assumption)] | rw [if_neg (by assumption)] | rw [if_pos (True.intro : True)])); (try (first | rfl | (congr 2; omega) | (congr 1; congr 1; omega))); done)
      · refine z_iconst dMod_set_33 ?_
        refine z_iret rfl rfl dMod_set_34 ?_
        rcases (show t9 = 0 ∨ t9 = 1 ∨ t9 = 2 ∨ t9 = 3 by omega) with t0 | t0 | t0 | t0
        all_goals first
          | (exfalso; omega)
          | exact zQm.ok H2 (by omega) (by assumption) (by unfold sp_set; (try unfold spPut); (try simp only [Int.toNat_natCast]); (repeat (first | rw [if_pos (by omega)] | rw [if_neg (by omega)] | rw [if_pos (by assumption)] | rw [if_neg (by assumption)] | rw [if_pos (True.intro : True)])); (try (first | rfl | (congr 2; omega) | (congr 1; congr 1; omega))); done)
          | exact zQm.b1 H2 (by omega) (by assumption) (by unfold sp_set; (try unfold spPut); (try simp only [Int.toNat_natCast]); (repeat (first | rw [if_pos (by omega)] | rw [if_neg (by omega)] | rw [if_pos (by assumption)] | rw [if_neg (by assumption)] | rw [if_pos (True.intro : True)])); (try (first | rfl | (congr 2; omega) | (congr 1; congr 1; omega))); done)
          | exact zQm.b2 H2 (by omega) (by assumption) (by unfold sp_set; (try unfold spPut); (try simp only [Int.toNat_natCast]); (repeat (first | rw [if_pos (by omega)] | rw [if_neg (by omega)] | rw [if_pos (by assumption)] | rw [if_neg (by assumption)] | rw [if_pos (True.intro : True)])); (try (first | rfl | (congr 2; omega) | (congr 1; congr 1; omega))); done)
          | exact zQm.b3 H2 (by omega) (by assumption) (by unfold sp_set; (try unfold spPut); (try simp only [Int.toNat_natCast]); (repeat (first | rw [if_pos (by omega)] | rw [if_neg (by omega)] | rw [if_pos (by assumption)] | rw [if_neg (by assumption)] | rw [if_pos (True.intro : True)])); (try (first | rfl | (congr 2; omega) | (congr 1; congr 1; omega))); done)
          | exact zQm.ok H1 (by omega) (by assumption) (by unfold sp_set; (try unfold spPut); (try simp only [Int.toNat_natCast]); (repeat (first | rw [if_pos (by omega)] | rw [if_neg (by omega)] | rw [if_pos (by assumption)] | rw [if_neg (by assumption)] | rw [if_pos (True.intro : True)])); (try (first | rfl | (congr 2; omega) | (congr 1; congr 1; omega))); done)
          | exact zQm.b1 H1 (by omega) (by assumption) (by unfold sp_set; (try unfold spPut); (try simp only [Int.toNat_natCast]); (repeat (first | rw [if_pos (by omega)] | rw [if_neg (by omega)] | rw [if_pos (by assumption)] | rw [if_neg (by assumption)] | rw [if_pos (True.intro : True)])); (try (first | rfl | (congr 2; omega) | (congr 1; congr 1; omega))); done)
          | exact zQm.b2 H1 (by omega) (by assumption) (by unfold sp_set; (try unfold spPut); (try simp only [Int.toNat_natCast]); (repeat (first | rw [if_pos (by omega)] | rw [if_neg (by omega)] | rw [if_pos (by assumption)] | rw [if_neg (by assumption)] | rw [if_pos (True.intro : True)])); (try (first | rfl | (congr 2; omega) | (congr 1; congr 1; omega))); done)
          | exact zQm.b3 H1 (by omega) (by assumption) (by unfold sp_set; (try unfold spPut); (try simp only [Int.toNat_natCast]); (repeat (first | rw [if_pos (by omega)] | rw [if_neg (by omega)] | rw [if_pos (by assumption)] | rw [if_neg (by assumption)] | rw [if_pos (True.intro : True)])); (try (first | rfl | (congr 2; omega) | (congr 1; congr 1; omega))); done)
    · refine z_aload_n dMod_set_8 rfl ?_
      refine z_iload_n dMod_set_9 rfl ?_
      refine z_iload_n dMod_set_10 rfl ?_
      refine z_callV MV_Mod_isNoPlace lk_Mod_106 dMod_set_11 (k_Mod_isNoPlace H hkk (by omega)) rfl rfl (Nat.le_of_ble_eq_true rfl) rfl (by assumption) (Nat.le_of_ble_eq_true rfl) (Nat.le_of_ble_eq_true rfl) (Nat.le_of_eq (Nat.zero_add _)) (Nat.le_of_eq (Nat.zero_add _)) (fun _ _ q => q.elim) ?_
      rintro _ _ ⟨np9, rfl, (⟨rfl, hnp9⟩ | ⟨rfl, hnp9⟩), rfl⟩
      · refine z_if_eq (tgt := 21) dMod_set_14 (by decide) (by omega) (fun c14 => ?_) (fun c14 => ?_)
        · refine z_iconst dMod_set_21 ?_
          refine z_iload_n dMod_set_22 rfl ?_
          refine z_callS MS_Mod_isNoItem lk_Mod_85 dMod_set_23 (k_Mod_isNoItem (by omega)) rfl rfl (Nat.le_of_ble_eq_true rfl)  (Nat.le_of_ble_eq_true rfl) (Nat.le_of_ble_eq_true rfl) (Nat.le_of_eq (Nat.zero_add _)) (Nat.le_of_eq (Nat.zero_add _)) (fun _ _ q => q.elim) ?_
          rintro _ _ ⟨i9, rfl, hi9, rfl⟩
          refine z_iconst dMod_set_26 ?_
          refine z_callV MV_Mod_fails lk_Mod_88 dMod_set_27 (k_Mod_fails (by assumption) rfl (by omega) (by omega) (by omega)) rfl rfl (Nat.le_of_ble_eq_true rfl) rfl (by assumption) (Nat.le_of_ble_eq_true rfl) (Nat.le_of_ble_eq_true rfl) (Nat.le_of_eq (Nat.zero_add _)) (Nat.le_of_eq (Nat.zero_add _)) (fun _ _ q => q.elim) ?_
          rintro _ h1 ⟨t9, b8, rfl, ht, p1, g1⟩
          have H1 : zMod G h1 ma S t9 := H.obj (nu := S.2.2.2.2) (th' := t9) p1 g1
          have fz1 : zMfr ma h h1 := zMfr.of0 g1
          obtain ⟨-, n2, ⟨gg, n3, n3a⟩, n4, ⟨f61, n5, n5a⟩, n6, n7⟩ := id H1
          unfold zMfs at n2
          refine z_if_eq (tgt := 35) dMod_set_30 (by decide) (by omega) (fun c30 => ?_) (fun c30 => ?_)
          · exfalso; omega
          · refine z_iconst dMod_set_33 ?_
            refine z_iret rfl rfl dMod_set_34 ?_
            rcases (show t9 = 0 ∨ t9 = 1 ∨ t9 = 2 ∨ t9 = 3 by omega) with t0 | t0 | t0 | t0
            all_goals first
              | (exfalso; omega)
              | exact zQm.ok H2 (by omega) (by assumption) (by unfold sp_set; (try unfold spPut); (try simp only [Int.toNat_natCast]); (repeat (first | rw [if_pos (by omega)] | rw [if_neg (by omega)] | rw [if_pos (by assumption)] | rw [if_neg (by assumption)] | rw [if_pos (True.intro : True)])); (try (first | rfl | (congr 2; omega) | (congr 1; congr 1; omega))); done)
              | exact zQm.b1 H2 (by omega) (by assumption) (by unfold sp_set; (try unfold spPut); (try simp only [Int.toNat_natCast]); (repeat (first | rw [if_pos (by omega)] | rw [if_neg (by omega)] | rw [if_pos (by assumption)] | rw [if_neg (by assumption)] | rw [if_pos (True.intro : True)])); (try (first | rfl | (congr 2; omega) | (congr 1; congr 1; omega))); done)
              | exact zQm.b2 H2 (by omega) (by assumption) (by unfold sp_set; (try unfold spPut); (try simp only [Int.toNat_natCast]); (repeat (first | rw [if_pos (by omega)] | rw [if_neg (by omega)] | rw [if_pos (by assumption)] | rw [if_neg (by assumption)] | rw [if_pos (True.intro : True)])); (try (first | rfl | (congr 2; omega) | (congr 1; congr 1; omega))); done)
              | exact zQm.b3 H2 (by omega) (by assumption) (by unfold sp_set; (try unfold spPut); (try simp only [Int.toNat_natCast]); (repeat (first | rw [if_pos (by omega)] | rw [if_neg (by omega)] | rw [if_pos (by assumption)] | rw [if_neg (by assumption)] | rw [if_pos (True.intro : True)])); (try (first | rfl | (congr 2; omega) | (congr 1; congr 1; omega))); done)
              | exact zQm.ok H1 (by omega) (by assumption) (by unfold sp_set; (try unfold spPut); (try simp only [Int.toNat_natCast]); (repeat (first | rw [if_pos (by omega)] | rw [if_neg (by omega)] | rw [if_pos (by assumption)] | rw [if_neg (by assumption)] | rw [if_pos (True.intro : True)])); (try (first | rfl | (congr 2; omega) | (congr 1; congr 1; omega))); done)
              | exact zQm.b1 H1 (by omega) (by assumption) (by unfold sp_set; (try unfold spPut); (try simp only [Int.toNat_natCast]); (repeat (first | rw [if_pos (by omega)] | rw [if_neg (by omega)] | rw [if_pos (by assumption)] | rw [if_neg (by assumption)] | rw [if_pos (True.intro : True)])); (try (first | rfl | (congr 2; omega) | (congr 1; congr 1; omega))); done)
              | exact zQm.b2 H1 (by omega) (by assumption) (by unfold sp_set; (try unfold spPut); (try simp only [Int.toNat_natCast]); (repeat (first | rw [if_pos (by omega)] | rw [if_neg (by omega)] | rw [if_pos (by assumption)] | rw [if_neg (by assumption)] | rw [if_pos (True.intro : True)])); (try (first | rfl | (congr 2; omega) | (congr 1; congr 1; omega))); done)
              | exact zQm.b3 H1 (by omega) (by assumption) (by unfold sp_set; (try unfold spPut); (try simp only [Int.toNat_natCast]); (repeat (first | rw [if_pos (by omega)] | rw [if_neg (by omega)] | rw [if_pos (by assumption)] | rw [if_neg (by assumption)] | rw [if_pos (True.intro : True)])); (try (first | rfl | (congr 2; omega) | (congr 1; congr 1; omega))); done)
        · refine z_iconst dMod_set_17 ?_
          refine z_goto (tgt := 22) dMod_set_18 (by decide) ?_
          refine z_iload_n dMod_set_22 rfl ?_
          refine z_callS MS_Mod_isNoItem lk_Mod_85 dMod_set_23 (k_Mod_isNoItem (by omega)) rfl rfl (Nat.le_of_ble_eq_true rfl)  (Nat.le_of_ble_eq_true rfl) (Nat.le_of_ble_eq_true rfl) (Nat.le_of_eq (Nat.zero_add _)) (Nat.le_of_eq (Nat.zero_add _)) (fun _ _ q => q.elim) ?_
          rintro _ _ ⟨i9, rfl, hi9, rfl⟩
          refine z_iconst dMod_set_26 ?_
          refine z_callV MV_Mod_fails lk_Mod_88 dMod_set_27 (k_Mod_fails (by assumption) rfl (by omega) (by omega) (by omega)) rfl rfl (Nat.le_of_ble_eq_true rfl) rfl (by assumption) (Nat.le_of_ble_eq_true rfl) (Nat.le_of_ble_eq_true rfl) (Nat.le_of_eq (Nat.zero_add _)) (Nat.le_of_eq (Nat.zero_add _)) (fun _ _ q => q.elim) ?_
          rintro _ h1 ⟨t9, b8, rfl, ht, p1, g1⟩
          have H1 : zMod G h1 ma S t9 := H.obj (nu := S.2.2.2.2) (th' := t9) p1 g1
          have fz1 : zMfr ma h h1 := zMfr.of0 g1
          obtain ⟨-, n2, ⟨gg, n3, n3a⟩, n4, ⟨f61, n5, n5a⟩, n6, n7⟩ := id H1
          unfold zMfs at n2
          refine z_if_eq (tgt := 35) dMod_set_30 (by decide) (by omega) (fun c30 => ?_) (fun c30 => ?_)
          · exfalso; omega
          · refine z_iconst dMod_set_33 ?_
            refine z_iret rfl rfl dMod_set_34 ?_
            rcases (show t9 = 0 ∨ t9 = 1 ∨ t9 = 2 ∨ t9 = 3 by omega) with t0 | t0 | t0 | t0
            all_goals first
              | (exfalso; omega)
              | exact zQm.ok H2 (by omega) (by assumption) (by unfold sp_set; (try unfold spPut); (try simp only [Int.toNat_natCast]); (repeat (first | rw [if_pos (by omega)] | rw [if_neg (by omega)] | rw [if_pos (by assumption)] | rw [if_neg (by assumption)] | rw [if_pos (True.intro : True)])); (try (first | rfl | (congr 2; omega) | (congr 1; congr 1; omega))); done)
              | exact zQm.b1 H2 (by omega) (by assumption) (by unfold sp_set; (try unfold spPut); (try simp only [Int.toNat_natCast]); (repeat (first | rw [if_pos (by omega)] | rw [if_neg (by omega)] | rw [if_pos (by assumption)] | rw [if_neg (by assumption)] | rw [if_pos (True.intro : True)])); (try (first | rfl | (congr 2; omega) | (congr 1; congr 1; omega))); done)
              | exact zQm.b2 H2 (by omega) (by assumption) (by unfold sp_set; (try unfold spPut); (try simp only [Int.toNat_natCast]); (repeat (first | rw [if_pos (by omega)] | rw [if_neg (by omega)] | rw [if_pos (by assumption)] | rw [if_neg (by assumption)] | rw [if_pos (True.intro : True)])); (try (first | rfl | (congr 2; omega) | (congr 1; congr 1; omega))); done)
              | exact zQm.b3 H2 (by omega) (by assumption) (by unfold sp_set; (try unfold spPut); (try simp only [Int.toNat_natCast]); (repeat (first | rw [if_pos (by omega)] | rw [if_neg (by omega)] | rw [if_pos (by assumption)] | rw [if_neg (by assumption)] | rw [if_pos (True.intro : True)])); (try (first | rfl | (congr 2; omega) | (congr 1; congr 1; omega))); done)
              | exact zQm.ok H1 (by omega) (by assumption) (by unfold sp_set; (try unfold spPut); (try simp only [Int.toNat_natCast]); (repeat (first | rw [if_pos (by omega)] | rw [if_neg (by omega)] | rw [if_pos (by assumption)] | rw [if_neg (by assumption)] | rw [if_pos (True.intro : True)])); (try (first | rfl | (congr 2; omega) | (congr 1; congr 1; omega))); done)
              | exact zQm.b1 H1 (by omega) (by assumption) (by unfold sp_set; (try unfold spPut); (try simp only [Int.toNat_natCast]); (repeat (first | rw [if_pos (by omega)] | rw [if_neg (by omega)] | rw [if_pos (by assumption)] | rw [if_neg (by assumption)] | rw [if_pos (True.intro : True)])); (try (first | rfl | (congr 2; omega) | (congr 1; congr 1; omega))); done)
              | exact zQm.b2 H1 (by omega) (by assumption) (by unfold sp_set; (try unfold spPut); (try simp only [Int.toNat_natCast]); (repeat (first | rw [if_pos (by omega)] | rw [if_neg (by omega)] | rw [if_pos (by assumption)] | rw [if_neg (by assumption)] | rw [if_pos (True.intro : True)])); (try (first | rfl | (congr 2; omega) | (congr 1; congr 1; omega))); done)
              | exact zQm.b3 H1 (by omega) (by assumption) (by unfold sp_set; (try unfold spPut); (try simp only [Int.toNat_natCast]); (repeat (first | rw [if_pos (by omega)] | rw [if_neg (by omega)] | rw [if_pos (by assumption)] | rw [if_neg (by assumption)] | rw [if_pos (True.intro : True)])); (try (first | rfl | (congr 2; omega) | (congr 1; congr 1; omega))); done)
      · refine z_if_eq (tgt := 21) dMod_set_14 (by decide) (by omega) (fun c14 => ?_) (fun c14 => ?_)
        · refine z_iconst dMod_set_21 ?_
          refine z_iload_n dMod_set_22 rfl ?_
          refine z_callS MS_Mod_isNoItem lk_Mod_85 dMod_set_23 (k_Mod_isNoItem (by omega)) rfl rfl (Nat.le_of_ble_eq_true rfl)  (Nat.le_of_ble_eq_true rfl) (Nat.le_of_ble_eq_true rfl) (Nat.le_of_eq (Nat.zero_add _)) (Nat.le_of_eq (Nat.zero_add _)) (fun _ _ q => q.elim) ?_
          rintro _ _ ⟨i9, rfl, hi9, rfl⟩
          refine z_iconst dMod_set_26 ?_
          refine z_callV MV_Mod_fails lk_Mod_88 dMod_set_27 (k_Mod_fails (by assumption) rfl (by omega) (by omega) (by omega)) rfl rfl (Nat.le_of_ble_eq_true rfl) rfl (by assumption) (Nat.le_of_ble_eq_true rfl) (Nat.le_of_ble_eq_true rfl) (Nat.le_of_eq (Nat.zero_add _)) (Nat.le_of_eq (Nat.zero_add _)) (fun _ _ q => q.elim) ?_
          rintro _ h1 ⟨t9, b8, rfl, ht, p1, g1⟩
          have H1 : zMod G h1 ma S t9 := H.obj (nu := S.2.2.2.2) (th' := t9) p1 g1
          have fz1 : zMfr ma h h1 := zMfr.of0 g1
          obtain ⟨-, n2, ⟨gg, n3, n3a⟩, n4, ⟨f61, n5, n5a⟩, n6, n7⟩ := id H1
          unfold zMfs at n2
          refine z_if_eq (tgt := 35) dMod_set_30 (by decide) (by omega) (fun c30 => ?_) (fun c30 => ?_)
          · obtain ⟨frk, rk1, rk2, rk3, rk4⟩ := id (n6 k (by omega))
            have ezk : ∀ i : Int, 0 ≤ i → i < ((S.1 k).length : Int) → frk i.toNat = zAt (S.1 k) i := fun i x1 x2 => by rw [rk3 _ (by omega), zAt_eq x1 x2]
            refine z_aload_n dMod_set_35 rfl ?_
            refine z_get (k := 0) fd_Mod (by decide) fl_Mod_11 dMod_set_36 (by assumption) (by rfl) ?_
            refine z_iload_n dMod_set_39 rfl ?_
            refine z_aald (t := 4) (ty := .array .int) rfl rfl dMod_set_40 n3 (by refine ⟨?_, ?_, ?_⟩ <;> omega) ?_
            rw [show (k : Int).toNat = k from rfl, n3a k (by omega)]
            refine z_iload_n dMod_set_41 rfl ?_
            refine z_iald dMod_set_42 (by assumption) (by refine ⟨?_, ?_, ?_⟩ <;> omega) ?_
            rw [ezk _ (by omega) (by omega)]
            refine z_istore dMod_set_43 (Nat.le_of_ble_eq_true rfl) ?_
            refine z_aload_n dMod_set_45 rfl ?_
            refine z_get (k := 0) fd_Mod (by decide) fl_Mod_11 dMod_set_46 (by assumption) (by rfl) ?_
            refine z_iload_n dMod_set_49 rfl ?_
            refine z_aald (t := 4) (ty := .array .int) rfl rfl dMod_set_50 n3 (by refine ⟨?_, ?_, ?_⟩ <;> omega) ?_
            rw [show (k : Int).toNat = k from rfl, n3a k (by omega)]
            refine z_iload_n dMod_set_51 rfl ?_
            refine z_iload_n dMod_set_52 rfl ?_
            refine z_iast dMod_set_53 (by assumption) (by refine ⟨?_, ?_, ?_⟩ <;> omega) ?_
            refine z_hx (fun h2 p2 g2 => ?_)
            have hs : zSet (S.1 k) q x = (S.1 k).set q.toNat x := if_pos (by omega)
            have hr2 : zAr G h2 (ma (8 + k)) (zSet (S.1 k) q x) := by
              refine ⟨_, by rw [zSet_len]; exact p2, by rw [zSet_len]; exact rk2, fun j hj => ?_, fun j hj => ?_⟩
              · rw [zSet_len] at hj
                rw [zSet_at _ _ _ hj]
                by_cases e9 : (j : Int) = q
                · rw [if_pos e9, show j = q.toNat by omega, zup_same]
                · rw [if_neg e9, zup_ne (by omega)]
                  exact rk3 j hj
              · rw [zSet_len] at hj
                rw [zSet_at _ _ _ hj]
                split
                · omega
                · exact rk4 j hj
            have H2 : zMod G h2 ma (zsL S k (zSet (S.1 k) q x)) t9 := H1.row1 (by omega) hr2 g2
            have fz2 : zMfr ma h h2 := fz1.tr (zMfr.of1 (i := 8 + k) (by omega) g2)
            refine z_iload dMod_set_54 rfl ?_
            refine z_iret rfl rfl dMod_set_56 ?_
            rcases (show t9 = 0 ∨ t9 = 1 ∨ t9 = 2 ∨ t9 = 3 by omega) with t0 | t0 | t0 | t0
            all_goals first
              | (exfalso; omega)
              | exact zQm.ok H2 (by omega) (by assumption) (by unfold sp_set; (try unfold spPut); (try simp only [Int.toNat_natCast]); (repeat (first | rw [if_pos (by omega)] | rw [if_neg (by omega)] | rw [if_pos (by assumption)] | rw [if_neg (by assumption)] | rw [if_pos (True.intro : True)])); (try (first | rfl | (congr 2; omega) | (congr 1; congr 1; omega))); done)
              | exact zQm.b1 H2 (by omega) (by assumption) (by unfold sp_set; (try unfold spPut); (try simp only [Int.toNat_natCast]); (repeat (first | rw [if_pos (by omega)] | rw [if_neg (by omega)] | rw [if_pos (by assumption)] | rw [if_neg (by assumption)] | rw [if_pos (True.intro : True)])); (try (first | rfl | (congr 2; omega) | (congr 1; congr 1; omega))); done)
              | exact zQm.b2 H2 (by omega) (by assumption) (by unfold sp_set; (try unfold spPut); (try simp only [Int.toNat_natCast]); (repeat (first | rw [if_pos (by omega)] | rw [if_neg (by omega)] | rw [if_pos (by assumption)] | rw [if_neg (by assumption)] | rw [if_pos (True.intro : True)])); (try (first | rfl | (congr 2; omega) | (congr 1; congr 1; omega))); done)
              | exact zQm.b3 H2 (by omega) (by assumption) (by unfold sp_set; (try unfold spPut); (try simp only [Int.toNat_natCast]); (repeat (first | rw [if_pos (by omega)] | rw [if_neg (by omega)] | rw [if_pos (by assumption)] | rw [if_neg (by assumption)] | rw [if_pos (True.intro : True)])); (try (first | rfl | (congr 2; omega) | (congr 1; congr 1; omega))); done)
              | exact zQm.ok H1 (by omega) (by assumption) (by unfold sp_set; (try unfold spPut); (try simp only [Int.toNat_natCast]); (repeat (first | rw [if_pos (by omega)] | rw [if_neg (by omega)] | rw [if_pos (by assumption)] | rw [if_neg (by assumption)] | rw [if_pos (True.intro : True)])); (try (first | rfl | (congr 2; omega) | (congr 1; congr 1; omega))); done)
              | exact zQm.b1 H1 (by omega) (by assumption) (by unfold sp_set; (try unfold spPut); (try simp only [Int.toNat_natCast]); (repeat (first | rw [if_pos (by omega)] | rw [if_neg (by omega)] | rw [if_pos (by assumption)] | rw [if_neg (by assumption)] | rw [if_pos (True.intro : True)])); (try (first | rfl | (congr 2; omega) | (congr 1; congr 1; omega))); done)
              | exact zQm.b2 H1 (by omega) (by assumption) (by unfold sp_set; (try unfold spPut); (try simp only [Int.toNat_natCast]); (repeat (first | rw [if_pos (by omega)] | rw [if_neg (by omega)] | rw [if_pos (by assumption)] | rw [if_neg (by assumption)] | rw [if_pos (True.intro : True)])); (try (first | rfl | (congr 2; omega) | (congr 1; congr 1; omega))); done)
              | exact zQm.b3 H1 (by omega) (by assumption) (by unfold sp_set; (try unfold spPut); (try simp only [Int.toNat_natCast]); (repeat (first | rw [if_pos (by omega)] | rw [if_neg (by omega)] | rw [if_pos (by assumption)] | rw [if_neg (by assumption)] | rw [if_pos (True.intro : True)])); (try (first | rfl | (congr 2; omega) | (congr 1; congr 1; omega))); done)
          · refine z_iconst dMod_set_33 ?_
            refine z_iret rfl rfl dMod_set_34 ?_
            rcases (show t9 = 0 ∨ t9 = 1 ∨ t9 = 2 ∨ t9 = 3 by omega) with t0 | t0 | t0 | t0
            all_goals first
              | (exfalso; omega)
              | exact zQm.ok H2 (by omega) (by assumption) (by unfold sp_set; (try unfold spPut); (try simp only [Int.toNat_natCast]); (repeat (first | rw [if_pos (by omega)] | rw [if_neg (by omega)] | rw [if_pos (by assumption)] | rw [if_neg (by assumption)] | rw [if_pos (True.intro : True)])); (try (first | rfl | (congr 2; omega) | (congr 1; congr 1; omega))); done)
              | exact zQm.b1 H2 (by omega) (by assumption) (by unfold sp_set; (try unfold spPut); (try simp only [Int.toNat_natCast]); (repeat (first | rw [if_pos (by omega)] | rw [if_neg (by omega)] | rw [if_pos (by assumption)] | rw [if_neg (by assumption)] | rw [if_pos (True.intro : True)])); (try (first | rfl | (congr 2; omega) | (congr 1; congr 1; omega))); done)
              | exact zQm.b2 H2 (by omega) (by assumption) (by unfold sp_set; (try unfold spPut); (try simp only [Int.toNat_natCast]); (repeat (first | rw [if_pos (by omega)] | rw [if_neg (by omega)] | rw [if_pos (by assumption)] | rw [if_neg (by assumption)] | rw [if_pos (True.intro : True)])); (try (first | rfl | (congr 2; omega) | (congr 1; congr 1; omega))); done)
              | exact zQm.b3 H2 (by omega) (by assumption) (by unfold sp_set; (try unfold spPut); (try simp only [Int.toNat_natCast]); (repeat (first | rw [if_pos (by omega)] | rw [if_neg (by omega)] | rw [if_pos (by assumption)] | rw [if_neg (by assumption)] | rw [if_pos (True.intro : True)])); (try (first | rfl | (congr 2; omega) | (congr 1; congr 1; omega))); done)
              | exact zQm.ok H1 (by omega) (by assumption) (by unfold sp_set; (try unfold spPut); (try simp only [Int.toNat_natCast]); (repeat (first | rw [if_pos (by omega)] | rw [if_neg (by omega)] | rw [if_pos (by assumption)] | rw [if_neg (by assumption)] | rw [if_pos (True.intro : True)])); (try (first | rfl | (congr 2; omega) | (congr 1; congr 1; omega))); done)
              | exact zQm.b1 H1 (by omega) (by assumption) (by unfold sp_set; (try unfold spPut); (try simp only [Int.toNat_natCast]); (repeat (first | rw [if_pos (by omega)] | rw [if_neg (by omega)] | rw [if_pos (by assumption)] | rw [if_neg (by assumption)] | rw [if_pos (True.intro : True)])); (try (first | rfl | (congr 2; omega) | (congr 1; congr 1; omega))); done)
              | exact zQm.b2 H1 (by omega) (by assumption) (by unfold sp_set; (try unfold spPut); (try simp only [Int.toNat_natCast]); (repeat (first | rw [if_pos (by omega)] | rw [if_neg (by omega)] | rw [if_pos (by assumption)] | rw [if_neg (by assumption)] | rw [if_pos (True.intro : True)])); (try (first | rfl | (congr 2; omega) | (congr 1; congr 1; omega))); done)
              | exact zQm.b3 H1 (by omega) (by assumption) (by unfold sp_set; (try unfold spPut); (try simp only [Int.toNat_natCast]); (repeat (first | rw [if_pos (by omega)] | rw [if_neg (by omega)] | rw [if_pos (by assumption)] | rw [if_neg (by assumption)] | rw [if_pos (True.intro : True)])); (try (first | rfl | (congr 2; omega) | (congr 1; congr 1; omega))); done)
        · refine z_iconst dMod_set_17 ?_
          refine z_goto (tgt := 22) dMod_set_18 (by decide) ?_
          refine z_iload_n dMod_set_22 rfl ?_
          refine z_callS MS_Mod_isNoItem lk_Mod_85 dMod_set_23 (k_Mod_isNoItem (by omega)) rfl rfl (Nat.le_of_ble_eq_true rfl)  (Nat.le_of_ble_eq_true rfl) (Nat.le_of_ble_eq_true rfl) (Nat.le_of_eq (Nat.zero_add _)) (Nat.le_of_eq (Nat.zero_add _)) (fun _ _ q => q.elim) ?_
          rintro _ _ ⟨i9, rfl, hi9, rfl⟩
          refine z_iconst dMod_set_26 ?_
          refine z_callV MV_Mod_fails lk_Mod_88 dMod_set_27 (k_Mod_fails (by assumption) rfl (by omega) (by omega) (by omega)) rfl rfl (Nat.le_of_ble_eq_true rfl) rfl (by assumption) (Nat.le_of_ble_eq_true rfl) (Nat.le_of_ble_eq_true rfl) (Nat.le_of_eq (Nat.zero_add _)) (Nat.le_of_eq (Nat.zero_add _)) (fun _ _ q => q.elim) ?_
          rintro _ h1 ⟨t9, b8, rfl, ht, p1, g1⟩
          have H1 : zMod G h1 ma S t9 := H.obj (nu := S.2.2.2.2) (th' := t9) p1 g1
          have fz1 : zMfr ma h h1 := zMfr.of0 g1
          obtain ⟨-, n2, ⟨gg, n3, n3a⟩, n4, ⟨f61, n5, n5a⟩, n6, n7⟩ := id H1
          unfold zMfs at n2
          refine z_if_eq (tgt := 35) dMod_set_30 (by decide) (by omega) (fun c30 => ?_) (fun c30 => ?_)
          · obtain ⟨frk, rk1, rk2, rk3, rk4⟩ := id (n6 k (by omega))
            have ezk : ∀ i : Int, 0 ≤ i → i < ((S.1 k).length : Int) → frk i.toNat = zAt (S.1 k) i := fun i x1 x2 => by rw [rk3 _ (by omega), zAt_eq x1 x2]
            refine z_aload_n dMod_set_35 rfl ?_
            refine z_get (k := 0) fd_Mod (by decide) fl_Mod_11 dMod_set_36 (by assumption) (by rfl) ?_
            refine z_iload_n dMod_set_39 rfl ?_
            refine z_aald (t := 4) (ty := .array .int) rfl rfl dMod_set_40 n3 (by refine ⟨?_, ?_, ?_⟩ <;> omega) ?_
            rw [show (k : Int).toNat = k from rfl, n3a k (by omega)]
            refine z_iload_n dMod_set_41 rfl ?_
            refine z_iald dMod_set_42 (by assumption) (by refine ⟨?_, ?_, ?_⟩ <;> omega) ?_
            rw [ezk _ (by omega) (by omega)]
            refine z_istore dMod_set_43 (Nat.le_of_ble_eq_true rfl) ?_
            refine z_aload_n dMod_set_45 rfl ?_
            refine z_get (k := 0) fd_Mod (by decide) fl_Mod_11 dMod_set_46 (by assumption) (by rfl) ?_
            refine z_iload_n dMod_set_49 rfl ?_
            refine z_aald (t := 4) (ty := .array .int) rfl rfl dMod_set_50 n3 (by refine ⟨?_, ?_, ?_⟩ <;> omega) ?_
            rw [show (k : Int).toNat = k from rfl, n3a k (by omega)]
            refine z_iload_n dMod_set_51 rfl ?_
            refine z_iload_n dMod_set_52 rfl ?_
            refine z_iast dMod_set_53 (by assumption) (by refine ⟨?_, ?_, ?_⟩ <;> omega) ?_
            refine z_hx (fun h2 p2 g2 => ?_)
            have hs : zSet (S.1 k) q x = (S.1 k).set q.toNat x := if_pos (by omega)
            have hr2 : zAr G h2 (ma (8 + k)) (zSet (S.1 k) q x) := by
              refine ⟨_, by rw [zSet_len]; exact p2, by rw [zSet_len]; exact rk2, fun j hj => ?_, fun j hj => ?_⟩
              · rw [zSet_len] at hj
                rw [zSet_at _ _ _ hj]
                by_cases e9 : (j : Int) = q
                · rw [if_pos e9, show j = q.toNat by omega, zup_same]
                · rw [if_neg e9, zup_ne (by omega)]
                  exact rk3 j hj
              · rw [zSet_len] at hj
                rw [zSet_at _ _ _ hj]
                split
                · omega
                · exact rk4 j hj
            have H2 : zMod G h2 ma (zsL S k (zSet (S.1 k) q x)) t9 := H1.row1 (by omega) hr2 g2
            have fz2 : zMfr ma h h2 := fz1.tr (zMfr.of1 (i := 8 + k) (by omega) g2)
            refine z_iload dMod_set_54 rfl ?_
            refine z_iret rfl rfl dMod_set_56 ?_
            rcases (show t9 = 0 ∨ t9 = 1 ∨ t9 = 2 ∨ t9 = 3 by omega) with t0 | t0 | t0 | t0
            all_goals first
              | (exfalso; omega)
              | exact zQm.ok H2 (by omega) (by assumption) (by unfold sp_set; (try unfold spPut); (try simp only [Int.toNat_natCast]); (repeat (first | rw [if_pos (by omega)] | rw [if_neg (by omega)] | rw [if_pos (by assumption)] | rw [if_neg (by assumption)] | rw [if_pos (True.intro : True)])); (try (first | rfl | (congr 2; omega) | (congr 1; congr 1; omega))); done)
              | exact zQm.b1 H2 (by omega) (by assumption) (by unfold sp_set; (try unfold spPut); (try simp only [Int.toNat_natCast]); (repeat (first | rw [if_pos (by omega)] | rw [if_neg (by omega)] | rw [if_pos (by assumption)] | rw [if_neg (by assumption)] | rw [if_pos (True.intro : True)])); (try (first | rfl | (congr 2; omega) | (congr 1; congr 1; omega))); done)
              | exact zQm.b2 H2 (by omega) (by assumption) (by unfold sp_set; (try unfold spPut); (try simp only [Int.toNat_natCast]); (repeat (first | rw [if_pos (by omega)] | rw [if_neg (by omega)] | rw [if_pos (by assumption)] | rw [if_neg (by assumption)] | rw [if_pos (True.intro : True)])); (try (first | rfl | (congr 2; omega) | (congr 1; congr 1; omega))); done)
              | exact zQm.b3 H2 (by omega) (by assumption) (by unfold sp_set; (try unfold spPut); (try simp only [Int.toNat_natCast]); (repeat (first | rw [if_pos (by omega)] | rw [if_neg (by omega)] | rw [if_pos (by assumption)] | rw [if_neg (by assumption)] | rw [if_pos (True.intro : True)])); (try (first | rfl | (congr 2; omega) | (congr 1; congr 1; omega))); done)
              | exact zQm.ok H1 (by omega) (by assumption) (by unfold sp_set; (try unfold spPut); (try simp only [Int.toNat_natCast]); (repeat (first | rw [if_pos (by omega)] | rw [if_neg (by omega)] | rw [if_pos (by assumption)] | rw [if_neg (by assumption)] | rw [if_pos (True.intro : True)])); (try (first | rfl | (congr 2; omega) | (congr 1; congr 1; omega))); done)
              | exact zQm.b1 H1 (by omega) (by assumption) (by unfold sp_set; (try unfold spPut); (try simp only [Int.toNat_natCast]); (repeat (first | rw [if_pos (by omega)] | rw [if_neg (by omega)] | rw [if_pos (by assumption)] | rw [if_neg (by assumption)] | rw [if_pos (True.intro : True)])); (try (first | rfl | (congr 2; omega) | (congr 1; congr 1; omega))); done)
              | exact zQm.b2 H1 (by omega) (by assumption) (by unfold sp_set; (try unfold spPut); (try simp only [Int.toNat_natCast]); (repeat (first | rw [if_pos (by omega)] | rw [if_neg (by omega)] | rw [if_pos (by assumption)] | rw [if_neg (by assumption)] | rw [if_pos (True.intro : True)])); (try (first | rfl | (congr 2; omega) | (congr 1; congr 1; omega))); done)
              | exact zQm.b3 H1 (by omega) (by assumption) (by unfold sp_set; (try unfold spPut); (try simp only [Int.toNat_natCast]); (repeat (first | rw [if_pos (by omega)] | rw [if_neg (by omega)] | rw [if_pos (by assumption)] | rw [if_neg (by assumption)] | rw [if_pos (True.intro : True)])); (try (first | rfl | (congr 2; omega) | (congr 1; congr 1; omega))); done)
          · refine z_iconst dMod_set_33 ?_
            refine z_iret rfl rfl dMod_set_34 ?_
            rcases (show t9 = 0 ∨ t9 = 1 ∨ t9 = 2 ∨ t9 = 3 by omega) with t0 | t0 | t0 | t0
            all_goals first
              | (exfalso; omega)
              | exact zQm.ok H2 (by omega) (by assumption) (by unfold sp_set; (try unfold spPut); (try simp only [Int.toNat_natCast]); (repeat (first | rw [if_pos (by omega)] | rw [if_neg (by omega)] | rw [if_pos (by assumption)] | rw [if_neg (by assumption)] | rw [if_pos (True.intro : True)])); (try (first | rfl | (congr 2; omega) | (congr 1; congr 1; omega))); done)
              | exact zQm.b1 H2 (by omega) (by assumption) (by unfold sp_set; (try unfold spPut); (try simp only [Int.toNat_natCast]); (repeat (first | rw [if_pos (by omega)] | rw [if_neg (by omega)] | rw [if_pos (by assumption)] | rw [if_neg (by assumption)] | rw [if_pos (True.intro : True)])); (try (first | rfl | (congr 2; omega) | (congr 1; congr 1; omega))); done)
              | exact zQm.b2 H2 (by omega) (by assumption) (by unfold sp_set; (try unfold spPut); (try simp only [Int.toNat_natCast]); (repeat (first | rw [if_pos (by omega)] | rw [if_neg (by omega)] | rw [if_pos (by assumption)] | rw [if_neg (by assumption)] | rw [if_pos (True.intro : True)])); (try (first | rfl | (congr 2; omega) | (congr 1; congr 1; omega))); done)
              | exact zQm.b3 H2 (by omega) (by assumption) (by unfold sp_set; (try unfold spPut); (try simp only [Int.toNat_natCast]); (repeat (first | rw [if_pos (by omega)] | rw [if_neg (by omega)] | rw [if_pos (by assumption)] | rw [if_neg (by assumption)] | rw [if_pos (True.intro : True)])); (try (first | rfl | (congr 2; omega) | (congr 1; congr 1; omega))); done)
              | exact zQm.ok H1 (by omega) (by assumption) (by unfold sp_set; (try unfold spPut); (try simp only [Int.toNat_natCast]); (repeat (first | rw [if_pos (by omega)] | rw [if_neg (by omega)] | rw [if_pos (by assumption)] | rw [if_neg (by assumption)] | rw [if_pos (True.intro : True)])); (try (first | rfl | (congr 2; omega) | (congr 1; congr 1; omega))); done)
              | exact zQm.b1 H1 (by omega) (by assumption) (by unfold sp_set; (try unfold spPut); (try simp only [Int.toNat_natCast]); (repeat (first | rw [if_pos (by omega)] | rw [if_neg (by omega)] | rw [if_pos (by assumption)] | rw [if_neg (by assumption)] | rw [if_pos (True.intro : True)])); (try (first | rfl | (congr 2; omega) | (congr 1; congr 1; omega))); done)
              | exact zQm.b2 H1 (by omega) (by assumption) (by unfold sp_set; (try unfold spPut); (try simp only [Int.toNat_natCast]); (repeat (first | rw [if_pos (by omega)] | rw [if_neg (by omega)] | rw [if_pos (by assumption)] | rw [if_neg (by assumption)] | rw [if_pos (True.intro : True)])); (try (first | rfl | (congr 2; omega) | (congr 1; congr 1; omega))); done)
              | exact zQm.b3 H1 (by omega) (by assumption) (by unfold sp_set; (try unfold spPut); (try simp only [Int.toNat_natCast]); (repeat (first | rw [if_pos (by omega)] | rw [if_neg (by omega)] | rw [if_pos (by assumption)] | rw [if_neg (by assumption)] | rw [if_pos (True.intro : True)])); (try (first | rfl | (congr 2; omega) | (congr 1; congr 1; omega))); done)
end MOD6
