section MOD4
variable {G : zG} {l : Launch} {h h' : zHp} {ma : Nat → Nat} {S : zSt} {th : Int}
/-- the model's answer is r's, and what it says it threw is c1, c2, c3 for the three classes -/
def zQm (G : zG) (ma : Nat → Nat) (h : zHp) (c1 c2 c3 : Int) (r : zRes) : Option Value → zHp → Prop := fun v h' => ∃ (ma' : Nat → Nat) (th z : Int), v = some (zi z) ∧ ma' 0 = ma 0 ∧ zMod G h' ma' r.2 th ∧ zMfr ma h h' ∧ (∀ i, i < 13 → ma' i = ma i ∨ (zDm h (ma' i) ∧ G.2.2 ≤ ma' i)) ∧ ((r.1 = .inl z ∧ th = 0) ∨ (r.1 = .inr zE1 ∧ th = c1) ∨ (r.1 = .inr zE2 ∧ th = c2) ∨ (r.1 = .inr zE3 ∧ th = c3))
theorem zQm.ok {c1 c2 c3 z : Int} {S' : zSt} {r : zRes} (H : zMod G h' ma S' th) (t0 : th = 0) (hf : zMfr ma h h') (e : r = (.inl z, S')) : zQm G ma h c1 c2 c3 r (some (zi z)) h' := by
  subst e
  exact ⟨ma, th, z, rfl, rfl, H, hf, fun _ _ => Or.inl rfl, Or.inl ⟨rfl, t0⟩⟩
theorem zQm.b1 {c1 c2 c3 z : Int} {S' : zSt} {r : zRes} (H : zMod G h' ma S' th) (t0 : th = c1) (hf : zMfr ma h h') (e : r = (.inr zE1, S')) : zQm G ma h c1 c2 c3 r (some (zi z)) h' := by
  subst e
  exact ⟨ma, th, z, rfl, rfl, H, hf, fun _ _ => Or.inl rfl, Or.inr (Or.inl ⟨rfl, t0⟩)⟩
theorem zQm.b2 {c1 c2 c3 z : Int} {S' : zSt} {r : zRes} (H : zMod G h' ma S' th) (t0 : th = c2) (hf : zMfr ma h h') (e : r = (.inr zE2, S')) : zQm G ma h c1 c2 c3 r (some (zi z)) h' := by
  subst e
  exact ⟨ma, th, z, rfl, rfl, H, hf, fun _ _ => Or.inl rfl, Or.inr (Or.inr (Or.inl ⟨rfl, t0⟩))⟩
theorem zQm.b3 {c1 c2 c3 z : Int} {S' : zSt} {r : zRes} (H : zMod G h' ma S' th) (t0 : th = c3) (hf : zMfr ma h h') (e : r = (.inr zE3, S')) : zQm G ma h c1 c2 c3 r (some (zi z)) h' := by
  subst e
  exact ⟨ma, th, z, rfl, rfl, H, hf, fun _ _ => Or.inl rfl, Or.inr (Or.inr (Or.inr ⟨rfl, t0⟩))⟩
theorem k_Mod_size {p : Int} (H : zMod G h ma S th) (z_p : zI32 p)  : zM G l hMod_size yMod_size 3 [.ref (ma 0), zi p] h (zQm G ma h (1) (2) (3) (sp_size S p)) zNo 0 0 := by
  obtain ⟨m1, m2, ⟨g, m3, m3a⟩, m4, ⟨f6, m5, m5a⟩, m6, m7⟩ := id H
  unfold zMfs at m2
  refine zM.of [some (.ref (ma 0)), some (zi p)] (by decide +kernel) rfl (by decide) rfl (Nat.le_of_ble_eq_true rfl) rfl ?_
  refine z_aload_n dMod_size_0 rfl ?_
  refine z_iload_n dMod_size_1 rfl ?_
  refine z_callS MS_Mod_isNo lk_Mod_81 dMod_size_2 (k_Mod_isNo (by omega)) rfl rfl (Nat.le_of_ble_eq_true rfl)  (Nat.le_of_ble_eq_true rfl) (Nat.le_of_ble_eq_true rfl) (Nat.le_of_eq (Nat.zero_add _)) (Nat.le_of_eq (Nat.zero_add _)) (fun _ _ q => q.elim) ?_
  rintro _ _ ⟨n9, rfl, hn9, rfl⟩
  refine z_iconst dMod_size_5 ?_
  refine z_iconst dMod_size_6 ?_
  refine z_callV MV_Mod_fails lk_Mod_88 dMod_size_7 (k_Mod_fails (by assumption) rfl (by omega) (by omega) (by omega)) rfl rfl (Nat.le_of_ble_eq_true rfl) rfl (by assumption) (Nat.le_of_ble_eq_true rfl) (Nat.le_of_ble_eq_true rfl) (Nat.le_of_eq (Nat.zero_add _)) (Nat.le_of_eq (Nat.zero_add _)) (fun _ _ q => q.elim) ?_
  rintro _ h1 ⟨t9, b8, rfl, ht, p1, g1⟩
  have H1 : zMod G h1 ma S t9 := H.obj (nu := S.2.2.2.2) (th' := t9) p1 g1
  have fz1 : zMfr ma h h1 := zMfr.of0 g1
  obtain ⟨-, n2, ⟨gg, n3, n3a⟩, n4, ⟨f61, n5, n5a⟩, n6, n7⟩ := id H1
  unfold zMfs at n2
  refine z_if_eq (tgt := 17) dMod_size_10 (by decide) (by omega) (fun c10 => ?_) (fun c10 => ?_)
  · obtain ⟨k, rfl⟩ := Int.eq_ofNat_of_zero_le (show 0 ≤ p by omega)
    obtain ⟨frk, rk1, rk2, rk3, rk4⟩ := id (n6 k (by omega))
    refine z_aload_n dMod_size_17 rfl ?_
    refine z_get (k := 0) fd_Mod (by decide) fl_Mod_11 dMod_size_18 (by assumption) (by rfl) ?_
    refine z_iload_n dMod_size_21 rfl ?_
    refine z_aald (t := 4) (ty := .array .int) rfl rfl dMod_size_22 n3 (by refine ⟨?_, ?_, ?_⟩ <;> omega) ?_
    rw [show (k : Int).toNat = k from rfl, n3a k (by omega)]
    refine z_alenI dMod_size_23 (by assumption) ?_
    refine z_iret rfl rfl dMod_size_24 ?_
    first
      | (exfalso; omega)
      | exact zQm.ok H1 (by omega) (by assumption) (by unfold sp_size; (try unfold spPut); (try simp only [Int.toNat_natCast]); (repeat (first | rw [if_pos (by omega)] | rw [if_neg (by omega)] | rw [if_pos (by assumption)] | rw [if_neg (by assumption)] | rw [if_pos (True.intro : True)])); (try (first | rfl | (congr 2; omega) | (congr 1; congr 1; omega))); done)
      | exact zQm.b1 H1 (by omega) (by assumption) (by unfold sp_size; (try unfold spPut); (try simp only [Int.toNat_natCast]); (repeat (first | rw [if_pos (by omega)] | rw [if_neg (by omega)] | rw [if_pos (by assumption)] | rw [if_neg (by assumption)] | rw [if_pos (True.intro : True)])); (try (first | rfl | (congr 2; omega) | (congr 1; congr 1; omega))); done)
      | exact zQm.b2 H1 (by omega) (by assumption) (by unfold sp_size; (try unfold spPut); (try simp only [Int.toNat_natCast]); (repeat (first | rw [if_pos (by omega)] | rw [if_neg (by omega)] | rw [if_pos (by assumption)] | rw [if_neg (by assumption)] | rw [if_pos (True.intro : True)])); (try (first | rfl | (congr 2; omega) | (congr 1; congr 1; omega))); done)
      | exact zQm.b3 H1 (by omega) (by assumption) (by unfold sp_size; (try unfold spPut); (try simp only [Int.toNat_natCast]); (repeat (first | rw [if_pos (by omega)] | rw [if_neg (by omega)] | rw [if_pos (by assumption)] | rw [if_neg (by assumption)] | rw [if_pos (True.intro : True)])); (try (first | rfl | (congr 2; omega) | (congr 1; congr 1; omega))); done)
  · refine z_iconst dMod_size_13 ?_
    refine z_goto (tgt := 24) dMod_size_14 (by decide) ?_
    refine z_iret rfl rfl dMod_size_24 ?_
    first
      | (exfalso; omega)
      | exact zQm.ok H1 (by omega) (by assumption) (by unfold sp_size; (try unfold spPut); (try simp only [Int.toNat_natCast]); (repeat (first | rw [if_pos (by omega)] | rw [if_neg (by omega)] | rw [if_pos (by assumption)] | rw [if_neg (by assumption)] | rw [if_pos (True.intro : True)])); (try (first | rfl | (congr 2; omega) | (congr 1; congr 1; omega))); done)
      | exact zQm.b1 H1 (by omega) (by assumption) (by unfold sp_size; (try unfold spPut); (try simp only [Int.toNat_natCast]); (repeat (first | rw [if_pos (by omega)] | rw [if_neg (by omega)] | rw [if_pos (by assumption)] | rw [if_neg (by assumption)] | rw [if_pos (True.intro : True)])); (try (first | rfl | (congr 2; omega) | (congr 1; congr 1; omega))); done)
      | exact zQm.b2 H1 (by omega) (by assumption) (by unfold sp_size; (try unfold spPut); (try simp only [Int.toNat_natCast]); (repeat (first | rw [if_pos (by omega)] | rw [if_neg (by omega)] | rw [if_pos (by assumption)] | rw [if_neg (by assumption)] | rw [if_pos (True.intro : True)])); (try (first | rfl | (congr 2; omega) | (congr 1; congr 1; omega))); done)
      | exact zQm.b3 H1 (by omega) (by assumption) (by unfold sp_size; (try unfold spPut); (try simp only [Int.toNat_natCast]); (repeat (first | rw [if_pos (by omega)] | rw [if_neg (by omega)] | rw [if_pos (by assumption)] | rw [if_neg (by assumption)] | rw [if_pos (True.intro : True)])); (try (first | rfl | (congr 2; omega) | (congr 1; congr 1; omega))); done)
theorem k_Mod_indexOf {p x b : Int} (H : zMod G h ma S th) (z_p : zI32 p) (z_x : zI32 x) (z_b : zI32 b) (hb : b = 0 ∨ b = 1) : zM G l hMod_indexOf yMod_indexOf 3 [.ref (ma 0), zi p, zi x, zi b] h (zQm G ma h (1) (2) (3) (sp_indexOf S p x b)) zNo 0 0 := by
  obtain ⟨m1, m2, ⟨g, m3, m3a⟩, m4, ⟨f6, m5, m5a⟩, m6, m7⟩ := id H
  unfold zMfs at m2
  refine zM.of [some (.ref (ma 0)), some (zi p), some (zi x), some (zi b)] (by decide +kernel) rfl (by decide) rfl (Nat.le_of_ble_eq_true rfl) rfl ?_
  refine z_aload_n dMod_indexOf_0 rfl ?_
  refine z_iload_n dMod_indexOf_1 rfl ?_
  refine z_callS MS_Mod_isNo lk_Mod_81 dMod_indexOf_2 (k_Mod_isNo (by omega)) rfl rfl (Nat.le_of_ble_eq_true rfl)  (Nat.le_of_ble_eq_true rfl) (Nat.le_of_ble_eq_true rfl) (Nat.le_of_eq (Nat.zero_add _)) (Nat.le_of_eq (Nat.zero_add _)) (fun _ _ q => q.elim) ?_
  rintro _ _ ⟨n9, rfl, hn9, rfl⟩
  refine z_iconst dMod_indexOf_5 ?_
  refine z_iconst dMod_indexOf_6 ?_
  refine z_callV MV_Mod_fails lk_Mod_88 dMod_indexOf_7 (k_Mod_fails (by assumption) rfl (by omega) (by omega) (by omega)) rfl rfl (Nat.le_of_ble_eq_true rfl) rfl (by assumption) (Nat.le_of_ble_eq_true rfl) (Nat.le_of_ble_eq_true rfl) (Nat.le_of_eq (Nat.zero_add _)) (Nat.le_of_eq (Nat.zero_add _)) (fun _ _ q => q.elim) ?_
  rintro _ h1 ⟨t9, b8, rfl, ht, p1, g1⟩
  have H1 : zMod G h1 ma S t9 := H.obj (nu := S.2.2.2.2) (th' := t9) p1 g1
  have fz1 : zMfr ma h h1 := zMfr.of0 g1
  obtain ⟨-, n2, ⟨gg, n3, n3a⟩, n4, ⟨f61, n5, n5a⟩, n6, n7⟩ := id H1
  unfold zMfs at n2
  refine z_if_eq (tgt := 17) dMod_indexOf_10 (by decide) (by omega) (fun c10 => ?_) (fun c10 => ?_)
  · obtain ⟨k, rfl⟩ := Int.eq_ofNat_of_zero_le (show 0 ≤ p by omega)
    obtain ⟨frk, rk1, rk2, rk3, rk4⟩ := id (n6 k (by omega))
    refine z_aload_n dMod_indexOf_17 rfl ?_
    refine z_get (k := 0) fd_Mod (by decide) fl_Mod_11 dMod_indexOf_18 (by assumption) (by rfl) ?_
    refine z_iload_n dMod_indexOf_21 rfl ?_
    refine z_aald (t := 4) (ty := .array .int) rfl rfl dMod_indexOf_22 n3 (by refine ⟨?_, ?_, ?_⟩ <;> omega) ?_
    rw [show (k : Int).toNat = k from rfl, n3a k (by omega)]
    refine z_iload_n dMod_indexOf_23 rfl ?_
    refine z_iload_n dMod_indexOf_24 rfl ?_
    refine z_callS MS_Mod_find lk_Mod_110 dMod_indexOf_25 (k_Mod_find (n6 k (by omega)) (by omega) (by omega)) rfl rfl (Nat.le_of_ble_eq_true rfl)  (Nat.le_of_ble_eq_true rfl) (Nat.le_of_ble_eq_true rfl) (Nat.le_of_eq (Nat.zero_add _)) (Nat.le_of_eq (Nat.zero_add _)) (fun _ _ q => q.elim) ?_
    rintro _ _ ⟨rfl, rfl⟩
    refine z_iret rfl rfl dMod_indexOf_28 ?_
    first
      | (exfalso; omega)
      | exact zQm.ok H1 (by omega) (by assumption) (by unfold sp_indexOf; (try unfold spPut); (try simp only [Int.toNat_natCast]); (repeat (first | rw [if_pos (by omega)] | rw [if_neg (by omega)] | rw [if_pos (by assumption)] | rw [if_neg (by assumption)] | rw [if_pos (True.intro : True)])); (try (first | rfl | (congr 2; omega) | (congr 1; congr 1; omega))); done)
      | exact zQm.b1 H1 (by omega) (by assumption) (by unfold sp_indexOf; (try unfold spPut); (try simp only [Int.toNat_natCast]); (repeat (first | rw [if_pos (by omega)] | rw [if_neg (by omega)] | rw [if_pos (by assumption)] | rw [if_neg (by assumption)] | rw [if_pos (True.intro : True)])); (try (first | rfl | (congr 2; omega) | (congr 1; congr 1; omega))); done)
      | exact zQm.b2 H1 (by omega) (by assumption) (by unfold sp_indexOf; (try unfold spPut); (try simp only [Int.toNat_natCast]); (repeat (first | rw [if_pos (by omega)] | rw [if_neg (by omega)] | rw [if_pos (by assumption)] | rw [if_neg (by assumption)] | rw [if_pos (True.intro : True)])); (try (first | rfl | (congr 2; omega) | (congr 1; congr 1; omega))); done)
      | exact zQm.b3 H1 (by omega) (by assumption) (by unfold sp_indexOf; (try unfold spPut); (try simp only [Int.toNat_natCast]); (repeat (first | rw [if_pos (by omega)] | rw [if_neg (by omega)] | rw [if_pos (by assumption)] | rw [if_neg (by assumption)] | rw [if_pos (True.intro : True)])); (try (first | rfl | (congr 2; omega) | (congr 1; congr 1; omega))); done)
  · refine z_iconst dMod_indexOf_13 ?_
    refine z_goto (tgt := 28) dMod_indexOf_14 (by decide) ?_
    refine z_iret rfl rfl dMod_indexOf_28 ?_
    first
      | (exfalso; omega)
      | exact zQm.ok H1 (by omega) (by assumption) (by unfold sp_indexOf; (try unfold spPut); (try simp only [Int.toNat_natCast]); (repeat (first | rw [if_pos (by omega)] | rw [if_neg (by omega)] | rw [if_pos (by assumption)] | rw [if_neg (by assumption)] | rw [if_pos (True.intro : True)])); (try (first | rfl | (congr 2; omega) | (congr 1; congr 1; omega))); done)
      | exact zQm.b1 H1 (by omega) (by assumption) (by unfold sp_indexOf; (try unfold spPut); (try simp only [Int.toNat_natCast]); (repeat (first | rw [if_pos (by omega)] | rw [if_neg (by omega)] | rw [if_pos (by assumption)] | rw [if_neg (by assumption)] | rw [if_pos (True.intro : True)])); (try (first | rfl | (congr 2; omega) | (congr 1; congr 1; omega))); done)
      | exact zQm.b2 H1 (by omega) (by assumption) (by unfold sp_indexOf; (try unfold spPut); (try simp only [Int.toNat_natCast]); (repeat (first | rw [if_pos (by omega)] | rw [if_neg (by omega)] | rw [if_pos (by assumption)] | rw [if_neg (by assumption)] | rw [if_pos (True.intro : True)])); (try (first | rfl | (congr 2; omega) | (congr 1; congr 1; omega))); done)
      | exact zQm.b3 H1 (by omega) (by assumption) (by unfold sp_indexOf; (try unfold spPut); (try simp only [Int.toNat_natCast]); (repeat (first | rw [if_pos (by omega)] | rw [if_neg (by omega)] | rw [if_pos (by assumption)] | rw [if_neg (by assumption)] | rw [if_pos (True.intro : True)])); (try (first | rfl | (congr 2; omega) | (congr 1; congr 1; omega))); done)
end MOD4
