section MOD9
variable {G : zG} {l : Launch} {h h' : zHp} {ma : Nat → Nat} {S : zSt} {th : Int}
theorem zMod.dom (H : zMod G h ma S th) {i : Nat} (hi : i < 13) : ∃ e, h (ma i) = some e := by
  obtain ⟨m1, m2, ⟨g, m3, m3'⟩, ⟨⟨f1, a1, b1⟩, ⟨f2, a2, b2⟩, ⟨f3, a3, b3⟩, ⟨f4, a4, b4⟩, ⟨f5, a5, b5⟩⟩, ⟨f6, m5, m5'⟩, m6, m7⟩ := id H
  obtain ⟨g0, c0, -⟩ := m6 0 (by omega)
  obtain ⟨g1, c1, -⟩ := m6 1 (by omega)
  obtain ⟨g2, c2, -⟩ := m6 2 (by omega)
  obtain ⟨g3, c3, -⟩ := m6 3 (by omega)
  obtain ⟨g7, c7, -⟩ := m7
  rcases (show i = 0 ∨ i = 1 ∨ i = 2 ∨ i = 3 ∨ i = 4 ∨ i = 5 ∨ i = 6 ∨ i = 7 ∨ i = 8 ∨ i = 9 ∨ i = 10 ∨ i = 11 ∨ i = 12 by omega) with rfl | rfl | rfl | rfl | rfl | rfl | rfl | rfl | rfl | rfl | rfl | rfl | rfl
  all_goals exact ⟨_, by assumption⟩
theorem zMod.nq (H : zMod G h ma S th) {q : Nat} (hq : zDm h q) {i : Nat} (hi : i < 13) : q ≠ ma i := by
  obtain ⟨e, he⟩ := H.dom hi
  have := hq _ _ he
  omega
theorem zMod.same (H : zMod G h ma S th) (kp : ∀ i, i < 13 → h' (ma i) = h (ma i)) : zMod G h' ma S th := by
  obtain ⟨m1, m2, ⟨g, m3, m3'⟩, ⟨⟨f1, a1, b1⟩, ⟨f2, a2, b2⟩, ⟨f3, a3, b3⟩, ⟨f4, a4, b4⟩, ⟨f5, a5, b5⟩⟩, ⟨f6, m5, m5'⟩, m6, m7⟩ := id H
  exact ⟨m1, (kp 0 (by omega)).trans m2, ⟨g, (kp 1 (by omega)).trans m3, m3'⟩, ⟨⟨f1, (kp 2 (by omega)).trans a1, b1⟩, ⟨f2, (kp 3 (by omega)).trans a2, b2⟩, ⟨f3, (kp 4 (by omega)).trans a3, b3⟩, ⟨f4, (kp 5 (by omega)).trans a4, b4⟩, ⟨f5, (kp 6 (by omega)).trans a5, b5⟩⟩, ⟨f6, (kp 7 (by omega)).trans m5, m5'⟩, fun k hk => (m6 k hk).kept (kp _ (by omega)), m7.kept (kp 12 (by omega))⟩
theorem zMod.keep (H : zMod G h ma S th) {q : Nat} (hq : zDm h q) (hf : ∀ z, z ≠ q → h' z = h z) : zMod G h' ma S th := H.same (fun i hi => hf _ (fun e => H.nq hq hi e.symm))
theorem zMfr.new {q : Nat} (hq : zDm h q) (hf : ∀ z, z ≠ q → h' z = h z) : zMfr ma h h' := fun z e he _ => (hf z (fun ez => by have := hq _ _ he; omega)).trans he
theorem zMfr.of2 {i j : Nat} (hi : i < 13) (hj : j < 13) (hf : ∀ q, q ≠ ma i → q ≠ ma j → h' q = h q) : zMfr ma h h' := fun q e he hq => (hf q (hq i hi) (hq j hj)).trans he
theorem zDm.up {q : Nat} (hq : zDm h' q) (H0 : zMod G h' ma S th) (fz : zMfr ma h h') : zDm h q := by
  intro a e he
  by_cases c : ∃ i, i < 13 ∧ a = ma i
  · obtain ⟨i, hi, rfl⟩ := c
    obtain ⟨e9, h9⟩ := H0.dom hi
    exact hq _ _ h9
  · exact hq _ _ (fz a e he (fun i hi ea => c ⟨i, hi, ea⟩))
theorem zsL_id (S : zSt) (k : Nat) : zsL S k (S.1 k) = S := by
  have : zup S.1 k (S.1 k) = S.1 := by
    funext j
    unfold zup
    split
    · rename_i e; rw [e]
    · rfl
  unfold zsL
  rw [this]
/-- an answer after a row was put in another's stead -/
theorem zQm.okB {c1 c2 c3 z : Int} {k q : Nat} {S' : zSt} {r : zRes} (H : zMod G h' (zup ma (8 + k) q) S' th) (hq : q = ma (8 + k) ∨ (zDm h q ∧ G.2.2 ≤ q)) (t0 : th = 0) (hf : zMfr ma h h') (e : r = (.inl z, S')) : zQm G ma h c1 c2 c3 r (some (zi z)) h' := by
  subst e
  refine ⟨zup ma (8 + k) q, th, z, rfl, zup_ne (by omega), H, hf, fun i hi => ?_, Or.inl ⟨rfl, t0⟩⟩
  by_cases c : i = 8 + k
  · subst c
    rw [zup_same]
    exact hq
  · exact Or.inl (zup_ne c)
theorem zMfr.bec (hf : ∀ q, q ≠ ma 1 → q ≠ ma 3 → h' q = h q) : zMfr ma h h' := zMfr.of2 (i := 1) (j := 3) (by omega) (by omega) hf
theorem k_Mod_put {p w x : Int} (H : zMod G h ma S th) (z_p : zI32 p) (z_w : zI32 w) (z_x : zI32 x) (h16 : ∀ k, k < 4 → (S.1 k).length ≤ 16) : zM G l hMod_put yMod_put 4 [.ref (ma 0), zi p, zi w, zi x] h (zQm G ma h (1) (2) (3) (sp_put S p w x)) zNo 1 61 := by
  obtain ⟨m1, m2, ⟨g, m3, m3a⟩, m4, ⟨f6, m5, m5a⟩, m6, m7⟩ := id H
  unfold zMfs at m2
  refine zM.of [some (.ref (ma 0)), some (zi p), some (zi w), some (zi x)] (by decide +kernel) rfl (by decide) rfl (Nat.le_of_ble_eq_true rfl) rfl ?_
  refine z_aload_n dMod_put_0 rfl ?_
  refine z_iload_n dMod_put_1 rfl ?_
  refine z_callS MS_Mod_isNo lk_Mod_81 dMod_put_2 (k_Mod_isNo (by omega)) rfl rfl (Nat.le_of_ble_eq_true rfl)  (Nat.le_of_ble_eq_true rfl) (Nat.le_of_ble_eq_true rfl) (Nat.le_of_eq (Nat.zero_add _)) (Nat.le_of_eq (Nat.zero_add _)) (fun _ _ q => q.elim) ?_
  rintro _ _ ⟨n9, rfl, hn9, rfl⟩
  refine z_iload_n dMod_put_5 rfl ?_
  refine z_iconst dMod_put_6 ?_
  refine z_iconst dMod_put_7 ?_
  refine z_callS MS_Mod_isOut lk_Mod_41 dMod_put_8 (k_Mod_isOut (by omega) (by omega) (by omega)) rfl rfl (Nat.le_of_ble_eq_true rfl)  (Nat.le_of_ble_eq_true rfl) (Nat.le_of_ble_eq_true rfl) (Nat.le_of_eq (Nat.zero_add _)) (Nat.le_of_eq (Nat.zero_add _)) (fun _ _ q => q.elim) ?_
  rintro _ _ ⟨o9, rfl, (⟨rfl, ho9⟩ | ⟨rfl, ho9⟩), rfl⟩
  · refine z_if_ne (tgt := 21) dMod_put_11 (by decide) (by omega) (fun c11 => ?_) (fun c11 => ?_)
    · refine z_iconst dMod_put_21 ?_
      refine z_goto (tgt := 26) dMod_put_22 (by decide) ?_
      refine z_iconst dMod_put_26 ?_
      refine z_callV MV_Mod_fails lk_Mod_88 dMod_put_27 (k_Mod_fails (by assumption) rfl (by omega) (by omega) (by omega)) rfl rfl (Nat.le_of_ble_eq_true rfl) rfl (by assumption) (Nat.le_of_ble_eq_true rfl) (Nat.le_of_ble_eq_true rfl) (Nat.le_of_eq (Nat.zero_add _)) (Nat.le_of_eq (Nat.zero_add _)) (fun _ _ q => q.elim) ?_
      rintro _ h1 ⟨t9, b8, rfl, ht, p1, g1⟩
      have H1 : zMod G h1 ma S t9 := H.obj (nu := S.2.2.2.2) (th' := t9) p1 g1
      have fz1 : zMfr ma h h1 := zMfr.of0 g1
      obtain ⟨-, n2, ⟨gg, n3, n3a⟩, n4, ⟨f61, n5, n5a⟩, n6, n7⟩ := id H1
      unfold zMfs at n2
      refine z_if_eq (tgt := 35) dMod_put_30 (by decide) (by omega) (fun c30 => ?_) (fun c30 => ?_)
      · exfalso; omega
      · refine z_iconst dMod_put_33 ?_
        refine z_iret rfl rfl dMod_put_34 ?_
        by_cases hw9 : w = 1 ∨ w = 3 ∨ w = 5
        all_goals rcases (show t9 = 0 ∨ t9 = 1 ∨ t9 = 2 ∨ t9 = 3 by omega) with t0 | t0 | t0 | t0
        all_goals first
          | (exfalso; omega)
          | exact zQm.okB H3 (Or.inr ⟨dq2, gq2⟩) (by omega) (by assumption) (by unfold sp_put; (try unfold spPut); (try simp only [Int.toNat_natCast]); (repeat (first | rw [if_pos (by omega)] | rw [if_neg (by omega)] | rw [if_pos (by assumption)] | rw [if_neg (by assumption)] | rw [if_pos (True.intro : True)])); (try (first | rfl | (congr 2; omega) | (congr 1; congr 1; omega))); done)
          | exact zQm.ok H2 (by omega) (by assumption) (by unfold sp_put; (try unfold spPut); (try simp only [Int.toNat_natCast]); (repeat (first | rw [if_pos (by omega)] | rw [if_neg (by omega)] | rw [if_pos (by assumption)] | rw [if_neg (by assumption)] | rw [if_pos (True.intro : True)])); (try (first | rfl | (congr 2; omega) | (congr 1; congr 1; omega))); done)
          | exact zQm.b1 H2 (by omega) (by assumption) (by unfold sp_put; (try unfold spPut); (try simp only [Int.toNat_natCast]); (repeat (first | rw [if_pos (by omega)] | rw [if_neg (by omega)] | rw [if_pos (by assumption)] | rw [if_neg (by assumption)] | rw [if_pos (True.intro : True)])); (try (first | rfl | (congr 2; omega) | (congr 1; congr 1; omega))); done)
          | exact zQm.b2 H2 (by omega) (by assumption) (by unfold sp_put; (try unfold spPut); (try simp only [Int.toNat_natCast]); (repeat (first | rw [if_pos (by omega)] | rw [if_neg (by omega)] | rw [if_pos (by assumption)] | rw [if_neg (by assumption)] | rw [if_pos (True.intro : True)])); (try (first | rfl | (congr 2; omega) | (congr 1; congr 1; omega))); done)
          | exact zQm.b3 H2 (by omega) (by assumption) (by unfold sp_put; (try unfold spPut); (try simp only [Int.toNat_natCast]); (repeat (first | rw [if_pos (by omega)] | rw [if_neg (by omega)] | rw [if_pos (by assumption)] | rw [if_neg (by assumption)] | rw [if_pos (True.intro : True)])); (try (first | rfl | (congr 2; omega) | (congr 1; congr 1; omega))); done)
          | exact zQm.ok H1 (by omega) (by assumption) (by unfold sp_put; (try unfold spPut); (try simp only [Int.toNat_natCast]); (repeat (first | rw [if_pos (by omega)] | rw [if_neg (by omega)] | rw [if_pos (by assumption)] | rw [if_neg (by assumption)] | rw [if_pos (True.intro : True)])); (try (first | rfl | (congr 2; omega) | (congr 1; congr 1; omega))); done)
          | exact zQm.b1 H1 (by omega) (by assumption) (by unfold sp_put; (try unfold spPut); (try simp only [Int.toNat_natCast]); (repeat (first | rw [if_pos (by omega)] | rw [if_neg (by omega)] | rw [if_pos (by assumption)] | rw [if_neg (by assumption)] | rw [if_pos (True.intro : True)])); (try (first | rfl | (congr 2; omega) | (congr 1; congr 1; omega))); done)
          | exact zQm.b2 H1 (by omega) (by assumption) (by unfold sp_put; (try unfold spPut); (try simp only [Int.toNat_natCast]); (repeat (first | rw [if_pos (by omega)] | rw [if_neg (by omega)] | rw [if_pos (by assumption)] | rw [if_neg (by assumption)] | rw [if_pos (True.intro : True)])); (try (first | rfl | (congr 2; omega) | (congr 1; congr 1; omega))); done)
          | exact zQm.b3 H1 (by omega) (by assumption) (by unfold sp_put; (try unfold spPut); (try simp only [Int.toNat_natCast]); (repeat (first | rw [if_pos (by omega)] | rw [if_neg (by omega)] | rw [if_pos (by assumption)] | rw [if_neg (by assumption)] | rw [if_pos (True.intro : True)])); (try (first | rfl | (congr 2; omega) | (congr 1; congr 1; omega))); done)
    · exfalso; omega
  · refine z_if_ne (tgt := 21) dMod_put_11 (by decide) (by omega) (fun c11 => ?_) (fun c11 => ?_)
    · exfalso; omega
    · refine z_iload_n dMod_put_14 rfl ?_
      refine z_callS MS_Mod_isNoItem lk_Mod_85 dMod_put_15 (k_Mod_isNoItem (by omega)) rfl rfl (Nat.le_of_ble_eq_true rfl)  (Nat.le_of_ble_eq_true rfl) (Nat.le_of_ble_eq_true rfl) (Nat.le_of_eq (Nat.zero_add _)) (Nat.le_of_eq (Nat.zero_add _)) (fun _ _ q => q.elim) ?_
      rintro _ _ ⟨i9, rfl, (⟨rfl, hi9⟩ | ⟨rfl, hi9⟩), rfl⟩
      · refine z_if_eq (tgt := 25) dMod_put_18 (by decide) (by omega) (fun c18 => ?_) (fun c18 => ?_)
        · exfalso; omega
        · refine z_iconst dMod_put_21 ?_
          refine z_goto (tgt := 26) dMod_put_22 (by decide) ?_
          refine z_iconst dMod_put_26 ?_
          refine z_callV MV_Mod_fails lk_Mod_88 dMod_put_27 (k_Mod_fails (by assumption) rfl (by omega) (by omega) (by omega)) rfl rfl (Nat.le_of_ble_eq_true rfl) rfl (by assumption) (Nat.le_of_ble_eq_true rfl) (Nat.le_of_ble_eq_true rfl) (Nat.le_of_eq (Nat.zero_add _)) (Nat.le_of_eq (Nat.zero_add _)) (fun _ _ q => q.elim) ?_
          rintro _ h1 ⟨t9, b8, rfl, ht, p1, g1⟩
          have H1 : zMod G h1 ma S t9 := H.obj (nu := S.2.2.2.2) (th' := t9) p1 g1
          have fz1 : zMfr ma h h1 := zMfr.of0 g1
          obtain ⟨-, n2, ⟨gg, n3, n3a⟩, n4, ⟨f61, n5, n5a⟩, n6, n7⟩ := id H1
          unfold zMfs at n2
          refine z_if_eq (tgt := 35) dMod_put_30 (by decide) (by omega) (fun c30 => ?_) (fun c30 => ?_)
          · exfalso; omega
          · refine z_iconst dMod_put_33 ?_
            refine z_iret rfl rfl dMod_put_34 ?_
            by_cases hw9 : w = 1 ∨ w = 3 ∨ w = 5
            all_goals rcases (show t9 = 0 ∨ t9 = 1 ∨ t9 = 2 ∨ t9 = 3 by omega) with t0 | t0 | t0 | t0
            all_goals first
              | (exfalso; omega)
              | exact zQm.okB H3 (Or.inr ⟨dq2, gq2⟩) (by omega) (by assumption) (by unfold sp_put; (try unfold spPut); (try simp only [Int.toNat_natCast]); (repeat (first | rw [if_pos (by omega)] | rw [if_neg (by omega)] | rw [if_pos (by assumption)] | rw [if_neg (by assumption)] | rw [if_pos (True.intro : True)])); (try (first | rfl | (congr 2; omega) | (congr 1; congr 1; omega))); done)
              | exact zQm.ok H2 (by omega) (by assumption) (by unfold sp_put; (try unfold spPut); (try simp only [Int.toNat_natCast]); (repeat (first | rw [if_pos (by omega)] | rw [if_neg (by omega)] | rw [if_pos (by assumption)] | rw [if_neg (by assumption)] | rw [if_pos (True.intro : True)])); (try (first | rfl | (congr 2; omega) | (congr 1; congr 1; omega))); done)
              | exact zQm.b1 H2 (by omega) (by assumption) (by unfold sp_put; (try unfold spPut); (try simp only [Int.toNat_natCast]); (repeat (first | rw [if_pos (by omega)] | rw [if_neg (by omega)] | rw [if_pos (by assumption)] | rw [if_neg (by assumption)] | rw [if_pos (True.intro : True)])); (try (first | rfl | (congr 2; omega) | (congr 1; congr 1; omega))); done)
              | exact zQm.b2 H2 (by omega) (by assumption) (by unfold sp_put; (try unfold spPut); (try simp only [Int.toNat_natCast]); (repeat (first | rw [if_pos (by omega)] | rw [if_neg (by omega)] | rw [if_pos (by assumption)] | rw [if_neg (by assumption)] | rw [if_pos (True.intro : True)])); (try (first | rfl | (congr 2; omega) | (congr 1; congr 1; omega))); done)
              | exact zQm.b3 H2 (by omega) (by assumption) (by unfold sp_put; (try unfold spPut); (try simp only [Int.toNat_natCast]); (repeat (first | rw [if_pos (by omega)] | rw [if_neg (by omega)] | rw [if_pos (by assumption)] | rw [if_neg (by assumption)] | rw [if_pos (True.intro : True)])); (try (first | rfl | (congr 2; omega) | (congr 1; congr 1; omega))); done)
              | exact zQm.ok H1 (by omega) (by assumption) (by unfold sp_put; (try unfold spPut); (try simp only [Int.toNat_natCast]); (repeat (first | rw [if_pos (by omega)] | rw [if_neg (by omega)] | rw [if_pos (by assumption)] | rw [if_neg (by assumption)] | rw [if_pos (True.intro : True)])); (try (first | rfl | (congr 2; omega) | (congr 1; congr 1; omega))); done)
              | exact zQm.b1 H1 (by omega) (by assumption) (by unfold sp_put; (try unfold spPut); (try simp only [Int.toNat_natCast]); (repeat (first | rw [if_pos (by omega)] | rw [if_neg (by omega)] | rw [if_pos (by assumption)] | rw [if_neg (by assumption)] | rw [if_pos (True.intro : True)])); (try (first | rfl | (congr 2; omega) | (congr 1; congr 1; omega))); done)
              | exact zQm.b2 H1 (by omega) (by assumption) (by unfold sp_put; (try unfold spPut); (try simp only [Int.toNat_natCast]); (repeat (first | rw [if_pos (by omega)] | rw [if_neg (by omega)] | rw [if_pos (by assumption)] | rw [if_neg (by assumption)] | rw [if_pos (True.intro : True)])); (try (first | rfl | (congr 2; omega) | (congr 1; congr 1; omega))); done)
              | exact zQm.b3 H1 (by omega) (by assumption) (by unfold sp_put; (try unfold spPut); (try simp only [Int.toNat_natCast]); (repeat (first | rw [if_pos (by omega)] | rw [if_neg (by omega)] | rw [if_pos (by assumption)] | rw [if_neg (by assumption)] | rw [if_pos (True.intro : True)])); (try (first | rfl | (congr 2; omega) | (congr 1; congr 1; omega))); done)
      · refine z_if_eq (tgt := 25) dMod_put_18 (by decide) (by omega) (fun c18 => ?_) (fun c18 => ?_)
        · refine z_iconst dMod_put_25 ?_
          refine z_iconst dMod_put_26 ?_
          refine z_callV MV_Mod_fails lk_Mod_88 dMod_put_27 (k_Mod_fails (by assumption) rfl (by omega) (by omega) (by omega)) rfl rfl (Nat.le_of_ble_eq_true rfl) rfl (by assumption) (Nat.le_of_ble_eq_true rfl) (Nat.le_of_ble_eq_true rfl) (Nat.le_of_eq (Nat.zero_add _)) (Nat.le_of_eq (Nat.zero_add _)) (fun _ _ q => q.elim) ?_
          rintro _ h1 ⟨t9, b8, rfl, ht, p1, g1⟩
          have H1 : zMod G h1 ma S t9 := H.obj (nu := S.2.2.2.2) (th' := t9) p1 g1
          have fz1 : zMfr ma h h1 := zMfr.of0 g1
          obtain ⟨-, n2, ⟨gg, n3, n3a⟩, n4, ⟨f61, n5, n5a⟩, n6, n7⟩ := id H1
          unfold zMfs at n2
          refine z_if_eq (tgt := 35) dMod_put_30 (by decide) (by omega) (fun c30 => ?_) (fun c30 => ?_)
          · obtain ⟨k, rfl⟩ := Int.eq_ofNat_of_zero_le (show 0 ≤ p by omega)
            obtain ⟨frk, rk1, rk2, rk3, rk4⟩ := id (n6 k (by omega))
            have h16k := h16 k (by omega)
            have ezk : ∀ i : Int, 0 ≤ i → i < ((S.1 k).length : Int) → frk i.toNat = zAt (S.1 k) i := fun i x1 x2 => by rw [rk3 _ (by omega), zAt_eq x1 x2]
            refine z_aload_n dMod_put_35 rfl ?_
            refine z_get (k := 0) fd_Mod (by decide) fl_Mod_11 dMod_put_36 (by assumption) (by rfl) ?_
            refine z_iload_n dMod_put_39 rfl ?_
            refine z_aald (t := 4) (ty := .array .int) rfl rfl dMod_put_40 n3 (by refine ⟨?_, ?_, ?_⟩ <;> omega) ?_
            rw [show (k : Int).toNat = k from rfl, n3a k (by omega)]
            refine z_alenI dMod_put_41 (by assumption) ?_
            refine z_bipush dMod_put_42 rfl ?_
            refine z_icmp_ne (tgt := 52) dMod_put_44 (by decide) (by omega) (by omega) (fun c44 => ?_) (fun c44 => ?_)
            · refine z_aload_n dMod_put_52 rfl ?_
              refine z_iload_n dMod_put_53 rfl ?_
              refine z_aload_n dMod_put_54 rfl ?_
              refine z_get (k := 0) fd_Mod (by decide) fl_Mod_11 dMod_put_55 (by assumption) (by rfl) ?_
              refine z_iload_n dMod_put_58 rfl ?_
              refine z_aald (t := 4) (ty := .array .int) rfl rfl dMod_put_59 n3 (by refine ⟨?_, ?_, ?_⟩ <;> omega) ?_
              rw [show (k : Int).toNat = k from rfl, n3a k (by omega)]
              refine z_iload_n dMod_put_60 rfl ?_
              refine z_iconst dMod_put_61 ?_
              refine z_irem _ (zI_rem (by omega) (by omega)) (by decide) dMod_put_62 ?_
              rw [Int.tmod_eq_emod_of_nonneg (by omega)]
              refine z_if_ne (tgt := 70) dMod_put_63 (by decide) (by omega) (fun c63 => ?_) (fun c63 => ?_)
              · refine z_aload_n dMod_put_70 rfl ?_
                refine z_get (k := 0) fd_Mod (by decide) fl_Mod_11 dMod_put_71 (by assumption) (by rfl) ?_
                refine z_iload_n dMod_put_74 rfl ?_
                refine z_aald (t := 4) (ty := .array .int) rfl rfl dMod_put_75 n3 (by refine ⟨?_, ?_, ?_⟩ <;> omega) ?_
                rw [show (k : Int).toNat = k from rfl, n3a k (by omega)]
                refine z_alenI dMod_put_76 (by assumption) ?_
                refine z_iload_n dMod_put_77 rfl ?_
                refine z_callS (bc' := 0) (bs' := 0) MS_Mod_with lk_Mod_49 dMod_put_78 (k_Mod_with (n6 k (by omega)) (by omega) (by omega) (by omega)) rfl rfl (Nat.le_of_ble_eq_true rfl)  (Nat.le_of_ble_eq_true rfl) (Nat.le_of_ble_eq_true rfl) (by decide) (by decide) (fun _ _ q => q.elim) ?_
                rintro _ h2 ⟨q2, rfl, hq2, gq2, r2, F2⟩
                have H2 : zMod G h2 ma S t9 := H1.keep hq2 F2
                have fz2 : zMfr ma h h2 := fz1.tr (zMfr.new hq2 F2)
                have dq2 : zDm h q2 := hq2.up H1 fz1
                have oc2 := H2.2.1
                have hzl := fun p9 => zIns_len (S.1 k) p9 x
                have hzl0 := hzl 0
                have hzl1 := hzl (((S.1 k).length : Nat) : Int)
                refine z_callV MV_Mod_becomes lk_Mod_95 dMod_put_81 (k_Mod_becomes H2 (by omega) r2 (fun i hi _ => H1.nq hq2 hi)) rfl rfl (Nat.le_of_ble_eq_true rfl) rfl (by assumption) (Nat.le_of_ble_eq_true rfl) (Nat.le_of_ble_eq_true rfl) (Nat.le_of_eq (Nat.zero_add _)) (Nat.le_of_eq (Nat.zero_add _)) (fun _ _ q => q.elim) ?_
                rintro _ h3 ⟨rfl, H3, F3⟩
                have fz3 : zMfr ma h h3 := fz2.tr (zMfr.bec F3)
                refine z_iret rfl rfl dMod_put_84 ?_
                by_cases hw9 : w = 1 ∨ w = 3 ∨ w = 5
                all_goals rcases (show t9 = 0 ∨ t9 = 1 ∨ t9 = 2 ∨ t9 = 3 by omega) with t0 | t0 | t0 | t0
                all_goals first
                  | (exfalso; omega)
                  | exact zQm.okB H3 (Or.inr ⟨dq2, gq2⟩) (by omega) (by assumption) (by unfold sp_put; (try unfold spPut); (try simp only [Int.toNat_natCast]); (repeat (first | rw [if_pos (by omega)] | rw [if_neg (by omega)] | rw [if_pos (by assumption)] | rw [if_neg (by assumption)] | rw [if_pos (True.intro : True)])); (try (first | rfl | (congr 2; omega) | (congr 1; congr 1; omega))); done)
                  | exact zQm.ok H2 (by omega) (by assumption) (by unfold sp_put; (try unfold spPut); (try simp only [Int.toNat_natCast]); (repeat (first | rw [if_pos (by omega)] | rw [if_neg (by omega)] | rw [if_pos (by assumption)] | rw [if_neg (by assumption)] | rw [if_pos (True.intro : True)])); (try (first | rfl | (congr 2; omega) | (congr 1; congr 1; omega))); done)
                  | exact zQm.b1 H2 (by omega) (by assumption) (by unfold sp_put; (try unfold spPut); (try simp only [Int.toNat_natCast]); (repeat (first | rw [if_pos (by omega)] | rw [if_neg (by omega)] | rw [if_pos (by assumption)] | rw [if_neg (by assumption)] | rw [if_pos (True.intro : True)])); (try (first | rfl | (congr 2; omega) | (congr 1; congr 1; omega))); done)
                  | exact zQm.b2 H2 (by omega) (by assumption) (by unfold sp_put; (try unfold spPut); (try simp only [Int.toNat_natCast]); (repeat (first | rw [if_pos (by omega)] | rw [if_neg (by omega)] | rw [if_pos (by assumption)] | rw [if_neg (by assumption)] | rw [if_pos (True.intro : True)])); (try (first | rfl | (congr 2; omega) | (congr 1; congr 1; omega))); done)
                  | exact zQm.b3 H2 (by omega) (by assumption) (by unfold sp_put; (try unfold spPut); (try simp only [Int.toNat_natCast]); (repeat (first | rw [if_pos (by omega)] | rw [if_neg (by omega)] | rw [if_pos (by assumption)] | rw [if_neg (by assumption)] | rw [if_pos (True.intro : True)])); (try (first | rfl | (congr 2; omega) | (congr 1; congr 1; omega))); done)
                  | exact zQm.ok H1 (by omega) (by assumption) (by unfold sp_put; (try unfold spPut); (try simp only [Int.toNat_natCast]); (repeat (first | rw [if_pos (by omega)] | rw [if_neg (by omega)] | rw [if_pos (by assumption)] | rw [if_neg (by assumption)] | rw [if_pos (True.intro : True)])); (try (first | rfl | (congr 2; omega) | (congr 1; congr 1; omega))); done)
                  | exact zQm.b1 H1 (by omega) (by assumption) (by unfold sp_put; (try unfold spPut); (try simp only [Int.toNat_natCast]); (repeat (first | rw [if_pos (by omega)] | rw [if_neg (by omega)] | rw [if_pos (by assumption)] | rw [if_neg (by assumption)] | rw [if_pos (True.intro : True)])); (try (first | rfl | (congr 2; omega) | (congr 1; congr 1; omega))); done)
                  | exact zQm.b2 H1 (by omega) (by assumption) (by unfold sp_put; (try unfold spPut); (try simp only [Int.toNat_natCast]); (repeat (first | rw [if_pos (by omega)] | rw [if_neg (by omega)] | rw [if_pos (by assumption)] | rw [if_neg (by assumption)] | rw [if_pos (True.intro : True)])); (try (first | rfl | (congr 2; omega) | (congr 1; congr 1; omega))); done)
                  | exact zQm.b3 H1 (by omega) (by assumption) (by unfold sp_put; (try unfold spPut); (try simp only [Int.toNat_natCast]); (repeat (first | rw [if_pos (by omega)] | rw [if_neg (by omega)] | rw [if_pos (by assumption)] | rw [if_neg (by assumption)] | rw [if_pos (True.intro : True)])); (try (first | rfl | (congr 2; omega) | (congr 1; congr 1; omega))); done)
              · refine z_iconst dMod_put_66 ?_
                refine z_goto (tgt := 77) dMod_put_67 (by decide) ?_
                refine z_iload_n dMod_put_77 rfl ?_
                refine z_callS (bc' := 0) (bs' := 0) MS_Mod_with lk_Mod_49 dMod_put_78 (k_Mod_with (n6 k (by omega)) (by omega) (by omega) (by omega)) rfl rfl (Nat.le_of_ble_eq_true rfl)  (Nat.le_of_ble_eq_true rfl) (Nat.le_of_ble_eq_true rfl) (by decide) (by decide) (fun _ _ q => q.elim) ?_
                rintro _ h2 ⟨q2, rfl, hq2, gq2, r2, F2⟩
                have H2 : zMod G h2 ma S t9 := H1.keep hq2 F2
                have fz2 : zMfr ma h h2 := fz1.tr (zMfr.new hq2 F2)
                have dq2 : zDm h q2 := hq2.up H1 fz1
                have oc2 := H2.2.1
                have hzl := fun p9 => zIns_len (S.1 k) p9 x
                have hzl0 := hzl 0
                have hzl1 := hzl (((S.1 k).length : Nat) : Int)
                refine z_callV MV_Mod_becomes lk_Mod_95 dMod_put_81 (k_Mod_becomes H2 (by omega) r2 (fun i hi _ => H1.nq hq2 hi)) rfl rfl (Nat.le_of_ble_eq_true rfl) rfl (by assumption) (Nat.le_of_ble_eq_true rfl) (Nat.le_of_ble_eq_true rfl) (Nat.le_of_eq (Nat.zero_add _)) (Nat.le_of_eq (Nat.zero_add _)) (fun _ _ q => q.elim) ?_
                rintro _ h3 ⟨rfl, H3, F3⟩
                have fz3 : zMfr ma h h3 := fz2.tr (zMfr.bec F3)
                refine z_iret rfl rfl dMod_put_84 ?_
                by_cases hw9 : w = 1 ∨ w = 3 ∨ w = 5
                all_goals rcases (show t9 = 0 ∨ t9 = 1 ∨ t9 = 2 ∨ t9 = 3 by omega) with t0 | t0 | t0 | t0
                all_goals first
                  | (exfalso; omega)
                  | exact zQm.okB H3 (Or.inr ⟨dq2, gq2⟩) (by omega) (by assumption) (by unfold sp_put; (try unfold spPut); (try simp only [Int.toNat_natCast]); (repeat (first | rw [if_pos (by omega)] | rw [if_neg (by omega)] | rw [if_pos (by assumption)] | rw [if_neg (by assumption)] | rw [if_pos (True.intro : True)])); (try (first | rfl | (congr 2; omega) | (congr 1; congr 1; omega))); done)
                  | exact zQm.ok H2 (by omega) (by assumption) (by unfold sp_put; (try unfold spPut); (try simp only [Int.toNat_natCast]); (repeat (first | rw [if_pos (by omega)] | rw [if_neg (by omega)] | rw [if_pos (by assumption)] | rw [if_neg (by assumption)] | rw [if_pos (True.intro : True)])); (try (first | rfl | (congr 2; omega) | (congr 1; congr 1; omega))); done)
                  | exact zQm.b1 H2 (by omega) (by assumption) (by unfold sp_put; (try unfold spPut); (try simp only [Int.toNat_natCast]); (repeat (first | rw [if_pos (by omega)] | rw [if_neg (by omega)] | rw [if_pos (by assumption)] | rw [if_neg (by assumption)] | rw [if_pos (True.intro : True)])); (try (first | rfl | (congr 2; omega) | (congr 1; congr 1; omega))); done)
                  | exact zQm.b2 H2 (by omega) (by assumption) (by unfold sp_put; (try unfold spPut); (try simp only [Int.toNat_natCast]); (repeat (first | rw [if_pos (by omega)] | rw [if_neg (by omega)] | rw [if_pos (by assumption)] | rw [if_neg (by assumption)] | rw [if_pos (True.intro : True)])); (try (first | rfl | (congr 2; omega) | (congr 1; congr 1; omega))); done)
                  | exact zQm.b3 H2 (by omega) (by assumption) (by unfold sp_put; (try unfold spPut); (try simp only [Int.toNat_natCast]); (repeat (first | rw [if_pos (by omega)] | rw [if_neg (by omega)] | rw [if_pos (by assumption)] | rw [if_neg (by assumption)] | rw [if_pos (True.intro : True)])); (try (first | rfl | (congr 2; omega) | (congr 1; congr 1; omega))); done)
                  | exact zQm.ok H1 (by omega) (by assumption) (by unfold sp_put; (try unfold spPut); (try simp only [Int.toNat_natCast]); (repeat (first | rw [if_pos (by omega)] | rw [if_neg (by omega)] | rw [if_pos (by assumption)] | rw [if_neg (by assumption)] | rw [if_pos (True.intro : True)])); (try (first | rfl | (congr 2; omega) | (congr 1; congr 1; omega))); done)
                  | exact zQm.b1 H1 (by omega) (by assumption) (by unfold sp_put; (try unfold spPut); (try simp only [Int.toNat_natCast]); (repeat (first | rw [if_pos (by omega)] | rw [if_neg (by omega)] | rw [if_pos (by assumption)] | rw [if_neg (by assumption)] | rw [if_pos (True.intro : True)])); (try (first | rfl | (congr 2; omega) | (congr 1; congr 1; omega))); done)
                  | exact zQm.b2 H1 (by omega) (by assumption) (by unfold sp_put; (try unfold spPut); (try simp only [Int.toNat_natCast]); (repeat (first | rw [if_pos (by omega)] | rw [if_neg (by omega)] | rw [if_pos (by assumption)] | rw [if_neg (by assumption)] | rw [if_pos (True.intro : True)])); (try (first | rfl | (congr 2; omega) | (congr 1; congr 1; omega))); done)
                  | exact zQm.b3 H1 (by omega) (by assumption) (by unfold sp_put; (try unfold spPut); (try simp only [Int.toNat_natCast]); (repeat (first | rw [if_pos (by omega)] | rw [if_neg (by omega)] | rw [if_pos (by assumption)] | rw [if_neg (by assumption)] | rw [if_pos (True.intro : True)])); (try (first | rfl | (congr 2; omega) | (congr 1; congr 1; omega))); done)
            · refine z_aload_n dMod_put_47 rfl ?_
              refine z_callV MV_Mod_refused lk_Mod_92 dMod_put_48 (k_Mod_refused n2 rfl rfl) rfl rfl (Nat.le_of_ble_eq_true rfl) rfl (by assumption) (Nat.le_of_ble_eq_true rfl) (Nat.le_of_ble_eq_true rfl) (Nat.le_of_eq (Nat.zero_add _)) (Nat.le_of_eq (Nat.zero_add _)) (fun _ _ q => q.elim) ?_
              rintro _ h2 ⟨rfl, p2, g2⟩
              have H2 : zMod G h2 ma (zsRef S) t9 := H1.obj (nu := zup S.2.2.2.2 1 (S.2.2.2.2 1 + 1)) p2 g2
              have fz2 : zMfr ma h h2 := zMfr.of0 (fun q hq => (g2 q hq).trans (g1 q hq))
              refine z_iret rfl rfl dMod_put_51 ?_
              by_cases hw9 : w = 1 ∨ w = 3 ∨ w = 5
              all_goals rcases (show t9 = 0 ∨ t9 = 1 ∨ t9 = 2 ∨ t9 = 3 by omega) with t0 | t0 | t0 | t0
              all_goals first
                | (exfalso; omega)
                | exact zQm.okB H3 (Or.inr ⟨dq2, gq2⟩) (by omega) (by assumption) (by unfold sp_put; (try unfold spPut); (try simp only [Int.toNat_natCast]); (repeat (first | rw [if_pos (by omega)] | rw [if_neg (by omega)] | rw [if_pos (by assumption)] | rw [if_neg (by assumption)] | rw [if_pos (True.intro : True)])); (try (first | rfl | (congr 2; omega) | (congr 1; congr 1; omega))); done)
                | exact zQm.ok H2 (by omega) (by assumption) (by unfold sp_put; (try unfold spPut); (try simp only [Int.toNat_natCast]); (repeat (first | rw [if_pos (by omega)] | rw [if_neg (by omega)] | rw [if_pos (by assumption)] | rw [if_neg (by assumption)] | rw [if_pos (True.intro : True)])); (try (first | rfl | (congr 2; omega) | (congr 1; congr 1; omega))); done)
                | exact zQm.b1 H2 (by omega) (by assumption) (by unfold sp_put; (try unfold spPut); (try simp only [Int.toNat_natCast]); (repeat (first | rw [if_pos (by omega)] | rw [if_neg (by omega)] | rw [if_pos (by assumption)] | rw [if_neg (by assumption)] | rw [if_pos (True.intro : True)])); (try (first | rfl | (congr 2; omega) | (congr 1; congr 1; omega))); done)
                | exact zQm.b2 H2 (by omega) (by assumption) (by unfold sp_put; (try unfold spPut); (try simp only [Int.toNat_natCast]); (repeat (first | rw [if_pos (by omega)] | rw [if_neg (by omega)] | rw [if_pos (by assumption)] | rw [if_neg (by assumption)] | rw [if_pos (True.intro : True)])); (try (first | rfl | (congr 2; omega) | (congr 1; congr 1; omega))); done)
                | exact zQm.b3 H2 (by omega) (by assumption) (by unfold sp_put; (try unfold spPut); (try simp only [Int.toNat_natCast]); (repeat (first | rw [if_pos (by omega)] | rw [if_neg (by omega)] | rw [if_pos (by assumption)] | rw [if_neg (by assumption)] | rw [if_pos (True.intro : True)])); (try (first | rfl | (congr 2; omega) | (congr 1; congr 1; omega))); done)
                | exact zQm.ok H1 (by omega) (by assumption) (by unfold sp_put; (try unfold spPut); (try simp only [Int.toNat_natCast]); (repeat (first | rw [if_pos (by omega)] | rw [if_neg (by omega)] | rw [if_pos (by assumption)] | rw [if_neg (by assumption)] | rw [if_pos (True.intro : True)])); (try (first | rfl | (congr 2; omega) | (congr 1; congr 1; omega))); done)
                | exact zQm.b1 H1 (by omega) (by assumption) (by unfold sp_put; (try unfold spPut); (try simp only [Int.toNat_natCast]); (repeat (first | rw [if_pos (by omega)] | rw [if_neg (by omega)] | rw [if_pos (by assumption)] | rw [if_neg (by assumption)] | rw [if_pos (True.intro : True)])); (try (first | rfl | (congr 2; omega) | (congr 1; congr 1; omega))); done)
                | exact zQm.b2 H1 (by omega) (by assumption) (by unfold sp_put; (try unfold spPut); (try simp only [Int.toNat_natCast]); (repeat (first | rw [if_pos (by omega)] | rw [if_neg (by omega)] | rw [if_pos (by assumption)] | rw [if_neg (by assumption)] | rw [if_pos (True.intro : True)])); (try (first | rfl | (congr 2; omega) | (congr 1; congr 1; omega))); done)
                | exact zQm.b3 H1 (by omega) (by assumption) (by unfold sp_put; (try unfold spPut); (try simp only [Int.toNat_natCast]); (repeat (first | rw [if_pos (by omega)] | rw [if_neg (by omega)] | rw [if_pos (by assumption)] | rw [if_neg (by assumption)] | rw [if_pos (True.intro : True)])); (try (first | rfl | (congr 2; omega) | (congr 1; congr 1; omega))); done)
          · refine z_iconst dMod_put_33 ?_
            refine z_iret rfl rfl dMod_put_34 ?_
            by_cases hw9 : w = 1 ∨ w = 3 ∨ w = 5
            all_goals rcases (show t9 = 0 ∨ t9 = 1 ∨ t9 = 2 ∨ t9 = 3 by omega) with t0 | t0 | t0 | t0
            all_goals first
              | (exfalso; omega)
              | exact zQm.okB H3 (Or.inr ⟨dq2, gq2⟩) (by omega) (by assumption) (by unfold sp_put; (try unfold spPut); (try simp only [Int.toNat_natCast]); (repeat (first | rw [if_pos (by omega)] | rw [if_neg (by omega)] | rw [if_pos (by assumption)] | rw [if_neg (by assumption)] | rw [if_pos (True.intro : True)])); (try (first | rfl | (congr 2; omega) | (congr 1; congr 1; omega))); done)
              | exact zQm.ok H2 (by omega) (by assumption) (by unfold sp_put; (try unfold spPut); (try simp only [Int.toNat_natCast]); (repeat (first | rw [if_pos (by omega)] | rw [if_neg (by omega)] | rw [if_pos (by assumption)] | rw [if_neg (by assumption)] | rw [if_pos (True.intro : True)])); (try (first | rfl | (congr 2; omega) | (congr 1; congr 1; omega))); done)
              | exact zQm.b1 H2 (by omega) (by assumption) (by unfold sp_put; (try unfold spPut); (try simp only [Int.toNat_natCast]); (repeat (first | rw [if_pos (by omega)] | rw [if_neg (by omega)] | rw [if_pos (by assumption)] | rw [if_neg (by assumption)] | rw [if_pos (True.intro : True)])); (try (first | rfl | (congr 2; omega) | (congr 1; congr 1; omega))); done)
              | exact zQm.b2 H2 (by omega) (by assumption) (by unfold sp_put; (try unfold spPut); (try simp only [Int.toNat_natCast]); (repeat (first | rw [if_pos (by omega)] | rw [if_neg (by omega)] | rw [if_pos (by assumption)] | rw [if_neg (by assumption)] | rw [if_pos (True.intro : True)])); (try (first | rfl | (congr 2; omega) | (congr 1; congr 1; omega))); done)
              | exact zQm.b3 H2 (by omega) (by assumption) (by unfold sp_put; (try unfold spPut); (try simp only [Int.toNat_natCast]); (repeat (first | rw [if_pos (by omega)] | rw [if_neg (by omega)] | rw [if_pos (by assumption)] | rw [if_neg (by assumption)] | rw [if_pos (True.intro : True)])); (try (first | rfl | (congr 2; omega) | (congr 1; congr 1; omega))); done)
              | exact zQm.ok H1 (by omega) (by assumption) (by unfold sp_put; (try unfold spPut); (try simp only [Int.toNat_natCast]); (repeat (first | rw [if_pos (by omega)] | rw [if_neg (by omega)] | rw [if_pos (by assumption)] | rw [if_neg (by assumption)] | rw [if_pos (True.intro : True)])); (try (first | rfl | (congr 2; omega) | (congr 1; congr 1; omega))); done)
              | exact zQm.b1 H1 (by omega) (by assumption) (by unfold sp_put; (try unfold spPut); (try simp only [Int.toNat_natCast]); (repeat (first | rw [if_pos (by omega)] | rw [if_neg (by omega)] | rw [if_pos (by assumption)] | rw [if_neg (by assumption)] | rw [if_pos (True.intro : True)])); (try (first | rfl | (congr 2; omega) | (congr 1; congr 1; omega))); done)
              | exact zQm.b2 H1 (by omega) (by assumption) (by unfold sp_put; (try unfold spPut); (try simp only [Int.toNat_natCast]); (repeat (first | rw [if_pos (by omega)] | rw [if_neg (by omega)] | rw [if_pos (by assumption)] | rw [if_neg (by assumption)] | rw [if_pos (True.intro : True)])); (try (first | rfl | (congr 2; omega) | (congr 1; congr 1; omega))); done)
              | exact zQm.b3 H1 (by omega) (by assumption) (by unfold sp_put; (try unfold spPut); (try simp only [Int.toNat_natCast]); (repeat (first | rw [if_pos (by omega)] | rw [if_neg (by omega)] | rw [if_pos (by assumption)] | rw [if_neg (by assumption)] | rw [if_pos (True.intro : True)])); (try (first | rfl | (congr 2; omega) | (congr 1; congr 1; omega))); done)
        · exfalso; omega
theorem k_Mod_insert {p q x : Int} (H : zMod G h ma S th) (z_p : zI32 p) (z_q : zI32 q) (z_x : zI32 x) (h16 : ∀ k, k < 4 → (S.1 k).length ≤ 16) : zM G l hMod_insert yMod_insert 4 [.ref (ma 0), zi p, zi q, zi x] h (zQm G ma h (1) (2) (3) (sp_insert S p q x)) zNo 1 61 := by
  obtain ⟨m1, m2, ⟨g, m3, m3a⟩, m4, ⟨f6, m5, m5a⟩, m6, m7⟩ := id H
  unfold zMfs at m2
  refine zM.of [some (.ref (ma 0)), some (zi p), some (zi q), some (zi x)] (by decide +kernel) rfl (by decide) rfl (Nat.le_of_ble_eq_true rfl) rfl ?_
  refine z_aload_n dMod_insert_0 rfl ?_
  refine z_iload_n dMod_insert_1 rfl ?_
  refine z_callS MS_Mod_isNo lk_Mod_81 dMod_insert_2 (k_Mod_isNo (by omega)) rfl rfl (Nat.le_of_ble_eq_true rfl)  (Nat.le_of_ble_eq_true rfl) (Nat.le_of_ble_eq_true rfl) (Nat.le_of_eq (Nat.zero_add _)) (Nat.le_of_eq (Nat.zero_add _)) (fun _ _ q => q.elim) ?_
  rintro _ _ ⟨n9k, rfl, (⟨rfl, hn9k⟩ | ⟨rfl, hn9k⟩), rfl⟩
  · refine z_if_ne (tgt := 23) dMod_insert_5 (by decide) (by omega) (fun c5 => ?_) (fun c5 => ?_)
    · refine z_iconst dMod_insert_23 ?_
      refine z_goto (tgt := 28) dMod_insert_24 (by decide) ?_
      refine z_iload_n dMod_insert_28 rfl ?_
      refine z_callS MS_Mod_isNoItem lk_Mod_85 dMod_insert_29 (k_Mod_isNoItem (by omega)) rfl rfl (Nat.le_of_ble_eq_true rfl)  (Nat.le_of_ble_eq_true rfl) (Nat.le_of_ble_eq_true rfl) (Nat.le_of_eq (Nat.zero_add _)) (Nat.le_of_eq (Nat.zero_add _)) (fun _ _ q => q.elim) ?_
      rintro _ _ ⟨i9, rfl, hi9, rfl⟩
      refine z_iconst dMod_insert_32 ?_
      refine z_callV MV_Mod_fails lk_Mod_88 dMod_insert_33 (k_Mod_fails (by assumption) rfl (by omega) (by omega) (by omega)) rfl rfl (Nat.le_of_ble_eq_true rfl) rfl (by assumption) (Nat.le_of_ble_eq_true rfl) (Nat.le_of_ble_eq_true rfl) (Nat.le_of_eq (Nat.zero_add _)) (Nat.le_of_eq (Nat.zero_add _)) (fun _ _ q => q.elim) ?_
      rintro _ h1 ⟨t9, b8, rfl, ht, p1, g1⟩
      have H1 : zMod G h1 ma S t9 := H.obj (nu := S.2.2.2.2) (th' := t9) p1 g1
      have fz1 : zMfr ma h h1 := zMfr.of0 g1
      obtain ⟨-, n2, ⟨gg, n3, n3a⟩, n4, ⟨f61, n5, n5a⟩, n6, n7⟩ := id H1
      unfold zMfs at n2
      refine z_if_eq (tgt := 41) dMod_insert_36 (by decide) (by omega) (fun c36 => ?_) (fun c36 => ?_)
      · exfalso; omega
      · refine z_iconst dMod_insert_39 ?_
        refine z_iret rfl rfl dMod_insert_40 ?_
        rcases (show t9 = 0 ∨ t9 = 1 ∨ t9 = 2 ∨ t9 = 3 by omega) with t0 | t0 | t0 | t0
        all_goals first
          | (exfalso; omega)
          | exact zQm.okB H3 (Or.inr ⟨dq2, gq2⟩) (by omega) (by assumption) (by unfold sp_insert; (try unfold spPut); (try simp only [Int.toNat_natCast]); (repeat (first | rw [if_pos (by omega)] | rw [if_neg (by omega)] | rw [if_pos (by assumption)] | rw [if_neg (by assumption)] | rw [if_pos (True.intro : True)])); (try (first | rfl | (congr 2; omega) | (congr 1; congr 1; omega))); done)
          | exact zQm.ok H2 (by omega) (by assumption) (by unfold sp_insert; (try unfold spPut); (try simp only [Int.toNat_natCast]); (repeat (first | rw [if_pos (by omega)] | rw [if_neg (by omega)] | rw [if_pos (by assumption)] | rw [if_neg (by assumption)] | rw [if_pos (True.intro : True)])); (try (first | rfl | (congr 2; omega) | (congr 1; congr 1; omega))); done)
          | exact zQm.b1 H2 (by omega) (by assumption) (by unfold sp_insert; (try unfold spPut); (try simp only [Int.toNat_natCast]); (repeat (first | rw [if_pos (by omega)] | rw [if_neg (by omega)] | rw [if_pos (by assumption)] | rw [if_neg (by assumption)] | rw [if_pos (True.intro : True)])); (try (first | rfl | (congr 2; omega) | (congr 1; congr 1; omega))); done)
          | exact zQm.b2 H2 (by omega) (by assumption) (by unfold sp_insert; (try unfold spPut); (try simp only [Int.toNat_natCast]); (repeat (first | rw [if_pos (by omega)] | rw [if_neg (by omega)] | rw [if_pos (by assumption)] | rw [if_neg (by assumption)] | rw [if_pos (True.intro : True)])); (try (first | rfl | (congr 2; omega) | (congr 1; congr 1; omega))); done)
          | exact zQm.b3 H2 (by omega) (by assumption) (by unfold sp_insert; (try unfold spPut); (try simp only [Int.toNat_natCast]); (repeat (first | rw [if_pos (by omega)] | rw [if_neg (by omega)] | rw [if_pos (by assumption)] | rw [if_neg (by assumption)] | rw [if_pos (True.intro : True)])); (try (first | rfl | (congr 2; omega) | (congr 1; congr 1; omega))); done)
          | exact zQm.ok H1 (by omega) (by assumption) (by unfold sp_insert; (try unfold spPut); (try simp only [Int.toNat_natCast]); (repeat (first | rw [if_pos (by omega)] | rw [if_neg (by omega)] | rw [if_pos (by assumption)] | rw [if_neg (by assumption)] | rw [if_pos (True.intro : True)])); (try (first | rfl | (congr 2; omega) | (congr 1; congr 1; omega))); done)
          | exact zQm.b1 H1 (by omega) (by assumption) (by unfold sp_insert; (try unfold spPut); (try simp only [Int.toNat_natCast]); (repeat (first | rw [if_pos (by omega)] | rw [if_neg (by omega)] | rw [if_pos (by assumption)] | rw [if_neg (by assumption)] | rw [if_pos (True.intro : True)])); (try (first | rfl | (congr 2; omega) | (congr 1; congr 1; omega))); done)
          | exact zQm.b2 H1 (by omega) (by assumption) (by unfold sp_insert; (try unfold spPut); (try simp only [Int.toNat_natCast]); (repeat (first | rw [if_pos (by omega)] | rw [if_neg (by omega)] | rw [if_pos (by assumption)] | rw [if_neg (by assumption)] | rw [if_pos (True.intro : True)])); (try (first | rfl | (congr 2; omega) | (congr 1; congr 1; omega))); done)
          | exact zQm.b3 H1 (by omega) (by assumption) (by unfold sp_insert; (try unfold spPut); (try simp only [Int.toNat_natCast]); (repeat (first | rw [if_pos (by omega)] | rw [if_neg (by omega)] | rw [if_pos (by assumption)] | rw [if_neg (by assumption)] | rw [if_pos (True.intro : True)])); (try (first | rfl | (congr 2; omega) | (congr 1; congr 1; omega))); done)
    · exfalso; omega
  · obtain ⟨k, rfl⟩ := Int.eq_ofNat_of_zero_le (show 0 ≤ p by omega)
    have hkk : k < 4 := by omega
    refine z_if_ne (tgt := 23) dMod_insert_5 (by decide) (by omega) (fun c5 => ?_) (fun c5 => ?_)
    · exfalso; omega
    · obtain ⟨frk, rk1, rk2, rk3, rk4⟩ := id (m6 k (by omega))
      refine z_iload_n dMod_insert_8 rfl ?_
      refine z_iconst dMod_insert_9 ?_
      refine z_aload_n dMod_insert_10 rfl ?_
      refine z_get (k := 0) fd_Mod (by decide) fl_Mod_11 dMod_insert_11 (by assumption) (by rfl) ?_
      refine z_iload_n dMod_insert_14 rfl ?_
      refine z_aald (t := 4) (ty := .array .int) rfl rfl dMod_insert_15 m3 (by refine ⟨?_, ?_, ?_⟩ <;> omega) ?_
      rw [show (k : Int).toNat = k from rfl, m3a k (by omega)]
      refine z_alenI dMod_insert_16 (by assumption) ?_
      refine z_callS MS_Mod_isOut lk_Mod_41 dMod_insert_17 (k_Mod_isOut (by omega) (by omega) (by omega)) rfl rfl (Nat.le_of_ble_eq_true rfl)  (Nat.le_of_ble_eq_true rfl) (Nat.le_of_ble_eq_true rfl) (Nat.le_of_eq (Nat.zero_add _)) (Nat.le_of_eq (Nat.zero_add _)) (fun _ _ q => q.elim) ?_
      rintro _ _ ⟨o9, rfl, (⟨rfl, ho9⟩ | ⟨rfl, ho9⟩), rfl⟩
      · refine z_if_eq (tgt := 27) dMod_insert_20 (by decide) (by omega) (fun c20 => ?_) (fun c20 => ?_)
        · exfalso; omega
        · refine z_iconst dMod_insert_23 ?_
          refine z_goto (tgt := 28) dMod_insert_24 (by decide) ?_
          refine z_iload_n dMod_insert_28 rfl ?_
          refine z_callS MS_Mod_isNoItem lk_Mod_85 dMod_insert_29 (k_Mod_isNoItem (by omega)) rfl rfl (Nat.le_of_ble_eq_true rfl)  (Nat.le_of_ble_eq_true rfl) (Nat.le_of_ble_eq_true rfl) (Nat.le_of_eq (Nat.zero_add _)) (Nat.le_of_eq (Nat.zero_add _)) (fun _ _ q => q.elim) ?_
          rintro _ _ ⟨i9, rfl, hi9, rfl⟩
          refine z_iconst dMod_insert_32 ?_
          refine z_callV MV_Mod_fails lk_Mod_88 dMod_insert_33 (k_Mod_fails (by assumption) rfl (by omega) (by omega) (by omega)) rfl rfl (Nat.le_of_ble_eq_true rfl) rfl (by assumption) (Nat.le_of_ble_eq_true rfl) (Nat.le_of_ble_eq_true rfl) (Nat.le_of_eq (Nat.zero_add _)) (Nat.le_of_eq (Nat.zero_add _)) (fun _ _ q => q.elim) ?_
          rintro _ h1 ⟨t9, b8, rfl, ht, p1, g1⟩
          have H1 : zMod G h1 ma S t9 := H.obj (nu := S.2.2.2.2) (th' := t9) p1 g1
          have fz1 : zMfr ma h h1 := zMfr.of0 g1
          obtain ⟨-, n2, ⟨gg, n3, n3a⟩, n4, ⟨f61, n5, n5a⟩, n6, n7⟩ := id H1
          unfold zMfs at n2
          refine z_if_eq (tgt := 41) dMod_insert_36 (by decide) (by omega) (fun c36 => ?_) (fun c36 => ?_)
          · exfalso; omega
          · refine z_iconst dMod_insert_39 ?_
            refine z_iret rfl rfl dMod_insert_40 ?_
            rcases (show t9 = 0 ∨ t9 = 1 ∨ t9 = 2 ∨ t9 = 3 by omega) with t0 | t0 | t0 | t0
            all_goals first
              | (exfalso; omega)
              | exact zQm.okB H3 (Or.inr ⟨dq2, gq2⟩) (by omega) (by assumption) (by unfold sp_insert; (try unfold spPut); (try simp only [Int.toNat_natCast]); (repeat (first | rw [if_pos (by omega)] | rw [if_neg (by omega)] | rw [if_pos (by assumption)] | rw [if_neg (by assumption)] | rw [if_pos (True.intro : True)])); (try (first | rfl | (congr 2; omega) | (congr 1; congr 1; omega))); done)
              | exact zQm.ok H2 (by omega) (by assumption) (by unfold sp_insert; (try unfold spPut); (try simp only [Int.toNat_natCast]); (repeat (first | rw [if_pos (by omega)] | rw [if_neg (by omega)] | rw [if_pos (by assumption)] | rw [if_neg (by assumption)] | rw [if_pos (True.intro : True)])); (try (first | rfl | (congr 2; omega) | (congr 1; congr 1; omega))); done)
              | exact zQm.b1 H2 (by omega) (by assumption) (by unfold sp_insert; (try unfold spPut); (try simp only [Int.toNat_natCast]); (repeat (first | rw [if_pos (by omega)] | rw [if_neg (by omega)] | rw [if_pos (by assumption)] | rw [if_neg (by assumption)] | rw [if_pos (True.intro : True)])); (try (first | rfl | (congr 2; omega) | (congr 1; congr 1; omega))); done)
              | exact zQm.b2 H2 (by omega) (by assumption) (by unfold sp_insert; (try unfold spPut); (try simp only [Int.toNat_natCast]); (repeat (first | rw [if_pos (by omega)] | rw [if_neg (by omega)] | rw [if_pos (by assumption)] | rw [if_neg (by assumption)] | rw [if_pos (True.intro : True)])); (try (first | rfl | (congr 2; omega) | (congr 1; congr 1; omega))); done)
              | exact zQm.b3 H2 (by omega) (by assumption) (by unfold sp_insert; (try unfold spPut); (try simp only [Int.toNat_natCast]); (repeat (first | rw [if_pos (by omega)] | rw [if_neg (by omega)] | rw [if_pos (by assumption)] | rw [if_neg (by assumption)] | rw [if_pos (True.intro : True)])); (try (first | rfl | (congr 2; omega) | (congr 1; congr 1; omega))); done)
              | exact zQm.ok H1 (by omega) (by assumption) (by unfold sp_insert; (try unfold spPut); (try simp only [Int.toNat_natCast]); (repeat (first | rw [if_pos (by omega)] | rw [if_neg (by omega)] | rw [if_pos (by assumption)] | rw [if_neg (by assumption)] | rw [if_pos (True.intro : True)])); (try (first | rfl | (congr 2; omega) | (congr 1; congr 1; omega))); done)
              | exact zQm.b1 H1 (by omega) (by assumption) (by unfold sp_insert; (try unfold spPut); (try simp only [Int.toNat_natCast]); (repeat (first | rw [if_pos (by omega)] | rw [if_neg (by omega)] | rw [if_pos (by assumption)] | rw [if_neg (by assumption)] | rw [if_pos (True.intro : True)])); (try (first | rfl | (congr 2; omega) | (congr 1; congr 1; omega))); done)
              | exact zQm.b2 H1 (by omega) (by assumption) (by unfold sp_insert; (try unfold spPut); (try simp only [Int.toNat_natCast]); (repeat (first | rw [if_pos (by omega)] | rw [if_neg (by omega)] | rw [if_pos (by assumption)] | rw [if_neg (by assumption)] | rw [if_pos (True.intro : True)])); (try (first | rfl | (congr 2; omega) | (congr 1; congr 1; omega))); done)
              | exact zQm.b3 H1 (by omega) (by assumption) (by unfold sp_insert; (try unfold spPut); (try simp only [Int.toNat_natCast]); (repeat (first | rw [if_pos (by omega)] | rw [if_neg (by omega)] | rw [if_pos (by assumption)] | rw [if_neg (by assumption)] | rw [if_pos (True.intro : True)])); (try (first | rfl | (congr 2; omega) | (congr 1; congr 1; omega))); done)
      · refine z_if_eq (tgt := 27) dMod_insert_20 (by decide) (by omega) (fun c20 => ?_) (fun c20 => ?_)
        · refine z_iconst dMod_insert_27 ?_
          refine z_iload_n dMod_insert_28 rfl ?_
          refine z_callS MS_Mod_isNoItem lk_Mod_85 dMod_insert_29 (k_Mod_isNoItem (by omega)) rfl rfl (Nat.le_of_ble_eq_true rfl)  (Nat.le_of_ble_eq_true rfl) (Nat.le_of_ble_eq_true rfl) (Nat.le_of_eq (Nat.zero_add _)) (Nat.le_of_eq (Nat.zero_add _)) (fun _ _ q => q.elim) ?_
          rintro _ _ ⟨i9, rfl, hi9, rfl⟩
          refine z_iconst dMod_insert_32 ?_
          refine z_callV MV_Mod_fails lk_Mod_88 dMod_insert_33 (k_Mod_fails (by assumption) rfl (by omega) (by omega) (by omega)) rfl rfl (Nat.le_of_ble_eq_true rfl) rfl (by assumption) (Nat.le_of_ble_eq_true rfl) (Nat.le_of_ble_eq_true rfl) (Nat.le_of_eq (Nat.zero_add _)) (Nat.le_of_eq (Nat.zero_add _)) (fun _ _ q => q.elim) ?_
          rintro _ h1 ⟨t9, b8, rfl, ht, p1, g1⟩
          have H1 : zMod G h1 ma S t9 := H.obj (nu := S.2.2.2.2) (th' := t9) p1 g1
          have fz1 : zMfr ma h h1 := zMfr.of0 g1
          obtain ⟨-, n2, ⟨gg, n3, n3a⟩, n4, ⟨f61, n5, n5a⟩, n6, n7⟩ := id H1
          unfold zMfs at n2
          refine z_if_eq (tgt := 41) dMod_insert_36 (by decide) (by omega) (fun c36 => ?_) (fun c36 => ?_)
          · obtain ⟨frk, rk1, rk2, rk3, rk4⟩ := id (n6 k (by omega))
            have h16k := h16 k (by omega)
            have ezk : ∀ i : Int, 0 ≤ i → i < ((S.1 k).length : Int) → frk i.toNat = zAt (S.1 k) i := fun i x1 x2 => by rw [rk3 _ (by omega), zAt_eq x1 x2]
            refine z_aload_n dMod_insert_41 rfl ?_
            refine z_get (k := 0) fd_Mod (by decide) fl_Mod_11 dMod_insert_42 (by assumption) (by rfl) ?_
            refine z_iload_n dMod_insert_45 rfl ?_
            refine z_aald (t := 4) (ty := .array .int) rfl rfl dMod_insert_46 n3 (by refine ⟨?_, ?_, ?_⟩ <;> omega) ?_
            rw [show (k : Int).toNat = k from rfl, n3a k (by omega)]
            refine z_alenI dMod_insert_47 (by assumption) ?_
            refine z_bipush dMod_insert_48 rfl ?_
            refine z_icmp_ne (tgt := 60) dMod_insert_50 (by decide) (by omega) (by omega) (fun c50 => ?_) (fun c50 => ?_)
            · refine z_aload_n dMod_insert_60 rfl ?_
              refine z_iload_n dMod_insert_61 rfl ?_
              refine z_aload_n dMod_insert_62 rfl ?_
              refine z_get (k := 0) fd_Mod (by decide) fl_Mod_11 dMod_insert_63 (by assumption) (by rfl) ?_
              refine z_iload_n dMod_insert_66 rfl ?_
              refine z_aald (t := 4) (ty := .array .int) rfl rfl dMod_insert_67 n3 (by refine ⟨?_, ?_, ?_⟩ <;> omega) ?_
              rw [show (k : Int).toNat = k from rfl, n3a k (by omega)]
              refine z_iload_n dMod_insert_68 rfl ?_
              refine z_iload_n dMod_insert_69 rfl ?_
              refine z_callS (bc' := 0) (bs' := 0) MS_Mod_with lk_Mod_49 dMod_insert_70 (k_Mod_with (n6 k (by omega)) (by omega) (by omega) (by omega)) rfl rfl (Nat.le_of_ble_eq_true rfl)  (Nat.le_of_ble_eq_true rfl) (Nat.le_of_ble_eq_true rfl) (by decide) (by decide) (fun _ _ q => q.elim) ?_
              rintro _ h2 ⟨q2, rfl, hq2, gq2, r2, F2⟩
              have H2 : zMod G h2 ma S t9 := H1.keep hq2 F2
              have fz2 : zMfr ma h h2 := fz1.tr (zMfr.new hq2 F2)
              have dq2 : zDm h q2 := hq2.up H1 fz1
              have oc2 := H2.2.1
              have hzl := zIns_len (S.1 k) q x
              refine z_callV MV_Mod_becomes lk_Mod_95 dMod_insert_73 (k_Mod_becomes H2 (by omega) r2 (fun i hi _ => H1.nq hq2 hi)) rfl rfl (Nat.le_of_ble_eq_true rfl) rfl (by assumption) (Nat.le_of_ble_eq_true rfl) (Nat.le_of_ble_eq_true rfl) (Nat.le_of_eq (Nat.zero_add _)) (Nat.le_of_eq (Nat.zero_add _)) (fun _ _ q => q.elim) ?_
              rintro _ h3 ⟨rfl, H3, F3⟩
              have fz3 : zMfr ma h h3 := fz2.tr (zMfr.bec F3)
              refine z_iret rfl rfl dMod_insert_76 ?_
              rcases (show t9 = 0 ∨ t9 = 1 ∨ t9 = 2 ∨ t9 = 3 by omega) with t0 | t0 | t0 | t0
              all_goals first
                | (exfalso; omega)
                | exact zQm.okB H3 (Or.inr ⟨dq2, gq2⟩) (by omega) (by assumption) (by unfold sp_insert; (try unfold spPut); (try simp only [Int.toNat_natCast]); (repeat (first | rw [if_pos (by omega)] | rw [if_neg (by omega)] | rw [if_pos (by assumption)] | rw [if_neg (by assumption)] | rw [if_pos (True.intro : True)])); (try (first | rfl | (congr 2; omega) | (congr 1; congr 1; omega))); done)
                | exact zQm.ok H2 (by omega) (by assumption) (by unfold sp_insert; (try unfold spPut); (try simp only [Int.toNat_natCast]); (repeat (first | rw [if_pos (by omega)] | rw [if_neg (by omega)] | rw [if_pos (by assumption)] | rw [if_neg (by assumption)] | rw [if_pos (True.intro : True)])); (try (first | rfl | (congr 2; omega) | (congr 1; congr 1; omega))); done)
                | exact zQm.b1 H2 (by omega) (by assumption) (by unfold sp_insert; (try unfold spPut); (try simp only [Int.toNat_natCast]); (repeat (first | rw [if_pos (by omega)] | rw [if_neg (by omega)] | rw [if_pos (by assumption)] | rw [if_neg (by assumption)] | rw [if_pos (True.intro : True)])); (try (first | rfl | (congr 2; omega) | (congr 1; congr 1; omega))); done)
                | exact zQm.b2 H2 (by omega) (by assumption) (by unfold sp_insert; (try unfold spPut); (try simp only [Int.toNat_natCast]); (repeat (first | rw [if_pos (by omega)] | rw [if_neg (by omega)] | rw [if_pos (by assumption)] | rw [if_neg (by assumption)] | rw [if_pos (True.intro : True)])); (try (first | rfl | (congr 2; omega) | (congr 1; congr 1; omega))); done)
                | exact zQm.b3 H2 (by omega) (by assumption) (by unfold sp_insert; (try unfold spPut); (try simp only [Int.toNat_natCast]); (repeat (first | rw [if_pos (by omega)] | rw [if_neg (by omega)] | rw [if_pos (by assumption)] | rw [if_neg (by assumption)] | rw [if_pos (True.intro : True)])); (try (first | rfl | (congr 2; omega) | (congr 1; congr 1; omega))); done)
                | exact zQm.ok H1 (by omega) (by assumption) (by unfold sp_insert; (try unfold spPut); (try simp only [Int.toNat_natCast]); (repeat (first | rw [if_pos (by omega)] | rw [if_neg (by omega)] | rw [if_pos (by assumption)] | rw [if_neg (by assumption)] | rw [if_pos (True.intro : True)])); (try (first | rfl | (congr 2; omega) | (congr 1; congr 1; omega))); done)
                | exact zQm.b1 H1 (by omega) (by assumption) (by unfold sp_insert; (try unfold spPut); (try simp only [Int.toNat_natCast]); (repeat (first | rw [if_pos (by omega)] | rw [if_neg (by omega)] | rw [if_pos (by assumption)] | rw [if_neg (by assumption)] | rw [if_pos (True.intro : True)])); (try (first | rfl | (congr 2; omega) | (congr 1; congr 1; omega))); done)
                | exact zQm.b2 H1 (by omega) (by assumption) (by unfold sp_insert; (try unfold spPut); (try simp only [Int.toNat_natCast]); (repeat (first | rw [if_pos (by omega)] | rw [if_neg (by omega)] | rw [if_pos (by assumption)] | rw [if_neg (by assumption)] | rw [if_pos (True.intro : True)])); (try (first | rfl | (congr 2; omega) | (congr 1; congr 1; omega))); done)
                | exact zQm.b3 H1 (by omega) (by assumption) (by unfold sp_insert; (try unfold spPut); (try simp only [Int.toNat_natCast]); (repeat (first | rw [if_pos (by omega)] | rw [if_neg (by omega)] | rw [if_pos (by assumption)] | rw [if_neg (by assumption)] | rw [if_pos (True.intro : True)])); (try (first | rfl | (congr 2; omega) | (congr 1; congr 1; omega))); done)
            · refine z_aload_n dMod_insert_53 rfl ?_
              refine z_callV MV_Mod_refused lk_Mod_92 dMod_insert_54 (k_Mod_refused n2 rfl rfl) rfl rfl (Nat.le_of_ble_eq_true rfl) rfl (by assumption) (Nat.le_of_ble_eq_true rfl) (Nat.le_of_ble_eq_true rfl) (Nat.le_of_eq (Nat.zero_add _)) (Nat.le_of_eq (Nat.zero_add _)) (fun _ _ q => q.elim) ?_
              rintro _ h2 ⟨rfl, p2, g2⟩
              have H2 : zMod G h2 ma (zsRef S) t9 := H1.obj (nu := zup S.2.2.2.2 1 (S.2.2.2.2 1 + 1)) p2 g2
              have fz2 : zMfr ma h h2 := zMfr.of0 (fun q hq => (g2 q hq).trans (g1 q hq))
              refine z_goto (tgt := 76) dMod_insert_57 (by decide) ?_
              refine z_iret rfl rfl dMod_insert_76 ?_
              rcases (show t9 = 0 ∨ t9 = 1 ∨ t9 = 2 ∨ t9 = 3 by omega) with t0 | t0 | t0 | t0
              all_goals first
                | (exfalso; omega)
                | exact zQm.okB H3 (Or.inr ⟨dq2, gq2⟩) (by omega) (by assumption) (by unfold sp_insert; (try unfold spPut); (try simp only [Int.toNat_natCast]); (repeat (first | rw [if_pos (by omega)] | rw [if_neg (by omega)] | rw [if_pos (by assumption)] | rw [if_neg (by assumption)] | rw [if_pos (True.intro : True)])); (try (first | rfl | (congr 2; omega) | (congr 1; congr 1; omega))); done)
                | exact zQm.ok H2 (by omega) (by assumption) (by unfold sp_insert; (try unfold spPut); (try simp only [Int.toNat_natCast]); (repeat (first | rw [if_pos (by omega)] | rw [if_neg (by omega)] | rw [if_pos (by assumption)] | rw [if_neg (by assumption)] | rw [if_pos (True.intro : True)])); (try (first | rfl | (congr 2; omega) | (congr 1; congr 1; omega))); done)
                | exact zQm.b1 H2 (by omega) (by assumption) (by unfold sp_insert; (try unfold spPut); (try simp only [Int.toNat_natCast]); (repeat (first | rw [if_pos (by omega)] | rw [if_neg (by omega)] | rw [if_pos (by assumption)] | rw [if_neg (by assumption)] | rw [if_pos (True.intro : True)])); (try (first | rfl | (congr 2; omega) | (congr 1; congr 1; omega))); done)
                | exact zQm.b2 H2 (by omega) (by assumption) (by unfold sp_insert; (try unfold spPut); (try simp only [Int.toNat_natCast]); (repeat (first | rw [if_pos (by omega)] | rw [if_neg (by omega)] | rw [if_pos (by assumption)] | rw [if_neg (by assumption)] | rw [if_pos (True.intro : True)])); (try (first | rfl | (congr 2; omega) | (congr 1; congr 1; omega))); done)
                | exact zQm.b3 H2 (by omega) (by assumption) (by unfold sp_insert; (try unfold spPut); (try simp only [Int.toNat_natCast]); (repeat (first | rw [if_pos (by omega)] | rw [if_neg (by omega)] | rw [if_pos (by assumption)] | rw [if_neg (by assumption)] | rw [if_pos (True.intro : True)])); (try (first | rfl | (congr 2; omega) | (congr 1; congr 1; omega))); done)
                | exact zQm.ok H1 (by omega) (by assumption) (by unfold sp_insert; (try unfold spPut); (try simp only [Int.toNat_natCast]); (repeat (first | rw [if_pos (by omega)] | rw [if_neg (by omega)] | rw [if_pos (by assumption)] | rw [if_neg (by assumption)] | rw [if_pos (True.intro : True)])); (try (first | rfl | (congr 2; omega) | (congr 1; congr 1; omega))); done)
                | exact zQm.b1 H1 (by omega) (by assumption) (by unfold sp_insert; (try unfold spPut); (try simp only [Int.toNat_natCast]); (repeat (first | rw [if_pos (by omega)] | rw [if_neg (by omega)] | rw [if_pos (by assumption)] | rw [if_neg (by assumption)] | rw [if_pos (True.intro : True)])); (try (first | rfl | (congr 2; omega) | (congr 1; congr 1; omega))); done)
                | exact zQm.b2 H1 (by omega) (by assumption) (by unfold sp_insert; (try unfold spPut); (try simp only [Int.toNat_natCast]); (repeat (first | rw [if_pos (by omega)] | rw [if_neg (by omega)] | rw [if_pos (by assumption)] | rw [if_neg (by assumption)] | rw [if_pos (True.intro : True)])); (try (first | rfl | (congr 2; omega) | (congr 1; congr 1; omega))); done)
                | exact zQm.b3 H1 (by omega) (by assumption) (by unfold sp_insert; (try unfold spPut); (try simp only [Int.toNat_natCast]); (repeat (first | rw [if_pos (by omega)] | rw [if_neg (by omega)] | rw [if_pos (by assumption)] | rw [if_neg (by assumption)] | rw [if_pos (True.intro : True)])); (try (first | rfl | (congr 2; omega) | (congr 1; congr 1; omega))); done)
          · refine z_iconst dMod_insert_39 ?_
            refine z_iret rfl rfl dMod_insert_40 ?_
            rcases (show t9 = 0 ∨ t9 = 1 ∨ t9 = 2 ∨ t9 = 3 by omega) with t0 | t0 | t0 | t0
            all_goals first
              | (exfalso; omega)
              | exact zQm.okB H3 (Or.inr ⟨dq2, gq2⟩) (by omega) (by assumption) (by unfold sp_insert; (try unfold spPut); (try simp only [Int.toNat_natCast]); (repeat (first | rw [if_pos (by omega)] | rw [if_neg (by omega)] | rw [if_pos (by assumption)] | rw [if_neg (by assumption)] | rw [if_pos (True.intro : True)])); (try (first | rfl | (congr 2; omega) | (congr 1; congr 1; omega))); done)
              | exact zQm.ok H2 (by omega) (by assumption) (by unfold sp_insert; (try unfold spPut); (try simp only [Int.toNat_natCast]); (repeat (first | rw [if_pos (by omega)] | rw [if_neg (by omega)] | rw [if_pos (by assumption)] | rw [if_neg (by assumption)] | rw [if_pos (True.intro : True)])); (try (first | rfl | (congr 2; omega) | (congr 1; congr 1; omega))); done)
              | exact zQm.b1 H2 (by omega) (by assumption) (by unfold sp_insert; (try unfold spPut); (try simp only [Int.toNat_natCast]); (repeat (first | rw [if_pos (by omega)] | rw [if_neg (by omega)] | rw [if_pos (by assumption)] | rw [if_neg (by assumption)] | rw [if_pos (True.intro : True)])); (try (first | rfl | (congr 2; omega) | (congr 1; congr 1; omega))); done)
              | exact zQm.b2 H2 (by omega) (by assumption) (by unfold sp_insert; (try unfold spPut); (try simp only [Int.toNat_natCast]); (repeat (first | rw [if_pos (by omega)] | rw [if_neg (by omega)] | rw [if_pos (by assumption)] | rw [if_neg (by assumption)] | rw [if_pos (True.intro : True)])); (try (first | rfl | (congr 2; omega) | (congr 1; congr 1; omega))); done)
              | exact zQm.b3 H2 (by omega) (by assumption) (by unfold sp_insert; (try unfold spPut); (try simp only [Int.toNat_natCast]); (repeat (first | rw [if_pos (by omega)] | rw [if_neg (by omega)] | rw [if_pos (by assumption)] | rw [if_neg (by assumption)] | rw [if_pos (True.intro : True)])); (try (first | rfl | (congr 2; omega) | (congr 1; congr 1; omega))); done)
              | exact zQm.ok H1 (by omega) (by assumption) (by unfold sp_insert; (try unfold spPut); (try simp only [Int.toNat_natCast]); (repeat (first | rw [if_pos (by omega)] | rw [if_neg (by omega)] | rw [if_pos (by assumption)] | rw [if_neg (by assumption)] | rw [if_pos (True.intro : True)])); (try (first | rfl | (congr 2; omega) | (congr 1; congr 1; omega))); done)
              | exact zQm.b1 H1 (by omega) (by assumption) (by unfold sp_insert; (try unfold spPut); (try simp only [Int.toNat_natCast]); (repeat (first | rw [if_pos (by omega)] | rw [if_neg (by omega)] | rw [if_pos (by assumption)] | rw [if_neg (by assumption)] | rw [if_pos (True.intro : True)])); (try (first | rfl | (congr 2; omega) | (congr 1; congr 1; omega))); done)
              | exact zQm.b2 H1 (by omega) (by assumption) (by unfold sp_insert; (try unfold spPut); (try simp only [Int.toNat_natCast]); (repeat (first | rw [if_pos (by omega)] | rw [if_neg (by omega)] | rw [if_pos (by assumption)] | rw [if_neg (by assumption)] | rw [if_pos (True.intro : True)])); (try (first | rfl | (congr 2; omega) | (congr 1; congr 1; omega))); done)
              | exact zQm.b3 H1 (by omega) (by assumption) (by unfold sp_insert; (try unfold spPut); (try simp only [Int.toNat_natCast]); (repeat (first | rw [if_pos (by omega)] | rw [if_neg (by omega)] | rw [if_pos (by assumption)] | rw [if_neg (by assumption)] | rw [if_pos (True.intro : True)])); (try (first | rfl | (congr 2; omega) | (congr 1; congr 1; omega))); done)
        · exfalso; omega
theorem k_Mod_removeAt {p q : Int} (H : zMod G h ma S th) (z_p : zI32 p) (z_q : zI32 q) (h16 : ∀ k, k < 4 → (S.1 k).length ≤ 16) : zM G l hMod_removeAt yMod_removeAt 4 [.ref (ma 0), zi p, zi q] h (zQm G ma h (1) (2) (3) (sp_removeAt S p q)) zNo 1 60 := by
  obtain ⟨m1, m2, ⟨g, m3, m3a⟩, m4, ⟨f6, m5, m5a⟩, m6, m7⟩ := id H
  unfold zMfs at m2
  refine zM.of [some (.ref (ma 0)), some (zi p), some (zi q), none] (by decide +kernel) rfl (by decide) rfl (Nat.le_of_ble_eq_true rfl) rfl ?_
  refine z_aload_n dMod_removeAt_0 rfl ?_
  refine z_iload_n dMod_removeAt_1 rfl ?_
  refine z_callS MS_Mod_isNo lk_Mod_81 dMod_removeAt_2 (k_Mod_isNo (by omega)) rfl rfl (Nat.le_of_ble_eq_true rfl)  (Nat.le_of_ble_eq_true rfl) (Nat.le_of_ble_eq_true rfl) (Nat.le_of_eq (Nat.zero_add _)) (Nat.le_of_eq (Nat.zero_add _)) (fun _ _ q => q.elim) ?_
  rintro _ _ ⟨n9k, rfl, (⟨rfl, hn9k⟩ | ⟨rfl, hn9k⟩), rfl⟩
  · refine z_if_ne (tgt := 17) dMod_removeAt_5 (by decide) (by omega) (fun c5 => ?_) (fun c5 => ?_)
    · refine z_iconst dMod_removeAt_17 ?_
      refine z_goto (tgt := 22) dMod_removeAt_18 (by decide) ?_
      refine z_iconst dMod_removeAt_22 ?_
      refine z_iconst dMod_removeAt_23 ?_
      refine z_callV MV_Mod_fails lk_Mod_88 dMod_removeAt_24 (k_Mod_fails (by assumption) rfl (by omega) (by omega) (by omega)) rfl rfl (Nat.le_of_ble_eq_true rfl) rfl (by assumption) (Nat.le_of_ble_eq_true rfl) (Nat.le_of_ble_eq_true rfl) (Nat.le_of_eq (Nat.zero_add _)) (Nat.le_of_eq (Nat.zero_add _)) (fun _ _ q => q.elim) ?_
      rintro _ h1 ⟨t9, b8, rfl, ht, p1, g1⟩
      have H1 : zMod G h1 ma S t9 := H.obj (nu := S.2.2.2.2) (th' := t9) p1 g1
      have fz1 : zMfr ma h h1 := zMfr.of0 g1
      obtain ⟨-, n2, ⟨gg, n3, n3a⟩, n4, ⟨f61, n5, n5a⟩, n6, n7⟩ := id H1
      unfold zMfs at n2
      refine z_if_eq (tgt := 32) dMod_removeAt_27 (by decide) (by omega) (fun c27 => ?_) (fun c27 => ?_)
      · exfalso; omega
      · refine z_iconst dMod_removeAt_30 ?_
        refine z_iret rfl rfl dMod_removeAt_31 ?_
        rcases (show t9 = 0 ∨ t9 = 1 ∨ t9 = 2 ∨ t9 = 3 by omega) with t0 | t0 | t0 | t0
        all_goals first
          | (exfalso; omega)
          | exact zQm.okB H3 (Or.inr ⟨dq2, gq2⟩) (by omega) (by assumption) (by unfold sp_removeAt; (try unfold spPut); (try simp only [Int.toNat_natCast]); (repeat (first | rw [if_pos (by omega)] | rw [if_neg (by omega)] | rw [if_pos (by assumption)] | rw [if_neg (by assumption)] | rw [if_pos (True.intro : True)])); (try (first | rfl | (congr 2; omega) | (congr 1; congr 1; omega))); done)
          | exact zQm.ok H2 (by omega) (by assumption) (by unfold sp_removeAt; (try unfold spPut); (try simp only [Int.toNat_natCast]); (repeat (first | rw [if_pos (by omega)] | rw [if_neg (by omega)] | rw [if_pos (by assumption)] | rw [if_neg (by assumption)] | rw [if_pos (True.intro : True)])); (try (first | rfl | (congr 2; omega) | (congr 1; congr 1; omega))); done)
          | exact zQm.b1 H2 (by omega) (by assumption) (by unfold sp_removeAt; (try unfold spPut); (try simp only [Int.toNat_natCast]); (repeat (first | rw [if_pos (by omega)] | rw [if_neg (by omega)] | rw [if_pos (by assumption)] | rw [if_neg (by assumption)] | rw [if_pos (True.intro : True)])); (try (first | rfl | (congr 2; omega) | (congr 1; congr 1; omega))); done)
          | exact zQm.b2 H2 (by omega) (by assumption) (by unfold sp_removeAt; (try unfold spPut); (try simp only [Int.toNat_natCast]); (repeat (first | rw [if_pos (by omega)] | rw [if_neg (by omega)] | rw [if_pos (by assumption)] | rw [if_neg (by assumption)] | rw [if_pos (True.intro : True)])); (try (first | rfl | (congr 2; omega) | (congr 1; congr 1; omega))); done)
          | exact zQm.b3 H2 (by omega) (by assumption) (by unfold sp_removeAt; (try unfold spPut); (try simp only [Int.toNat_natCast]); (repeat (first | rw [if_pos (by omega)] | rw [if_neg (by omega)] | rw [if_pos (by assumption)] | rw [if_neg (by assumption)] | rw [if_pos (True.intro : True)])); (try (first | rfl | (congr 2; omega) | (congr 1; congr 1; omega))); done)
          | exact zQm.ok H1 (by omega) (by assumption) (by unfold sp_removeAt; (try unfold spPut); (try simp only [Int.toNat_natCast]); (repeat (first | rw [if_pos (by omega)] | rw [if_neg (by omega)] | rw [if_pos (by assumption)] | rw [if_neg (by assumption)] | rw [if_pos (True.intro : True)])); (try (first | rfl | (congr 2; omega) | (congr 1; congr 1; omega))); done)
          | exact zQm.b1 H1 (by omega) (by assumption) (by unfold sp_removeAt; (try unfold spPut); (try simp only [Int.toNat_natCast]); (repeat (first | rw [if_pos (by omega)] | rw [if_neg (by omega)] | rw [if_pos (by assumption)] | rw [if_neg (by assumption)] | rw [if_pos (True.intro : True)])); (try (first | rfl | (congr 2; omega) | (congr 1; congr 1; omega))); done)
          | exact zQm.b2 H1 (by omega) (by assumption) (by unfold sp_removeAt; (try unfold spPut); (try simp only [Int.toNat_natCast]); (repeat (first | rw [if_pos (by omega)] | rw [if_neg (by omega)] | rw [if_pos (by assumption)] | rw [if_neg (by assumption)] | rw [if_pos (True.intro : True)])); (try (first | rfl | (congr 2; omega) | (congr 1; congr 1; omega))); done)
          | exact zQm.b3 H1 (by omega) (by assumption) (by unfold sp_removeAt; (try unfold spPut); (try simp only [Int.toNat_natCast]); (repeat (first | rw [if_pos (by omega)] | rw [if_neg (by omega)] | rw [if_pos (by assumption)] | rw [if_neg (by assumption)] | rw [if_pos (True.intro : True)])); (try (first | rfl | (congr 2; omega) | (congr 1; congr 1; omega))); done)
    · exfalso; omega
  · obtain ⟨k, rfl⟩ := Int.eq_ofNat_of_zero_le (show 0 ≤ p by omega)
    have hkk : k < 4 := by omega
    refine z_if_ne (tgt := 17) dMod_removeAt_5 (by decide) (by omega) (fun c5 => ?_) (fun c5 => ?_)
    · exfalso; omega
    · refine z_aload_n dMod_removeAt_8 rfl ?_
      refine z_iload_n dMod_removeAt_9 rfl ?_
      refine z_iload_n dMod_removeAt_10 rfl ?_
      refine z_callV MV_Mod_isNoPlace lk_Mod_106 dMod_removeAt_11 (k_Mod_isNoPlace H hkk (by omega)) rfl rfl (Nat.le_of_ble_eq_true rfl) rfl (by assumption) (Nat.le_of_ble_eq_true rfl) (Nat.le_of_ble_eq_true rfl) (Nat.le_of_eq (Nat.zero_add _)) (Nat.le_of_eq (Nat.zero_add _)) (fun _ _ q => q.elim) ?_
      rintro _ _ ⟨np9, rfl, (⟨rfl, hnp9⟩ | ⟨rfl, hnp9⟩), rfl⟩
      · refine z_if_eq (tgt := 21) dMod_removeAt_14 (by decide) (by omega) (fun c14 => ?_) (fun c14 => ?_)
        · exfalso; omega
        · refine z_iconst dMod_removeAt_17 ?_
          refine z_goto (tgt := 22) dMod_removeAt_18 (by decide) ?_
          refine z_iconst dMod_removeAt_22 ?_
          refine z_iconst dMod_removeAt_23 ?_
          refine z_callV MV_Mod_fails lk_Mod_88 dMod_removeAt_24 (k_Mod_fails (by assumption) rfl (by omega) (by omega) (by omega)) rfl rfl (Nat.le_of_ble_eq_true rfl) rfl (by assumption) (Nat.le_of_ble_eq_true rfl) (Nat.le_of_ble_eq_true rfl) (Nat.le_of_eq (Nat.zero_add _)) (Nat.le_of_eq (Nat.zero_add _)) (fun _ _ q => q.elim) ?_
          rintro _ h1 ⟨t9, b8, rfl, ht, p1, g1⟩
          have H1 : zMod G h1 ma S t9 := H.obj (nu := S.2.2.2.2) (th' := t9) p1 g1
          have fz1 : zMfr ma h h1 := zMfr.of0 g1
          obtain ⟨-, n2, ⟨gg, n3, n3a⟩, n4, ⟨f61, n5, n5a⟩, n6, n7⟩ := id H1
          unfold zMfs at n2
          refine z_if_eq (tgt := 32) dMod_removeAt_27 (by decide) (by omega) (fun c27 => ?_) (fun c27 => ?_)
          · exfalso; omega
          · refine z_iconst dMod_removeAt_30 ?_
            refine z_iret rfl rfl dMod_removeAt_31 ?_
            rcases (show t9 = 0 ∨ t9 = 1 ∨ t9 = 2 ∨ t9 = 3 by omega) with t0 | t0 | t0 | t0
            all_goals first
              | (exfalso; omega)
              | exact zQm.okB H3 (Or.inr ⟨dq2, gq2⟩) (by omega) (by assumption) (by unfold sp_removeAt; (try unfold spPut); (try simp only [Int.toNat_natCast]); (repeat (first | rw [if_pos (by omega)] | rw [if_neg (by omega)] | rw [if_pos (by assumption)] | rw [if_neg (by assumption)] | rw [if_pos (True.intro : True)])); (try (first | rfl | (congr 2; omega) | (congr 1; congr 1; omega))); done)
              | exact zQm.ok H2 (by omega) (by assumption) (by unfold sp_removeAt; (try unfold spPut); (try simp only [Int.toNat_natCast]); (repeat (first | rw [if_pos (by omega)] | rw [if_neg (by omega)] | rw [if_pos (by assumption)] | rw [if_neg (by assumption)] | rw [if_pos (True.intro : True)])); (try (first | rfl | (congr 2; omega) | (congr 1; congr 1; omega))); done)
              | exact zQm.b1 H2 (by omega) (by assumption) (by unfold sp_removeAt; (try unfold spPut); (try simp only [Int.toNat_natCast]); (repeat (first | rw [if_pos (by omega)] | rw [if_neg (by omega)] | rw [if_pos (by assumption)] | rw [if_neg (by assumption)] | rw [if_pos (True.intro : True)])); (try (first | rfl | (congr 2; omega) | (congr 1; congr 1; omega))); done)
              | exact zQm.b2 H2 (by omega) (by assumption) (by unfold sp_removeAt; (try unfold spPut); (try simp only [Int.toNat_natCast]); (repeat (first | rw [if_pos (by omega)] | rw [if_neg (by omega)] | rw [if_pos (by assumption)] | rw [if_neg (by assumption)] | rw [if_pos (True.intro : True)])); (try (first | rfl | (congr 2; omega) | (congr 1; congr 1; omega))); done)
              | exact zQm.b3 H2 (by omega) (by assumption) (by unfold sp_removeAt; (try unfold spPut); (try simp only [Int.toNat_natCast]); (repeat (first | rw [if_pos (by omega)] | rw [if_neg (by omega)] | rw [if_pos (by assumption)] | rw [if_neg (by assumption)] | rw [if_pos (True.intro : True)])); (try (first | rfl | (congr 2; omega) | (congr 1; congr 1; omega))); done)
              | exact zQm.ok H1 (by omega) (by assumption) (by unfold sp_removeAt; (try unfold spPut); (try simp only [Int.toNat_natCast]); (repeat (first | rw [if_pos (by omega)] | rw [if_neg (by omega)] | rw [if_pos (by assumption)] | rw [if_neg (by assumption)] | rw [if_pos (True.intro : True)])); (try (first | rfl | (congr 2; omega) | (congr 1; congr 1; omega))); done)
              | exact zQm.b1 H1 (by omega) (by assumption) (by unfold sp_removeAt; (try unfold spPut); (try simp only [Int.toNat_natCast]); (repeat (first | rw [if_pos (by omega)] | rw [if_neg (by omega)] | rw [if_pos (by assumption)] | rw [if_neg (by assumption)] | rw [if_pos (True.intro : True)])); (try (first | rfl | (congr 2; omega) | (congr 1; congr 1; omega))); done)
              | exact zQm.b2 H1 (by omega) (by assumption) (by unfold sp_removeAt; (try unfold spPut); (try simp only [Int.toNat_natCast]); (repeat (first | rw [if_pos (by omega)] | rw [if_neg (by omega)] | rw [if_pos (by assumption)] | rw [if_neg (by assumption)] | rw [if_pos (True.intro : True)])); (try (first | rfl | (congr 2; omega) | (congr 1; congr 1; omega))); done)
              | exact zQm.b3 H1 (by omega) (by assumption) (by unfold sp_removeAt; (try unfold spPut); (try simp only [Int.toNat_natCast]); (repeat (first | rw [if_pos (by omega)] | rw [if_neg (by omega)] | rw [if_pos (by assumption)] | rw [if_neg (by assumption)] | rw [if_pos (True.intro : True)])); (try (first | rfl | (congr 2; omega) | (congr 1; congr 1; omega))); done)
      · refine z_if_eq (tgt := 21) dMod_removeAt_14 (by decide) (by omega) (fun c14 => ?_) (fun c14 => ?_)
        · refine z_iconst dMod_removeAt_21 ?_
          refine z_iconst dMod_removeAt_22 ?_
          refine z_iconst dMod_removeAt_23 ?_
          refine z_callV MV_Mod_fails lk_Mod_88 dMod_removeAt_24 (k_Mod_fails (by assumption) rfl (by omega) (by omega) (by omega)) rfl rfl (Nat.le_of_ble_eq_true rfl) rfl (by assumption) (Nat.le_of_ble_eq_true rfl) (Nat.le_of_ble_eq_true rfl) (Nat.le_of_eq (Nat.zero_add _)) (Nat.le_of_eq (Nat.zero_add _)) (fun _ _ q => q.elim) ?_
          rintro _ h1 ⟨t9, b8, rfl, ht, p1, g1⟩
          have H1 : zMod G h1 ma S t9 := H.obj (nu := S.2.2.2.2) (th' := t9) p1 g1
          have fz1 : zMfr ma h h1 := zMfr.of0 g1
          obtain ⟨-, n2, ⟨gg, n3, n3a⟩, n4, ⟨f61, n5, n5a⟩, n6, n7⟩ := id H1
          unfold zMfs at n2
          refine z_if_eq (tgt := 32) dMod_removeAt_27 (by decide) (by omega) (fun c27 => ?_) (fun c27 => ?_)
          · obtain ⟨frk, rk1, rk2, rk3, rk4⟩ := id (n6 k (by omega))
            have h16k := h16 k (by omega)
            have ezk : ∀ i : Int, 0 ≤ i → i < ((S.1 k).length : Int) → frk i.toNat = zAt (S.1 k) i := fun i x1 x2 => by rw [rk3 _ (by omega), zAt_eq x1 x2]
            have ez9 := rk3 q.toNat (by omega)
            refine z_aload_n dMod_removeAt_32 rfl ?_
            refine z_get (k := 0) fd_Mod (by decide) fl_Mod_11 dMod_removeAt_33 (by assumption) (by rfl) ?_
            refine z_iload_n dMod_removeAt_36 rfl ?_
            refine z_aald (t := 4) (ty := .array .int) rfl rfl dMod_removeAt_37 n3 (by refine ⟨?_, ?_, ?_⟩ <;> omega) ?_
            rw [show (k : Int).toNat = k from rfl, n3a k (by omega)]
            refine z_iload_n dMod_removeAt_38 rfl ?_
            refine z_iald dMod_removeAt_39 (by assumption) (by refine ⟨?_, ?_, ?_⟩ <;> omega) ?_
            rw [ez9]
            refine z_istore_n dMod_removeAt_40 (Nat.le_of_ble_eq_true rfl) ?_
            refine z_aload_n dMod_removeAt_41 rfl ?_
            refine z_iload_n dMod_removeAt_42 rfl ?_
            refine z_aload_n dMod_removeAt_43 rfl ?_
            refine z_get (k := 0) fd_Mod (by decide) fl_Mod_11 dMod_removeAt_44 (by assumption) (by rfl) ?_
            refine z_iload_n dMod_removeAt_47 rfl ?_
            refine z_aald (t := 4) (ty := .array .int) rfl rfl dMod_removeAt_48 n3 (by refine ⟨?_, ?_, ?_⟩ <;> omega) ?_
            rw [show (k : Int).toNat = k from rfl, n3a k (by omega)]
            refine z_iload_n dMod_removeAt_49 rfl ?_
            refine z_callS (bc' := 0) (bs' := 0) MS_Mod_without lk_Mod_102 dMod_removeAt_50 (k_Mod_without (n6 k (by omega)) (by omega) (by omega)) rfl rfl (Nat.le_of_ble_eq_true rfl)  (Nat.le_of_ble_eq_true rfl) (Nat.le_of_ble_eq_true rfl) (by decide) (by decide) (fun _ _ q => q.elim) ?_
            rintro _ h2 ⟨q2, rfl, hq2, gq2, r2, F2⟩
            have H2 : zMod G h2 ma S t9 := H1.keep hq2 F2
            have fz2 : zMfr ma h h2 := fz1.tr (zMfr.new hq2 F2)
            have dq2 : zDm h q2 := hq2.up H1 fz1
            have oc2 := H2.2.1
            refine z_iconst dMod_removeAt_53 ?_
            refine z_callV MV_Mod_become lk_Mod_77 dMod_removeAt_54 (k_Mod_become H2 (by omega) r2 (fun i hi _ => H1.nq hq2 hi) (by omega)) rfl rfl (Nat.le_of_ble_eq_true rfl) rfl (by assumption) (Nat.le_of_ble_eq_true rfl) (Nat.le_of_ble_eq_true rfl) (Nat.le_of_eq (Nat.zero_add _)) (Nat.le_of_eq (Nat.zero_add _)) (fun _ _ q => q.elim) ?_
            rintro _ h3 ⟨rfl, H3, F3⟩
            have fz3 : zMfr ma h h3 := fz2.tr (zMfr.bec F3)
            refine z_iload_n dMod_removeAt_57 rfl ?_
            refine z_iret rfl rfl dMod_removeAt_58 ?_
            rcases (show t9 = 0 ∨ t9 = 1 ∨ t9 = 2 ∨ t9 = 3 by omega) with t0 | t0 | t0 | t0
            all_goals first
              | (exfalso; omega)
              | exact zQm.okB H3 (Or.inr ⟨dq2, gq2⟩) (by omega) (by assumption) (by unfold sp_removeAt; (try unfold spPut); (try simp only [Int.toNat_natCast]); (repeat (first | rw [if_pos (by omega)] | rw [if_neg (by omega)] | rw [if_pos (by assumption)] | rw [if_neg (by assumption)] | rw [if_pos (True.intro : True)])); (try (first | rfl | (congr 2; omega) | (congr 1; congr 1; omega))); done)
              | exact zQm.ok H2 (by omega) (by assumption) (by unfold sp_removeAt; (try unfold spPut); (try simp only [Int.toNat_natCast]); (repeat (first | rw [if_pos (by omega)] | rw [if_neg (by omega)] | rw [if_pos (by assumption)] | rw [if_neg (by assumption)] | rw [if_pos (True.intro : True)])); (try (first | rfl | (congr 2; omega) | (congr 1; congr 1; omega))); done)
              | exact zQm.b1 H2 (by omega) (by assumption) (by unfold sp_removeAt; (try unfold spPut); (try simp only [Int.toNat_natCast]); (repeat (first | rw [if_pos (by omega)] | rw [if_neg (by omega)] | rw [if_pos (by assumption)] | rw [if_neg (by assumption)] | rw [if_pos (True.intro : True)])); (try (first | rfl | (congr 2; omega) | (congr 1; congr 1; omega))); done)
              | exact zQm.b2 H2 (by omega) (by assumption) (by unfold sp_removeAt; (try unfold spPut); (try simp only [Int.toNat_natCast]); (repeat (first | rw [if_pos (by omega)] | rw [if_neg (by omega)] | rw [if_pos (by assumption)] | rw [if_neg (by assumption)] | rw [if_pos (True.intro : True)])); (try (first | rfl | (congr 2; omega) | (congr 1; congr 1; omega))); done)
              | exact zQm.b3 H2 (by omega) (by assumption) (by unfold sp_removeAt; (try unfold spPut); (try simp only [Int.toNat_natCast]); (repeat (first | rw [if_pos (by omega)] | rw [if_neg (by omega)] | rw [if_pos (by assumption)] | rw [if_neg (by assumption)] | rw [if_pos (True.intro : True)])); (try (first | rfl | (congr 2; omega) | (congr 1; congr 1; omega))); done)
              | exact zQm.ok H1 (by omega) (by assumption) (by unfold sp_removeAt; (try unfold spPut); (try simp only [Int.toNat_natCast]); (repeat (first | rw [if_pos (by omega)] | rw [if_neg (by omega)] | rw [if_pos (by assumption)] | rw [if_neg (by assumption)] | rw [if_pos (True.intro : True)])); (try (first | rfl | (congr 2; omega) | (congr 1; congr 1; omega))); done)
              | exact zQm.b1 H1 (by omega) (by assumption) (by unfold sp_removeAt; (try unfold spPut); (try simp only [Int.toNat_natCast]); (repeat (first | rw [if_pos (by omega)] | rw [if_neg (by omega)] | rw [if_pos (by assumption)] | rw [if_neg (by assumption)] | rw [if_pos (True.intro : True)])); (try (first | rfl | (congr 2; omega) | (congr 1; congr 1; omega))); done)
              | exact zQm.b2 H1 (by omega) (by assumption) (by unfold sp_removeAt; (try unfold spPut); (try simp only [Int.toNat_natCast]); (repeat (first | rw [if_pos (by omega)] | rw [if_neg (by omega)] | rw [if_pos (by assumption)] | rw [if_neg (by assumption)] | rw [if_pos (True.intro : True)])); (try (first | rfl | (congr 2; omega) | (congr 1; congr 1; omega))); done)
              | exact zQm.b3 H1 (by omega) (by assumption) (by unfold sp_removeAt; (try unfold spPut); (try simp only [Int.toNat_natCast]); (repeat (first | rw [if_pos (by omega)] | rw [if_neg (by omega)] | rw [if_pos (by assumption)] | rw [if_neg (by assumption)] | rw [if_pos (True.intro : True)])); (try (first | rfl | (congr 2; omega) | (congr 1; congr 1; omega))); done)
          · refine z_iconst dMod_removeAt_30 ?_
            refine z_iret rfl rfl dMod_removeAt_31 ?_
            rcases (show t9 = 0 ∨ t9 = 1 ∨ t9 = 2 ∨ t9 = 3 by omega) with t0 | t0 | t0 | t0
            all_goals first
              | (exfalso; omega)
              | exact zQm.okB H3 (Or.inr ⟨dq2, gq2⟩) (by omega) (by assumption) (by unfold sp_removeAt; (try unfold spPut); (try simp only [Int.toNat_natCast]); (repeat (first | rw [if_pos (by omega)] | rw [if_neg (by omega)] | rw [if_pos (by assumption)] | rw [if_neg (by assumption)] | rw [if_pos (True.intro : True)])); (try (first | rfl | (congr 2; omega) | (congr 1; congr 1; omega))); done)
              | exact zQm.ok H2 (by omega) (by assumption) (by unfold sp_removeAt; (try unfold spPut); (try simp only [Int.toNat_natCast]); (repeat (first | rw [if_pos (by omega)] | rw [if_neg (by omega)] | rw [if_pos (by assumption)] | rw [if_neg (by assumption)] | rw [if_pos (True.intro : True)])); (try (first | rfl | (congr 2; omega) | (congr 1; congr 1; omega))); done)
              | exact zQm.b1 H2 (by omega) (by assumption) (by unfold sp_removeAt; (try unfold spPut); (try simp only [Int.toNat_natCast]); (repeat (first | rw [if_pos (by omega)] | rw [if_neg (by omega)] | rw [if_pos (by assumption)] | rw [if_neg (by assumption)] | rw [if_pos (True.intro : True)])); (try (first | rfl | (congr 2; omega) | (congr 1; congr 1; omega))); done)
              | exact zQm.b2 H2 (by omega) (by assumption) (by unfold sp_removeAt; (try unfold spPut); (try simp only [Int.toNat_natCast]); (repeat (first | rw [if_pos (by omega)] | rw [if_neg (by omega)] | rw [if_pos (by assumption)] | rw [if_neg (by assumption)] | rw [if_pos (True.intro : True)])); (try (first | rfl | (congr 2; omega) | (congr 1; congr 1; omega))); done)
              | exact zQm.b3 H2 (by omega) (by assumption) (by unfold sp_removeAt; (try unfold spPut); (try simp only [Int.toNat_natCast]); (repeat (first | rw [if_pos (by omega)] | rw [if_neg (by omega)] | rw [if_pos (by assumption)] | rw [if_neg (by assumption)] | rw [if_pos (True.intro : True)])); (try (first | rfl | (congr 2; omega) | (congr 1; congr 1; omega))); done)
              | exact zQm.ok H1 (by omega) (by assumption) (by unfold sp_removeAt; (try unfold spPut); (try simp only [Int.toNat_natCast]); (repeat (first | rw [if_pos (by omega)] | rw [if_neg (by omega)] | rw [if_pos (by assumption)] | rw [if_neg (by assumption)] | rw [if_pos (True.intro : True)])); (try (first | rfl | (congr 2; omega) | (congr 1; congr 1; omega))); done)
              | exact zQm.b1 H1 (by omega) (by assumption) (by unfold sp_removeAt; (try unfold spPut); (try simp only [Int.toNat_natCast]); (repeat (first | rw [if_pos (by omega)] | rw [if_neg (by omega)] | rw [if_pos (by assumption)] | rw [if_neg (by assumption)] | rw [if_pos (True.intro : True)])); (try (first | rfl | (congr 2; omega) | (congr 1; congr 1; omega))); done)
              | exact zQm.b2 H1 (by omega) (by assumption) (by unfold sp_removeAt; (try unfold spPut); (try simp only [Int.toNat_natCast]); (repeat (first | rw [if_pos (by omega)] | rw [if_neg (by omega)] | rw [if_pos (by assumption)] | rw [if_neg (by assumption)] | rw [if_pos (True.intro : True)])); (try (first | rfl | (congr 2; omega) | (congr 1; congr 1; omega))); done)
              | exact zQm.b3 H1 (by omega) (by assumption) (by unfold sp_removeAt; (try unfold spPut); (try simp only [Int.toNat_natCast]); (repeat (first | rw [if_pos (by omega)] | rw [if_neg (by omega)] | rw [if_pos (by assumption)] | rw [if_neg (by assumption)] | rw [if_pos (True.intro : True)])); (try (first | rfl | (congr 2; omega) | (congr 1; congr 1; omega))); done)
        · exfalso; omega
theorem k_Mod_take {p w : Int} (H : zMod G h ma S th) (z_p : zI32 p) (z_w : zI32 w) (h16 : ∀ k, k < 4 → (S.1 k).length ≤ 16) : zM G l hMod_take yMod_take 4 [.ref (ma 0), zi p, zi w] h (zQm G ma h (1) (2) (3) (sp_take S p w)) zNo 1 60 := by
  obtain ⟨m1, m2, ⟨g, m3, m3a⟩, m4, ⟨f6, m5, m5a⟩, m6, m7⟩ := id H
  unfold zMfs at m2
  refine zM.of [some (.ref (ma 0)), some (zi p), some (zi w), none, none] (by decide +kernel) rfl (by decide) rfl (Nat.le_of_ble_eq_true rfl) rfl ?_
  refine z_aload_n dMod_take_0 rfl ?_
  refine z_iload_n dMod_take_1 rfl ?_
  refine z_callS MS_Mod_isNo lk_Mod_81 dMod_take_2 (k_Mod_isNo (by omega)) rfl rfl (Nat.le_of_ble_eq_true rfl)  (Nat.le_of_ble_eq_true rfl) (Nat.le_of_ble_eq_true rfl) (Nat.le_of_eq (Nat.zero_add _)) (Nat.le_of_eq (Nat.zero_add _)) (fun _ _ q => q.elim) ?_
  rintro _ _ ⟨n9, rfl, hn9, rfl⟩
  refine z_iload_n dMod_take_5 rfl ?_
  refine z_iconst dMod_take_6 ?_
  refine z_bipush dMod_take_7 rfl ?_
  refine z_callS MS_Mod_isOut lk_Mod_41 dMod_take_9 (k_Mod_isOut (by omega) (by omega) (by omega)) rfl rfl (Nat.le_of_ble_eq_true rfl)  (Nat.le_of_ble_eq_true rfl) (Nat.le_of_ble_eq_true rfl) (Nat.le_of_eq (Nat.zero_add _)) (Nat.le_of_eq (Nat.zero_add _)) (fun _ _ q => q.elim) ?_
  rintro _ _ ⟨o9, rfl, ho9, rfl⟩
  refine z_iconst dMod_take_12 ?_
  refine z_callV MV_Mod_fails lk_Mod_88 dMod_take_13 (k_Mod_fails (by assumption) rfl (by omega) (by omega) (by omega)) rfl rfl (Nat.le_of_ble_eq_true rfl) rfl (by assumption) (Nat.le_of_ble_eq_true rfl) (Nat.le_of_ble_eq_true rfl) (Nat.le_of_eq (Nat.zero_add _)) (Nat.le_of_eq (Nat.zero_add _)) (fun _ _ q => q.elim) ?_
  rintro _ h1 ⟨t9, b8, rfl, ht, p1, g1⟩
  have H1 : zMod G h1 ma S t9 := H.obj (nu := S.2.2.2.2) (th' := t9) p1 g1
  have fz1 : zMfr ma h h1 := zMfr.of0 g1
  obtain ⟨-, n2, ⟨gg, n3, n3a⟩, n4, ⟨f61, n5, n5a⟩, n6, n7⟩ := id H1
  unfold zMfs at n2
  refine z_if_eq (tgt := 21) dMod_take_16 (by decide) (by omega) (fun c16 => ?_) (fun c16 => ?_)
  · obtain ⟨k, rfl⟩ := Int.eq_ofNat_of_zero_le (show 0 ≤ p by omega)
    obtain ⟨frk, rk1, rk2, rk3, rk4⟩ := id (n6 k (by omega))
    have h16k := h16 k (by omega)
    have ezk : ∀ i : Int, 0 ≤ i → i < ((S.1 k).length : Int) → frk i.toNat = zAt (S.1 k) i := fun i x1 x2 => by rw [rk3 _ (by omega), zAt_eq x1 x2]
    refine z_aload_n dMod_take_21 rfl ?_
    refine z_get (k := 0) fd_Mod (by decide) fl_Mod_11 dMod_take_22 (by assumption) (by rfl) ?_
    refine z_iload_n dMod_take_25 rfl ?_
    refine z_aald (t := 4) (ty := .array .int) rfl rfl dMod_take_26 n3 (by refine ⟨?_, ?_, ?_⟩ <;> omega) ?_
    rw [show (k : Int).toNat = k from rfl, n3a k (by omega)]
    refine z_astore_n dMod_take_27 (Nat.le_of_ble_eq_true rfl) ?_
    refine z_aload_n dMod_take_28 rfl ?_
    refine z_alenI dMod_take_29 (by assumption) ?_
    refine z_if_ne (tgt := 65) dMod_take_30 (by decide) (by omega) (fun c30 => ?_) (fun c30 => ?_)
    · refine z_iload_n dMod_take_65 rfl ?_
      refine z_callS MS_Mod_isAtEnd lk_Mod_99 dMod_take_66 (k_Mod_isAtEnd (by omega)) rfl rfl (Nat.le_of_ble_eq_true rfl)  (Nat.le_of_ble_eq_true rfl) (Nat.le_of_ble_eq_true rfl) (Nat.le_of_eq (Nat.zero_add _)) (Nat.le_of_eq (Nat.zero_add _)) (fun _ _ q => q.elim) ?_
      rintro _ _ ⟨b7, rfl, hb7, rfl⟩
      refine z_if_eq (tgt := 79) dMod_take_69 (by decide) (by omega) (fun c69 => ?_) (fun c69 => ?_)
      · refine z_iconst dMod_take_79 ?_
        refine z_istore dMod_take_80 (Nat.le_of_ble_eq_true rfl) ?_
        refine z_aload_n dMod_take_82 rfl ?_
        refine z_iload_n dMod_take_83 rfl ?_
        refine z_aload_n dMod_take_84 rfl ?_
        refine z_iload dMod_take_85 rfl ?_
        refine z_callS (bc' := 0) (bs' := 0) MS_Mod_without lk_Mod_102 dMod_take_87 (k_Mod_without (n6 k (by omega)) (by omega) (by omega)) rfl rfl (Nat.le_of_ble_eq_true rfl)  (Nat.le_of_ble_eq_true rfl) (Nat.le_of_ble_eq_true rfl) (by decide) (by decide) (fun _ _ q => q.elim) ?_
        rintro _ h2 ⟨q2, rfl, hq2, gq2, r2, F2⟩
        have H2 : zMod G h2 ma S t9 := H1.keep hq2 F2
        have fz2 : zMfr ma h h2 := fz1.tr (zMfr.new hq2 F2)
        have dq2 : zDm h q2 := hq2.up H1 fz1
        have oc2 := H2.2.1
        have rk2b := (F2 _ (H1.nq hq2 (i := 8 + k) (by omega)).symm).trans rk1
        refine z_iconst dMod_take_90 ?_
        refine z_callV MV_Mod_become lk_Mod_77 dMod_take_91 (k_Mod_become H2 (by omega) r2 (fun i hi _ => H1.nq hq2 hi) (by omega)) rfl rfl (Nat.le_of_ble_eq_true rfl) rfl (by assumption) (Nat.le_of_ble_eq_true rfl) (Nat.le_of_ble_eq_true rfl) (Nat.le_of_eq (Nat.zero_add _)) (Nat.le_of_eq (Nat.zero_add _)) (fun _ _ q => q.elim) ?_
        rintro _ h3 ⟨rfl, H3, F3⟩
        have fz3 : zMfr ma h h3 := fz2.tr (zMfr.bec F3)
        have rk3b := (F3 _ (H1.inj (i := 8 + k) (j := 1) (by omega) (by omega) (by omega)) (H1.inj (i := 8 + k) (j := 3) (by omega) (by omega) (by omega))).trans rk2b
        refine z_aload_n dMod_take_94 rfl ?_
        refine z_iload dMod_take_95 rfl ?_
        refine z_iald dMod_take_97 (by assumption) (by refine ⟨?_, ?_, ?_⟩ <;> omega) ?_
        rw [rk3 _ (by omega)]
        refine z_iret rfl rfl dMod_take_98 ?_
        rcases (show t9 = 0 ∨ t9 = 1 ∨ t9 = 2 ∨ t9 = 3 by omega) with t0 | t0 | t0 | t0
        all_goals first
          | (exfalso; omega)
          | exact zQm.okB H3 (Or.inr ⟨dq2, gq2⟩) (by omega) (by assumption) (by unfold sp_take; (try unfold spPut); (try simp only [Int.toNat_natCast]); (repeat (first | rw [if_pos (by omega)] | rw [if_neg (by omega)] | rw [if_pos (by assumption)] | rw [if_neg (by assumption)] | rw [if_pos (True.intro : True)])); (try (first | rfl | (congr 2; omega) | (congr 1; congr 1; omega))); done)
          | exact zQm.okB H3 (Or.inl rfl) (by omega) (by assumption) (by unfold sp_take; (try unfold spPut); (try simp only [Int.toNat_natCast]); (repeat (first | rw [if_pos (by omega)] | rw [if_neg (by omega)] | rw [if_pos (by assumption)] | rw [if_neg (by assumption)] | rw [if_pos (True.intro : True)])); (try (first | rfl | (congr 2; omega) | (congr 1; congr 1; omega))); done)
          | exact zQm.ok H2 (by omega) (by assumption) (by unfold sp_take; (try unfold spPut); (try simp only [Int.toNat_natCast]); (repeat (first | rw [if_pos (by omega)] | rw [if_neg (by omega)] | rw [if_pos (by assumption)] | rw [if_neg (by assumption)] | rw [if_pos (True.intro : True)])); (try (first | rfl | (congr 2; omega) | (congr 1; congr 1; omega))); done)
          | exact zQm.b1 H2 (by omega) (by assumption) (by unfold sp_take; (try unfold spPut); (try simp only [Int.toNat_natCast]); (repeat (first | rw [if_pos (by omega)] | rw [if_neg (by omega)] | rw [if_pos (by assumption)] | rw [if_neg (by assumption)] | rw [if_pos (True.intro : True)])); (try (first | rfl | (congr 2; omega) | (congr 1; congr 1; omega))); done)
          | exact zQm.b2 H2 (by omega) (by assumption) (by unfold sp_take; (try unfold spPut); (try simp only [Int.toNat_natCast]); (repeat (first | rw [if_pos (by omega)] | rw [if_neg (by omega)] | rw [if_pos (by assumption)] | rw [if_neg (by assumption)] | rw [if_pos (True.intro : True)])); (try (first | rfl | (congr 2; omega) | (congr 1; congr 1; omega))); done)
          | exact zQm.b3 H2 (by omega) (by assumption) (by unfold sp_take; (try unfold spPut); (try simp only [Int.toNat_natCast]); (repeat (first | rw [if_pos (by omega)] | rw [if_neg (by omega)] | rw [if_pos (by assumption)] | rw [if_neg (by assumption)] | rw [if_pos (True.intro : True)])); (try (first | rfl | (congr 2; omega) | (congr 1; congr 1; omega))); done)
          | exact zQm.ok H1 (by omega) (by assumption) (by unfold sp_take; (try unfold spPut); (try simp only [Int.toNat_natCast]); (repeat (first | rw [if_pos (by omega)] | rw [if_neg (by omega)] | rw [if_pos (by assumption)] | rw [if_neg (by assumption)] | rw [if_pos (True.intro : True)])); (try (first | rfl | (congr 2; omega) | (congr 1; congr 1; omega))); done)
          | exact zQm.b1 H1 (by omega) (by assumption) (by unfold sp_take; (try unfold spPut); (try simp only [Int.toNat_natCast]); (repeat (first | rw [if_pos (by omega)] | rw [if_neg (by omega)] | rw [if_pos (by assumption)] | rw [if_neg (by assumption)] | rw [if_pos (True.intro : True)])); (try (first | rfl | (congr 2; omega) | (congr 1; congr 1; omega))); done)
          | exact zQm.b2 H1 (by omega) (by assumption) (by unfold sp_take; (try unfold spPut); (try simp only [Int.toNat_natCast]); (repeat (first | rw [if_pos (by omega)] | rw [if_neg (by omega)] | rw [if_pos (by assumption)] | rw [if_neg (by assumption)] | rw [if_pos (True.intro : True)])); (try (first | rfl | (congr 2; omega) | (congr 1; congr 1; omega))); done)
          | exact zQm.b3 H1 (by omega) (by assumption) (by unfold sp_take; (try unfold spPut); (try simp only [Int.toNat_natCast]); (repeat (first | rw [if_pos (by omega)] | rw [if_neg (by omega)] | rw [if_pos (by assumption)] | rw [if_neg (by assumption)] | rw [if_pos (True.intro : True)])); (try (first | rfl | (congr 2; omega) | (congr 1; congr 1; omega))); done)
      · refine z_aload_n dMod_take_72 rfl ?_
        refine z_alenI dMod_take_73 (by assumption) ?_
        refine z_iconst dMod_take_74 ?_
        refine z_isub dMod_take_75 ?_
        refine z_goto (tgt := 80) dMod_take_76 (by decide) ?_
        refine z_istore dMod_take_80 (Nat.le_of_ble_eq_true rfl) ?_
        refine z_aload_n dMod_take_82 rfl ?_
        refine z_iload_n dMod_take_83 rfl ?_
        refine z_aload_n dMod_take_84 rfl ?_
        refine z_iload dMod_take_85 rfl ?_
        refine z_callS (bc' := 0) (bs' := 0) MS_Mod_without lk_Mod_102 dMod_take_87 (k_Mod_without (n6 k (by omega)) (by omega) (by omega)) rfl rfl (Nat.le_of_ble_eq_true rfl)  (Nat.le_of_ble_eq_true rfl) (Nat.le_of_ble_eq_true rfl) (by decide) (by decide) (fun _ _ q => q.elim) ?_
        rintro _ h2 ⟨q2, rfl, hq2, gq2, r2, F2⟩
        have H2 : zMod G h2 ma S t9 := H1.keep hq2 F2
        have fz2 : zMfr ma h h2 := fz1.tr (zMfr.new hq2 F2)
        have dq2 : zDm h q2 := hq2.up H1 fz1
        have oc2 := H2.2.1
        have rk2b := (F2 _ (H1.nq hq2 (i := 8 + k) (by omega)).symm).trans rk1
        refine z_iconst dMod_take_90 ?_
        refine z_callV MV_Mod_become lk_Mod_77 dMod_take_91 (k_Mod_become H2 (by omega) r2 (fun i hi _ => H1.nq hq2 hi) (by omega)) rfl rfl (Nat.le_of_ble_eq_true rfl) rfl (by assumption) (Nat.le_of_ble_eq_true rfl) (Nat.le_of_ble_eq_true rfl) (Nat.le_of_eq (Nat.zero_add _)) (Nat.le_of_eq (Nat.zero_add _)) (fun _ _ q => q.elim) ?_
        rintro _ h3 ⟨rfl, H3, F3⟩
        have fz3 : zMfr ma h h3 := fz2.tr (zMfr.bec F3)
        have rk3b := (F3 _ (H1.inj (i := 8 + k) (j := 1) (by omega) (by omega) (by omega)) (H1.inj (i := 8 + k) (j := 3) (by omega) (by omega) (by omega))).trans rk2b
        refine z_aload_n dMod_take_94 rfl ?_
        refine z_iload dMod_take_95 rfl ?_
        refine z_iald dMod_take_97 (by assumption) (by refine ⟨?_, ?_, ?_⟩ <;> omega) ?_
        rw [rk3 _ (by omega)]
        refine z_iret rfl rfl dMod_take_98 ?_
        rcases (show t9 = 0 ∨ t9 = 1 ∨ t9 = 2 ∨ t9 = 3 by omega) with t0 | t0 | t0 | t0
        all_goals first
          | (exfalso; omega)
          | exact zQm.okB H3 (Or.inr ⟨dq2, gq2⟩) (by omega) (by assumption) (by unfold sp_take; (try unfold spPut); (try simp only [Int.toNat_natCast]); (repeat (first | rw [if_pos (by omega)] | rw [if_neg (by omega)] | rw [if_pos (by assumption)] | rw [if_neg (by assumption)] | rw [if_pos (True.intro : True)])); (try (first | rfl | (congr 2; omega) | (congr 1; congr 1; omega))); done)
          | exact zQm.okB H3 (Or.inl rfl) (by omega) (by assumption) (by unfold sp_take; (try unfold spPut); (try simp only [Int.toNat_natCast]); (repeat (first | rw [if_pos (by omega)] | rw [if_neg (by omega)] | rw [if_pos (by assumption)] | rw [if_neg (by assumption)] | rw [if_pos (True.intro : True)])); (try (first | rfl | (congr 2; omega) | (congr 1; congr 1; omega))); done)
          | exact zQm.ok H2 (by omega) (by assumption) (by unfold sp_take; (try unfold spPut); (try simp only [Int.toNat_natCast]); (repeat (first | rw [if_pos (by omega)] | rw [if_neg (by omega)] | rw [if_pos (by assumption)] | rw [if_neg (by assumption)] | rw [if_pos (True.intro : True)])); (try (first | rfl | (congr 2; omega) | (congr 1; congr 1; omega))); done)
          | exact zQm.b1 H2 (by omega) (by assumption) (by unfold sp_take; (try unfold spPut); (try simp only [Int.toNat_natCast]); (repeat (first | rw [if_pos (by omega)] | rw [if_neg (by omega)] | rw [if_pos (by assumption)] | rw [if_neg (by assumption)] | rw [if_pos (True.intro : True)])); (try (first | rfl | (congr 2; omega) | (congr 1; congr 1; omega))); done)
          | exact zQm.b2 H2 (by omega) (by assumption) (by unfold sp_take; (try unfold spPut); (try simp only [Int.toNat_natCast]); (repeat (first | rw [if_pos (by omega)] | rw [if_neg (by omega)] | rw [if_pos (by assumption)] | rw [if_neg (by assumption)] | rw [if_pos (True.intro : True)])); (try (first | rfl | (congr 2; omega) | (congr 1; congr 1; omega))); done)
          | exact zQm.b3 H2 (by omega) (by assumption) (by unfold sp_take; (try unfold spPut); (try simp only [Int.toNat_natCast]); (repeat (first | rw [if_pos (by omega)] | rw [if_neg (by omega)] | rw [if_pos (by assumption)] | rw [if_neg (by assumption)] | rw [if_pos (True.intro : True)])); (try (first | rfl | (congr 2; omega) | (congr 1; congr 1; omega))); done)
          | exact zQm.ok H1 (by omega) (by assumption) (by unfold sp_take; (try unfold spPut); (try simp only [Int.toNat_natCast]); (repeat (first | rw [if_pos (by omega)] | rw [if_neg (by omega)] | rw [if_pos (by assumption)] | rw [if_neg (by assumption)] | rw [if_pos (True.intro : True)])); (try (first | rfl | (congr 2; omega) | (congr 1; congr 1; omega))); done)
          | exact zQm.b1 H1 (by omega) (by assumption) (by unfold sp_take; (try unfold spPut); (try simp only [Int.toNat_natCast]); (repeat (first | rw [if_pos (by omega)] | rw [if_neg (by omega)] | rw [if_pos (by assumption)] | rw [if_neg (by assumption)] | rw [if_pos (True.intro : True)])); (try (first | rfl | (congr 2; omega) | (congr 1; congr 1; omega))); done)
          | exact zQm.b2 H1 (by omega) (by assumption) (by unfold sp_take; (try unfold spPut); (try simp only [Int.toNat_natCast]); (repeat (first | rw [if_pos (by omega)] | rw [if_neg (by omega)] | rw [if_pos (by assumption)] | rw [if_neg (by assumption)] | rw [if_pos (True.intro : True)])); (try (first | rfl | (congr 2; omega) | (congr 1; congr 1; omega))); done)
          | exact zQm.b3 H1 (by omega) (by assumption) (by unfold sp_take; (try unfold spPut); (try simp only [Int.toNat_natCast]); (repeat (first | rw [if_pos (by omega)] | rw [if_neg (by omega)] | rw [if_pos (by assumption)] | rw [if_neg (by assumption)] | rw [if_pos (True.intro : True)])); (try (first | rfl | (congr 2; omega) | (congr 1; congr 1; omega))); done)
    · refine z_iload_n dMod_take_33 rfl ?_
      refine z_iconst dMod_take_34 ?_
      refine z_icmp_eq (tgt := 54) dMod_take_35 (by decide) (by omega) (by omega) (fun c35 => ?_) (fun c35 => ?_)
      · refine z_aload_n dMod_take_54 rfl ?_
        refine z_iload_n dMod_take_55 rfl ?_
        refine z_aload_n dMod_take_56 rfl ?_
        refine z_iconst dMod_take_57 ?_
        refine z_callV MV_Mod_become lk_Mod_77 dMod_take_58 (k_Mod_become H1 (by omega) (n6 k (by omega)) (fun i hi hne => H1.inj (by omega) hi hne.symm) (by omega)) rfl rfl (Nat.le_of_ble_eq_true rfl) rfl (by assumption) (Nat.le_of_ble_eq_true rfl) (Nat.le_of_ble_eq_true rfl) (Nat.le_of_eq (Nat.zero_add _)) (Nat.le_of_eq (Nat.zero_add _)) (fun _ _ q => q.elim) ?_
        rintro _ h3 ⟨rfl, H3, F3⟩
        have fz3 : zMfr ma h h3 := fz1.tr (zMfr.bec F3)
        rw [zsL_id] at H3
        refine z_sipush dMod_take_61 rfl ?_
        refine z_iret rfl rfl dMod_take_64 ?_
        rcases (show t9 = 0 ∨ t9 = 1 ∨ t9 = 2 ∨ t9 = 3 by omega) with t0 | t0 | t0 | t0
        all_goals first
          | (exfalso; omega)
          | exact zQm.okB H3 (Or.inr ⟨dq2, gq2⟩) (by omega) (by assumption) (by unfold sp_take; (try unfold spPut); (try simp only [Int.toNat_natCast]); (repeat (first | rw [if_pos (by omega)] | rw [if_neg (by omega)] | rw [if_pos (by assumption)] | rw [if_neg (by assumption)] | rw [if_pos (True.intro : True)])); (try (first | rfl | (congr 2; omega) | (congr 1; congr 1; omega))); done)
          | exact zQm.okB H3 (Or.inl rfl) (by omega) (by assumption) (by unfold sp_take; (try unfold spPut); (try simp only [Int.toNat_natCast]); (repeat (first | rw [if_pos (by omega)] | rw [if_neg (by omega)] | rw [if_pos (by assumption)] | rw [if_neg (by assumption)] | rw [if_pos (True.intro : True)])); (try (first | rfl | (congr 2; omega) | (congr 1; congr 1; omega))); done)
          | exact zQm.ok H2 (by omega) (by assumption) (by unfold sp_take; (try unfold spPut); (try simp only [Int.toNat_natCast]); (repeat (first | rw [if_pos (by omega)] | rw [if_neg (by omega)] | rw [if_pos (by assumption)] | rw [if_neg (by assumption)] | rw [if_pos (True.intro : True)])); (try (first | rfl | (congr 2; omega) | (congr 1; congr 1; omega))); done)
          | exact zQm.b1 H2 (by omega) (by assumption) (by unfold sp_take; (try unfold spPut); (try simp only [Int.toNat_natCast]); (repeat (first | rw [if_pos (by omega)] | rw [if_neg (by omega)] | rw [if_pos (by assumption)] | rw [if_neg (by assumption)] | rw [if_pos (True.intro : True)])); (try (first | rfl | (congr 2; omega) | (congr 1; congr 1; omega))); done)
          | exact zQm.b2 H2 (by omega) (by assumption) (by unfold sp_take; (try unfold spPut); (try simp only [Int.toNat_natCast]); (repeat (first | rw [if_pos (by omega)] | rw [if_neg (by omega)] | rw [if_pos (by assumption)] | rw [if_neg (by assumption)] | rw [if_pos (True.intro : True)])); (try (first | rfl | (congr 2; omega) | (congr 1; congr 1; omega))); done)
          | exact zQm.b3 H2 (by omega) (by assumption) (by unfold sp_take; (try unfold spPut); (try simp only [Int.toNat_natCast]); (repeat (first | rw [if_pos (by omega)] | rw [if_neg (by omega)] | rw [if_pos (by assumption)] | rw [if_neg (by assumption)] | rw [if_pos (True.intro : True)])); (try (first | rfl | (congr 2; omega) | (congr 1; congr 1; omega))); done)
          | exact zQm.ok H1 (by omega) (by assumption) (by unfold sp_take; (try unfold spPut); (try simp only [Int.toNat_natCast]); (repeat (first | rw [if_pos (by omega)] | rw [if_neg (by omega)] | rw [if_pos (by assumption)] | rw [if_neg (by assumption)] | rw [if_pos (True.intro : True)])); (try (first | rfl | (congr 2; omega) | (congr 1; congr 1; omega))); done)
          | exact zQm.b1 H1 (by omega) (by assumption) (by unfold sp_take; (try unfold spPut); (try simp only [Int.toNat_natCast]); (repeat (first | rw [if_pos (by omega)] | rw [if_neg (by omega)] | rw [if_pos (by assumption)] | rw [if_neg (by assumption)] | rw [if_pos (True.intro : True)])); (try (first | rfl | (congr 2; omega) | (congr 1; congr 1; omega))); done)
          | exact zQm.b2 H1 (by omega) (by assumption) (by unfold sp_take; (try unfold spPut); (try simp only [Int.toNat_natCast]); (repeat (first | rw [if_pos (by omega)] | rw [if_neg (by omega)] | rw [if_pos (by assumption)] | rw [if_neg (by assumption)] | rw [if_pos (True.intro : True)])); (try (first | rfl | (congr 2; omega) | (congr 1; congr 1; omega))); done)
          | exact zQm.b3 H1 (by omega) (by assumption) (by unfold sp_take; (try unfold spPut); (try simp only [Int.toNat_natCast]); (repeat (first | rw [if_pos (by omega)] | rw [if_neg (by omega)] | rw [if_pos (by assumption)] | rw [if_neg (by assumption)] | rw [if_pos (True.intro : True)])); (try (first | rfl | (congr 2; omega) | (congr 1; congr 1; omega))); done)
      · refine z_iload_n dMod_take_38 rfl ?_
        refine z_iconst dMod_take_39 ?_
        refine z_icmp_eq (tgt := 54) dMod_take_40 (by decide) (by omega) (by omega) (fun c40 => ?_) (fun c40 => ?_)
        · refine z_aload_n dMod_take_54 rfl ?_
          refine z_iload_n dMod_take_55 rfl ?_
          refine z_aload_n dMod_take_56 rfl ?_
          refine z_iconst dMod_take_57 ?_
          refine z_callV MV_Mod_become lk_Mod_77 dMod_take_58 (k_Mod_become H1 (by omega) (n6 k (by omega)) (fun i hi hne => H1.inj (by omega) hi hne.symm) (by omega)) rfl rfl (Nat.le_of_ble_eq_true rfl) rfl (by assumption) (Nat.le_of_ble_eq_true rfl) (Nat.le_of_ble_eq_true rfl) (Nat.le_of_eq (Nat.zero_add _)) (Nat.le_of_eq (Nat.zero_add _)) (fun _ _ q => q.elim) ?_
          rintro _ h3 ⟨rfl, H3, F3⟩
          have fz3 : zMfr ma h h3 := fz1.tr (zMfr.bec F3)
          rw [zsL_id] at H3
          refine z_sipush dMod_take_61 rfl ?_
          refine z_iret rfl rfl dMod_take_64 ?_
          rcases (show t9 = 0 ∨ t9 = 1 ∨ t9 = 2 ∨ t9 = 3 by omega) with t0 | t0 | t0 | t0
          all_goals first
            | (exfalso; omega)
            | exact zQm.okB H3 (Or.inr ⟨dq2, gq2⟩) (by omega) (by assumption) (by unfold sp_take; (try unfold spPut); (try simp only [Int.toNat_natCast]); (repeat (first | rw [if_pos (by omega)] | rw [if_neg (by omega)] | rw [if_pos (by assumption)] | rw [if_neg (by assumption)] | rw [if_pos (True.intro : True)])); (try (first | rfl | (congr 2; omega) | (congr 1; congr 1; omega))); done)
            | exact zQm.okB H3 (Or.inl rfl) (by omega) (by assumption) (by unfold sp_take; (try unfold spPut); (try simp only [Int.toNat_natCast]); (repeat (first | rw [if_pos (by omega)] | rw [if_neg (by omega)] | rw [if_pos (by assumption)] | rw [if_neg (by assumption)] | rw [if_pos (True.intro : True)])); (try (first | rfl | (congr 2; omega) | (congr 1; congr 1; omega))); done)
            | exact zQm.ok H2 (by omega) (by assumption) (by unfold sp_take; (try unfold spPut); (try simp only [Int.toNat_natCast]); (repeat (first | rw [if_pos (by omega)] | rw [if_neg (by omega)] | rw [if_pos (by assumption)] | rw [if_neg (by assumption)] | rw [if_pos (True.intro : True)])); (try (first | rfl | (congr 2; omega) | (congr 1; congr 1; omega))); done)
            | exact zQm.b1 H2 (by omega) (by assumption) (by unfold sp_take; (try unfold spPut); (try simp only [Int.toNat_natCast]); (repeat (first | rw [if_pos (by omega)] | rw [if_neg (by omega)] | rw [if_pos (by assumption)] | rw [if_neg (by assumption)] | rw [if_pos (True.intro : True)])); (try (first | rfl | (congr 2; omega) | (congr 1; congr 1; omega))); done)
            | exact zQm.b2 H2 (by omega) (by assumption) (by unfold sp_take; (try unfold spPut); (try simp only [Int.toNat_natCast]); (repeat (first | rw [if_pos (by omega)] | rw [if_neg (by omega)] | rw [if_pos (by assumption)] | rw [if_neg (by assumption)] | rw [if_pos (True.intro : True)])); (try (first | rfl | (congr 2; omega) | (congr 1; congr 1; omega))); done)
            | exact zQm.b3 H2 (by omega) (by assumption) (by unfold sp_take; (try unfold spPut); (try simp only [Int.toNat_natCast]); (repeat (first | rw [if_pos (by omega)] | rw [if_neg (by omega)] | rw [if_pos (by assumption)] | rw [if_neg (by assumption)] | rw [if_pos (True.intro : True)])); (try (first | rfl | (congr 2; omega) | (congr 1; congr 1; omega))); done)
            | exact zQm.ok H1 (by omega) (by assumption) (by unfold sp_take; (try unfold spPut); (try simp only [Int.toNat_natCast]); (repeat (first | rw [if_pos (by omega)] | rw [if_neg (by omega)] | rw [if_pos (by assumption)] | rw [if_neg (by assumption)] | rw [if_pos (True.intro : True)])); (try (first | rfl | (congr 2; omega) | (congr 1; congr 1; omega))); done)
            | exact zQm.b1 H1 (by omega) (by assumption) (by unfold sp_take; (try unfold spPut); (try simp only [Int.toNat_natCast]); (repeat (first | rw [if_pos (by omega)] | rw [if_neg (by omega)] | rw [if_pos (by assumption)] | rw [if_neg (by assumption)] | rw [if_pos (True.intro : True)])); (try (first | rfl | (congr 2; omega) | (congr 1; congr 1; omega))); done)
            | exact zQm.b2 H1 (by omega) (by assumption) (by unfold sp_take; (try unfold spPut); (try simp only [Int.toNat_natCast]); (repeat (first | rw [if_pos (by omega)] | rw [if_neg (by omega)] | rw [if_pos (by assumption)] | rw [if_neg (by assumption)] | rw [if_pos (True.intro : True)])); (try (first | rfl | (congr 2; omega) | (congr 1; congr 1; omega))); done)
            | exact zQm.b3 H1 (by omega) (by assumption) (by unfold sp_take; (try unfold spPut); (try simp only [Int.toNat_natCast]); (repeat (first | rw [if_pos (by omega)] | rw [if_neg (by omega)] | rw [if_pos (by assumption)] | rw [if_neg (by assumption)] | rw [if_pos (True.intro : True)])); (try (first | rfl | (congr 2; omega) | (congr 1; congr 1; omega))); done)
        · refine z_iload_n dMod_take_43 rfl ?_
          refine z_bipush dMod_take_44 rfl ?_
          refine z_icmp_eq (tgt := 54) dMod_take_46 (by decide) (by omega) (by omega) (fun c46 => ?_) (fun c46 => ?_)
          · refine z_aload_n dMod_take_54 rfl ?_
            refine z_iload_n dMod_take_55 rfl ?_
            refine z_aload_n dMod_take_56 rfl ?_
            refine z_iconst dMod_take_57 ?_
            refine z_callV MV_Mod_become lk_Mod_77 dMod_take_58 (k_Mod_become H1 (by omega) (n6 k (by omega)) (fun i hi hne => H1.inj (by omega) hi hne.symm) (by omega)) rfl rfl (Nat.le_of_ble_eq_true rfl) rfl (by assumption) (Nat.le_of_ble_eq_true rfl) (Nat.le_of_ble_eq_true rfl) (Nat.le_of_eq (Nat.zero_add _)) (Nat.le_of_eq (Nat.zero_add _)) (fun _ _ q => q.elim) ?_
            rintro _ h3 ⟨rfl, H3, F3⟩
            have fz3 : zMfr ma h h3 := fz1.tr (zMfr.bec F3)
            rw [zsL_id] at H3
            refine z_sipush dMod_take_61 rfl ?_
            refine z_iret rfl rfl dMod_take_64 ?_
            rcases (show t9 = 0 ∨ t9 = 1 ∨ t9 = 2 ∨ t9 = 3 by omega) with t0 | t0 | t0 | t0
            all_goals first
              | (exfalso; omega)
              | exact zQm.okB H3 (Or.inr ⟨dq2, gq2⟩) (by omega) (by assumption) (by unfold sp_take; (try unfold spPut); (try simp only [Int.toNat_natCast]); (repeat (first | rw [if_pos (by omega)] | rw [if_neg (by omega)] | rw [if_pos (by assumption)] | rw [if_neg (by assumption)] | rw [if_pos (True.intro : True)])); (try (first | rfl | (congr 2; omega) | (congr 1; congr 1; omega))); done)
              | exact zQm.okB H3 (Or.inl rfl) (by omega) (by assumption) (by unfold sp_take; (try unfold spPut); (try simp only [Int.toNat_natCast]); (repeat (first | rw [if_pos (by omega)] | rw [if_neg (by omega)] | rw [if_pos (by assumption)] | rw [if_neg (by assumption)] | rw [if_pos (True.intro : True)])); (try (first | rfl | (congr 2; omega) | (congr 1; congr 1; omega))); done)
              | exact zQm.ok H2 (by omega) (by assumption) (by unfold sp_take; (try unfold spPut); (try simp only [Int.toNat_natCast]); (repeat (first | rw [if_pos (by omega)] | rw [if_neg (by omega)] | rw [if_pos (by assumption)] | rw [if_neg (by assumption)] | rw [if_pos (True.intro : True)])); (try (first | rfl | (congr 2; omega) | (congr 1; congr 1; omega))); done)
              | exact zQm.b1 H2 (by omega) (by assumption) (by unfold sp_take; (try unfold spPut); (try simp only [Int.toNat_natCast]); (repeat (first | rw [if_pos (by omega)] | rw [if_neg (by omega)] | rw [if_pos (by assumption)] | rw [if_neg (by assumption)] | rw [if_pos (True.intro : True)])); (try (first | rfl | (congr 2; omega) | (congr 1; congr 1; omega))); done)
              | exact zQm.b2 H2 (by omega) (by assumption) (by unfold sp_take; (try unfold spPut); (try simp only [Int.toNat_natCast]); (repeat (first | rw [if_pos (by omega)] | rw [if_neg (by omega)] | rw [if_pos (by assumption)] | rw [if_neg (by assumption)] | rw [if_pos (True.intro : True)])); (try (first | rfl | (congr 2; omega) | (congr 1; congr 1; omega))); done)
              | exact zQm.b3 H2 (by omega) (by assumption) (by unfold sp_take; (try unfold spPut); (try simp only [Int.toNat_natCast]); (repeat (first | rw [if_pos (by omega)] | rw [if_neg (by omega)] | rw [if_pos (by assumption)] | rw [if_neg (by assumption)] | rw [if_pos (True.intro : True)])); (try (first | rfl | (congr 2; omega) | (congr 1; congr 1; omega))); done)
              | exact zQm.ok H1 (by omega) (by assumption) (by unfold sp_take; (try unfold spPut); (try simp only [Int.toNat_natCast]); (repeat (first | rw [if_pos (by omega)] | rw [if_neg (by omega)] | rw [if_pos (by assumption)] | rw [if_neg (by assumption)] | rw [if_pos (True.intro : True)])); (try (first | rfl | (congr 2; omega) | (congr 1; congr 1; omega))); done)
              | exact zQm.b1 H1 (by omega) (by assumption) (by unfold sp_take; (try unfold spPut); (try simp only [Int.toNat_natCast]); (repeat (first | rw [if_pos (by omega)] | rw [if_neg (by omega)] | rw [if_pos (by assumption)] | rw [if_neg (by assumption)] | rw [if_pos (True.intro : True)])); (try (first | rfl | (congr 2; omega) | (congr 1; congr 1; omega))); done)
              | exact zQm.b2 H1 (by omega) (by assumption) (by unfold sp_take; (try unfold spPut); (try simp only [Int.toNat_natCast]); (repeat (first | rw [if_pos (by omega)] | rw [if_neg (by omega)] | rw [if_pos (by assumption)] | rw [if_neg (by assumption)] | rw [if_pos (True.intro : True)])); (try (first | rfl | (congr 2; omega) | (congr 1; congr 1; omega))); done)
              | exact zQm.b3 H1 (by omega) (by assumption) (by unfold sp_take; (try unfold spPut); (try simp only [Int.toNat_natCast]); (repeat (first | rw [if_pos (by omega)] | rw [if_neg (by omega)] | rw [if_pos (by assumption)] | rw [if_neg (by assumption)] | rw [if_pos (True.intro : True)])); (try (first | rfl | (congr 2; omega) | (congr 1; congr 1; omega))); done)
          · refine z_aload_n dMod_take_49 rfl ?_
            refine z_callV MV_Mod_refused lk_Mod_92 dMod_take_50 (k_Mod_refused n2 rfl rfl) rfl rfl (Nat.le_of_ble_eq_true rfl) rfl (by assumption) (Nat.le_of_ble_eq_true rfl) (Nat.le_of_ble_eq_true rfl) (Nat.le_of_eq (Nat.zero_add _)) (Nat.le_of_eq (Nat.zero_add _)) (fun _ _ q => q.elim) ?_
            rintro _ h2 ⟨rfl, p2, g2⟩
            have H2 : zMod G h2 ma (zsRef S) t9 := H1.obj (nu := zup S.2.2.2.2 1 (S.2.2.2.2 1 + 1)) p2 g2
            have fz2 : zMfr ma h h2 := zMfr.of0 (fun q hq => (g2 q hq).trans (g1 q hq))
            refine z_iret rfl rfl dMod_take_53 ?_
            rcases (show t9 = 0 ∨ t9 = 1 ∨ t9 = 2 ∨ t9 = 3 by omega) with t0 | t0 | t0 | t0
            all_goals first
              | (exfalso; omega)
              | exact zQm.okB H3 (Or.inr ⟨dq2, gq2⟩) (by omega) (by assumption) (by unfold sp_take; (try unfold spPut); (try simp only [Int.toNat_natCast]); (repeat (first | rw [if_pos (by omega)] | rw [if_neg (by omega)] | rw [if_pos (by assumption)] | rw [if_neg (by assumption)] | rw [if_pos (True.intro : True)])); (try (first | rfl | (congr 2; omega) | (congr 1; congr 1; omega))); done)
              | exact zQm.okB H3 (Or.inl rfl) (by omega) (by assumption) (by unfold sp_take; (try unfold spPut); (try simp only [Int.toNat_natCast]); (repeat (first | rw [if_pos (by omega)] | rw [if_neg (by omega)] | rw [if_pos (by assumption)] | rw [if_neg (by assumption)] | rw [if_pos (True.intro : True)])); (try (first | rfl | (congr 2; omega) | (congr 1; congr 1; omega))); done)
              | exact zQm.ok H2 (by omega) (by assumption) (by unfold sp_take; (try unfold spPut); (try simp only [Int.toNat_natCast]); (repeat (first | rw [if_pos (by omega)] | rw [if_neg (by omega)] | rw [if_pos (by assumption)] | rw [if_neg (by assumption)] | rw [if_pos (True.intro : True)])); (try (first | rfl | (congr 2; omega) | (congr 1; congr 1; omega))); done)
              | exact zQm.b1 H2 (by omega) (by assumption) (by unfold sp_take; (try unfold spPut); (try simp only [Int.toNat_natCast]); (repeat (first | rw [if_pos (by omega)] | rw [if_neg (by omega)] | rw [if_pos (by assumption)] | rw [if_neg (by assumption)] | rw [if_pos (True.intro : True)])); (try (first | rfl | (congr 2; omega) | (congr 1; congr 1; omega))); done)
              | exact zQm.b2 H2 (by omega) (by assumption) (by unfold sp_take; (try unfold spPut); (try simp only [Int.toNat_natCast]); (repeat (first | rw [if_pos (by omega)] | rw [if_neg (by omega)] | rw [if_pos (by assumption)] | rw [if_neg (by assumption)] | rw [if_pos (True.intro : True)])); (try (first | rfl | (congr 2; omega) | (congr 1; congr 1; omega))); done)
              | exact zQm.b3 H2 (by omega) (by assumption) (by unfold sp_take; (try unfold spPut); (try simp only [Int.toNat_natCast]); (repeat (first | rw [if_pos (by omega)] | rw [if_neg (by omega)] | rw [if_pos (by assumption)] | rw [if_neg (by assumption)] | rw [if_pos (True.intro : True)])); (try (first | rfl | (congr 2; omega) | (congr 1; congr 1; omega))); done)
              | exact zQm.ok H1 (by omega) (by assumption) (by unfold sp_take; (try unfold spPut); (try simp only [Int.toNat_natCast]); (repeat (first | rw [if_pos (by omega)] | rw [if_neg (by omega)] | rw [if_pos (by assumption)] | rw [if_neg (by assumption)] | rw [if_pos (True.intro : True)])); (try (first | rfl | (congr 2; omega) | (congr 1; congr 1; omega))); done)
              | exact zQm.b1 H1 (by omega) (by assumption) (by unfold sp_take; (try unfold spPut); (try simp only [Int.toNat_natCast]); (repeat (first | rw [if_pos (by omega)] | rw [if_neg (by omega)] | rw [if_pos (by assumption)] | rw [if_neg (by assumption)] | rw [if_pos (True.intro : True)])); (try (first | rfl | (congr 2; omega) | (congr 1; congr 1; omega))); done)
              | exact zQm.b2 H1 (by omega) (by assumption) (by unfold sp_take; (try unfold spPut); (try simp only [Int.toNat_natCast]); (repeat (first | rw [if_pos (by omega)] | rw [if_neg (by omega)] | rw [if_pos (by assumption)] | rw [if_neg (by assumption)] | rw [if_pos (True.intro : True)])); (try (first | rfl | (congr 2; omega) | (congr 1; congr 1; omega))); done)
              | exact zQm.b3 H1 (by omega) (by assumption) (by unfold sp_take; (try unfold spPut); (try simp only [Int.toNat_natCast]); (repeat (first | rw [if_pos (by omega)] | rw [if_neg (by omega)] | rw [if_pos (by assumption)] | rw [if_neg (by assumption)] | rw [if_pos (True.intro : True)])); (try (first | rfl | (congr 2; omega) | (congr 1; congr 1; omega))); done)
  · refine z_iconst dMod_take_19 ?_
    refine z_iret rfl rfl dMod_take_20 ?_
    rcases (show t9 = 0 ∨ t9 = 1 ∨ t9 = 2 ∨ t9 = 3 by omega) with t0 | t0 | t0 | t0
    all_goals first
      | (exfalso; omega)
      | exact zQm.okB H3 (Or.inr ⟨dq2, gq2⟩) (by omega) (by assumption) (by unfold sp_take; (try unfold spPut); (try simp only [Int.toNat_natCast]); (repeat (first | rw [if_pos (by omega)] | rw [if_neg (by omega)] | rw [if_pos (by assumption)] | rw [if_neg (by assumption)] | rw [if_pos (True.intro : True)])); (try (first | rfl | (congr 2; omega) | (congr 1; congr 1; omega))); done)
      | exact zQm.okB H3 (Or.inl rfl) (by omega) (by assumption) (by unfold sp_take; (try unfold spPut); (try simp only [Int.toNat_natCast]); (repeat (first | rw [if_pos (by omega)] | rw [if_neg (by omega)] | rw [if_pos (by assumption)] | rw [if_neg (by assumption)] | rw [if_pos (True.intro : True)])); (try (first | rfl | (congr 2; omega) | (congr 1; congr 1; omega))); done)
      | exact zQm.ok H2 (by omega) (by assumption) (by unfold sp_take; (try unfold spPut); (try simp only [Int.toNat_natCast]); (repeat (first | rw [if_pos (by omega)] | rw [if_neg (by omega)] | rw [if_pos (by assumption)] | rw [if_neg (by assumption)] | rw [if_pos (True.intro : True)])); (try (first | rfl | (congr 2; omega) | (congr 1; congr 1; omega))); done)
      | exact zQm.b1 H2 (by omega) (by assumption) (by unfold sp_take; (try unfold spPut); (try simp only [Int.toNat_natCast]); (repeat (first | rw [if_pos (by omega)] | rw [if_neg (by omega)] | rw [if_pos (by assumption)] | rw [if_neg (by assumption)] | rw [if_pos (True.intro : True)])); (try (first | rfl | (congr 2; omega) | (congr 1; congr 1; omega))); done)
      | exact zQm.b2 H2 (by omega) (by assumption) (by unfold sp_take; (try unfold spPut); (try simp only [Int.toNat_natCast]); (repeat (first | rw [if_pos (by omega)] | rw [if_neg (by omega)] | rw [if_pos (by assumption)] | rw [if_neg (by assumption)] | rw [if_pos (True.intro : True)])); (try (first | rfl | (congr 2; omega) | (congr 1; congr 1; omega))); done)
      | exact zQm.b3 H2 (by omega) (by assumption) (by unfold sp_take; (try unfold spPut); (try simp only [Int.toNat_natCast]); (repeat (first | rw [if_pos (by omega)] | rw [if_neg (by omega)] | rw [if_pos (by assumption)] | rw [if_neg (by assumption)] | rw [if_pos (True.intro : True)])); (try (first | rfl | (congr 2; omega) | (congr 1; congr 1; omega))); done)
      | exact zQm.ok H1 (by omega) (by assumption) (by unfold sp_take; (try unfold spPut); (try simp only [Int.toNat_natCast]); (repeat (first | rw [if_pos (by omega)] | rw [if_neg (by omega)] | rw [if_pos (by assumption)] | rw [if_neg (by assumption)] | rw [if_pos (True.intro : True)])); (try (first | rfl | (congr 2; omega) | (congr 1; congr 1; omega))); done)
      | exact zQm.b1 H1 (by omega) (by assumption) (by unfold sp_take; (try unfold spPut); (try simp only [Int.toNat_natCast]); (repeat (first | rw [if_pos (by omega)] | rw [if_neg (by omega)] | rw [if_pos (by assumption)] | rw [if_neg (by assumption)] | rw [if_pos (True.intro : True)])); (try (first | rfl | (congr 2; omega) | (congr 1; congr 1; omega))); done)
      | exact zQm.b2 H1 (by omega) (by assumption) (by unfold sp_take; (try unfold spPut); (try simp only [Int.toNat_natCast]); (repeat (first | rw [if_pos (by omega)] | rw [if_neg (by omega)] | rw [if_pos (by assumption)] | rw [if_neg (by assumption)] | rw [if_pos (True.intro : True)])); (try (first | rfl | (congr 2; omega) | (congr 1; congr 1; omega))); done)
      | exact zQm.b3 H1 (by omega) (by assumption) (by unfold sp_take; (try unfold spPut); (try simp only [Int.toNat_natCast]); (repeat (first | rw [if_pos (by omega)] | rw [if_neg (by omega)] | rw [if_pos (by assumption)] | rw [if_neg (by assumption)] | rw [if_pos (True.intro : True)])); (try (first | rfl | (congr 2; omega) | (congr 1; congr 1; omega))); done)
theorem k_Mod_drop {p x b : Int} (H : zMod G h ma S th) (z_p : zI32 p) (z_x : zI32 x) (z_b : zI32 b) (h16 : ∀ k, k < 4 → (S.1 k).length ≤ 16) (hb : b = 0 ∨ b = 1) : zM G l hMod_drop yMod_drop 4 [.ref (ma 0), zi p, zi x, zi b] h (zQm G ma h (1) (2) (3) (sp_drop S p x b)) zNo 1 60 := by
  obtain ⟨m1, m2, ⟨g, m3, m3a⟩, m4, ⟨f6, m5, m5a⟩, m6, m7⟩ := id H
  unfold zMfs at m2
  refine zM.of [some (.ref (ma 0)), some (zi p), some (zi x), some (zi b), none] (by decide +kernel) rfl (by decide) rfl (Nat.le_of_ble_eq_true rfl) rfl ?_
  refine z_aload_n dMod_drop_0 rfl ?_
  refine z_iload_n dMod_drop_1 rfl ?_
  refine z_callS MS_Mod_isNo lk_Mod_81 dMod_drop_2 (k_Mod_isNo (by omega)) rfl rfl (Nat.le_of_ble_eq_true rfl)  (Nat.le_of_ble_eq_true rfl) (Nat.le_of_ble_eq_true rfl) (Nat.le_of_eq (Nat.zero_add _)) (Nat.le_of_eq (Nat.zero_add _)) (fun _ _ q => q.elim) ?_
  rintro _ _ ⟨n9, rfl, hn9, rfl⟩
  refine z_iconst dMod_drop_5 ?_
  refine z_iconst dMod_drop_6 ?_
  refine z_callV MV_Mod_fails lk_Mod_88 dMod_drop_7 (k_Mod_fails (by assumption) rfl (by omega) (by omega) (by omega)) rfl rfl (Nat.le_of_ble_eq_true rfl) rfl (by assumption) (Nat.le_of_ble_eq_true rfl) (Nat.le_of_ble_eq_true rfl) (Nat.le_of_eq (Nat.zero_add _)) (Nat.le_of_eq (Nat.zero_add _)) (fun _ _ q => q.elim) ?_
  rintro _ h1 ⟨t9, b8, rfl, ht, p1, g1⟩
  have H1 : zMod G h1 ma S t9 := H.obj (nu := S.2.2.2.2) (th' := t9) p1 g1
  have fz1 : zMfr ma h h1 := zMfr.of0 g1
  obtain ⟨-, n2, ⟨gg, n3, n3a⟩, n4, ⟨f61, n5, n5a⟩, n6, n7⟩ := id H1
  unfold zMfs at n2
  refine z_if_eq (tgt := 15) dMod_drop_10 (by decide) (by omega) (fun c10 => ?_) (fun c10 => ?_)
  · obtain ⟨k, rfl⟩ := Int.eq_ofNat_of_zero_le (show 0 ≤ p by omega)
    obtain ⟨frk, rk1, rk2, rk3, rk4⟩ := id (n6 k (by omega))
    have h16k := h16 k (by omega)
    have ezk : ∀ i : Int, 0 ≤ i → i < ((S.1 k).length : Int) → frk i.toNat = zAt (S.1 k) i := fun i x1 x2 => by rw [rk3 _ (by omega), zAt_eq x1 x2]
    refine z_aload_n dMod_drop_15 rfl ?_
    refine z_get (k := 0) fd_Mod (by decide) fl_Mod_11 dMod_drop_16 (by assumption) (by rfl) ?_
    refine z_iload_n dMod_drop_19 rfl ?_
    refine z_aald (t := 4) (ty := .array .int) rfl rfl dMod_drop_20 n3 (by refine ⟨?_, ?_, ?_⟩ <;> omega) ?_
    rw [show (k : Int).toNat = k from rfl, n3a k (by omega)]
    refine z_iload_n dMod_drop_21 rfl ?_
    refine z_iload_n dMod_drop_22 rfl ?_
    refine z_callS MS_Mod_find lk_Mod_110 dMod_drop_23 (k_Mod_find (n6 k (by omega)) (by omega) (by omega)) rfl rfl (Nat.le_of_ble_eq_true rfl)  (Nat.le_of_ble_eq_true rfl) (Nat.le_of_ble_eq_true rfl) (Nat.le_of_eq (Nat.zero_add _)) (Nat.le_of_eq (Nat.zero_add _)) (fun _ _ q => q.elim) ?_
    rintro _ _ ⟨rfl, rfl⟩
    have hfi := zFind_in (S.1 k) x b
    refine z_istore dMod_drop_26 (Nat.le_of_ble_eq_true rfl) ?_
    refine z_aload_n dMod_drop_28 rfl ?_
    refine z_iload_n dMod_drop_29 rfl ?_
    refine z_iload dMod_drop_30 rfl ?_
    refine z_iconst dMod_drop_32 ?_
    refine z_icmp_ne (tgt := 45) dMod_drop_33 (by decide) (by omega) (by omega) (fun c33 => ?_) (fun c33 => ?_)
    · refine z_aload_n dMod_drop_45 rfl ?_
      refine z_get (k := 0) fd_Mod (by decide) fl_Mod_11 dMod_drop_46 (by assumption) (by rfl) ?_
      refine z_iload_n dMod_drop_49 rfl ?_
      refine z_aald (t := 4) (ty := .array .int) rfl rfl dMod_drop_50 n3 (by refine ⟨?_, ?_, ?_⟩ <;> omega) ?_
      rw [show (k : Int).toNat = k from rfl, n3a k (by omega)]
      refine z_iload dMod_drop_51 rfl ?_
      refine z_callS (bc' := 0) (bs' := 0) MS_Mod_without lk_Mod_102 dMod_drop_53 (k_Mod_without (n6 k (by omega)) (by omega) (by omega)) rfl rfl (Nat.le_of_ble_eq_true rfl)  (Nat.le_of_ble_eq_true rfl) (Nat.le_of_ble_eq_true rfl) (by decide) (by decide) (fun _ _ q => q.elim) ?_
      rintro _ h2 ⟨q2, rfl, hq2, gq2, r2, F2⟩
      have H2 : zMod G h2 ma S t9 := H1.keep hq2 F2
      have fz2 : zMfr ma h h2 := fz1.tr (zMfr.new hq2 F2)
      have dq2 : zDm h q2 := hq2.up H1 fz1
      have oc2 := H2.2.1
      refine z_iconst dMod_drop_56 ?_
      first
        | refine z_callV MV_Mod_become lk_Mod_77 dMod_drop_57 (k_Mod_become H2 (by omega) r2 (fun i hi _ => H1.nq hq2 hi) (by omega)) rfl rfl (Nat.le_of_ble_eq_true rfl) rfl (by assumption) (Nat.le_of_ble_eq_true rfl) (Nat.le_of_ble_eq_true rfl) (Nat.le_of_eq (Nat.zero_add _)) (Nat.le_of_eq (Nat.zero_add _)) (fun _ _ q => q.elim) ?_
        | refine z_callV MV_Mod_become lk_Mod_77 dMod_drop_57 (k_Mod_become H1 (by omega) (n6 k (by omega)) (fun i hi hne => H1.inj (by omega) hi hne.symm) (by omega)) rfl rfl (Nat.le_of_ble_eq_true rfl) rfl (by assumption) (Nat.le_of_ble_eq_true rfl) (Nat.le_of_ble_eq_true rfl) (Nat.le_of_eq (Nat.zero_add _)) (Nat.le_of_eq (Nat.zero_add _)) (fun _ _ q => q.elim) ?_
      rintro _ h3 ⟨rfl, H3, F3⟩
      have fz3 : zMfr ma h h3 := by first | exact fz2.tr (zMfr.bec F3) | exact fz1.tr (zMfr.bec F3)
      try rw [zsL_id] at H3
      refine z_iload dMod_drop_60 rfl ?_
      refine z_iconst dMod_drop_62 ?_
      refine z_icmp_eq (tgt := 70) dMod_drop_63 (by decide) (by omega) (by omega) (fun c63 => ?_) (fun c63 => ?_)
      · refine z_iconst dMod_drop_70 ?_
        refine z_iret rfl (by first | rfl | decide) dMod_drop_71 ?_
        rcases (show t9 = 0 ∨ t9 = 1 ∨ t9 = 2 ∨ t9 = 3 by omega) with t0 | t0 | t0 | t0
        all_goals first
          | (exfalso; omega)
          | exact zQm.okB H3 (Or.inr ⟨dq2, gq2⟩) (by omega) (by assumption) (by unfold sp_drop; (try unfold spPut); (try simp only [Int.toNat_natCast]); (repeat (first | rw [if_pos (by omega)] | rw [if_neg (by omega)] | rw [if_pos (by assumption)] | rw [if_neg (by assumption)] | rw [if_pos (True.intro : True)])); (try (first | rfl | (congr 2; omega) | (congr 1; congr 1; omega))); done)
          | exact zQm.okB H3 (Or.inl rfl) (by omega) (by assumption) (by unfold sp_drop; (try unfold spPut); (try simp only [Int.toNat_natCast]); (repeat (first | rw [if_pos (by omega)] | rw [if_neg (by omega)] | rw [if_pos (by assumption)] | rw [if_neg (by assumption)] | rw [if_pos (True.intro : True)])); (try (first | rfl | (congr 2; omega) | (congr 1; congr 1; omega))); done)
          | exact zQm.ok H2 (by omega) (by assumption) (by unfold sp_drop; (try unfold spPut); (try simp only [Int.toNat_natCast]); (repeat (first | rw [if_pos (by omega)] | rw [if_neg (by omega)] | rw [if_pos (by assumption)] | rw [if_neg (by assumption)] | rw [if_pos (True.intro : True)])); (try (first | rfl | (congr 2; omega) | (congr 1; congr 1; omega))); done)
          | exact zQm.b1 H2 (by omega) (by assumption) (by unfold sp_drop; (try unfold spPut); (try simp only [Int.toNat_natCast]); (repeat (first | rw [if_pos (by omega)] | rw [if_neg (by omega)] | rw [if_pos (by assumption)] | rw [if_neg (by assumption)] | rw [if_pos (True.intro : True)])); (try (first | rfl | (congr 2; omega) | (congr 1; congr 1; omega))); done)
          | exact zQm.b2 H2 (by omega) (by assumption) (by unfold sp_drop; (try unfold spPut); (try simp only [Int.toNat_natCast]); (repeat (first | rw [if_pos (by omega)] | rw [if_neg (by omega)] | rw [if_pos (by assumption)] | rw [if_neg (by assumption)] | rw [if_pos (True.intro : True)])); (try (first | rfl | (congr 2; omega) | (congr 1; congr 1; omega))); done)
          | exact zQm.b3 H2 (by omega) (by assumption) (by unfold sp_drop; (try unfold spPut); (try simp only [Int.toNat_natCast]); (repeat (first | rw [if_pos (by omega)] | rw [if_neg (by omega)] | rw [if_pos (by assumption)] | rw [if_neg (by assumption)] | rw [if_pos (True.intro : True)])); (try (first | rfl | (congr 2; omega) | (congr 1; congr 1; omega))); done)
          | exact zQm.ok H1 (by omega) (by assumption) (by unfold sp_drop; (try unfold spPut); (try simp only [Int.toNat_natCast]); (repeat (first | rw [if_pos (by omega)] | rw [if_neg (by omega)] | rw [if_pos (by assumption)] | rw [if_neg (by assumption)] | rw [if_pos (True.intro : True)])); (try (first | rfl | (congr 2; omega) | (congr 1; congr 1; omega))); done)
          | exact zQm.b1 H1 (by omega) (by assumption) (by unfold sp_drop; (try unfold spPut); (try simp only [Int.toNat_natCast]); (repeat (first | rw [if_pos (by omega)] | rw [if_neg (by omega)] | rw [if_pos (by assumption)] | rw [if_neg (by assumption)] | rw [if_pos (True.intro : True)])); (try (first | rfl | (congr 2; omega) | (congr 1; congr 1; omega))); done)
          | exact zQm.b2 H1 (by omega) (by assumption) (by unfold sp_drop; (try unfold spPut); (try simp only [Int.toNat_natCast]); (repeat (first | rw [if_pos (by omega)] | rw [if_neg (by omega)] | rw [if_pos (by assumption)] | rw [if_neg (by assumption)] | rw [if_pos (True.intro : True)])); (try (first | rfl | (congr 2; omega) | (congr 1; congr 1; omega))); done)
          | exact zQm.b3 H1 (by omega) (by assumption) (by unfold sp_drop; (try unfold spPut); (try simp only [Int.toNat_natCast]); (repeat (first | rw [if_pos (by omega)] | rw [if_neg (by omega)] | rw [if_pos (by assumption)] | rw [if_neg (by assumption)] | rw [if_pos (True.intro : True)])); (try (first | rfl | (congr 2; omega) | (congr 1; congr 1; omega))); done)
      · refine z_iconst dMod_drop_66 ?_
        refine z_goto (tgt := 71) dMod_drop_67 (by decide) ?_
        refine z_iret rfl (by first | rfl | decide) dMod_drop_71 ?_
        rcases (show t9 = 0 ∨ t9 = 1 ∨ t9 = 2 ∨ t9 = 3 by omega) with t0 | t0 | t0 | t0
        all_goals first
          | (exfalso; omega)
          | exact zQm.okB H3 (Or.inr ⟨dq2, gq2⟩) (by omega) (by assumption) (by unfold sp_drop; (try unfold spPut); (try simp only [Int.toNat_natCast]); (repeat (first | rw [if_pos (by omega)] | rw [if_neg (by omega)] | rw [if_pos (by assumption)] | rw [if_neg (by assumption)] | rw [if_pos (True.intro : True)])); (try (first | rfl | (congr 2; omega) | (congr 1; congr 1; omega))); done)
          | exact zQm.okB H3 (Or.inl rfl) (by omega) (by assumption) (by unfold sp_drop; (try unfold spPut); (try simp only [Int.toNat_natCast]); (repeat (first | rw [if_pos (by omega)] | rw [if_neg (by omega)] | rw [if_pos (by assumption)] | rw [if_neg (by assumption)] | rw [if_pos (True.intro : True)])); (try (first | rfl | (congr 2; omega) | (congr 1; congr 1; omega))); done)
          | exact zQm.ok H2 (by omega) (by assumption) (by unfold sp_drop; (try unfold spPut); (try simp only [Int.toNat_natCast]); (repeat (first | rw [if_pos (by omega)] | rw [if_neg (by omega)] | rw [if_pos (by assumption)] | rw [if_neg (by assumption)] | rw [if_pos (True.intro : True)])); (try (first | rfl | (congr 2; omega) | (congr 1; congr 1; omega))); done)
          | exact zQm.b1 H2 (by omega) (by assumption) (by unfold sp_drop; (try unfold spPut); (try simp only [Int.toNat_natCast]); (repeat (first | rw [if_pos (by omega)] | rw [if_neg (by omega)] | rw [if_pos (by assumption)] | rw [if_neg (by assumption)] | rw [if_pos (True.intro : True)])); (try (first | rfl | (congr 2; omega) | (congr 1; congr 1; omega))); done)
          | exact zQm.b2 H2 (by omega) (by assumption) (by unfold sp_drop; (try unfold spPut); (try simp only [Int.toNat_natCast]); (repeat (first | rw [if_pos (by omega)] | rw [if_neg (by omega)] | rw [if_pos (by assumption)] | rw [if_neg (by assumption)] | rw [if_pos (True.intro : True)])); (try (first | rfl | (congr 2; omega) | (congr 1; congr 1; omega))); done)
          | exact zQm.b3 H2 (by omega) (by assumption) (by unfold sp_drop; (try unfold spPut); (try simp only [Int.toNat_natCast]); (repeat (first | rw [if_pos (by omega)] | rw [if_neg (by omega)] | rw [if_pos (by assumption)] | rw [if_neg (by assumption)] | rw [if_pos (True.intro : True)])); (try (first | rfl | (congr 2; omega) | (congr 1; congr 1; omega))); done)
          | exact zQm.ok H1 (by omega) (by assumption) (by unfold sp_drop; (try unfold spPut); (try simp only [Int.toNat_natCast]); (repeat (first | rw [if_pos (by omega)] | rw [if_neg (by omega)] | rw [if_pos (by assumption)] | rw [if_neg (by assumption)] | rw [if_pos (True.intro : True)])); (try (first | rfl | (congr 2; omega) | (congr 1; congr 1; omega))); done)
          | exact zQm.b1 H1 (by omega) (by assumption) (by unfold sp_drop; (try unfold spPut); (try simp only [Int.toNat_natCast]); (repeat (first | rw [if_pos (by omega)] | rw [if_neg (by omega)] | rw [if_pos (by assumption)] | rw [if_neg (by assumption)] | rw [if_pos (True.intro : True)])); (try (first | rfl | (congr 2; omega) | (congr 1; congr 1; omega))); done)
          | exact zQm.b2 H1 (by omega) (by assumption) (by unfold sp_drop; (try unfold spPut); (try simp only [Int.toNat_natCast]); (repeat (first | rw [if_pos (by omega)] | rw [if_neg (by omega)] | rw [if_pos (by assumption)] | rw [if_neg (by assumption)] | rw [if_pos (True.intro : True)])); (try (first | rfl | (congr 2; omega) | (congr 1; congr 1; omega))); done)
          | exact zQm.b3 H1 (by omega) (by assumption) (by unfold sp_drop; (try unfold spPut); (try simp only [Int.toNat_natCast]); (repeat (first | rw [if_pos (by omega)] | rw [if_neg (by omega)] | rw [if_pos (by assumption)] | rw [if_neg (by assumption)] | rw [if_pos (True.intro : True)])); (try (first | rfl | (congr 2; omega) | (congr 1; congr 1; omega))); done)
    · refine z_aload_n dMod_drop_36 rfl ?_
      refine z_get (k := 0) fd_Mod (by decide) fl_Mod_11 dMod_drop_37 (by assumption) (by rfl) ?_
      refine z_iload_n dMod_drop_40 rfl ?_
      refine z_aald (t := 4) (ty := .array .int) rfl rfl dMod_drop_41 n3 (by refine ⟨?_, ?_, ?_⟩ <;> omega) ?_
      rw [show (k : Int).toNat = k from rfl, n3a k (by omega)]
      refine z_goto (tgt := 56) dMod_drop_42 (by decide) ?_
      refine z_iconst dMod_drop_56 ?_
      first
        | refine z_callV MV_Mod_become lk_Mod_77 dMod_drop_57 (k_Mod_become H2 (by omega) r2 (fun i hi _ => H1.nq hq2 hi) (by omega)) rfl rfl (Nat.le_of_ble_eq_true rfl) rfl (by assumption) (Nat.le_of_ble_eq_true rfl) (Nat.le_of_ble_eq_true rfl) (Nat.le_of_eq (Nat.zero_add _)) (Nat.le_of_eq (Nat.zero_add _)) (fun _ _ q => q.elim) ?_
        | refine z_callV MV_Mod_become lk_Mod_77 dMod_drop_57 (k_Mod_become H1 (by omega) (n6 k (by omega)) (fun i hi hne => H1.inj (by omega) hi hne.symm) (by omega)) rfl rfl (Nat.le_of_ble_eq_true rfl) rfl (by assumption) (Nat.le_of_ble_eq_true rfl) (Nat.le_of_ble_eq_true rfl) (Nat.le_of_eq (Nat.zero_add _)) (Nat.le_of_eq (Nat.zero_add _)) (fun _ _ q => q.elim) ?_
      rintro _ h3 ⟨rfl, H3, F3⟩
      have fz3 : zMfr ma h h3 := by first | exact fz2.tr (zMfr.bec F3) | exact fz1.tr (zMfr.bec F3)
      try rw [zsL_id] at H3
      refine z_iload dMod_drop_60 rfl ?_
      refine z_iconst dMod_drop_62 ?_
      refine z_icmp_eq (tgt := 70) dMod_drop_63 (by decide) (by omega) (by omega) (fun c63 => ?_) (fun c63 => ?_)
      · refine z_iconst dMod_drop_70 ?_
        refine z_iret rfl (by first | rfl | decide) dMod_drop_71 ?_
        rcases (show t9 = 0 ∨ t9 = 1 ∨ t9 = 2 ∨ t9 = 3 by omega) with t0 | t0 | t0 | t0
        all_goals first
          | (exfalso; omega)
          | exact zQm.okB H3 (Or.inr ⟨dq2, gq2⟩) (by omega) (by assumption) (by unfold sp_drop; (try unfold spPut); (try simp only [Int.toNat_natCast]); (repeat (first | rw [if_pos (by omega)] | rw [if_neg (by omega)] | rw [if_pos (by assumption)] | rw [if_neg (by assumption)] | rw [if_pos (True.intro : True)])); (try (first | rfl | (congr 2; omega) | (congr 1; congr 1; omega))); done)
          | exact zQm.okB H3 (Or.inl rfl) (by omega) (by assumption) (by unfold sp_drop; (try unfold spPut); (try simp only [Int.toNat_natCast]); (repeat (first | rw [if_pos (by omega)] | rw [if_neg (by omega)] | rw [if_pos (by assumption)] | rw [if_neg (by assumption)] | rw [if_pos (True.intro : True)])); (try (first | rfl | (congr 2; omega) | (congr 1; congr 1; omega))); done)
          | exact zQm.ok H2 (by omega) (by assumption) (by unfold sp_drop; (try unfold spPut); (try simp only [Int.toNat_natCast]); (repeat (first | rw [if_pos (by omega)] | rw [if_neg (by omega)] | rw [if_pos (by assumption)] | rw [if_neg (by assumption)] | rw [if_pos (True.intro : True)])); (try (first | rfl | (congr 2; omega) | (congr 1; congr 1; omega))); done)
          | exact zQm.b1 H2 (by omega) (by assumption) (by unfold sp_drop; (try unfold spPut); (try simp only [Int.toNat_natCast]); (repeat (first | rw [if_pos (by omega)] | rw [if_neg (by omega)] | rw [if_pos (by assumption)] | rw [if_neg (by assumption)] | rw [if_pos (True.intro : True)])); (try (first | rfl | (congr 2; omega) | (congr 1; congr 1; omega))); done)
          | exact zQm.b2 H2 (by omega) (by assumption) (by unfold sp_drop; (try unfold spPut); (try simp only [Int.toNat_natCast]); (repeat (first | rw [if_pos (by omega)] | rw [if_neg (by omega)] | rw [if_pos (by assumption)] | rw [if_neg (by assumption)] | rw [if_pos (True.intro : True)])); (try (first | rfl | (congr 2; omega) | (congr 1; congr 1; omega))); done)
          | exact zQm.b3 H2 (by omega) (by assumption) (by unfold sp_drop; (try unfold spPut); (try simp only [Int.toNat_natCast]); (repeat (first | rw [if_pos (by omega)] | rw [if_neg (by omega)] | rw [if_pos (by assumption)] | rw [if_neg (by assumption)] | rw [if_pos (True.intro : True)])); (try (first | rfl | (congr 2; omega) | (congr 1; congr 1; omega))); done)
          | exact zQm.ok H1 (by omega) (by assumption) (by unfold sp_drop; (try unfold spPut); (try simp only [Int.toNat_natCast]); (repeat (first | rw [if_pos (by omega)] | rw [if_neg (by omega)] | rw [if_pos (by assumption)] | rw [if_neg (by assumption)] | rw [if_pos (True.intro : True)])); (try (first | rfl | (congr 2; omega) | (congr 1; congr 1; omega))); done)
          | exact zQm.b1 H1 (by omega) (by assumption) (by unfold sp_drop; (try unfold spPut); (try simp only [Int.toNat_natCast]); (repeat (first | rw [if_pos (by omega)] | rw [if_neg (by omega)] | rw [if_pos (by assumption)] | rw [if_neg (by assumption)] | rw [if_pos (True.intro : True)])); (try (first | rfl | (congr 2; omega) | (congr 1; congr 1; omega))); done)
          | exact zQm.b2 H1 (by omega) (by assumption) (by unfold sp_drop; (try unfold spPut); (try simp only [Int.toNat_natCast]); (repeat (first | rw [if_pos (by omega)] | rw [if_neg (by omega)] | rw [if_pos (by assumption)] | rw [if_neg (by assumption)] | rw [if_pos (True.intro : True)])); (try (first | rfl | (congr 2; omega) | (congr 1; congr 1; omega))); done)
          | exact zQm.b3 H1 (by omega) (by assumption) (by unfold sp_drop; (try unfold spPut); (try simp only [Int.toNat_natCast]); (repeat (first | rw [if_pos (by omega)] | rw [if_neg (by omega)] | rw [if_pos (by assumption)] | rw [if_neg (by assumption)] | rw [if_pos (True.intro : True)])); (try (first | rfl | (congr 2; omega) | (congr 1; congr 1; omega))); done)
      · refine z_iconst dMod_drop_66 ?_
        refine z_goto (tgt := 71) dMod_drop_67 (by decide) ?_
        refine z_iret rfl (by first | rfl | decide) dMod_drop_71 ?_
        rcases (show t9 = 0 ∨ t9 = 1 ∨ t9 = 2 ∨ t9 = 3 by omega) with t0 | t0 | t0 | t0
        all_goals first
          | (exfalso; omega)
          | exact zQm.okB H3 (Or.inr ⟨dq2, gq2⟩) (by omega) (by assumption) (by unfold sp_drop; (try unfold spPut); (try simp only [Int.toNat_natCast]); (repeat (first | rw [if_pos (by omega)] | rw [if_neg (by omega)] | rw [if_pos (by assumption)] | rw [if_neg (by assumption)] | rw [if_pos (True.intro : True)])); (try (first | rfl | (congr 2; omega) | (congr 1; congr 1; omega))); done)
          | exact zQm.okB H3 (Or.inl rfl) (by omega) (by assumption) (by unfold sp_drop; (try unfold spPut); (try simp only [Int.toNat_natCast]); (repeat (first | rw [if_pos (by omega)] | rw [if_neg (by omega)] | rw [if_pos (by assumption)] | rw [if_neg (by assumption)] | rw [if_pos (True.intro : True)])); (try (first | rfl | (congr 2; omega) | (congr 1; congr 1; omega))); done)
          | exact zQm.ok H2 (by omega) (by assumption) (by unfold sp_drop; (try unfold spPut); (try simp only [Int.toNat_natCast]); (repeat (first | rw [if_pos (by omega)] | rw [if_neg (by omega)] | rw [if_pos (by assumption)] | rw [if_neg (by assumption)] | rw [if_pos (True.intro : True)])); (try (first | rfl | (congr 2; omega) | (congr 1; congr 1; omega))); done)
          | exact zQm.b1 H2 (by omega) (by assumption) (by unfold sp_drop; (try unfold spPut); (try simp only [Int.toNat_natCast]); (repeat (first | rw [if_pos (by omega)] | rw [if_neg (by omega)] | rw [if_pos (by assumption)] | rw [if_neg (by assumption)] | rw [if_pos (True.intro : True)])); (try (first | rfl | (congr 2; omega) | (congr 1; congr 1; omega))); done)
          | exact zQm.b2 H2 (by omega) (by assumption) (by unfold sp_drop; (try unfold spPut); (try simp only [Int.toNat_natCast]); (repeat (first | rw [if_pos (by omega)] | rw [if_neg (by omega)] | rw [if_pos (by assumption)] | rw [if_neg (by assumption)] | rw [if_pos (True.intro : True)])); (try (first | rfl | (congr 2; omega) | (congr 1; congr 1; omega))); done)
          | exact zQm.b3 H2 (by omega) (by assumption) (by unfold sp_drop; (try unfold spPut); (try simp only [Int.toNat_natCast]); (repeat (first | rw [if_pos (by omega)] | rw [if_neg (by omega)] | rw [if_pos (by assumption)] | rw [if_neg (by assumption)] | rw [if_pos (True.intro : True)])); (try (first | rfl | (congr 2; omega) | (congr 1; congr 1; omega))); done)
          | exact zQm.ok H1 (by omega) (by assumption) (by unfold sp_drop; (try unfold spPut); (try simp only [Int.toNat_natCast]); (repeat (first | rw [if_pos (by omega)] | rw [if_neg (by omega)] | rw [if_pos (by assumption)] | rw [if_neg (by assumption)] | rw [if_pos (True.intro : True)])); (try (first | rfl | (congr 2; omega) | (congr 1; congr 1; omega))); done)
          | exact zQm.b1 H1 (by omega) (by assumption) (by unfold sp_drop; (try unfold spPut); (try simp only [Int.toNat_natCast]); (repeat (first | rw [if_pos (by omega)] | rw [if_neg (by omega)] | rw [if_pos (by assumption)] | rw [if_neg (by assumption)] | rw [if_pos (True.intro : True)])); (try (first | rfl | (congr 2; omega) | (congr 1; congr 1; omega))); done)
          | exact zQm.b2 H1 (by omega) (by assumption) (by unfold sp_drop; (try unfold spPut); (try simp only [Int.toNat_natCast]); (repeat (first | rw [if_pos (by omega)] | rw [if_neg (by omega)] | rw [if_pos (by assumption)] | rw [if_neg (by assumption)] | rw [if_pos (True.intro : True)])); (try (first | rfl | (congr 2; omega) | (congr 1; congr 1; omega))); done)
          | exact zQm.b3 H1 (by omega) (by assumption) (by unfold sp_drop; (try unfold spPut); (try simp only [Int.toNat_natCast]); (repeat (first | rw [if_pos (by omega)] | rw [if_neg (by omega)] | rw [if_pos (by assumption)] | rw [if_neg (by assumption)] | rw [if_pos (True.intro : True)])); (try (first | rfl | (congr 2; omega) | (congr 1; congr 1; omega))); done)
  · refine z_iconst dMod_drop_13 ?_
    refine z_iret rfl (by first | rfl | decide) dMod_drop_14 ?_
    rcases (show t9 = 0 ∨ t9 = 1 ∨ t9 = 2 ∨ t9 = 3 by omega) with t0 | t0 | t0 | t0
    all_goals first
      | (exfalso; omega)
      | exact zQm.okB H3 (Or.inr ⟨dq2, gq2⟩) (by omega) (by assumption) (by unfold sp_drop; (try unfold spPut); (try simp only [Int.toNat_natCast]); (repeat (first | rw [if_pos (by omega)] | rw [if_neg (by omega)] | rw [if_pos (by assumption)] | rw [if_neg (by assumption)] | rw [if_pos (True.intro : True)])); (try (first | rfl | (congr 2; omega) | (congr 1; congr 1; omega))); done)
      | exact zQm.okB H3 (Or.inl rfl) (by omega) (by assumption) (by unfold sp_drop; (try unfold spPut); (try simp only [Int.toNat_natCast]); (repeat (first | rw [if_pos (by omega)] | rw [if_neg (by omega)] | rw [if_pos (by assumption)] | rw [if_neg (by assumption)] | rw [if_pos (True.intro : True)])); (try (first | rfl | (congr 2; omega) | (congr 1; congr 1; omega))); done)
      | exact zQm.ok H2 (by omega) (by assumption) (by unfold sp_drop; (try unfold spPut); (try simp only [Int.toNat_natCast]); (repeat (first | rw [if_pos (by omega)] | rw [if_neg (by omega)] | rw [if_pos (by assumption)] | rw [if_neg (by assumption)] | rw [if_pos (True.intro : True)])); (try (first | rfl | (congr 2; omega) | (congr 1; congr 1; omega))); done)
      | exact zQm.b1 H2 (by omega) (by assumption) (by unfold sp_drop; (try unfold spPut); (try simp only [Int.toNat_natCast]); (repeat (first | rw [if_pos (by omega)] | rw [if_neg (by omega)] | rw [if_pos (by assumption)] | rw [if_neg (by assumption)] | rw [if_pos (True.intro : True)])); (try (first | rfl | (congr 2; omega) | (congr 1; congr 1; omega))); done)
      | exact zQm.b2 H2 (by omega) (by assumption) (by unfold sp_drop; (try unfold spPut); (try simp only [Int.toNat_natCast]); (repeat (first | rw [if_pos (by omega)] | rw [if_neg (by omega)] | rw [if_pos (by assumption)] | rw [if_neg (by assumption)] | rw [if_pos (True.intro : True)])); (try (first | rfl | (congr 2; omega) | (congr 1; congr 1; omega))); done)
      | exact zQm.b3 H2 (by omega) (by assumption) (by unfold sp_drop; (try unfold spPut); (try simp only [Int.toNat_natCast]); (repeat (first | rw [if_pos (by omega)] | rw [if_neg (by omega)] | rw [if_pos (by assumption)] | rw [if_neg (by assumption)] | rw [if_pos (True.intro : True)])); (try (first | rfl | (congr 2; omega) | (congr 1; congr 1; omega))); done)
      | exact zQm.ok H1 (by omega) (by assumption) (by unfold sp_drop; (try unfold spPut); (try simp only [Int.toNat_natCast]); (repeat (first | rw [if_pos (by omega)] | rw [if_neg (by omega)] | rw [if_pos (by assumption)] | rw [if_neg (by assumption)] | rw [if_pos (True.intro : True)])); (try (first | rfl | (congr 2; omega) | (congr 1; congr 1; omega))); done)
      | exact zQm.b1 H1 (by omega) (by assumption) (by unfold sp_drop; (try unfold spPut); (try simp only [Int.toNat_natCast]); (repeat (first | rw [if_pos (by omega)] | rw [if_neg (by omega)] | rw [if_pos (by assumption)] | rw [if_neg (by assumption)] | rw [if_pos (True.intro : True)])); (try (first | rfl | (congr 2; omega) | (congr 1; congr 1; omega))); done)
      | exact zQm.b2 H1 (by omega) (by assumption) (by unfold sp_drop; (try unfold spPut); (try simp only [Int.toNat_natCast]); (repeat (first | rw [if_pos (by omega)] | rw [if_neg (by omega)] | rw [if_pos (by assumption)] | rw [if_neg (by assumption)] | rw [if_pos (True.intro : True)])); (try (first | rfl | (congr 2; omega) | (congr 1; congr 1; omega))); done)
      | exact zQm.b3 H1 (by omega) (by assumption) (by unfold sp_drop; (try unfold spPut); (try simp only [Int.toNat_natCast]); (repeat (first | rw [if_pos (by omega)] | rw [if_neg (by omega)] | rw [if_pos (by assumption)] | rw [if_neg (by assumption)] | rw [if_pos (True.intro : True)])); (try (first | rfl | (congr 2; omega) | (congr 1; congr 1; omega))); done)
end MOD9
