section MOD20
variable {G : zG} {l : Launch} {h h' h'' : zHp} {ma : Nat → Nat} {S : zSt} {th : Int}
theorem zup_id {α : Type} (g : Nat → α) (k : Nat) : zup g k (g k) = g := by
  funext j
  unfold zup
  split
  · rename_i e; rw [e]
  · rfl
/-- the keys, the askings and the numbers change -/
theorem zMod.rec {q : Nat} {K' A' : List Int} {nu' f' : Nat → Int} {th' : Int} (H : zMod G h ma S th) (hq : zAr G h' q K') (nq : ∀ i, i < 13 → i ≠ 12 → q ≠ ma i)
    (e0 : h' (ma 0) = some (.inr (zkMod, [.ref (ma 1), .ref (ma 2), .ref (ma 3), .ref (ma 4), .ref (ma 5), .ref (ma 6), .ref q, .ref (ma 7), zi (A'.length : Int), zi (nu' 0), zi (nu' 1), zi (nu' 2), zi th'])))
    (e7 : h' (ma 7) = some (zInts G 60 f')) (f7 : ∀ j, j < A'.length → f' j = A'.getD j 0) (hf : ∀ i, i < 13 → i ≠ 0 → i ≠ 7 → i ≠ 12 → h' (ma i) = h (ma i)) : zMod G h' (zup ma 12 q) (S.1, S.2.1, K', A', nu') th' := by
  obtain ⟨m1, m2, ⟨g, m3, m3'⟩, ⟨⟨f1, a1, b1⟩, ⟨f2, a2, b2⟩, ⟨f3, a3, b3⟩, ⟨f4, a4, b4⟩, ⟨f5, a5, b5⟩⟩, ⟨f6, m5, m5'⟩, m6, m7⟩ := id H
  have zn : ∀ i, i ≠ 12 → zup ma 12 q i = ma i := fun i hi => zup_ne hi
  refine ⟨fun i j hi hj e => ?_, ?_, ⟨g, ?_, fun k hk => ?_⟩, ⟨⟨f1, ?_, b1⟩, ⟨f2, ?_, b2⟩, ⟨f3, ?_, b3⟩, ⟨f4, ?_, b4⟩, ⟨f5, ?_, b5⟩⟩, ⟨f', ?_, f7⟩, fun k hk => ?_, ?_⟩
  · by_cases c1 : i = 12
    · by_cases c2 : j = 12
      · omega
      · rw [c1, zup_same, zn j c2] at e
        exact absurd e (nq j hj c2)
    · by_cases c2 : j = 12
      · rw [c2, zup_same, zn i c1] at e
        exact absurd e.symm (nq i hi c1)
      · rw [zn i c1, zn j c2] at e
        exact m1 i j hi hj e
  · rw [zn 0 (by omega)]
    refine e0.trans ?_
    unfold zMfs
    rw [zn 1 (by omega), zn 2 (by omega), zn 3 (by omega), zn 4 (by omega), zn 5 (by omega), zn 6 (by omega), zup_same, zn 7 (by omega)]
  · rw [zn 1 (by omega)]; exact (hf 1 (by omega) (by omega) (by omega) (by omega)).trans m3
  · rw [zn _ (by omega)]; exact m3' k hk
  · rw [zn 2 (by omega)]; exact (hf 2 (by omega) (by omega) (by omega) (by omega)).trans a1
  · rw [zn 3 (by omega)]; exact (hf 3 (by omega) (by omega) (by omega) (by omega)).trans a2
  · rw [zn 4 (by omega)]; exact (hf 4 (by omega) (by omega) (by omega) (by omega)).trans a3
  · rw [zn 5 (by omega)]; exact (hf 5 (by omega) (by omega) (by omega) (by omega)).trans a4
  · rw [zn 6 (by omega)]; exact (hf 6 (by omega) (by omega) (by omega) (by omega)).trans a5
  · rw [zn 7 (by omega)]; exact e7
  · rw [zn _ (by omega)]; exact (m6 k hk).kept (hf _ (by omega) (by omega) (by omega) (by omega))
  · rw [zup_same]; exact hq
theorem k_Mod_ofCursor {c w : Int} (H : zMod G h ma S th) (z_c : zI32 c) (z_w : zI32 w) (hO : zOk S) (h16 : ∀ k, k < 4 → (S.1 k).length ≤ 16) : zM G l hMod_ofCursor yMod_ofCursor 4 [.ref (ma 0), zi c, zi w] h (zQm G ma h (1) (2) (3) (sp_ofCursor S c w)) zNo 1 6 := by
  obtain ⟨m1, m2, ⟨g, m3, m3a⟩, m4, ⟨f6, m5, m5a⟩, m6, m7⟩ := id H
  unfold zMfs at m2
  refine zM.of [some (.ref (ma 0)), some (zi c), some (zi w)] (by decide +kernel) rfl (by decide) rfl (Nat.le_of_ble_eq_true rfl) rfl ?_
  refine z_aload_n dMod_ofCursor_0 rfl ?_
  refine z_iload_n dMod_ofCursor_1 rfl ?_
  refine z_callS MS_Mod_isNoCursor lk_Mod_141 dMod_ofCursor_2 (k_Mod_isNoCursor (by omega)) rfl rfl (Nat.le_of_ble_eq_true rfl)  (Nat.le_of_ble_eq_true rfl) (Nat.le_of_ble_eq_true rfl) (Nat.le_of_eq (Nat.zero_add _)) (Nat.le_of_eq (Nat.zero_add _)) (fun _ _ q => q.elim) ?_
  rintro _ _ ⟨n9c, rfl, (⟨rfl, hn9c⟩ | ⟨rfl, hn9c⟩), rfl⟩
  · refine z_iload_n dMod_ofCursor_5 rfl ?_
    refine z_iconst dMod_ofCursor_6 ?_
    refine z_iconst dMod_ofCursor_7 ?_
    refine z_callS MS_Mod_isOut lk_Mod_41 dMod_ofCursor_8 (k_Mod_isOut (by omega) (by omega) (by omega)) rfl rfl (Nat.le_of_ble_eq_true rfl)  (Nat.le_of_ble_eq_true rfl) (Nat.le_of_ble_eq_true rfl) (Nat.le_of_eq (Nat.zero_add _)) (Nat.le_of_eq (Nat.zero_add _)) (fun _ _ q => q.elim) ?_
    rintro _ _ ⟨o9, rfl, ho9, rfl⟩
    refine z_iconst dMod_ofCursor_11 ?_
    refine z_callV MV_Mod_fails lk_Mod_88 dMod_ofCursor_12 (k_Mod_fails (by assumption) rfl (by omega) (by omega) (by omega)) rfl rfl (Nat.le_of_ble_eq_true rfl) rfl (by assumption) (Nat.le_of_ble_eq_true rfl) (Nat.le_of_ble_eq_true rfl) (Nat.le_of_eq (Nat.zero_add _)) (Nat.le_of_eq (Nat.zero_add _)) (fun _ _ q => q.elim) ?_
    rintro _ h1 ⟨t9, b8, rfl, ht, p1, g1⟩
    have H1 : zMod G h1 ma S t9 := H.obj (nu := S.2.2.2.2) (th' := t9) p1 g1
    have fz1 : zMfr ma h h1 := zMfr.of0 g1
    obtain ⟨-, n2, ⟨gg, n3, n3a⟩, n4, ⟨f61, n5, n5a⟩, n6, n7⟩ := id H1
    unfold zMfs at n2
    refine z_if_eq (tgt := 22) dMod_ofCursor_15 (by decide) (by omega) (fun c15 => ?_) (fun c15 => ?_)
    · exfalso; omega
    · refine z_iconst dMod_ofCursor_18 ?_
      refine z_goto (tgt := 28) dMod_ofCursor_19 (by decide) ?_
      refine z_iret rfl rfl dMod_ofCursor_28 ?_
      rcases (show t9 = 0 ∨ t9 = 1 ∨ t9 = 2 ∨ t9 = 3 by omega) with t0 | t0 | t0 | t0
      all_goals first
        | (exfalso; omega)
        | (refine zQm.ok H2 (by omega) (by assumption) ?_
           unfold sp_ofCursor zCuV zWv
           rw [if_pos (by omega), if_pos (by omega), Int.toNat_natCast]
           (repeat' split)
           all_goals first
             | rfl
             | (exfalso; omega))
        | exact zQm.ok H1 (by omega) (by assumption) (by unfold sp_ofCursor; (try unfold spPut); (try simp only [Int.toNat_natCast]); (repeat (first | rw [if_pos (by omega)] | rw [if_neg (by omega)] | rw [if_pos (by assumption)] | rw [if_neg (by assumption)] | rw [if_pos (True.intro : True)])); (try (first | rfl | (congr 2; omega) | (congr 1; congr 1; omega))); done)
        | exact zQm.b1 H1 (by omega) (by assumption) (by unfold sp_ofCursor; (try unfold spPut); (try simp only [Int.toNat_natCast]); (repeat (first | rw [if_pos (by omega)] | rw [if_neg (by omega)] | rw [if_pos (by assumption)] | rw [if_neg (by assumption)] | rw [if_pos (True.intro : True)])); (try (first | rfl | (congr 2; omega) | (congr 1; congr 1; omega))); done)
        | exact zQm.b2 H1 (by omega) (by assumption) (by unfold sp_ofCursor; (try unfold spPut); (try simp only [Int.toNat_natCast]); (repeat (first | rw [if_pos (by omega)] | rw [if_neg (by omega)] | rw [if_pos (by assumption)] | rw [if_neg (by assumption)] | rw [if_pos (True.intro : True)])); (try (first | rfl | (congr 2; omega) | (congr 1; congr 1; omega))); done)
        | exact zQm.b3 H1 (by omega) (by assumption) (by unfold sp_ofCursor; (try unfold spPut); (try simp only [Int.toNat_natCast]); (repeat (first | rw [if_pos (by omega)] | rw [if_neg (by omega)] | rw [if_pos (by assumption)] | rw [if_neg (by assumption)] | rw [if_pos (True.intro : True)])); (try (first | rfl | (congr 2; omega) | (congr 1; congr 1; omega))); done)
  · obtain ⟨cc, rfl⟩ := Int.eq_ofNat_of_zero_le (show 0 ≤ c by omega)
    have hcc : cc < 3 := by omega
    refine z_iload_n dMod_ofCursor_5 rfl ?_
    refine z_iconst dMod_ofCursor_6 ?_
    refine z_iconst dMod_ofCursor_7 ?_
    refine z_callS MS_Mod_isOut lk_Mod_41 dMod_ofCursor_8 (k_Mod_isOut (by omega) (by omega) (by omega)) rfl rfl (Nat.le_of_ble_eq_true rfl)  (Nat.le_of_ble_eq_true rfl) (Nat.le_of_ble_eq_true rfl) (Nat.le_of_eq (Nat.zero_add _)) (Nat.le_of_eq (Nat.zero_add _)) (fun _ _ q => q.elim) ?_
    rintro _ _ ⟨o9, rfl, ho9, rfl⟩
    refine z_iconst dMod_ofCursor_11 ?_
    refine z_callV MV_Mod_fails lk_Mod_88 dMod_ofCursor_12 (k_Mod_fails (by assumption) rfl (by omega) (by omega) (by omega)) rfl rfl (Nat.le_of_ble_eq_true rfl) rfl (by assumption) (Nat.le_of_ble_eq_true rfl) (Nat.le_of_ble_eq_true rfl) (Nat.le_of_eq (Nat.zero_add _)) (Nat.le_of_eq (Nat.zero_add _)) (fun _ _ q => q.elim) ?_
    rintro _ h1 ⟨t9, b8, rfl, ht, p1, g1⟩
    have H1 : zMod G h1 ma S t9 := H.obj (nu := S.2.2.2.2) (th' := t9) p1 g1
    have fz1 : zMfr ma h h1 := zMfr.of0 g1
    obtain ⟨-, n2, ⟨gg, n3, n3a⟩, n4, ⟨f61, n5, n5a⟩, n6, n7⟩ := id H1
    unfold zMfs at n2
    refine z_if_eq (tgt := 22) dMod_ofCursor_15 (by decide) (by omega) (fun c15 => ?_) (fun c15 => ?_)
    · refine z_aload_n dMod_ofCursor_22 rfl ?_
      refine z_iload_n dMod_ofCursor_23 rfl ?_
      refine z_iload_n dMod_ofCursor_24 rfl ?_
      refine z_callV (bc' := 0) (bs' := 0) MV_Mod_ofCursorNow lk_Mod_154 dMod_ofCursor_25 (k_Mod_ofCursorNow H1 hcc (by omega) hO h16) rfl rfl (Nat.le_of_ble_eq_true rfl) rfl (by assumption) (Nat.le_of_ble_eq_true rfl) (Nat.le_of_ble_eq_true rfl) (by decide) (by decide) (fun _ _ q => q.elim) ?_
      rintro _ h2 ⟨rfl, hx2⟩
      have H2 : zMod G h2 ma S t9 := H1.ext hx2
      have fz2 : zMfr ma h h2 := fz1.tr (zMfr.ext hx2)
      refine z_iret rfl rfl dMod_ofCursor_28 ?_
      rcases (show t9 = 0 ∨ t9 = 1 ∨ t9 = 2 ∨ t9 = 3 by omega) with t0 | t0 | t0 | t0
      all_goals first
        | (exfalso; omega)
        | (refine zQm.ok H2 (by omega) (by assumption) ?_
           unfold sp_ofCursor zCuV zWv
           rw [if_pos (by omega), if_pos (by omega), Int.toNat_natCast]
           (repeat' split)
           all_goals first
             | rfl
             | (exfalso; omega))
        | exact zQm.ok H1 (by omega) (by assumption) (by unfold sp_ofCursor; (try unfold spPut); (try simp only [Int.toNat_natCast]); (repeat (first | rw [if_pos (by omega)] | rw [if_neg (by omega)] | rw [if_pos (by assumption)] | rw [if_neg (by assumption)] | rw [if_pos (True.intro : True)])); (try (first | rfl | (congr 2; omega) | (congr 1; congr 1; omega))); done)
        | exact zQm.b1 H1 (by omega) (by assumption) (by unfold sp_ofCursor; (try unfold spPut); (try simp only [Int.toNat_natCast]); (repeat (first | rw [if_pos (by omega)] | rw [if_neg (by omega)] | rw [if_pos (by assumption)] | rw [if_neg (by assumption)] | rw [if_pos (True.intro : True)])); (try (first | rfl | (congr 2; omega) | (congr 1; congr 1; omega))); done)
        | exact zQm.b2 H1 (by omega) (by assumption) (by unfold sp_ofCursor; (try unfold spPut); (try simp only [Int.toNat_natCast]); (repeat (first | rw [if_pos (by omega)] | rw [if_neg (by omega)] | rw [if_pos (by assumption)] | rw [if_neg (by assumption)] | rw [if_pos (True.intro : True)])); (try (first | rfl | (congr 2; omega) | (congr 1; congr 1; omega))); done)
        | exact zQm.b3 H1 (by omega) (by assumption) (by unfold sp_ofCursor; (try unfold spPut); (try simp only [Int.toNat_natCast]); (repeat (first | rw [if_pos (by omega)] | rw [if_neg (by omega)] | rw [if_pos (by assumption)] | rw [if_neg (by assumption)] | rw [if_pos (True.intro : True)])); (try (first | rfl | (congr 2; omega) | (congr 1; congr 1; omega))); done)
    · refine z_iconst dMod_ofCursor_18 ?_
      refine z_goto (tgt := 28) dMod_ofCursor_19 (by decide) ?_
      refine z_iret rfl rfl dMod_ofCursor_28 ?_
      rcases (show t9 = 0 ∨ t9 = 1 ∨ t9 = 2 ∨ t9 = 3 by omega) with t0 | t0 | t0 | t0
      all_goals first
        | (exfalso; omega)
        | (refine zQm.ok H2 (by omega) (by assumption) ?_
           unfold sp_ofCursor zCuV zWv
           rw [if_pos (by omega), if_pos (by omega), Int.toNat_natCast]
           (repeat' split)
           all_goals first
             | rfl
             | (exfalso; omega))
        | exact zQm.ok H1 (by omega) (by assumption) (by unfold sp_ofCursor; (try unfold spPut); (try simp only [Int.toNat_natCast]); (repeat (first | rw [if_pos (by omega)] | rw [if_neg (by omega)] | rw [if_pos (by assumption)] | rw [if_neg (by assumption)] | rw [if_pos (True.intro : True)])); (try (first | rfl | (congr 2; omega) | (congr 1; congr 1; omega))); done)
        | exact zQm.b1 H1 (by omega) (by assumption) (by unfold sp_ofCursor; (try unfold spPut); (try simp only [Int.toNat_natCast]); (repeat (first | rw [if_pos (by omega)] | rw [if_neg (by omega)] | rw [if_pos (by assumption)] | rw [if_neg (by assumption)] | rw [if_pos (True.intro : True)])); (try (first | rfl | (congr 2; omega) | (congr 1; congr 1; omega))); done)
        | exact zQm.b2 H1 (by omega) (by assumption) (by unfold sp_ofCursor; (try unfold spPut); (try simp only [Int.toNat_natCast]); (repeat (first | rw [if_pos (by omega)] | rw [if_neg (by omega)] | rw [if_pos (by assumption)] | rw [if_neg (by assumption)] | rw [if_pos (True.intro : True)])); (try (first | rfl | (congr 2; omega) | (congr 1; congr 1; omega))); done)
        | exact zQm.b3 H1 (by omega) (by assumption) (by unfold sp_ofCursor; (try unfold spPut); (try simp only [Int.toNat_natCast]); (repeat (first | rw [if_pos (by omega)] | rw [if_neg (by omega)] | rw [if_pos (by assumption)] | rw [if_neg (by assumption)] | rw [if_pos (True.intro : True)])); (try (first | rfl | (congr 2; omega) | (congr 1; congr 1; omega))); done)
theorem k_Mod_ask {key : Int} (H : zMod G h ma S th) (z_key : zI32 key) (hO : zOk S) : zM G l hMod_ask yMod_ask 4 [.ref (ma 0), zi key] h (zQm G ma h (9) (1) (2) (sp_ask S key)) zNo 2 121 := by
  obtain ⟨m1, m2, ⟨g, m3, m3a⟩, m4, ⟨f6, m5, m5a⟩, m6, m7⟩ := id H
  unfold zMfs at m2
  refine zM.of [some (.ref (ma 0)), some (zi key), none] (by decide +kernel) rfl (by decide) rfl (Nat.le_of_ble_eq_true rfl) rfl ?_
  have okA := hO.2.2.2.1
  have okK := hO.2.2.1
  refine z_aload_n dMod_ask_0 rfl ?_
  refine z_iload_n dMod_ask_1 rfl ?_
  refine z_iconst dMod_ask_2 ?_
  refine z_bipush dMod_ask_3 rfl ?_
  refine z_callS MS_Mod_isOut lk_Mod_41 dMod_ask_5 (k_Mod_isOut (by omega) (by omega) (by omega)) rfl rfl (Nat.le_of_ble_eq_true rfl)  (Nat.le_of_ble_eq_true rfl) (Nat.le_of_ble_eq_true rfl) (Nat.le_of_eq (Nat.zero_add _)) (Nat.le_of_eq (Nat.zero_add _)) (fun _ _ q => q.elim) ?_
  rintro _ _ ⟨o9, rfl, ho9, rfl⟩
  refine z_aload_n dMod_ask_8 rfl ?_
  refine z_get (k := 8) fd_Mod (by decide) fl_Mod_184 dMod_ask_9 (by assumption) (by rfl) ?_
  refine z_bipush dMod_ask_12 rfl ?_
  refine z_icmp_ne (tgt := 21) dMod_ask_14 (by decide) (by omega) (by omega) (fun c14 => ?_) (fun c14 => ?_)
  · refine z_iconst dMod_ask_21 ?_
    refine z_iconst dMod_ask_22 ?_
    refine z_callV MV_Mod_fails lk_Mod_88 dMod_ask_23 (k_Mod_fails (by assumption) rfl (by omega) (by omega) (by omega)) rfl rfl (Nat.le_of_ble_eq_true rfl) rfl (by assumption) (Nat.le_of_ble_eq_true rfl) (Nat.le_of_ble_eq_true rfl) (Nat.le_of_eq (Nat.zero_add _)) (Nat.le_of_eq (Nat.zero_add _)) (fun _ _ q => q.elim) ?_
    rintro _ h1 ⟨t9, b8, rfl, ht, p1, g1⟩
    have H1 : zMod G h1 ma S t9 := H.obj (nu := S.2.2.2.2) (th' := t9) p1 g1
    have fz1 : zMfr ma h h1 := zMfr.of0 g1
    obtain ⟨-, n2, ⟨gg, n3, n3a⟩, n4, ⟨f61, n5, n5a⟩, n6, n7⟩ := id H1
    unfold zMfs at n2
    refine z_if_eq (tgt := 31) dMod_ask_26 (by decide) (by omega) (fun c26 => ?_) (fun c26 => ?_)
    · have hfd := hO.2.1 key (by omega) (by omega)
      have hfi := zFind_in S.2.2.1 key 0
      have okn := hO.2.2.2.2
      refine z_aload_n dMod_ask_31 rfl ?_
      refine z_get (k := 6) fd_Mod (by decide) fl_Mod_31 dMod_ask_32 (by assumption) (by rfl) ?_
      refine z_iload_n dMod_ask_35 rfl ?_
      refine z_iconst dMod_ask_36 ?_
      refine z_callS MS_Mod_find lk_Mod_110 dMod_ask_37 (k_Mod_find n7 (by omega) (by omega)) rfl rfl (Nat.le_of_ble_eq_true rfl)  (Nat.le_of_ble_eq_true rfl) (Nat.le_of_ble_eq_true rfl) (Nat.le_of_eq (Nat.zero_add _)) (Nat.le_of_eq (Nat.zero_add _)) (fun _ _ q => q.elim) ?_
      rintro _ _ ⟨rfl, rfl⟩
      refine z_istore_n dMod_ask_40 (Nat.le_of_ble_eq_true rfl) ?_
      refine z_aload_n dMod_ask_41 rfl ?_
      refine z_aload_n dMod_ask_42 rfl ?_
      refine z_get (k := 6) fd_Mod (by decide) fl_Mod_31 dMod_ask_43 (by assumption) (by rfl) ?_
      refine z_iload_n dMod_ask_46 rfl ?_
      refine z_callS (bc' := 1) (bs' := 61) MS_Mod_without lk_Mod_102 dMod_ask_47 (k_Mod_without n7 (by omega) (by omega)) rfl rfl (Nat.le_of_ble_eq_true rfl)  (Nat.le_of_ble_eq_true rfl) (Nat.le_of_ble_eq_true rfl) (by decide) (by decide) (fun _ _ q => q.elim) ?_
      rintro _ h2 ⟨q2, rfl, hq2, gq2, r2, F2⟩
      have H2 : zMod G h2 ma S t9 := H1.keep hq2 F2
      have fz2 : zMfr ma h h2 := fz1.tr (zMfr.new hq2 F2)
      have dq2 : zDm h q2 := hq2.up H1 fz1
      have oc2 := H2.2.1
      have hdl := zDel_len S.2.2.1 (zFind S.2.2.1 key 0)
      refine z_iconst dMod_ask_50 ?_
      refine z_iload_n dMod_ask_51 rfl ?_
      refine z_callS (bc' := 0) (bs' := 0) MS_Mod_with lk_Mod_49 dMod_ask_52 (k_Mod_with r2 (by omega) (by omega) (by omega)) rfl rfl (Nat.le_of_ble_eq_true rfl)  (Nat.le_of_ble_eq_true rfl) (Nat.le_of_ble_eq_true rfl) (by decide) (by decide) (fun _ _ q => q.elim) ?_
      rintro _ h3 ⟨q3, rfl, hq3, gq3, r3, F3⟩
      have H3 : zMod G h3 ma S t9 := H2.keep hq3 F3
      have fz3 : zMfr ma h h3 := fz2.tr (zMfr.new hq3 F3)
      have dq3 : zDm h q3 := hq3.up H2 fz2
      have oc3 := H3.2.1
      have o3 := H3.2.1
      unfold zMfs at o3
      refine z_put (k := 6) fd_Mod (by decide) fl_Mod_31 rfl dMod_ask_55 o3 (by simp) rfl rfl ?_
      refine z_hx (fun h4 p4 g4 => ?_)
      have o3 := p4
      have n53 := (g4 (ma 7) (H.inj (by omega) (by omega) (by omega))).trans ((F3 _ (H2.nq hq3 (i := 7) (by omega)).symm).trans ((F2 _ (H1.nq hq2 (i := 7) (by omega)).symm).trans n5))
      have n53 := (g4 (ma 7) (H.inj (by omega) (by omega) (by omega))).trans ((F3 _ (H2.nq hq3 (i := 7) (by omega)).symm).trans ((F2 _ (H1.nq hq2 (i := 7) (by omega)).symm).trans n5))
      refine z_aload_n dMod_ask_58 rfl ?_
      refine z_get (k := 7) fd_Mod (by decide) fl_Mod_34 dMod_ask_59 (by assumption) (by rfl) ?_
      refine z_aload_n dMod_ask_62 rfl ?_
      refine z_get (k := 8) fd_Mod (by decide) fl_Mod_184 dMod_ask_63 (by assumption) (by rfl) ?_
      refine z_iload_n dMod_ask_66 rfl ?_
      refine z_iast dMod_ask_67 (by assumption) (by refine ⟨?_, ?_, ?_⟩ <;> omega) ?_
      refine z_hx (fun h5 p5 g5 => ?_)
      have o3 := (g5 (ma 0) (H.inj (by omega) (by omega) (by omega))).trans o3
      refine z_aload_n dMod_ask_68 rfl ?_
      refine z_dup rfl dMod_ask_69 ?_
      refine z_get (k := 8) fd_Mod (by decide) fl_Mod_184 dMod_ask_70 (by assumption) (by rfl) ?_
      refine z_iconst dMod_ask_73 ?_
      refine z_iadd dMod_ask_74 ?_
      refine z_put (k := 8) fd_Mod (by decide) fl_Mod_184 rfl dMod_ask_75 o3 (by simp) rfl rfl ?_
      refine z_hx (fun h6 p6 g6 => ?_)
      have o3 := p6
      refine z_aload_n dMod_ask_78 rfl ?_
      refine z_dup rfl dMod_ask_79 ?_
      refine z_get (k := 9) fd_Mod (by decide) fl_Mod_187 dMod_ask_80 (by assumption) (by rfl) ?_
      refine z_iload_n dMod_ask_83 rfl ?_
      refine z_iconst dMod_ask_84 ?_
      refine z_iadd dMod_ask_85 ?_
      refine z_iadd dMod_ask_86 ?_
      refine z_put (k := 9) fd_Mod (by decide) fl_Mod_187 rfl dMod_ask_87 o3 (by simp) rfl rfl ?_
      refine z_hx (fun h7 p7 g7 => ?_)
      have o3 := p7
      have hfr : ∀ z, z ≠ ma 0 → z ≠ ma 7 → z ≠ q2 → z ≠ q3 → h7 z = h1 z := fun z z0 z7 z2 z3 => (g7 z z0).trans ((g6 z z0).trans ((g5 z z7).trans ((g4 z z0).trans ((F3 z z3).trans (F2 z z2)))))
      have n2q : ∀ i, i < 13 → ma i ≠ q2 := fun i hi => (H1.nq hq2 hi).symm
      have n3q : ∀ i, i < 13 → ma i ≠ q3 := fun i hi => (H2.nq hq3 hi).symm
      have q3k : h7 q3 = h3 q3 := (g7 _ (n3q 0 (by omega)).symm).trans ((g6 _ (n3q 0 (by omega)).symm).trans ((g5 _ (n3q 7 (by omega)).symm).trans (g4 _ (n3q 0 (by omega)).symm)))
      have e57 := (g7 _ (H.inj (i := 7) (j := 0) (by omega) (by omega) (by omega))).trans ((g6 _ (H.inj (i := 7) (j := 0) (by omega) (by omega) (by omega))).trans p5)
      have H7 : zMod G h7 (zup ma 12 q3) (zsAsk S key) t9 := H1.rec (r3.kept q3k) (fun i hi _ => (n3q i hi).symm) (p7.trans (by
          congr 3
          show [_, _, _, _, _, _, _, _, _, _, _, _, _] = [_, _, _, _, _, _, _, _, _, _, _, _, _]
          rw [show ((S.2.2.2.1 ++ [key]).length : Int) = (S.2.2.2.1.length : Int) + 1 by rw [List.length_append]; rfl]
          rfl)) e57 (fun j hj => by
          rw [List.length_append] at hj
          have hj2 : j < S.2.2.2.1.length + 1 := hj
          rw [Int.toNat_natCast]
          by_cases e9 : j = S.2.2.2.1.length
          · subst e9
            rw [zup_same]
            simp [List.getD_eq_getElem?_getD]
          · rw [zup_ne e9, n5a j (by omega)]
            simp only [List.getD_eq_getElem?_getD]
            rw [List.getElem?_append_left (by omega)]) (fun i hi i0 i7 i12 => hfr _ (H.inj hi (by omega) i0) (H.inj hi (by omega) i7) (n2q i hi) (n3q i hi))
      have fz7 : zMfr ma h h7 := fz1.tr (fun z e he hz => by
        have zq2 : z ≠ q2 := Nat.ne_of_lt (hq2 _ _ he)
        have zq3 : z ≠ q3 := Nat.ne_of_lt (hq3 _ _ ((F2 z zq2).trans he))
        exact (hfr z (hz 0 (by omega)) (hz 7 (by omega)) zq2 zq3).trans he)
      refine z_iload_n dMod_ask_90 rfl ?_
      refine z_iconst dMod_ask_91 ?_
      refine z_iadd dMod_ask_92 ?_
      refine z_iret rfl rfl dMod_ask_93 ?_
      rcases (show t9 = 0 ∨ t9 = 1 ∨ t9 = 2 ∨ t9 = 3 by omega) with t0 | t0 | t0 | t0
      all_goals first
        | (exfalso; omega)
        | exact zQm.okB (k := 4) H7 (Or.inr ⟨dq3, gq3⟩) (by omega) (by assumption) (by unfold sp_ask; (try unfold spPut); (try simp only [Int.toNat_natCast]); (repeat (first | rw [if_pos (by omega)] | rw [if_neg (by omega)] | rw [if_pos (by assumption)] | rw [if_neg (by assumption)] | rw [if_pos (True.intro : True)])); (try (first | rfl | (congr 2; omega) | (congr 1; congr 1; omega))); done)
        | exact zQm.ok H1 (by omega) (by assumption) (by unfold sp_ask; (try unfold spPut); (try simp only [Int.toNat_natCast]); (repeat (first | rw [if_pos (by omega)] | rw [if_neg (by omega)] | rw [if_pos (by assumption)] | rw [if_neg (by assumption)] | rw [if_pos (True.intro : True)])); (try (first | rfl | (congr 2; omega) | (congr 1; congr 1; omega))); done)
        | exact zQm.b1 H1 (by omega) (by assumption) (by unfold sp_ask; (try unfold spPut); (try simp only [Int.toNat_natCast]); (repeat (first | rw [if_pos (by omega)] | rw [if_neg (by omega)] | rw [if_pos (by assumption)] | rw [if_neg (by assumption)] | rw [if_pos (True.intro : True)])); (try (first | rfl | (congr 2; omega) | (congr 1; congr 1; omega))); done)
        | exact zQm.b2 H1 (by omega) (by assumption) (by unfold sp_ask; (try unfold spPut); (try simp only [Int.toNat_natCast]); (repeat (first | rw [if_pos (by omega)] | rw [if_neg (by omega)] | rw [if_pos (by assumption)] | rw [if_neg (by assumption)] | rw [if_pos (True.intro : True)])); (try (first | rfl | (congr 2; omega) | (congr 1; congr 1; omega))); done)
        | exact zQm.b3 H1 (by omega) (by assumption) (by unfold sp_ask; (try unfold spPut); (try simp only [Int.toNat_natCast]); (repeat (first | rw [if_pos (by omega)] | rw [if_neg (by omega)] | rw [if_pos (by assumption)] | rw [if_neg (by assumption)] | rw [if_pos (True.intro : True)])); (try (first | rfl | (congr 2; omega) | (congr 1; congr 1; omega))); done)
    · refine z_iconst dMod_ask_29 ?_
      refine z_iret rfl rfl dMod_ask_30 ?_
      rcases (show t9 = 0 ∨ t9 = 1 ∨ t9 = 2 ∨ t9 = 3 by omega) with t0 | t0 | t0 | t0
      all_goals first
        | (exfalso; omega)
        | exact zQm.okB (k := 4) H7 (Or.inr ⟨dq3, gq3⟩) (by omega) (by assumption) (by unfold sp_ask; (try unfold spPut); (try simp only [Int.toNat_natCast]); (repeat (first | rw [if_pos (by omega)] | rw [if_neg (by omega)] | rw [if_pos (by assumption)] | rw [if_neg (by assumption)] | rw [if_pos (True.intro : True)])); (try (first | rfl | (congr 2; omega) | (congr 1; congr 1; omega))); done)
        | exact zQm.ok H1 (by omega) (by assumption) (by unfold sp_ask; (try unfold spPut); (try simp only [Int.toNat_natCast]); (repeat (first | rw [if_pos (by omega)] | rw [if_neg (by omega)] | rw [if_pos (by assumption)] | rw [if_neg (by assumption)] | rw [if_pos (True.intro : True)])); (try (first | rfl | (congr 2; omega) | (congr 1; congr 1; omega))); done)
        | exact zQm.b1 H1 (by omega) (by assumption) (by unfold sp_ask; (try unfold spPut); (try simp only [Int.toNat_natCast]); (repeat (first | rw [if_pos (by omega)] | rw [if_neg (by omega)] | rw [if_pos (by assumption)] | rw [if_neg (by assumption)] | rw [if_pos (True.intro : True)])); (try (first | rfl | (congr 2; omega) | (congr 1; congr 1; omega))); done)
        | exact zQm.b2 H1 (by omega) (by assumption) (by unfold sp_ask; (try unfold spPut); (try simp only [Int.toNat_natCast]); (repeat (first | rw [if_pos (by omega)] | rw [if_neg (by omega)] | rw [if_pos (by assumption)] | rw [if_neg (by assumption)] | rw [if_pos (True.intro : True)])); (try (first | rfl | (congr 2; omega) | (congr 1; congr 1; omega))); done)
        | exact zQm.b3 H1 (by omega) (by assumption) (by unfold sp_ask; (try unfold spPut); (try simp only [Int.toNat_natCast]); (repeat (first | rw [if_pos (by omega)] | rw [if_neg (by omega)] | rw [if_pos (by assumption)] | rw [if_neg (by assumption)] | rw [if_pos (True.intro : True)])); (try (first | rfl | (congr 2; omega) | (congr 1; congr 1; omega))); done)
  · refine z_iconst dMod_ask_17 ?_
    refine z_goto (tgt := 22) dMod_ask_18 (by decide) ?_
    refine z_iconst dMod_ask_22 ?_
    refine z_callV MV_Mod_fails lk_Mod_88 dMod_ask_23 (k_Mod_fails (by assumption) rfl (by omega) (by omega) (by omega)) rfl rfl (Nat.le_of_ble_eq_true rfl) rfl (by assumption) (Nat.le_of_ble_eq_true rfl) (Nat.le_of_ble_eq_true rfl) (Nat.le_of_eq (Nat.zero_add _)) (Nat.le_of_eq (Nat.zero_add _)) (fun _ _ q => q.elim) ?_
    rintro _ h1 ⟨t9, b8, rfl, ht, p1, g1⟩
    have H1 : zMod G h1 ma S t9 := H.obj (nu := S.2.2.2.2) (th' := t9) p1 g1
    have fz1 : zMfr ma h h1 := zMfr.of0 g1
    obtain ⟨-, n2, ⟨gg, n3, n3a⟩, n4, ⟨f61, n5, n5a⟩, n6, n7⟩ := id H1
    unfold zMfs at n2
    refine z_if_eq (tgt := 31) dMod_ask_26 (by decide) (by omega) (fun c26 => ?_) (fun c26 => ?_)
    · have hfd := hO.2.1 key (by omega) (by omega)
      have hfi := zFind_in S.2.2.1 key 0
      have okn := hO.2.2.2.2
      refine z_aload_n dMod_ask_31 rfl ?_
      refine z_get (k := 6) fd_Mod (by decide) fl_Mod_31 dMod_ask_32 (by assumption) (by rfl) ?_
      refine z_iload_n dMod_ask_35 rfl ?_
      refine z_iconst dMod_ask_36 ?_
      refine z_callS MS_Mod_find lk_Mod_110 dMod_ask_37 (k_Mod_find n7 (by omega) (by omega)) rfl rfl (Nat.le_of_ble_eq_true rfl)  (Nat.le_of_ble_eq_true rfl) (Nat.le_of_ble_eq_true rfl) (Nat.le_of_eq (Nat.zero_add _)) (Nat.le_of_eq (Nat.zero_add _)) (fun _ _ q => q.elim) ?_
      rintro _ _ ⟨rfl, rfl⟩
      refine z_istore_n dMod_ask_40 (Nat.le_of_ble_eq_true rfl) ?_
      refine z_aload_n dMod_ask_41 rfl ?_
      refine z_aload_n dMod_ask_42 rfl ?_
      refine z_get (k := 6) fd_Mod (by decide) fl_Mod_31 dMod_ask_43 (by assumption) (by rfl) ?_
      refine z_iload_n dMod_ask_46 rfl ?_
      refine z_callS (bc' := 1) (bs' := 61) MS_Mod_without lk_Mod_102 dMod_ask_47 (k_Mod_without n7 (by omega) (by omega)) rfl rfl (Nat.le_of_ble_eq_true rfl)  (Nat.le_of_ble_eq_true rfl) (Nat.le_of_ble_eq_true rfl) (by decide) (by decide) (fun _ _ q => q.elim) ?_
      rintro _ h2 ⟨q2, rfl, hq2, gq2, r2, F2⟩
      have H2 : zMod G h2 ma S t9 := H1.keep hq2 F2
      have fz2 : zMfr ma h h2 := fz1.tr (zMfr.new hq2 F2)
      have dq2 : zDm h q2 := hq2.up H1 fz1
      have oc2 := H2.2.1
      have hdl := zDel_len S.2.2.1 (zFind S.2.2.1 key 0)
      refine z_iconst dMod_ask_50 ?_
      refine z_iload_n dMod_ask_51 rfl ?_
      refine z_callS (bc' := 0) (bs' := 0) MS_Mod_with lk_Mod_49 dMod_ask_52 (k_Mod_with r2 (by omega) (by omega) (by omega)) rfl rfl (Nat.le_of_ble_eq_true rfl)  (Nat.le_of_ble_eq_true rfl) (Nat.le_of_ble_eq_true rfl) (by decide) (by decide) (fun _ _ q => q.elim) ?_
      rintro _ h3 ⟨q3, rfl, hq3, gq3, r3, F3⟩
      have H3 : zMod G h3 ma S t9 := H2.keep hq3 F3
      have fz3 : zMfr ma h h3 := fz2.tr (zMfr.new hq3 F3)
      have dq3 : zDm h q3 := hq3.up H2 fz2
      have oc3 := H3.2.1
      have o3 := H3.2.1
      unfold zMfs at o3
      refine z_put (k := 6) fd_Mod (by decide) fl_Mod_31 rfl dMod_ask_55 o3 (by simp) rfl rfl ?_
      refine z_hx (fun h4 p4 g4 => ?_)
      have o3 := p4
      have n53 := (g4 (ma 7) (H.inj (by omega) (by omega) (by omega))).trans ((F3 _ (H2.nq hq3 (i := 7) (by omega)).symm).trans ((F2 _ (H1.nq hq2 (i := 7) (by omega)).symm).trans n5))
      have n53 := (g4 (ma 7) (H.inj (by omega) (by omega) (by omega))).trans ((F3 _ (H2.nq hq3 (i := 7) (by omega)).symm).trans ((F2 _ (H1.nq hq2 (i := 7) (by omega)).symm).trans n5))
      refine z_aload_n dMod_ask_58 rfl ?_
      refine z_get (k := 7) fd_Mod (by decide) fl_Mod_34 dMod_ask_59 (by assumption) (by rfl) ?_
      refine z_aload_n dMod_ask_62 rfl ?_
      refine z_get (k := 8) fd_Mod (by decide) fl_Mod_184 dMod_ask_63 (by assumption) (by rfl) ?_
      refine z_iload_n dMod_ask_66 rfl ?_
      refine z_iast dMod_ask_67 (by assumption) (by refine ⟨?_, ?_, ?_⟩ <;> omega) ?_
      refine z_hx (fun h5 p5 g5 => ?_)
      have o3 := (g5 (ma 0) (H.inj (by omega) (by omega) (by omega))).trans o3
      refine z_aload_n dMod_ask_68 rfl ?_
      refine z_dup rfl dMod_ask_69 ?_
      refine z_get (k := 8) fd_Mod (by decide) fl_Mod_184 dMod_ask_70 (by assumption) (by rfl) ?_
      refine z_iconst dMod_ask_73 ?_
      refine z_iadd dMod_ask_74 ?_
      refine z_put (k := 8) fd_Mod (by decide) fl_Mod_184 rfl dMod_ask_75 o3 (by simp) rfl rfl ?_
      refine z_hx (fun h6 p6 g6 => ?_)
      have o3 := p6
      refine z_aload_n dMod_ask_78 rfl ?_
      refine z_dup rfl dMod_ask_79 ?_
      refine z_get (k := 9) fd_Mod (by decide) fl_Mod_187 dMod_ask_80 (by assumption) (by rfl) ?_
      refine z_iload_n dMod_ask_83 rfl ?_
      refine z_iconst dMod_ask_84 ?_
      refine z_iadd dMod_ask_85 ?_
      refine z_iadd dMod_ask_86 ?_
      refine z_put (k := 9) fd_Mod (by decide) fl_Mod_187 rfl dMod_ask_87 o3 (by simp) rfl rfl ?_
      refine z_hx (fun h7 p7 g7 => ?_)
      have o3 := p7
      have hfr : ∀ z, z ≠ ma 0 → z ≠ ma 7 → z ≠ q2 → z ≠ q3 → h7 z = h1 z := fun z z0 z7 z2 z3 => (g7 z z0).trans ((g6 z z0).trans ((g5 z z7).trans ((g4 z z0).trans ((F3 z z3).trans (F2 z z2)))))
      have n2q : ∀ i, i < 13 → ma i ≠ q2 := fun i hi => (H1.nq hq2 hi).symm
      have n3q : ∀ i, i < 13 → ma i ≠ q3 := fun i hi => (H2.nq hq3 hi).symm
      have q3k : h7 q3 = h3 q3 := (g7 _ (n3q 0 (by omega)).symm).trans ((g6 _ (n3q 0 (by omega)).symm).trans ((g5 _ (n3q 7 (by omega)).symm).trans (g4 _ (n3q 0 (by omega)).symm)))
      have e57 := (g7 _ (H.inj (i := 7) (j := 0) (by omega) (by omega) (by omega))).trans ((g6 _ (H.inj (i := 7) (j := 0) (by omega) (by omega) (by omega))).trans p5)
      have H7 : zMod G h7 (zup ma 12 q3) (zsAsk S key) t9 := H1.rec (r3.kept q3k) (fun i hi _ => (n3q i hi).symm) (p7.trans (by
          congr 3
          show [_, _, _, _, _, _, _, _, _, _, _, _, _] = [_, _, _, _, _, _, _, _, _, _, _, _, _]
          rw [show ((S.2.2.2.1 ++ [key]).length : Int) = (S.2.2.2.1.length : Int) + 1 by rw [List.length_append]; rfl]
          rfl)) e57 (fun j hj => by
          rw [List.length_append] at hj
          have hj2 : j < S.2.2.2.1.length + 1 := hj
          rw [Int.toNat_natCast]
          by_cases e9 : j = S.2.2.2.1.length
          · subst e9
            rw [zup_same]
            simp [List.getD_eq_getElem?_getD]
          · rw [zup_ne e9, n5a j (by omega)]
            simp only [List.getD_eq_getElem?_getD]
            rw [List.getElem?_append_left (by omega)]) (fun i hi i0 i7 i12 => hfr _ (H.inj hi (by omega) i0) (H.inj hi (by omega) i7) (n2q i hi) (n3q i hi))
      have fz7 : zMfr ma h h7 := fz1.tr (fun z e he hz => by
        have zq2 : z ≠ q2 := Nat.ne_of_lt (hq2 _ _ he)
        have zq3 : z ≠ q3 := Nat.ne_of_lt (hq3 _ _ ((F2 z zq2).trans he))
        exact (hfr z (hz 0 (by omega)) (hz 7 (by omega)) zq2 zq3).trans he)
      refine z_iload_n dMod_ask_90 rfl ?_
      refine z_iconst dMod_ask_91 ?_
      refine z_iadd dMod_ask_92 ?_
      refine z_iret rfl rfl dMod_ask_93 ?_
      rcases (show t9 = 0 ∨ t9 = 1 ∨ t9 = 2 ∨ t9 = 3 by omega) with t0 | t0 | t0 | t0
      all_goals first
        | (exfalso; omega)
        | exact zQm.okB (k := 4) H7 (Or.inr ⟨dq3, gq3⟩) (by omega) (by assumption) (by unfold sp_ask; (try unfold spPut); (try simp only [Int.toNat_natCast]); (repeat (first | rw [if_pos (by omega)] | rw [if_neg (by omega)] | rw [if_pos (by assumption)] | rw [if_neg (by assumption)] | rw [if_pos (True.intro : True)])); (try (first | rfl | (congr 2; omega) | (congr 1; congr 1; omega))); done)
        | exact zQm.ok H1 (by omega) (by assumption) (by unfold sp_ask; (try unfold spPut); (try simp only [Int.toNat_natCast]); (repeat (first | rw [if_pos (by omega)] | rw [if_neg (by omega)] | rw [if_pos (by assumption)] | rw [if_neg (by assumption)] | rw [if_pos (True.intro : True)])); (try (first | rfl | (congr 2; omega) | (congr 1; congr 1; omega))); done)
        | exact zQm.b1 H1 (by omega) (by assumption) (by unfold sp_ask; (try unfold spPut); (try simp only [Int.toNat_natCast]); (repeat (first | rw [if_pos (by omega)] | rw [if_neg (by omega)] | rw [if_pos (by assumption)] | rw [if_neg (by assumption)] | rw [if_pos (True.intro : True)])); (try (first | rfl | (congr 2; omega) | (congr 1; congr 1; omega))); done)
        | exact zQm.b2 H1 (by omega) (by assumption) (by unfold sp_ask; (try unfold spPut); (try simp only [Int.toNat_natCast]); (repeat (first | rw [if_pos (by omega)] | rw [if_neg (by omega)] | rw [if_pos (by assumption)] | rw [if_neg (by assumption)] | rw [if_pos (True.intro : True)])); (try (first | rfl | (congr 2; omega) | (congr 1; congr 1; omega))); done)
        | exact zQm.b3 H1 (by omega) (by assumption) (by unfold sp_ask; (try unfold spPut); (try simp only [Int.toNat_natCast]); (repeat (first | rw [if_pos (by omega)] | rw [if_neg (by omega)] | rw [if_pos (by assumption)] | rw [if_neg (by assumption)] | rw [if_pos (True.intro : True)])); (try (first | rfl | (congr 2; omega) | (congr 1; congr 1; omega))); done)
    · refine z_iconst dMod_ask_29 ?_
      refine z_iret rfl rfl dMod_ask_30 ?_
      rcases (show t9 = 0 ∨ t9 = 1 ∨ t9 = 2 ∨ t9 = 3 by omega) with t0 | t0 | t0 | t0
      all_goals first
        | (exfalso; omega)
        | exact zQm.okB (k := 4) H7 (Or.inr ⟨dq3, gq3⟩) (by omega) (by assumption) (by unfold sp_ask; (try unfold spPut); (try simp only [Int.toNat_natCast]); (repeat (first | rw [if_pos (by omega)] | rw [if_neg (by omega)] | rw [if_pos (by assumption)] | rw [if_neg (by assumption)] | rw [if_pos (True.intro : True)])); (try (first | rfl | (congr 2; omega) | (congr 1; congr 1; omega))); done)
        | exact zQm.ok H1 (by omega) (by assumption) (by unfold sp_ask; (try unfold spPut); (try simp only [Int.toNat_natCast]); (repeat (first | rw [if_pos (by omega)] | rw [if_neg (by omega)] | rw [if_pos (by assumption)] | rw [if_neg (by assumption)] | rw [if_pos (True.intro : True)])); (try (first | rfl | (congr 2; omega) | (congr 1; congr 1; omega))); done)
        | exact zQm.b1 H1 (by omega) (by assumption) (by unfold sp_ask; (try unfold spPut); (try simp only [Int.toNat_natCast]); (repeat (first | rw [if_pos (by omega)] | rw [if_neg (by omega)] | rw [if_pos (by assumption)] | rw [if_neg (by assumption)] | rw [if_pos (True.intro : True)])); (try (first | rfl | (congr 2; omega) | (congr 1; congr 1; omega))); done)
        | exact zQm.b2 H1 (by omega) (by assumption) (by unfold sp_ask; (try unfold spPut); (try simp only [Int.toNat_natCast]); (repeat (first | rw [if_pos (by omega)] | rw [if_neg (by omega)] | rw [if_pos (by assumption)] | rw [if_neg (by assumption)] | rw [if_pos (True.intro : True)])); (try (first | rfl | (congr 2; omega) | (congr 1; congr 1; omega))); done)
        | exact zQm.b3 H1 (by omega) (by assumption) (by unfold sp_ask; (try unfold spPut); (try simp only [Int.toNat_natCast]); (repeat (first | rw [if_pos (by omega)] | rw [if_neg (by omega)] | rw [if_pos (by assumption)] | rw [if_neg (by assumption)] | rw [if_pos (True.intro : True)])); (try (first | rfl | (congr 2; omega) | (congr 1; congr 1; omega))); done)
end MOD20
