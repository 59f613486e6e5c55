section MOD21
variable {G : zG} {l : Launch} {h h' h'' : zHp} {ma : Nat → Nat} {S : zSt} {th : Int}
theorem z_alenR {J : zJ} {bc bs pc a n : Nat} {f : Nat → Option Nat} {ls : List (Option Value)} {st : List Value} (hd : decode J.1.2.1 pc = .ok (.arraylength, 1)) (hh : h a = some (zRefs G 4 n f)) (kk : zR G l J bc bs h (pc + 1) ls (zi (n : Int) :: st)) : zR G l J bc bs h pc ls (.ref a :: st) := z_alen (i := 4) rfl hd hh kk
theorem l_Mod_forget {mc ms bc bs : Nat} {Qn : Option Value → zHp → Prop} {Qx : String → zHp → Prop} {o r : Nat} {fs : List Value} {w1 : Int} (eo : h o = some (.inr (zkMod, fs))) (hfs : fs[6]? = some (.ref r)) (hor : o ≠ r)
    (K : ∀ (h1 : zHp) f y, h1 r = some (zInts G 8 f) → (∀ j : Nat, j < 8 → f j = (j : Int)) → (∀ z, z ≠ r → h1 z = h z) → zR G l (zMJ G hMod_forget 1 Qn Qx mc ms) bc bs h1 41 [some (.ref o), some (zi w1), y] []) :
    ∀ (n m : Nat) (h1 : zHp) (f : Nat → Int), 8 - m < n → m ≤ 8 → h1 r = some (zInts G 8 f) → (∀ j : Nat, j < m → f j = (j : Int)) → (∀ z, z ≠ r → h1 z = h z) → zR G l (zMJ G hMod_forget 1 Qn Qx mc ms) bc bs h1 22 [some (.ref o), some (zi w1), some (zi (m : Int))] [] := by
  intro n
  induction n with
  | zero => intro m h1 f x1 x2 e1 e2 hf; omega
  | succ n ih =>
  intro m h1 f x1 x2 e1 e2 hf
  have eo1 := (hf o hor).trans eo
  refine z_iload_n dMod_forget_22 rfl ?_
  refine z_bipush dMod_forget_23 rfl ?_
  refine z_icmp_ge (tgt := 41) dMod_forget_25 (by decide) (by omega) (by omega) (fun c25 => ?_) (fun c25 => ?_)
  · have em : m = 8 := by omega
    subst em
    exact K h1 f _ e1 e2 hf
  · refine z_aload_n dMod_forget_28 rfl ?_
    refine z_get (k := 6) fd_Mod (by decide) fl_Mod_31 dMod_forget_29 eo1 hfs ?_
    refine z_iload_n dMod_forget_32 rfl ?_
    refine z_iload_n dMod_forget_33 rfl ?_
    refine z_iast dMod_forget_34 (by assumption) (by refine ⟨?_, ?_, ?_⟩ <;> omega) ?_
    refine z_hx (fun h2 p2 f2 => ?_)
    rw [Int.toNat_natCast] at p2
    refine z_iinc dMod_forget_35 rfl (Nat.le_of_ble_eq_true rfl) ?_
    refine z_goto (tgt := 22) dMod_forget_38 (by decide) ?_
    refine ih (m + 1) h2 _ (by omega) (by omega) p2 (fun t ht => ?_) (fun z hz => (f2 z hz).trans (hf z hz))
    by_cases e9 : t = m
    · subst e9
      rw [zup_same]
    · rw [zup_ne e9]
      exact e2 t (by omega)
theorem k_Mod_forget (H : zMod G h ma S th) (hO : zOk S) : zM G l hMod_forget yMod_forget 1 [.ref (ma 0)] h (zQm G ma h 1 2 3 (sp_forget S)) zNo 0 0 := by
  obtain ⟨m1, m2, ⟨g, m3, m3a⟩, m4, ⟨f6, m5, m5a⟩, m6, m7⟩ := id H
  unfold zMfs at m2
  have o3 := m2
  obtain ⟨fk, k1, k2, k3, k4⟩ := id m7
  have okK := hO.2.2.1
  rw [okK] at k1
  refine zM.of [some (.ref (ma 0)), none, none] (by decide +kernel) rfl (by decide) rfl (Nat.le_of_ble_eq_true rfl) rfl ?_
  refine z_aload_n dMod_forget_0 rfl ?_
  refine z_iconst dMod_forget_1 ?_
  refine z_put (k := 12) fd_Mod (by decide) fl_Mod_37 rfl dMod_forget_2 o3 (by simp) rfl rfl ?_
  refine z_hx (fun h1 p1 g1 => ?_)
  have o3 := p1
  refine z_aload_n dMod_forget_5 rfl ?_
  refine z_get (k := 8) fd_Mod (by decide) fl_Mod_184 dMod_forget_6 o3 rfl ?_
  refine z_istore_n dMod_forget_9 (Nat.le_of_ble_eq_true rfl) ?_
  refine z_aload_n dMod_forget_10 rfl ?_
  refine z_iconst dMod_forget_11 ?_
  refine z_put (k := 8) fd_Mod (by decide) fl_Mod_184 rfl dMod_forget_12 o3 (by simp) rfl rfl ?_
  refine z_hx (fun h2 p2 g2 => ?_)
  have o3 := p2
  refine z_aload_n dMod_forget_15 rfl ?_
  refine z_iconst dMod_forget_16 ?_
  refine z_put (k := 9) fd_Mod (by decide) fl_Mod_187 rfl dMod_forget_17 o3 (by simp) rfl rfl ?_
  refine z_hx (fun h3 p3 g3 => ?_)
  have o3 := p3
  refine z_iconst dMod_forget_20 ?_
  refine z_istore_n dMod_forget_21 (Nat.le_of_ble_eq_true rfl) ?_
  have nn : ∀ i, i < 13 → i ≠ 0 → ma i ≠ ma 0 := fun i hi h0 => H.inj hi (by omega) h0
  have hf3 : ∀ z, z ≠ ma 0 → h3 z = h z := fun z hz => (g3 z hz).trans ((g2 z hz).trans (g1 z hz))
  refine l_Mod_forget (h := h3) (r := ma 12) o3 rfl (H.inj (by omega) (by omega) (by omega)) (fun h4 f4 y e4 v4 F4 => ?_) 9 0 h3 fk (by omega) (by omega) ((hf3 _ (nn 12 (by omega) (by omega))).trans k1) (fun j hj => absurd hj (by omega)) (fun _ _ => rfl)
  have hfr : ∀ z, z ≠ ma 0 → z ≠ ma 12 → h4 z = h z := fun z z0 z12 => (F4 z z12).trans (hf3 z z0)
  have hpl : (zPl9 8).length = 8 := zPl9_len 8
  have r4 : zAr G h4 (ma 12) (zPl9 8) := ⟨f4, by rw [hpl]; exact e4, by rw [hpl]; omega, fun j hj => by rw [hpl] at hj; exact (v4 j hj).trans (zmk_at _ hj).symm, fun j hj => by rw [hpl] at hj; rw [show (zPl9 8).getD j 0 = (j : Int) from zmk_at _ hj]; omega⟩
  have H4 := H.rec (K' := zPl9 8) (A' := []) (nu' := zup S.2.2.2.2 0 0) (th' := 0) r4 (fun i hi hne => H.inj (by omega) hi (Ne.symm hne)) ((F4 _ (H.inj (by omega) (by omega) (by omega))).trans o3) ((hfr _ (nn 7 (by omega) (by omega)) (H.inj (by omega) (by omega) (by omega))).trans m5) (fun j hj => absurd hj (by simp)) (fun i hi i0 i7 i12 => hfr _ (nn i hi i0) (H.inj hi (by omega) i12))
  rw [zup_id] at H4
  have fz4 : zMfr ma h h4 := zMfr.of2 (i := 0) (j := 12) (by omega) (by omega) hfr
  refine z_iload_n dMod_forget_41 rfl ?_
  refine z_iret rfl rfl dMod_forget_42 ?_
  exact zQm.ok H4 rfl fz4 rfl
theorem k_Mod_askedNow {w : Int} (H : zMod G h ma S th) (hw : 0 ≤ w ∧ w ≤ 3) (hO : zOk S) : zM G l hMod_askedNow yMod_askedNow 1 [.ref (ma 0), zi w] h (fun v h' => v = some (zi (zAkV S w)) ∧ h = h') zNo 0 0 := by
  obtain ⟨m1, m2, ⟨g, m3, m3a⟩, m4, ⟨f6, m5, m5a⟩, m6, m7⟩ := id H
  unfold zMfs at m2
  obtain ⟨fk, k1, k2, k3, k4⟩ := id m7
  have okK := hO.2.2.1
  have okA := hO.2.2.2.1
  have ok5 := hO.2.2.2.2
  refine zM.of [some (.ref (ma 0)), some (zi w)] (by decide +kernel) rfl (by decide) rfl (Nat.le_of_ble_eq_true rfl) rfl ?_
  refine z_iload_n dMod_askedNow_0 rfl ?_
  refine z_if_ne (tgt := 11) dMod_askedNow_1 (by decide) (by omega) (fun c1 => ?_) (fun c1 => ?_)
  · refine z_iload_n dMod_askedNow_11 rfl ?_
    refine z_iconst dMod_askedNow_12 ?_
    refine z_icmp_ne (tgt := 23) dMod_askedNow_13 (by decide) (by omega) (by omega) (fun c13 => ?_) (fun c13 => ?_)
    · refine z_iload_n dMod_askedNow_23 rfl ?_
      refine z_iconst dMod_askedNow_24 ?_
      refine z_icmp_ne (tgt := 53) dMod_askedNow_25 (by decide) (by omega) (by omega) (fun c25 => ?_) (fun c25 => ?_)
      · refine z_aload_n dMod_askedNow_53 rfl ?_
        refine z_get (k := 6) fd_Mod (by decide) fl_Mod_31 dMod_askedNow_54 (by assumption) (by rfl) ?_
        refine z_bipush dMod_askedNow_57 rfl ?_
        refine z_iald dMod_askedNow_59 (by assumption) (by refine ⟨?_, ?_, ?_⟩ <;> omega) ?_
        rw [show ((7 : Int)).toNat = 7 from rfl, k3 7 (by omega)]
        refine z_iret rfl rfl dMod_askedNow_60 ?_
        refine ⟨congrArg (fun z => some (zi z)) ?_, rfl⟩
        unfold zAkV
        (repeat (first | rw [if_pos (by omega)] | rw [if_neg (by omega)]))
        first
          | done
          | (unfold zLastOf; rw [if_pos (by omega)]; done)
          | (unfold zLastOf; rw [if_neg (by omega)]; done)
          | (rw [zAt_eq (by omega) (by omega)]; rfl)
      · refine z_aload_n dMod_askedNow_28 rfl ?_
        refine z_get (k := 8) fd_Mod (by decide) fl_Mod_184 dMod_askedNow_29 (by assumption) (by rfl) ?_
        refine z_if_ne (tgt := 39) dMod_askedNow_32 (by decide) (by omega) (fun c32 => ?_) (fun c32 => ?_)
        · refine z_aload_n dMod_askedNow_39 rfl ?_
          refine z_get (k := 7) fd_Mod (by decide) fl_Mod_34 dMod_askedNow_40 (by assumption) (by rfl) ?_
          refine z_aload_n dMod_askedNow_43 rfl ?_
          refine z_get (k := 8) fd_Mod (by decide) fl_Mod_184 dMod_askedNow_44 (by assumption) (by rfl) ?_
          refine z_iconst dMod_askedNow_47 ?_
          refine z_isub dMod_askedNow_48 ?_
          refine z_iald dMod_askedNow_49 (by assumption) (by refine ⟨?_, ?_, ?_⟩ <;> omega) ?_
          rw [show ((S.2.2.2.1.length : Int) - 1).toNat = S.2.2.2.1.length - 1 by omega, m5a _ (by omega)]
          refine z_goto (tgt := 60) dMod_askedNow_50 (by decide) ?_
          refine z_iret rfl rfl dMod_askedNow_60 ?_
          refine ⟨congrArg (fun z => some (zi z)) ?_, rfl⟩
          unfold zAkV
          (repeat (first | rw [if_pos (by omega)] | rw [if_neg (by omega)]))
          first
            | done
            | (unfold zLastOf; rw [if_pos (by omega)]; done)
            | (unfold zLastOf; rw [if_neg (by omega)]; done)
            | (rw [zAt_eq (by omega) (by omega)]; rfl)
        · refine z_iconst dMod_askedNow_35 ?_
          refine z_goto (tgt := 60) dMod_askedNow_36 (by decide) ?_
          refine z_iret rfl rfl dMod_askedNow_60 ?_
          refine ⟨congrArg (fun z => some (zi z)) ?_, rfl⟩
          unfold zAkV
          (repeat (first | rw [if_pos (by omega)] | rw [if_neg (by omega)]))
          first
            | done
            | (unfold zLastOf; rw [if_pos (by omega)]; done)
            | (unfold zLastOf; rw [if_neg (by omega)]; done)
            | (rw [zAt_eq (by omega) (by omega)]; rfl)
    · refine z_aload_n dMod_askedNow_16 rfl ?_
      refine z_get (k := 9) fd_Mod (by decide) fl_Mod_187 dMod_askedNow_17 (by assumption) (by rfl) ?_
      refine z_goto (tgt := 60) dMod_askedNow_20 (by decide) ?_
      refine z_iret rfl rfl dMod_askedNow_60 ?_
      refine ⟨congrArg (fun z => some (zi z)) ?_, rfl⟩
      unfold zAkV
      (repeat (first | rw [if_pos (by omega)] | rw [if_neg (by omega)]))
      first
        | done
        | (unfold zLastOf; rw [if_pos (by omega)]; done)
        | (unfold zLastOf; rw [if_neg (by omega)]; done)
        | (rw [zAt_eq (by omega) (by omega)]; rfl)
  · refine z_aload_n dMod_askedNow_4 rfl ?_
    refine z_get (k := 8) fd_Mod (by decide) fl_Mod_184 dMod_askedNow_5 (by assumption) (by rfl) ?_
    refine z_goto (tgt := 60) dMod_askedNow_8 (by decide) ?_
    refine z_iret rfl rfl dMod_askedNow_60 ?_
    refine ⟨congrArg (fun z => some (zi z)) ?_, rfl⟩
    unfold zAkV
    (repeat (first | rw [if_pos (by omega)] | rw [if_neg (by omega)]))
    first
      | done
      | (unfold zLastOf; rw [if_pos (by omega)]; done)
      | (unfold zLastOf; rw [if_neg (by omega)]; done)
      | (rw [zAt_eq (by omega) (by omega)]; rfl)
theorem k_Mod_asked {w : Int} (H : zMod G h ma S th) (z_w : zI32 w) (hO : zOk S) : zM G l hMod_asked yMod_asked 4 [.ref (ma 0), zi w] h (zQm G ma h (9) (1) (9) (sp_asked S w)) zNo 0 0 := by
  obtain ⟨m1, m2, ⟨g, m3, m3a⟩, m4, ⟨f6, m5, m5a⟩, m6, m7⟩ := id H
  unfold zMfs at m2
  refine zM.of [some (.ref (ma 0)), some (zi w)] (by decide +kernel) rfl (by decide) rfl (Nat.le_of_ble_eq_true rfl) rfl ?_
  refine z_aload_n dMod_asked_0 rfl ?_
  refine z_iload_n dMod_asked_1 rfl ?_
  refine z_iconst dMod_asked_2 ?_
  refine z_iconst dMod_asked_3 ?_
  refine z_callS MS_Mod_isOut lk_Mod_41 dMod_asked_4 (k_Mod_isOut (by omega) (by omega) (by omega)) rfl rfl (Nat.le_of_ble_eq_true rfl)  (Nat.le_of_ble_eq_true rfl) (Nat.le_of_ble_eq_true rfl) (Nat.le_of_eq (Nat.zero_add _)) (Nat.le_of_eq (Nat.zero_add _)) (fun _ _ q => q.elim) ?_
  rintro _ _ ⟨o9, rfl, ho9, rfl⟩
  refine z_iconst dMod_asked_7 ?_
  refine z_iconst dMod_asked_8 ?_
  refine z_callV MV_Mod_fails lk_Mod_88 dMod_asked_9 (k_Mod_fails (by assumption) rfl (by omega) (by omega) (by omega)) rfl rfl (Nat.le_of_ble_eq_true rfl) rfl (by assumption) (Nat.le_of_ble_eq_true rfl) (Nat.le_of_ble_eq_true rfl) (Nat.le_of_eq (Nat.zero_add _)) (Nat.le_of_eq (Nat.zero_add _)) (fun _ _ q => q.elim) ?_
  rintro _ h1 ⟨t9, b8, rfl, ht, p1, g1⟩
  have H1 : zMod G h1 ma S t9 := H.obj (nu := S.2.2.2.2) (th' := t9) p1 g1
  have fz1 : zMfr ma h h1 := zMfr.of0 g1
  obtain ⟨-, n2, ⟨gg, n3, n3a⟩, n4, ⟨f61, n5, n5a⟩, n6, n7⟩ := id H1
  unfold zMfs at n2
  refine z_if_eq (tgt := 19) dMod_asked_12 (by decide) (by omega) (fun c12 => ?_) (fun c12 => ?_)
  · refine z_aload_n dMod_asked_19 rfl ?_
    refine z_iload_n dMod_asked_20 rfl ?_
    refine z_callV MV_Mod_askedNow lk_Mod_190 dMod_asked_21 (k_Mod_askedNow H1 (by omega) hO) rfl rfl (Nat.le_of_ble_eq_true rfl) rfl (by assumption) (Nat.le_of_ble_eq_true rfl) (Nat.le_of_ble_eq_true rfl) (Nat.le_of_eq (Nat.zero_add _)) (Nat.le_of_eq (Nat.zero_add _)) (fun _ _ q => q.elim) ?_
    rintro _ _ ⟨rfl, rfl⟩
    refine z_iret rfl rfl dMod_asked_24 ?_
    rcases (show t9 = 0 ∨ t9 = 1 ∨ t9 = 2 ∨ t9 = 3 by omega) with t0 | t0 | t0 | t0
    all_goals first
      | (exfalso; omega)
      | (refine zQm.ok H1 (by omega) (by assumption) ?_
         unfold sp_asked zAkV
         rw [if_pos (by omega)]
         (repeat' split)
         all_goals first
           | rfl
           | (exfalso; omega))
      | exact zQm.ok H1 (by omega) (by assumption) (by unfold sp_asked; (try unfold spPut); (try simp only [Int.toNat_natCast]); (repeat (first | rw [if_pos (by omega)] | rw [if_neg (by omega)] | rw [if_pos (by assumption)] | rw [if_neg (by assumption)] | rw [if_pos (True.intro : True)])); (try (first | rfl | (congr 2; omega) | (congr 1; congr 1; omega))); done)
      | exact zQm.b1 H1 (by omega) (by assumption) (by unfold sp_asked; (try unfold spPut); (try simp only [Int.toNat_natCast]); (repeat (first | rw [if_pos (by omega)] | rw [if_neg (by omega)] | rw [if_pos (by assumption)] | rw [if_neg (by assumption)] | rw [if_pos (True.intro : True)])); (try (first | rfl | (congr 2; omega) | (congr 1; congr 1; omega))); done)
      | exact zQm.b2 H1 (by omega) (by assumption) (by unfold sp_asked; (try unfold spPut); (try simp only [Int.toNat_natCast]); (repeat (first | rw [if_pos (by omega)] | rw [if_neg (by omega)] | rw [if_pos (by assumption)] | rw [if_neg (by assumption)] | rw [if_pos (True.intro : True)])); (try (first | rfl | (congr 2; omega) | (congr 1; congr 1; omega))); done)
      | exact zQm.b3 H1 (by omega) (by assumption) (by unfold sp_asked; (try unfold spPut); (try simp only [Int.toNat_natCast]); (repeat (first | rw [if_pos (by omega)] | rw [if_neg (by omega)] | rw [if_pos (by assumption)] | rw [if_neg (by assumption)] | rw [if_pos (True.intro : True)])); (try (first | rfl | (congr 2; omega) | (congr 1; congr 1; omega))); done)
  · refine z_iconst dMod_asked_15 ?_
    refine z_goto (tgt := 24) dMod_asked_16 (by decide) ?_
    refine z_iret rfl rfl dMod_asked_24 ?_
    rcases (show t9 = 0 ∨ t9 = 1 ∨ t9 = 2 ∨ t9 = 3 by omega) with t0 | t0 | t0 | t0
    all_goals first
      | (exfalso; omega)
      | (refine zQm.ok H1 (by omega) (by assumption) ?_
         unfold sp_asked zAkV
         rw [if_pos (by omega)]
         (repeat' split)
         all_goals first
           | rfl
           | (exfalso; omega))
      | exact zQm.ok H1 (by omega) (by assumption) (by unfold sp_asked; (try unfold spPut); (try simp only [Int.toNat_natCast]); (repeat (first | rw [if_pos (by omega)] | rw [if_neg (by omega)] | rw [if_pos (by assumption)] | rw [if_neg (by assumption)] | rw [if_pos (True.intro : True)])); (try (first | rfl | (congr 2; omega) | (congr 1; congr 1; omega))); done)
      | exact zQm.b1 H1 (by omega) (by assumption) (by unfold sp_asked; (try unfold spPut); (try simp only [Int.toNat_natCast]); (repeat (first | rw [if_pos (by omega)] | rw [if_neg (by omega)] | rw [if_pos (by assumption)] | rw [if_neg (by assumption)] | rw [if_pos (True.intro : True)])); (try (first | rfl | (congr 2; omega) | (congr 1; congr 1; omega))); done)
      | exact zQm.b2 H1 (by omega) (by assumption) (by unfold sp_asked; (try unfold spPut); (try simp only [Int.toNat_natCast]); (repeat (first | rw [if_pos (by omega)] | rw [if_neg (by omega)] | rw [if_pos (by assumption)] | rw [if_neg (by assumption)] | rw [if_pos (True.intro : True)])); (try (first | rfl | (congr 2; omega) | (congr 1; congr 1; omega))); done)
      | exact zQm.b3 H1 (by omega) (by assumption) (by unfold sp_asked; (try unfold spPut); (try simp only [Int.toNat_natCast]); (repeat (first | rw [if_pos (by omega)] | rw [if_neg (by omega)] | rw [if_pos (by assumption)] | rw [if_neg (by assumption)] | rw [if_pos (True.intro : True)])); (try (first | rfl | (congr 2; omega) | (congr 1; congr 1; omega))); done)
theorem zSumN_in {g : Nat → Int} {b : Int} (hg : ∀ k, 0 ≤ g k ∧ g k ≤ b) (hb : 0 ≤ b) : ∀ n : Nat, 0 ≤ zSumN g n ∧ zSumN g n ≤ b * (n : Int)
  | 0 => by unfold zSumN; omega
  | n + 1 => by
    have := zSumN_in hg hb n
    have h2 := hg n
    unfold zSumN
    have e : b * ((n + 1 : Nat) : Int) = b * (n : Int) + b := by
      rw [show ((n + 1 : Nat) : Int) = (n : Int) + 1 from rfl, Int.mul_add, Int.mul_one]
    omega
theorem l_Mod_house1 {mc ms bc bs : Nat} {Qn : Option Value → zHp → Prop} {Qx : String → zHp → Prop} {w : Int} (H : zMod G h ma S th)
    (K : ∀ y7 y8, zR G l (zMJ G hMod_houseNow 1 Qn Qx mc ms) bc bs h 47 [some (.ref (ma 0)), some (zi w), some (zi (zSumN (fun k => ((S.1 k).length : Int)) 4)), some (zi 0), some (zi 0), some (.ref (ma 1)), some (zi (4 : Int)), y7, y8] []) :
    ∀ (n m : Nat) (y8 : Option Value), 4 - m < n → m ≤ 4 → zR G l (zMJ G hMod_houseNow 1 Qn Qx mc ms) bc bs h 21 [some (.ref (ma 0)), some (zi w), some (zi (zSumN (fun k => ((S.1 k).length : Int)) m)), some (zi 0), some (zi 0), some (.ref (ma 1)), some (zi (4 : Int)), some (zi (m : Int)), y8] [] := by
  intro n
  induction n with
  | zero => intro m y8 x1 x2; omega
  | succ n ih =>
  intro m y8 x1 x2
  obtain ⟨m1, m2, ⟨g, m3, m3a⟩, m4, ⟨f6, m5, m5a⟩, m6, m7⟩ := id H
  unfold zMfs at m2
  refine z_iload dMod_houseNow_21 rfl ?_
  refine z_iload dMod_houseNow_23 rfl ?_
  refine z_icmp_ge (tgt := 47) dMod_houseNow_25 (by decide) (by omega) (by omega) (fun c25 => ?_) (fun c25 => ?_)
  · have em : m = 4 := by omega
    subst em
    exact K _ _
  · refine z_aload dMod_houseNow_28 rfl ?_
    refine z_iload dMod_houseNow_30 rfl ?_
    refine z_aald (t := 4) (ty := .array .int) rfl rfl dMod_houseNow_32 m3 (by refine ⟨?_, ?_, ?_⟩ <;> omega) ?_
    rw [Int.toNat_natCast, m3a m (by omega)]
    obtain ⟨fr, r1, r2, r3, r4⟩ := id (m6 m (by omega))
    refine z_astore dMod_houseNow_33 (Nat.le_of_ble_eq_true rfl) ?_
    refine z_iload_n dMod_houseNow_35 rfl ?_
    refine z_aload dMod_houseNow_36 rfl ?_
    refine z_alenI dMod_houseNow_38 r1 ?_
    refine z_iadd dMod_houseNow_39 ?_
    refine z_istore_n dMod_houseNow_40 (Nat.le_of_ble_eq_true rfl) ?_
    refine z_iinc dMod_houseNow_41 rfl (Nat.le_of_ble_eq_true rfl) ?_
    refine z_goto (tgt := 21) dMod_houseNow_44 (by decide) ?_
    exact ih (m + 1) _ (by omega) (by omega)
theorem l_Mod_house2 {mc ms bc bs : Nat} {Qn : Option Value → zHp → Prop} {Qx : String → zHp → Prop} {w i9 : Int} {y6 y7 y8 : Option Value} (H : zMod G h ma S th)
    (K : ∀ y5, zR G l (zMJ G hMod_houseNow 1 Qn Qx mc ms) bc bs h 110 [some (.ref (ma 0)), some (zi w), some (zi i9), some (zi (zSumN (fun c => S.2.1 c 0) 3)), some (zi (zSumN (fun c => if S.2.1 c 0 = 1 ∧ S.2.1 c 1 ≠ 0 then 1 else 0) 3)), y5, y6, y7, y8] []) :
    ∀ (n m : Nat), 3 - m < n → m ≤ 3 → zR G l (zMJ G hMod_houseNow 1 Qn Qx mc ms) bc bs h 50 [some (.ref (ma 0)), some (zi w), some (zi i9), some (zi (zSumN (fun c => S.2.1 c 0) m)), some (zi (zSumN (fun c => if S.2.1 c 0 = 1 ∧ S.2.1 c 1 ≠ 0 then 1 else 0) m)), some (zi (m : Int)), y6, y7, y8] [] := by
  intro n
  induction n with
  | zero => intro m x1 x2; omega
  | succ n ih =>
  intro m x1 x2
  obtain ⟨m1, m2, ⟨g, m3, m3a⟩, m4, ⟨f6, m5, m5a⟩, m6, m7⟩ := id H
  unfold zMfs at m2
  obtain ⟨⟨v1, a1, b1⟩, ⟨v2, a2, b2⟩, ⟨v3, a3, b3⟩, ⟨v4, a4, b4⟩, ⟨v5, a5, b5⟩⟩ := id m4
  refine z_iload dMod_houseNow_50 rfl ?_
  refine z_iconst dMod_houseNow_52 ?_
  refine z_icmp_ge (tgt := 110) dMod_houseNow_53 (by decide) (by omega) (by omega) (fun c53 => ?_) (fun c53 => ?_)
  · have em : m = 3 := by omega
    subst em
    exact K _
  · have b1m := b1 m (by omega)
    have b2m := b2 m (by omega)
    refine z_iload_n dMod_houseNow_56 rfl ?_
    refine z_aload_n dMod_houseNow_57 rfl ?_
    refine z_get (k := 1) fd_Mod (by decide) fl_Mod_14 dMod_houseNow_58 (by assumption) (by rfl) ?_
    refine z_iload dMod_houseNow_61 rfl ?_
    refine z_zald dMod_houseNow_63 (by assumption) (by refine ⟨?_, ?_, ?_⟩ <;> omega) ?_
    rw [Int.toNat_natCast]
    rw [b1m.1]
    refine z_if_eq (tgt := 71) dMod_houseNow_64 (by decide) (by omega) (fun c64 => ?_) (fun c64 => ?_)
    · refine z_iconst dMod_houseNow_71 ?_
      refine z_iadd dMod_houseNow_72 ?_
      refine z_istore_n dMod_houseNow_73 (Nat.le_of_ble_eq_true rfl) ?_
      refine z_iload dMod_houseNow_74 rfl ?_
      refine z_aload_n dMod_houseNow_76 rfl ?_
      refine z_get (k := 1) fd_Mod (by decide) fl_Mod_14 dMod_houseNow_77 (by assumption) (by rfl) ?_
      refine z_iload dMod_houseNow_80 rfl ?_
      refine z_zald dMod_houseNow_82 (by assumption) (by refine ⟨?_, ?_, ?_⟩ <;> omega) ?_
      rw [Int.toNat_natCast]
      rw [b1m.1]
      refine z_if_eq (tgt := 100) dMod_houseNow_83 (by decide) (by omega) (fun c83 => ?_) (fun c83 => ?_)
      · refine z_iconst dMod_houseNow_100 ?_
        refine z_iadd dMod_houseNow_101 ?_
        refine z_istore dMod_houseNow_102 (Nat.le_of_ble_eq_true rfl) ?_
        refine z_iinc dMod_houseNow_104 rfl (Nat.le_of_ble_eq_true rfl) ?_
        refine z_goto (tgt := 50) dMod_houseNow_107 (by decide) ?_
        have ihE := ih (m + 1) (by omega) (by omega)
        have et : zSumN (fun c => S.2.1 c 0) (m + 1) = zSumN (fun c => S.2.1 c 0) m + S.2.1 m 0 := rfl
        have es : zSumN (fun c => if S.2.1 c 0 = 1 ∧ S.2.1 c 1 ≠ 0 then 1 else 0) (m + 1) = zSumN (fun c => if S.2.1 c 0 = 1 ∧ S.2.1 c 1 ≠ 0 then 1 else 0) m + (if S.2.1 m 0 = 1 ∧ S.2.1 m 1 ≠ 0 then 1 else 0) := rfl
        rw [et, es] at ihE
        first
          | (exfalso; omega)
          | (rw [if_pos (by omega), show S.2.1 m 0 = 1 by omega] at ihE; exact ihE)
          | (rw [if_neg (by omega), show S.2.1 m 0 = 1 by omega] at ihE; exact ihE)
          | (rw [if_neg (by omega), show S.2.1 m 0 = 0 by omega] at ihE; exact ihE)
      · refine z_aload_n dMod_houseNow_86 rfl ?_
        refine z_get (k := 2) fd_Mod (by decide) fl_Mod_18 dMod_houseNow_87 (by assumption) (by rfl) ?_
        refine z_iload dMod_houseNow_90 rfl ?_
        refine z_zald dMod_houseNow_92 (by assumption) (by refine ⟨?_, ?_, ?_⟩ <;> omega) ?_
        rw [Int.toNat_natCast]
        refine z_if_eq (tgt := 100) dMod_houseNow_93 (by decide) (by omega) (fun c93 => ?_) (fun c93 => ?_)
        · refine z_iconst dMod_houseNow_100 ?_
          refine z_iadd dMod_houseNow_101 ?_
          refine z_istore dMod_houseNow_102 (Nat.le_of_ble_eq_true rfl) ?_
          refine z_iinc dMod_houseNow_104 rfl (Nat.le_of_ble_eq_true rfl) ?_
          refine z_goto (tgt := 50) dMod_houseNow_107 (by decide) ?_
          have ihE := ih (m + 1) (by omega) (by omega)
          have et : zSumN (fun c => S.2.1 c 0) (m + 1) = zSumN (fun c => S.2.1 c 0) m + S.2.1 m 0 := rfl
          have es : zSumN (fun c => if S.2.1 c 0 = 1 ∧ S.2.1 c 1 ≠ 0 then 1 else 0) (m + 1) = zSumN (fun c => if S.2.1 c 0 = 1 ∧ S.2.1 c 1 ≠ 0 then 1 else 0) m + (if S.2.1 m 0 = 1 ∧ S.2.1 m 1 ≠ 0 then 1 else 0) := rfl
          rw [et, es] at ihE
          first
            | (exfalso; omega)
            | (rw [if_pos (by omega), show S.2.1 m 0 = 1 by omega] at ihE; exact ihE)
            | (rw [if_neg (by omega), show S.2.1 m 0 = 1 by omega] at ihE; exact ihE)
            | (rw [if_neg (by omega), show S.2.1 m 0 = 0 by omega] at ihE; exact ihE)
        · refine z_iconst dMod_houseNow_96 ?_
          refine z_goto (tgt := 101) dMod_houseNow_97 (by decide) ?_
          refine z_iadd dMod_houseNow_101 ?_
          refine z_istore dMod_houseNow_102 (Nat.le_of_ble_eq_true rfl) ?_
          refine z_iinc dMod_houseNow_104 rfl (Nat.le_of_ble_eq_true rfl) ?_
          refine z_goto (tgt := 50) dMod_houseNow_107 (by decide) ?_
          have ihE := ih (m + 1) (by omega) (by omega)
          have et : zSumN (fun c => S.2.1 c 0) (m + 1) = zSumN (fun c => S.2.1 c 0) m + S.2.1 m 0 := rfl
          have es : zSumN (fun c => if S.2.1 c 0 = 1 ∧ S.2.1 c 1 ≠ 0 then 1 else 0) (m + 1) = zSumN (fun c => if S.2.1 c 0 = 1 ∧ S.2.1 c 1 ≠ 0 then 1 else 0) m + (if S.2.1 m 0 = 1 ∧ S.2.1 m 1 ≠ 0 then 1 else 0) := rfl
          rw [et, es] at ihE
          first
            | (exfalso; omega)
            | (rw [if_pos (by omega), show S.2.1 m 0 = 1 by omega] at ihE; exact ihE)
            | (rw [if_neg (by omega), show S.2.1 m 0 = 1 by omega] at ihE; exact ihE)
            | (rw [if_neg (by omega), show S.2.1 m 0 = 0 by omega] at ihE; exact ihE)
    · refine z_iconst dMod_houseNow_67 ?_
      refine z_goto (tgt := 72) dMod_houseNow_68 (by decide) ?_
      refine z_iadd dMod_houseNow_72 ?_
      refine z_istore_n dMod_houseNow_73 (Nat.le_of_ble_eq_true rfl) ?_
      refine z_iload dMod_houseNow_74 rfl ?_
      refine z_aload_n dMod_houseNow_76 rfl ?_
      refine z_get (k := 1) fd_Mod (by decide) fl_Mod_14 dMod_houseNow_77 (by assumption) (by rfl) ?_
      refine z_iload dMod_houseNow_80 rfl ?_
      refine z_zald dMod_houseNow_82 (by assumption) (by refine ⟨?_, ?_, ?_⟩ <;> omega) ?_
      rw [Int.toNat_natCast]
      rw [b1m.1]
      refine z_if_eq (tgt := 100) dMod_houseNow_83 (by decide) (by omega) (fun c83 => ?_) (fun c83 => ?_)
      · refine z_iconst dMod_houseNow_100 ?_
        refine z_iadd dMod_houseNow_101 ?_
        refine z_istore dMod_houseNow_102 (Nat.le_of_ble_eq_true rfl) ?_
        refine z_iinc dMod_houseNow_104 rfl (Nat.le_of_ble_eq_true rfl) ?_
        refine z_goto (tgt := 50) dMod_houseNow_107 (by decide) ?_
        have ihE := ih (m + 1) (by omega) (by omega)
        have et : zSumN (fun c => S.2.1 c 0) (m + 1) = zSumN (fun c => S.2.1 c 0) m + S.2.1 m 0 := rfl
        have es : zSumN (fun c => if S.2.1 c 0 = 1 ∧ S.2.1 c 1 ≠ 0 then 1 else 0) (m + 1) = zSumN (fun c => if S.2.1 c 0 = 1 ∧ S.2.1 c 1 ≠ 0 then 1 else 0) m + (if S.2.1 m 0 = 1 ∧ S.2.1 m 1 ≠ 0 then 1 else 0) := rfl
        rw [et, es] at ihE
        first
          | (exfalso; omega)
          | (rw [if_pos (by omega), show S.2.1 m 0 = 1 by omega] at ihE; exact ihE)
          | (rw [if_neg (by omega), show S.2.1 m 0 = 1 by omega] at ihE; exact ihE)
          | (rw [if_neg (by omega), show S.2.1 m 0 = 0 by omega] at ihE; exact ihE)
      · refine z_aload_n dMod_houseNow_86 rfl ?_
        refine z_get (k := 2) fd_Mod (by decide) fl_Mod_18 dMod_houseNow_87 (by assumption) (by rfl) ?_
        refine z_iload dMod_houseNow_90 rfl ?_
        refine z_zald dMod_houseNow_92 (by assumption) (by refine ⟨?_, ?_, ?_⟩ <;> omega) ?_
        rw [Int.toNat_natCast]
        refine z_if_eq (tgt := 100) dMod_houseNow_93 (by decide) (by omega) (fun c93 => ?_) (fun c93 => ?_)
        · refine z_iconst dMod_houseNow_100 ?_
          refine z_iadd dMod_houseNow_101 ?_
          refine z_istore dMod_houseNow_102 (Nat.le_of_ble_eq_true rfl) ?_
          refine z_iinc dMod_houseNow_104 rfl (Nat.le_of_ble_eq_true rfl) ?_
          refine z_goto (tgt := 50) dMod_houseNow_107 (by decide) ?_
          have ihE := ih (m + 1) (by omega) (by omega)
          have et : zSumN (fun c => S.2.1 c 0) (m + 1) = zSumN (fun c => S.2.1 c 0) m + S.2.1 m 0 := rfl
          have es : zSumN (fun c => if S.2.1 c 0 = 1 ∧ S.2.1 c 1 ≠ 0 then 1 else 0) (m + 1) = zSumN (fun c => if S.2.1 c 0 = 1 ∧ S.2.1 c 1 ≠ 0 then 1 else 0) m + (if S.2.1 m 0 = 1 ∧ S.2.1 m 1 ≠ 0 then 1 else 0) := rfl
          rw [et, es] at ihE
          first
            | (exfalso; omega)
            | (rw [if_pos (by omega), show S.2.1 m 0 = 1 by omega] at ihE; exact ihE)
            | (rw [if_neg (by omega), show S.2.1 m 0 = 1 by omega] at ihE; exact ihE)
            | (rw [if_neg (by omega), show S.2.1 m 0 = 0 by omega] at ihE; exact ihE)
        · refine z_iconst dMod_houseNow_96 ?_
          refine z_goto (tgt := 101) dMod_houseNow_97 (by decide) ?_
          refine z_iadd dMod_houseNow_101 ?_
          refine z_istore dMod_houseNow_102 (Nat.le_of_ble_eq_true rfl) ?_
          refine z_iinc dMod_houseNow_104 rfl (Nat.le_of_ble_eq_true rfl) ?_
          refine z_goto (tgt := 50) dMod_houseNow_107 (by decide) ?_
          have ihE := ih (m + 1) (by omega) (by omega)
          have et : zSumN (fun c => S.2.1 c 0) (m + 1) = zSumN (fun c => S.2.1 c 0) m + S.2.1 m 0 := rfl
          have es : zSumN (fun c => if S.2.1 c 0 = 1 ∧ S.2.1 c 1 ≠ 0 then 1 else 0) (m + 1) = zSumN (fun c => if S.2.1 c 0 = 1 ∧ S.2.1 c 1 ≠ 0 then 1 else 0) m + (if S.2.1 m 0 = 1 ∧ S.2.1 m 1 ≠ 0 then 1 else 0) := rfl
          rw [et, es] at ihE
          first
            | (exfalso; omega)
            | (rw [if_pos (by omega), show S.2.1 m 0 = 1 by omega] at ihE; exact ihE)
            | (rw [if_neg (by omega), show S.2.1 m 0 = 1 by omega] at ihE; exact ihE)
            | (rw [if_neg (by omega), show S.2.1 m 0 = 0 by omega] at ihE; exact ihE)
theorem k_Mod_houseNow {w : Int} (H : zMod G h ma S th) (hw : 0 ≤ w ∧ w ≤ 4) : zM G l hMod_houseNow yMod_houseNow 1 [.ref (ma 0), zi w] h (fun v h' => v = some (zi (zHv S w)) ∧ zExt h h') zNo 1 5 := by
  obtain ⟨m1, m2, ⟨g, m3, m3a⟩, m4, ⟨f6, m5, m5a⟩, m6, m7⟩ := id H
  unfold zMfs at m2
  refine zM.of [some (.ref (ma 0)), some (zi w), none, none, none, none, none, none, none] (by decide +kernel) rfl (by decide) rfl (Nat.le_of_ble_eq_true rfl) rfl ?_
  refine z_iconst dMod_houseNow_0 ?_
  refine z_istore_n dMod_houseNow_1 (Nat.le_of_ble_eq_true rfl) ?_
  refine z_iconst dMod_houseNow_2 ?_
  refine z_istore_n dMod_houseNow_3 (Nat.le_of_ble_eq_true rfl) ?_
  refine z_iconst dMod_houseNow_4 ?_
  refine z_istore dMod_houseNow_5 (Nat.le_of_ble_eq_true rfl) ?_
  refine z_aload_n dMod_houseNow_7 rfl ?_
  refine z_get (k := 0) fd_Mod (by decide) fl_Mod_11 dMod_houseNow_8 (by assumption) (by rfl) ?_
  refine z_astore dMod_houseNow_11 (Nat.le_of_ble_eq_true rfl) ?_
  refine z_aload dMod_houseNow_13 rfl ?_
  refine z_alenR dMod_houseNow_15 m3 ?_
  refine z_istore dMod_houseNow_16 (Nat.le_of_ble_eq_true rfl) ?_
  refine z_iconst dMod_houseNow_18 ?_
  refine z_istore dMod_houseNow_19 (Nat.le_of_ble_eq_true rfl) ?_
  refine l_Mod_house1 H (fun y7 y8 => ?_) 5 0 _ (by omega) (by omega)
  refine z_iconst dMod_houseNow_47 ?_
  refine z_istore dMod_houseNow_48 (Nat.le_of_ble_eq_true rfl) ?_
  refine l_Mod_house2 H (fun y5 => ?_) 4 0 (by omega) (by omega)
  refine z_iconst dMod_houseNow_110 ?_
  refine z_newI (n := 5) (bc' := 0) (bs' := 0) rfl dMod_houseNow_111 (by decide) (by decide) (by decide) (fun qa h1 hqa gqa p1 F1 => ?_)
  have n0 : ma 0 ≠ qa := (H.nq hqa (i := 0) (by omega)).symm
  have m2 := (F1 _ n0).trans m2
  refine z_dup rfl dMod_houseNow_113 ?_
  refine z_iconst dMod_houseNow_114 ?_
  refine z_iload_n dMod_houseNow_115 rfl ?_
  refine z_iast dMod_houseNow_116 (by assumption) (by refine ⟨?_, ?_, ?_⟩ <;> omega) ?_
  refine z_hx (fun h2 p2 g2 => ?_)
  have F2 : ∀ z, z ≠ qa → h2 z = h z := fun z hz => (g2 z hz).trans (F1 z hz)
  have m2 := (g2 _ n0).trans m2
  refine z_dup rfl dMod_houseNow_117 ?_
  refine z_iconst dMod_houseNow_118 ?_
  refine z_iload_n dMod_houseNow_119 rfl ?_
  refine z_iast dMod_houseNow_120 (by assumption) (by refine ⟨?_, ?_, ?_⟩ <;> omega) ?_
  refine z_hx (fun h3 p3 g3 => ?_)
  have F3 : ∀ z, z ≠ qa → h3 z = h z := fun z hz => (g3 z hz).trans (F2 z hz)
  have m2 := (g3 _ n0).trans m2
  refine z_dup rfl dMod_houseNow_121 ?_
  refine z_iconst dMod_houseNow_122 ?_
  refine z_iload dMod_houseNow_123 rfl ?_
  refine z_iast dMod_houseNow_125 (by assumption) (by refine ⟨?_, ?_, ?_⟩ <;> omega) ?_
  refine z_hx (fun h4 p4 g4 => ?_)
  have F4 : ∀ z, z ≠ qa → h4 z = h z := fun z hz => (g4 z hz).trans (F3 z hz)
  have m2 := (g4 _ n0).trans m2
  refine z_dup rfl dMod_houseNow_126 ?_
  refine z_iconst dMod_houseNow_127 ?_
  refine z_aload_n dMod_houseNow_128 rfl ?_
  refine z_get (k := 10) fd_Mod (by decide) fl_Mod_45 dMod_houseNow_129 (by assumption) (by rfl) ?_
  refine z_iast dMod_houseNow_132 (by assumption) (by refine ⟨?_, ?_, ?_⟩ <;> omega) ?_
  refine z_hx (fun h5 p5 g5 => ?_)
  have F5 : ∀ z, z ≠ qa → h5 z = h z := fun z hz => (g5 z hz).trans (F4 z hz)
  have m2 := (g5 _ n0).trans m2
  refine z_dup rfl dMod_houseNow_133 ?_
  refine z_iconst dMod_houseNow_134 ?_
  refine z_aload_n dMod_houseNow_135 rfl ?_
  refine z_get (k := 11) fd_Mod (by decide) fl_Mod_200 dMod_houseNow_136 (by assumption) (by rfl) ?_
  refine z_iast dMod_houseNow_139 (by assumption) (by refine ⟨?_, ?_, ?_⟩ <;> omega) ?_
  refine z_hx (fun h6 p6 g6 => ?_)
  have F6 : ∀ z, z ≠ qa → h6 z = h z := fun z hz => (g6 z hz).trans (F5 z hz)
  have m2 := (g6 _ n0).trans m2
  refine z_astore dMod_houseNow_140 (Nat.le_of_ble_eq_true rfl) ?_
  refine z_aload dMod_houseNow_142 rfl ?_
  refine z_iload_n dMod_houseNow_144 rfl ?_
  refine z_iald dMod_houseNow_145 (by assumption) (by refine ⟨?_, ?_, ?_⟩ <;> omega) ?_
  refine z_iret rfl rfl dMod_houseNow_146 ?_
  refine ⟨congrArg (fun z => some (zi z)) ?_, zExt.new hqa F6⟩
  unfold zHv
  rcases (show w = 0 ∨ w = 1 ∨ w = 2 ∨ w = 3 ∨ w = 4 by omega) with rfl | rfl | rfl | rfl | rfl
  all_goals ((repeat (first | rw [if_pos (by omega)] | rw [if_neg (by omega)])); rfl)
theorem k_Mod_house {w : Int} (H : zMod G h ma S th) (z_w : zI32 w)  : zM G l hMod_house yMod_house 4 [.ref (ma 0), zi w] h (zQm G ma h (9) (1) (9) (sp_house S w)) zNo 1 5 := by
  obtain ⟨m1, m2, ⟨g, m3, m3a⟩, m4, ⟨f6, m5, m5a⟩, m6, m7⟩ := id H
  unfold zMfs at m2
  refine zM.of [some (.ref (ma 0)), some (zi w)] (by decide +kernel) rfl (by decide) rfl (Nat.le_of_ble_eq_true rfl) rfl ?_
  refine z_aload_n dMod_house_0 rfl ?_
  refine z_iload_n dMod_house_1 rfl ?_
  refine z_iconst dMod_house_2 ?_
  refine z_iconst dMod_house_3 ?_
  refine z_callS MS_Mod_isOut lk_Mod_41 dMod_house_4 (k_Mod_isOut (by omega) (by omega) (by omega)) rfl rfl (Nat.le_of_ble_eq_true rfl)  (Nat.le_of_ble_eq_true rfl) (Nat.le_of_ble_eq_true rfl) (Nat.le_of_eq (Nat.zero_add _)) (Nat.le_of_eq (Nat.zero_add _)) (fun _ _ q => q.elim) ?_
  rintro _ _ ⟨o9, rfl, ho9, rfl⟩
  refine z_iconst dMod_house_7 ?_
  refine z_iconst dMod_house_8 ?_
  refine z_callV MV_Mod_fails lk_Mod_88 dMod_house_9 (k_Mod_fails (by assumption) rfl (by omega) (by omega) (by omega)) rfl rfl (Nat.le_of_ble_eq_true rfl) rfl (by assumption) (Nat.le_of_ble_eq_true rfl) (Nat.le_of_ble_eq_true rfl) (Nat.le_of_eq (Nat.zero_add _)) (Nat.le_of_eq (Nat.zero_add _)) (fun _ _ q => q.elim) ?_
  rintro _ h1 ⟨t9, b8, rfl, ht, p1, g1⟩
  have H1 : zMod G h1 ma S t9 := H.obj (nu := S.2.2.2.2) (th' := t9) p1 g1
  have fz1 : zMfr ma h h1 := zMfr.of0 g1
  obtain ⟨-, n2, ⟨gg, n3, n3a⟩, n4, ⟨f61, n5, n5a⟩, n6, n7⟩ := id H1
  unfold zMfs at n2
  refine z_if_eq (tgt := 19) dMod_house_12 (by decide) (by omega) (fun c12 => ?_) (fun c12 => ?_)
  · refine z_aload_n dMod_house_19 rfl ?_
    refine z_iload_n dMod_house_20 rfl ?_
    refine z_callV (bc' := 0) (bs' := 0) MV_Mod_houseNow lk_Mod_203 dMod_house_21 (k_Mod_houseNow H1 (by omega)) rfl rfl (Nat.le_of_ble_eq_true rfl) rfl (by assumption) (Nat.le_of_ble_eq_true rfl) (Nat.le_of_ble_eq_true rfl) (by decide) (by decide) (fun _ _ q => q.elim) ?_
    rintro _ h2 ⟨rfl, hx2⟩
    have H2 : zMod G h2 ma S t9 := H1.ext hx2
    have fz2 : zMfr ma h h2 := fz1.tr (zMfr.ext hx2)
    refine z_iret rfl rfl dMod_house_24 ?_
    rcases (show t9 = 0 ∨ t9 = 1 ∨ t9 = 2 ∨ t9 = 3 by omega) with t0 | t0 | t0 | t0
    all_goals first
      | (exfalso; omega)
      | (refine zQm.ok H2 (by omega) (by assumption) ?_
         unfold sp_house zHv
         rw [if_pos (by omega)]
         (repeat' split)
         all_goals first
           | rfl
           | (exfalso; omega))
      | exact zQm.ok H1 (by omega) (by assumption) (by unfold sp_house; (try unfold spPut); (try simp only [Int.toNat_natCast]); (repeat (first | rw [if_pos (by omega)] | rw [if_neg (by omega)] | rw [if_pos (by assumption)] | rw [if_neg (by assumption)] | rw [if_pos (True.intro : True)])); (try (first | rfl | (congr 2; omega) | (congr 1; congr 1; omega))); done)
      | exact zQm.b1 H1 (by omega) (by assumption) (by unfold sp_house; (try unfold spPut); (try simp only [Int.toNat_natCast]); (repeat (first | rw [if_pos (by omega)] | rw [if_neg (by omega)] | rw [if_pos (by assumption)] | rw [if_neg (by assumption)] | rw [if_pos (True.intro : True)])); (try (first | rfl | (congr 2; omega) | (congr 1; congr 1; omega))); done)
      | exact zQm.b2 H1 (by omega) (by assumption) (by unfold sp_house; (try unfold spPut); (try simp only [Int.toNat_natCast]); (repeat (first | rw [if_pos (by omega)] | rw [if_neg (by omega)] | rw [if_pos (by assumption)] | rw [if_neg (by assumption)] | rw [if_pos (True.intro : True)])); (try (first | rfl | (congr 2; omega) | (congr 1; congr 1; omega))); done)
      | exact zQm.b3 H1 (by omega) (by assumption) (by unfold sp_house; (try unfold spPut); (try simp only [Int.toNat_natCast]); (repeat (first | rw [if_pos (by omega)] | rw [if_neg (by omega)] | rw [if_pos (by assumption)] | rw [if_neg (by assumption)] | rw [if_pos (True.intro : True)])); (try (first | rfl | (congr 2; omega) | (congr 1; congr 1; omega))); done)
  · refine z_iconst dMod_house_15 ?_
    refine z_goto (tgt := 24) dMod_house_16 (by decide) ?_
    refine z_iret rfl rfl dMod_house_24 ?_
    rcases (show t9 = 0 ∨ t9 = 1 ∨ t9 = 2 ∨ t9 = 3 by omega) with t0 | t0 | t0 | t0
    all_goals first
      | (exfalso; omega)
      | (refine zQm.ok H2 (by omega) (by assumption) ?_
         unfold sp_house zHv
         rw [if_pos (by omega)]
         (repeat' split)
         all_goals first
           | rfl
           | (exfalso; omega))
      | exact zQm.ok H1 (by omega) (by assumption) (by unfold sp_house; (try unfold spPut); (try simp only [Int.toNat_natCast]); (repeat (first | rw [if_pos (by omega)] | rw [if_neg (by omega)] | rw [if_pos (by assumption)] | rw [if_neg (by assumption)] | rw [if_pos (True.intro : True)])); (try (first | rfl | (congr 2; omega) | (congr 1; congr 1; omega))); done)
      | exact zQm.b1 H1 (by omega) (by assumption) (by unfold sp_house; (try unfold spPut); (try simp only [Int.toNat_natCast]); (repeat (first | rw [if_pos (by omega)] | rw [if_neg (by omega)] | rw [if_pos (by assumption)] | rw [if_neg (by assumption)] | rw [if_pos (True.intro : True)])); (try (first | rfl | (congr 2; omega) | (congr 1; congr 1; omega))); done)
      | exact zQm.b2 H1 (by omega) (by assumption) (by unfold sp_house; (try unfold spPut); (try simp only [Int.toNat_natCast]); (repeat (first | rw [if_pos (by omega)] | rw [if_neg (by omega)] | rw [if_pos (by assumption)] | rw [if_neg (by assumption)] | rw [if_pos (True.intro : True)])); (try (first | rfl | (congr 2; omega) | (congr 1; congr 1; omega))); done)
      | exact zQm.b3 H1 (by omega) (by assumption) (by unfold sp_house; (try unfold spPut); (try simp only [Int.toNat_natCast]); (repeat (first | rw [if_pos (by omega)] | rw [if_neg (by omega)] | rw [if_pos (by assumption)] | rw [if_neg (by assumption)] | rw [if_pos (True.intro : True)])); (try (first | rfl | (congr 2; omega) | (congr 1; congr 1; omega))); done)
end MOD21
