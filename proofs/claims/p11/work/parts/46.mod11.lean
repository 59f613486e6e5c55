section MOD11
variable {G : zG} {l : Launch} {h h' h'' : zHp} {ma : Nat → Nat} {S : zSt} {th : Int}
theorem zMod.newrow0 {k q : Nat} {L : List Int} (H : zMod G h ma S th) (hk : k < 4) (hq : zAr G h' q L) (nq : ∀ i, i < 13 → i ≠ 8 + k → q ≠ ma i) {g : Nat → Option Nat} (e1 : h' (ma 1) = some (zRefs G 4 4 (zup g k (some q)))) (gg : ∀ j, j < 4 → g j = some (ma (8 + j))) (hf : ∀ z, z ≠ ma 1 → z ≠ q → h' z = h z) : zMod G h' (zup ma (8 + k) q) (zsL S k L) th := by
  obtain ⟨m1, m2, -, ⟨⟨f1, a1, b1⟩, ⟨f2, a2, b2⟩, ⟨f3, a3, b3⟩, ⟨f4, a4, b4⟩, ⟨f5, a5, b5⟩⟩, ⟨f6, m5, m5'⟩, m6, m7⟩ := id H
  have kp : ∀ i, i < 13 → i ≠ 1 → i ≠ 8 + k → h' (ma i) = h (ma i) := fun i hi x1 x4 => hf _ (H.inj hi (by omega) x1) (fun e => nq i hi x4 e.symm)
  have zn : ∀ i, i ≠ 8 + k → zup ma (8 + k) q i = ma i := fun i hi => zup_ne hi
  refine ⟨fun i j hi hj e => ?_, ?_, ⟨zup g k (some q), ?_, fun j hj => ?_⟩, ⟨⟨f1, ?_, b1⟩, ⟨f2, ?_, b2⟩, ⟨f3, ?_, b3⟩, ⟨f4, ?_, b4⟩, ⟨f5, ?_, b5⟩⟩, ⟨f6, ?_, m5'⟩, fun j hj => ?_, ?_⟩
  · by_cases c1 : i = 8 + k
    · by_cases c2 : j = 8 + k
      · omega
      · rw [c1, zup_same, zn j c2] at e
        exact absurd e (nq j hj c2)
    · by_cases c2 : j = 8 + k
      · rw [c2, zup_same, zn i c1] at e
        exact absurd e.symm (nq i hi c1)
      · rw [zn i c1, zn j c2] at e
        exact m1 i j hi hj e
  · rw [zn 0 (by omega)]
    refine ((kp 0 (by omega) (by omega) (by omega)).trans m2).trans ?_
    unfold zMfs
    rw [zn 1 (by omega), zn 2 (by omega), zn 3 (by omega), zn 4 (by omega), zn 5 (by omega), zn 6 (by omega), zn 12 (by omega), zn 7 (by omega)]
    rfl
  · rw [zn 1 (by omega)]; exact e1
  · by_cases c1 : j = k
    · rw [c1, zup_same, zup_same]
    · rw [zup_ne c1, zn _ (by omega)]; exact gg j hj
  · rw [zn 2 (by omega)]; exact (kp 2 (by omega) (by omega) (by omega)).trans a1
  · rw [zn 3 (by omega)]; exact (kp 3 (by omega) (by omega) (by omega)).trans a2
  · rw [zn 4 (by omega)]; exact (kp 4 (by omega) (by omega) (by omega)).trans a3
  · rw [zn 5 (by omega)]; exact (kp 5 (by omega) (by omega) (by omega)).trans a4
  · rw [zn 6 (by omega)]; exact (kp 6 (by omega) (by omega) (by omega)).trans a5
  · rw [zn 7 (by omega)]; exact (kp 7 (by omega) (by omega) (by omega)).trans m5
  · by_cases c1 : j = k
    · rw [c1, zup_same]
      show zAr G h' q (zup S.1 k L k)
      rw [zup_same]; exact hq
    · rw [zn _ (by omega)]
      show zAr G h' _ (zup S.1 k L j)
      rw [zup_ne c1]
      exact (m6 j hj).kept (kp _ (by omega) (by omega) (by omega))
  · rw [zn 12 (by omega)]; exact m7.kept (kp 12 (by omega) (by omega) (by omega))
theorem zAr.nil {q : Nat} {f : Nat → Int} (e : h q = some (zInts G 0 f)) : zAr G h q [] := ⟨f, e, by decide, fun j hj => absurd hj (by simp), fun j hj => absurd hj (by simp)⟩
theorem k_Mod_clear {p : Int} (H : zMod G h ma S th) (z_p : zI32 p) (h16 : ∀ k, k < 4 → (S.1 k).length ≤ 16) : zM G l hMod_clear yMod_clear 4 [.ref (ma 0), zi p] h (zQm G ma h (1) (2) (3) (sp_clear S p)) zNo 1 0 := by
  obtain ⟨m1, m2, ⟨g, m3, m3a⟩, m4, ⟨f6, m5, m5a⟩, m6, m7⟩ := id H
  unfold zMfs at m2
  refine zM.of [some (.ref (ma 0)), some (zi p), none] (by decide +kernel) rfl (by decide) rfl (Nat.le_of_ble_eq_true rfl) rfl ?_
  refine z_aload_n dMod_clear_0 rfl ?_
  refine z_iload_n dMod_clear_1 rfl ?_
  refine z_callS MS_Mod_isNo lk_Mod_81 dMod_clear_2 (k_Mod_isNo (by omega)) rfl rfl (Nat.le_of_ble_eq_true rfl)  (Nat.le_of_ble_eq_true rfl) (Nat.le_of_ble_eq_true rfl) (Nat.le_of_eq (Nat.zero_add _)) (Nat.le_of_eq (Nat.zero_add _)) (fun _ _ q => q.elim) ?_
  rintro _ _ ⟨n9, rfl, hn9, rfl⟩
  refine z_iconst dMod_clear_5 ?_
  refine z_iconst dMod_clear_6 ?_
  refine z_callV MV_Mod_fails lk_Mod_88 dMod_clear_7 (k_Mod_fails (by assumption) rfl (by omega) (by omega) (by omega)) rfl rfl (Nat.le_of_ble_eq_true rfl) rfl (by assumption) (Nat.le_of_ble_eq_true rfl) (Nat.le_of_ble_eq_true rfl) (Nat.le_of_eq (Nat.zero_add _)) (Nat.le_of_eq (Nat.zero_add _)) (fun _ _ q => q.elim) ?_
  rintro _ h1 ⟨t9, b8, rfl, ht, p1, g1⟩
  have H1 : zMod G h1 ma S t9 := H.obj (nu := S.2.2.2.2) (th' := t9) p1 g1
  have fz1 : zMfr ma h h1 := zMfr.of0 g1
  obtain ⟨-, n2, ⟨gg, n3, n3a⟩, n4, ⟨f61, n5, n5a⟩, n6, n7⟩ := id H1
  unfold zMfs at n2
  refine z_if_eq (tgt := 15) dMod_clear_10 (by decide) (by omega) (fun c10 => ?_) (fun c10 => ?_)
  · obtain ⟨k, rfl⟩ := Int.eq_ofNat_of_zero_le (show 0 ≤ p by omega)
    obtain ⟨frk, rk1, rk2, rk3, rk4⟩ := id (n6 k (by omega))
    have h16k := h16 k (by omega)
    have ezk : ∀ i : Int, 0 ≤ i → i < ((S.1 k).length : Int) → frk i.toNat = zAt (S.1 k) i := fun i x1 x2 => by rw [rk3 _ (by omega), zAt_eq x1 x2]
    refine z_aload_n dMod_clear_15 rfl ?_
    refine z_get (k := 0) fd_Mod (by decide) fl_Mod_11 dMod_clear_16 (by assumption) (by rfl) ?_
    refine z_iload_n dMod_clear_19 rfl ?_
    refine z_aald (t := 4) (ty := .array .int) rfl rfl dMod_clear_20 n3 (by refine ⟨?_, ?_, ?_⟩ <;> omega) ?_
    rw [show (k : Int).toNat = k from rfl, n3a k (by omega)]
    refine z_alenI dMod_clear_21 (by assumption) ?_
    refine z_istore_n dMod_clear_22 (Nat.le_of_ble_eq_true rfl) ?_
    refine z_aload_n dMod_clear_23 rfl ?_
    refine z_iload_n dMod_clear_24 rfl ?_
    refine z_iconst dMod_clear_25 ?_
    refine z_newI (n := 0) (bc' := 0) (bs' := 0) rfl dMod_clear_26 (by decide) (by decide) (by decide) (fun q2 h2 hq2 gq2 e2 F2 => ?_)
    have H2 : zMod G h2 ma S t9 := H1.keep hq2 F2
    have fz2 : zMfr ma h h2 := fz1.tr (zMfr.new hq2 F2)
    have dq2 : zDm h q2 := hq2.up H1 fz1
    have oc2 := H2.2.1
    have r2 := zAr.nil e2
    refine z_iconst dMod_clear_28 ?_
    refine z_callV MV_Mod_become lk_Mod_77 dMod_clear_29 (k_Mod_become H2 (by omega) r2 (fun i hi _ => H1.nq hq2 hi) (by omega)) rfl rfl (Nat.le_of_ble_eq_true rfl) rfl (by assumption) (Nat.le_of_ble_eq_true rfl) (Nat.le_of_ble_eq_true rfl) (Nat.le_of_eq (Nat.zero_add _)) (Nat.le_of_eq (Nat.zero_add _)) (fun _ _ q => q.elim) ?_
    rintro _ h3 ⟨rfl, H3, F3⟩
    have fz3 : zMfr ma h h3 := fz2.tr (zMfr.bec F3)
    refine z_iload_n dMod_clear_32 rfl ?_
    refine z_iret rfl rfl dMod_clear_33 ?_
    rcases (show t9 = 0 ∨ t9 = 1 ∨ t9 = 2 ∨ t9 = 3 by omega) with t0 | t0 | t0 | t0
    all_goals first
      | (exfalso; omega)
      | exact zQm.okB H3 (Or.inr ⟨dq2, gq2⟩) (by omega) (by assumption) (by unfold sp_clear; (try unfold spPut); (try simp only [Int.toNat_natCast]); (repeat (first | rw [if_pos (by omega)] | rw [if_neg (by omega)] | rw [if_pos (by assumption)] | rw [if_neg (by assumption)] | rw [if_pos (True.intro : True)])); (try (first | rfl | (congr 2; omega) | (congr 1; congr 1; omega))); done)
      | exact zQm.ok H2 (by omega) (by assumption) (by unfold sp_clear; (try unfold spPut); (try simp only [Int.toNat_natCast]); (repeat (first | rw [if_pos (by omega)] | rw [if_neg (by omega)] | rw [if_pos (by assumption)] | rw [if_neg (by assumption)] | rw [if_pos (True.intro : True)])); (try (first | rfl | (congr 2; omega) | (congr 1; congr 1; omega))); done)
      | exact zQm.b1 H2 (by omega) (by assumption) (by unfold sp_clear; (try unfold spPut); (try simp only [Int.toNat_natCast]); (repeat (first | rw [if_pos (by omega)] | rw [if_neg (by omega)] | rw [if_pos (by assumption)] | rw [if_neg (by assumption)] | rw [if_pos (True.intro : True)])); (try (first | rfl | (congr 2; omega) | (congr 1; congr 1; omega))); done)
      | exact zQm.b2 H2 (by omega) (by assumption) (by unfold sp_clear; (try unfold spPut); (try simp only [Int.toNat_natCast]); (repeat (first | rw [if_pos (by omega)] | rw [if_neg (by omega)] | rw [if_pos (by assumption)] | rw [if_neg (by assumption)] | rw [if_pos (True.intro : True)])); (try (first | rfl | (congr 2; omega) | (congr 1; congr 1; omega))); done)
      | exact zQm.b3 H2 (by omega) (by assumption) (by unfold sp_clear; (try unfold spPut); (try simp only [Int.toNat_natCast]); (repeat (first | rw [if_pos (by omega)] | rw [if_neg (by omega)] | rw [if_pos (by assumption)] | rw [if_neg (by assumption)] | rw [if_pos (True.intro : True)])); (try (first | rfl | (congr 2; omega) | (congr 1; congr 1; omega))); done)
      | exact zQm.ok H1 (by omega) (by assumption) (by unfold sp_clear; (try unfold spPut); (try simp only [Int.toNat_natCast]); (repeat (first | rw [if_pos (by omega)] | rw [if_neg (by omega)] | rw [if_pos (by assumption)] | rw [if_neg (by assumption)] | rw [if_pos (True.intro : True)])); (try (first | rfl | (congr 2; omega) | (congr 1; congr 1; omega))); done)
      | exact zQm.b1 H1 (by omega) (by assumption) (by unfold sp_clear; (try unfold spPut); (try simp only [Int.toNat_natCast]); (repeat (first | rw [if_pos (by omega)] | rw [if_neg (by omega)] | rw [if_pos (by assumption)] | rw [if_neg (by assumption)] | rw [if_pos (True.intro : True)])); (try (first | rfl | (congr 2; omega) | (congr 1; congr 1; omega))); done)
      | exact zQm.b2 H1 (by omega) (by assumption) (by unfold sp_clear; (try unfold spPut); (try simp only [Int.toNat_natCast]); (repeat (first | rw [if_pos (by omega)] | rw [if_neg (by omega)] | rw [if_pos (by assumption)] | rw [if_neg (by assumption)] | rw [if_pos (True.intro : True)])); (try (first | rfl | (congr 2; omega) | (congr 1; congr 1; omega))); done)
      | exact zQm.b3 H1 (by omega) (by assumption) (by unfold sp_clear; (try unfold spPut); (try simp only [Int.toNat_natCast]); (repeat (first | rw [if_pos (by omega)] | rw [if_neg (by omega)] | rw [if_pos (by assumption)] | rw [if_neg (by assumption)] | rw [if_pos (True.intro : True)])); (try (first | rfl | (congr 2; omega) | (congr 1; congr 1; omega))); done)
  · refine z_iconst dMod_clear_13 ?_
    refine z_iret rfl rfl dMod_clear_14 ?_
    rcases (show t9 = 0 ∨ t9 = 1 ∨ t9 = 2 ∨ t9 = 3 by omega) with t0 | t0 | t0 | t0
    all_goals first
      | (exfalso; omega)
      | exact zQm.okB H3 (Or.inr ⟨dq2, gq2⟩) (by omega) (by assumption) (by unfold sp_clear; (try unfold spPut); (try simp only [Int.toNat_natCast]); (repeat (first | rw [if_pos (by omega)] | rw [if_neg (by omega)] | rw [if_pos (by assumption)] | rw [if_neg (by assumption)] | rw [if_pos (True.intro : True)])); (try (first | rfl | (congr 2; omega) | (congr 1; congr 1; omega))); done)
      | exact zQm.ok H2 (by omega) (by assumption) (by unfold sp_clear; (try unfold spPut); (try simp only [Int.toNat_natCast]); (repeat (first | rw [if_pos (by omega)] | rw [if_neg (by omega)] | rw [if_pos (by assumption)] | rw [if_neg (by assumption)] | rw [if_pos (True.intro : True)])); (try (first | rfl | (congr 2; omega) | (congr 1; congr 1; omega))); done)
      | exact zQm.b1 H2 (by omega) (by assumption) (by unfold sp_clear; (try unfold spPut); (try simp only [Int.toNat_natCast]); (repeat (first | rw [if_pos (by omega)] | rw [if_neg (by omega)] | rw [if_pos (by assumption)] | rw [if_neg (by assumption)] | rw [if_pos (True.intro : True)])); (try (first | rfl | (congr 2; omega) | (congr 1; congr 1; omega))); done)
      | exact zQm.b2 H2 (by omega) (by assumption) (by unfold sp_clear; (try unfold spPut); (try simp only [Int.toNat_natCast]); (repeat (first | rw [if_pos (by omega)] | rw [if_neg (by omega)] | rw [if_pos (by assumption)] | rw [if_neg (by assumption)] | rw [if_pos (True.intro : True)])); (try (first | rfl | (congr 2; omega) | (congr 1; congr 1; omega))); done)
      | exact zQm.b3 H2 (by omega) (by assumption) (by unfold sp_clear; (try unfold spPut); (try simp only [Int.toNat_natCast]); (repeat (first | rw [if_pos (by omega)] | rw [if_neg (by omega)] | rw [if_pos (by assumption)] | rw [if_neg (by assumption)] | rw [if_pos (True.intro : True)])); (try (first | rfl | (congr 2; omega) | (congr 1; congr 1; omega))); done)
      | exact zQm.ok H1 (by omega) (by assumption) (by unfold sp_clear; (try unfold spPut); (try simp only [Int.toNat_natCast]); (repeat (first | rw [if_pos (by omega)] | rw [if_neg (by omega)] | rw [if_pos (by assumption)] | rw [if_neg (by assumption)] | rw [if_pos (True.intro : True)])); (try (first | rfl | (congr 2; omega) | (congr 1; congr 1; omega))); done)
      | exact zQm.b1 H1 (by omega) (by assumption) (by unfold sp_clear; (try unfold spPut); (try simp only [Int.toNat_natCast]); (repeat (first | rw [if_pos (by omega)] | rw [if_neg (by omega)] | rw [if_pos (by assumption)] | rw [if_neg (by assumption)] | rw [if_pos (True.intro : True)])); (try (first | rfl | (congr 2; omega) | (congr 1; congr 1; omega))); done)
      | exact zQm.b2 H1 (by omega) (by assumption) (by unfold sp_clear; (try unfold spPut); (try simp only [Int.toNat_natCast]); (repeat (first | rw [if_pos (by omega)] | rw [if_neg (by omega)] | rw [if_pos (by assumption)] | rw [if_neg (by assumption)] | rw [if_pos (True.intro : True)])); (try (first | rfl | (congr 2; omega) | (congr 1; congr 1; omega))); done)
      | exact zQm.b3 H1 (by omega) (by assumption) (by unfold sp_clear; (try unfold spPut); (try simp only [Int.toNat_natCast]); (repeat (first | rw [if_pos (by omega)] | rw [if_neg (by omega)] | rw [if_pos (by assumption)] | rw [if_neg (by assumption)] | rw [if_pos (True.intro : True)])); (try (first | rfl | (congr 2; omega) | (congr 1; congr 1; omega))); done)
theorem l_Mod_places {d mc ms bc bs : Nat} {Qn : Option Value → zHp → Prop} {Qx : String → zHp → Prop} {N q : Nat} {w0 w1 : Option Value} (hN : N ≤ 16)
    (K : ∀ (h1 : zHp) y, zAr G h1 q (zPl9 N) → (∀ z, z ≠ q → h1 z = h z) → zR G l (zMJ G hMod_places d Qn Qx mc ms) bc bs h1 46 [w0, w1, some (zi (N : Int)), some (.ref q), y] []) :
    ∀ (n : Nat) (m : Nat) (h1 : zHp) (g : Nat → Int), N - m < n → m ≤ N → h1 q = some (zInts G N g) → (∀ j, j < m → g j = (j : Int)) → (∀ z, z ≠ q → h1 z = h z) → zR G l (zMJ G hMod_places d Qn Qx mc ms) bc bs h1 28 [w0, w1, some (zi (N : Int)), some (.ref q), some (zi (m : Int))] [] := by
  intro n
  induction n with
  | zero => intro m h1 g q1 q2 e1 e2 hf; omega
  | succ n ih =>
  intro m h1 g q1 q2 e1 e2 hf
  refine z_iload dMod_places_28 rfl ?_
  refine z_iload_n dMod_places_30 rfl ?_
  refine z_icmp_ge (tgt := 46) dMod_places_31 (by decide) (by omega) (by omega) (fun c31 => ?_) (fun c31 => ?_)
  · have em : m = N := by omega
    subst em
    refine K h1 _ ⟨g, by rw [zPl9_len]; exact e1, by rw [zPl9_len]; omega, fun j hj => ?_, fun j hj => ?_⟩ hf
    · rw [zPl9_len] at hj
      exact (e2 j hj).trans (zmk_at _ hj).symm
    · rw [zPl9_len] at hj
      rw [show (zPl9 m).getD j 0 = (j : Int) from zmk_at _ hj]
      omega
  · refine z_aload_n dMod_places_34 rfl ?_
    refine z_iload dMod_places_35 rfl ?_
    refine z_iload dMod_places_37 rfl ?_
    refine z_iast dMod_places_39 (by assumption) (by refine ⟨?_, ?_, ?_⟩ <;> omega) ?_
    refine z_hx (fun h2 p2 f2 => ?_)
    refine z_iinc dMod_places_40 rfl (Nat.le_of_ble_eq_true rfl) ?_
    refine z_goto (tgt := 28) dMod_places_43 (by decide) ?_
    refine ih (m + 1) h2 _ (by omega) (by omega) p2 (fun j hj => ?_) (fun z hz => (f2 z hz).trans (hf z hz))
    by_cases e9 : j = m
    · subst e9
      rw [Int.toNat_natCast, zup_same]
    · rw [Int.toNat_natCast, zup_ne e9]
      exact e2 j (by omega)
theorem k_Mod_places {p m : Int} (H : zMod G h ma S th) (z_p : zI32 p) (z_m : zI32 m) (h16 : ∀ k, k < 4 → (S.1 k).length ≤ 16) : zM G l hMod_places yMod_places 4 [.ref (ma 0), zi p, zi m] h (zQm G ma h (1) (2) (3) (sp_places S p m)) zNo 1 16 := by
  obtain ⟨m1, m2, ⟨g, m3, m3a⟩, m4, ⟨f6, m5, m5a⟩, m6, m7⟩ := id H
  unfold zMfs at m2
  refine zM.of [some (.ref (ma 0)), some (zi p), some (zi m), none, none] (by decide +kernel) rfl (by decide) rfl (Nat.le_of_ble_eq_true rfl) rfl ?_
  refine z_aload_n dMod_places_0 rfl ?_
  refine z_iload_n dMod_places_1 rfl ?_
  refine z_callS MS_Mod_isNo lk_Mod_81 dMod_places_2 (k_Mod_isNo (by omega)) rfl rfl (Nat.le_of_ble_eq_true rfl)  (Nat.le_of_ble_eq_true rfl) (Nat.le_of_ble_eq_true rfl) (Nat.le_of_eq (Nat.zero_add _)) (Nat.le_of_eq (Nat.zero_add _)) (fun _ _ q => q.elim) ?_
  rintro _ _ ⟨n9, rfl, hn9, rfl⟩
  refine z_iload_n dMod_places_5 rfl ?_
  refine z_iconst dMod_places_6 ?_
  refine z_bipush dMod_places_7 rfl ?_
  refine z_callS MS_Mod_isOut lk_Mod_41 dMod_places_9 (k_Mod_isOut (by omega) (by omega) (by omega)) rfl rfl (Nat.le_of_ble_eq_true rfl)  (Nat.le_of_ble_eq_true rfl) (Nat.le_of_ble_eq_true rfl) (Nat.le_of_eq (Nat.zero_add _)) (Nat.le_of_eq (Nat.zero_add _)) (fun _ _ q => q.elim) ?_
  rintro _ _ ⟨o9, rfl, ho9, rfl⟩
  refine z_iconst dMod_places_12 ?_
  refine z_callV MV_Mod_fails lk_Mod_88 dMod_places_13 (k_Mod_fails (by assumption) rfl (by omega) (by omega) (by omega)) rfl rfl (Nat.le_of_ble_eq_true rfl) rfl (by assumption) (Nat.le_of_ble_eq_true rfl) (Nat.le_of_ble_eq_true rfl) (Nat.le_of_eq (Nat.zero_add _)) (Nat.le_of_eq (Nat.zero_add _)) (fun _ _ q => q.elim) ?_
  rintro _ h1 ⟨t9, b8, rfl, ht, p1, g1⟩
  have H1 : zMod G h1 ma S t9 := H.obj (nu := S.2.2.2.2) (th' := t9) p1 g1
  have fz1 : zMfr ma h h1 := zMfr.of0 g1
  obtain ⟨-, n2, ⟨gg, n3, n3a⟩, n4, ⟨f61, n5, n5a⟩, n6, n7⟩ := id H1
  unfold zMfs at n2
  refine z_if_eq (tgt := 21) dMod_places_16 (by decide) (by omega) (fun c16 => ?_) (fun c16 => ?_)
  · obtain ⟨k, rfl⟩ := Int.eq_ofNat_of_zero_le (show 0 ≤ p by omega)
    obtain ⟨frk, rk1, rk2, rk3, rk4⟩ := id (n6 k (by omega))
    have h16k := h16 k (by omega)
    have ezk : ∀ i : Int, 0 ≤ i → i < ((S.1 k).length : Int) → frk i.toNat = zAt (S.1 k) i := fun i x1 x2 => by rw [rk3 _ (by omega), zAt_eq x1 x2]
    obtain ⟨N, rfl⟩ := Int.eq_ofNat_of_zero_le (show 0 ≤ m by omega)
    refine z_iload_n dMod_places_21 rfl ?_
    refine z_newI (n := N) (bc' := 0) (bs' := 0) rfl dMod_places_22 (by omega) (by decide) (by omega) (fun q2 h2 hq2 gq2 e2 F2 => ?_)
    have H2 : zMod G h2 ma S t9 := H1.keep hq2 F2
    have fz2 : zMfr ma h h2 := fz1.tr (zMfr.new hq2 F2)
    have dq2 : zDm h q2 := hq2.up H1 fz1
    have oc2 := H2.2.1
    refine z_astore_n dMod_places_24 (Nat.le_of_ble_eq_true rfl) ?_
    refine z_iconst dMod_places_25 ?_
    refine z_istore dMod_places_26 (Nat.le_of_ble_eq_true rfl) ?_
    refine l_Mod_places (h := h2) (N := N) (q := q2) (by omega) (fun h3 y r3 F3a => ?_) (N + 1) 0 h2 _ (by omega) (by omega) e2 (fun j hj => absurd hj (by omega)) (fun z hz => rfl)
    have F3 : ∀ z, z ≠ q2 → h3 z = h1 z := fun z hz => (F3a z hz).trans (F2 z hz)
    have H3 : zMod G h3 ma S t9 := H1.keep hq2 F3
    have oc3 := H3.2.1
    have fz3 : zMfr ma h h3 := fz1.tr (zMfr.new hq2 F3)
    have hpl := zPl9_len N
    refine z_aload_n dMod_places_46 rfl ?_
    refine z_iload_n dMod_places_47 rfl ?_
    refine z_aload_n dMod_places_48 rfl ?_
    refine z_callV MV_Mod_becomes lk_Mod_95 dMod_places_49 (k_Mod_becomes H3 (by omega) r3 (fun i hi _ => H1.nq hq2 hi)) rfl rfl (Nat.le_of_ble_eq_true rfl) rfl (by assumption) (Nat.le_of_ble_eq_true rfl) (Nat.le_of_ble_eq_true rfl) (Nat.le_of_eq (Nat.zero_add _)) (Nat.le_of_eq (Nat.zero_add _)) (fun _ _ q => q.elim) ?_
    rintro _ h4 ⟨rfl, H4, F4⟩
    have fz4 : zMfr ma h h4 := fz3.tr (zMfr.bec F4)
    refine z_iret rfl rfl dMod_places_52 ?_
    rcases (show t9 = 0 ∨ t9 = 1 ∨ t9 = 2 ∨ t9 = 3 by omega) with t0 | t0 | t0 | t0
    all_goals first
      | (exfalso; omega)
      | exact zQm.okB H4 (Or.inr ⟨dq2, gq2⟩) (by omega) (by assumption) (by unfold sp_places; (try unfold spPut); (try simp only [Int.toNat_natCast]); (repeat (first | rw [if_pos (by omega)] | rw [if_neg (by omega)] | rw [if_pos (by assumption)] | rw [if_neg (by assumption)] | rw [if_pos (True.intro : True)])); (try (first | rfl | (congr 2; omega) | (congr 1; congr 1; omega))); done)
      | exact zQm.ok H1 (by omega) (by assumption) (by unfold sp_places; (try unfold spPut); (try simp only [Int.toNat_natCast]); (repeat (first | rw [if_pos (by omega)] | rw [if_neg (by omega)] | rw [if_pos (by assumption)] | rw [if_neg (by assumption)] | rw [if_pos (True.intro : True)])); (try (first | rfl | (congr 2; omega) | (congr 1; congr 1; omega))); done)
      | exact zQm.b1 H1 (by omega) (by assumption) (by unfold sp_places; (try unfold spPut); (try simp only [Int.toNat_natCast]); (repeat (first | rw [if_pos (by omega)] | rw [if_neg (by omega)] | rw [if_pos (by assumption)] | rw [if_neg (by assumption)] | rw [if_pos (True.intro : True)])); (try (first | rfl | (congr 2; omega) | (congr 1; congr 1; omega))); done)
      | exact zQm.b2 H1 (by omega) (by assumption) (by unfold sp_places; (try unfold spPut); (try simp only [Int.toNat_natCast]); (repeat (first | rw [if_pos (by omega)] | rw [if_neg (by omega)] | rw [if_pos (by assumption)] | rw [if_neg (by assumption)] | rw [if_pos (True.intro : True)])); (try (first | rfl | (congr 2; omega) | (congr 1; congr 1; omega))); done)
      | exact zQm.b3 H1 (by omega) (by assumption) (by unfold sp_places; (try unfold spPut); (try simp only [Int.toNat_natCast]); (repeat (first | rw [if_pos (by omega)] | rw [if_neg (by omega)] | rw [if_pos (by assumption)] | rw [if_neg (by assumption)] | rw [if_pos (True.intro : True)])); (try (first | rfl | (congr 2; omega) | (congr 1; congr 1; omega))); done)
  · refine z_iconst dMod_places_19 ?_
    refine z_iret rfl rfl dMod_places_20 ?_
    rcases (show t9 = 0 ∨ t9 = 1 ∨ t9 = 2 ∨ t9 = 3 by omega) with t0 | t0 | t0 | t0
    all_goals first
      | (exfalso; omega)
      | exact zQm.ok H1 (by omega) (by assumption) (by unfold sp_places; (try unfold spPut); (try simp only [Int.toNat_natCast]); (repeat (first | rw [if_pos (by omega)] | rw [if_neg (by omega)] | rw [if_pos (by assumption)] | rw [if_neg (by assumption)] | rw [if_pos (True.intro : True)])); (try (first | rfl | (congr 2; omega) | (congr 1; congr 1; omega))); done)
      | exact zQm.b1 H1 (by omega) (by assumption) (by unfold sp_places; (try unfold spPut); (try simp only [Int.toNat_natCast]); (repeat (first | rw [if_pos (by omega)] | rw [if_neg (by omega)] | rw [if_pos (by assumption)] | rw [if_neg (by assumption)] | rw [if_pos (True.intro : True)])); (try (first | rfl | (congr 2; omega) | (congr 1; congr 1; omega))); done)
      | exact zQm.b2 H1 (by omega) (by assumption) (by unfold sp_places; (try unfold spPut); (try simp only [Int.toNat_natCast]); (repeat (first | rw [if_pos (by omega)] | rw [if_neg (by omega)] | rw [if_pos (by assumption)] | rw [if_neg (by assumption)] | rw [if_pos (True.intro : True)])); (try (first | rfl | (congr 2; omega) | (congr 1; congr 1; omega))); done)
      | exact zQm.b3 H1 (by omega) (by assumption) (by unfold sp_places; (try unfold spPut); (try simp only [Int.toNat_natCast]); (repeat (first | rw [if_pos (by omega)] | rw [if_neg (by omega)] | rw [if_pos (by assumption)] | rw [if_neg (by assumption)] | rw [if_pos (True.intro : True)])); (try (first | rfl | (congr 2; omega) | (congr 1; congr 1; omega))); done)
theorem l_Mod_rotate {mc ms : Nat} {Qn : Option Value → zHp → Prop} {Qx : String → zHp → Prop} {L : List Int} {b v : Int} {a0 : Nat} {w0 w1 : Option Value} (hb : -99 ≤ b ∧ b ≤ 99) (hL : L.length ≤ 16) (hv0 : 0 ≤ v) (hv1 : 0 ≤ b → v = b) (hv2 : b < 0 → v = -b)
    (K : ∀ bc bs (h1 : zHp) q y5 y6 y7, zAr G h1 q (zRot L b) → (q = a0 ∨ (zDm h q ∧ G.2.2 ≤ q)) → zExt h h1 → zR G l (zMJ G hMod_rotate 4 Qn Qx mc ms) bc bs h1 106 [w0, w1, some (zi b), some (.ref q), some (zi v), y5, y6, y7] []) :
    ∀ (n m bc bs : Nat) (h1 : zHp) (q : Nat) (c : Int) (y6 y7 : Option Value), v.toNat - m < n → m ≤ v.toNat → 2 * (v.toNat - m) ≤ bc → 121 * (v.toNat - m) ≤ bs → zAr G h1 q (zRot L c) → (0 < b → c = m) → (¬ 0 < b → c = -(m : Int)) → (q = a0 ∨ (zDm h q ∧ G.2.2 ≤ q)) → zExt h h1 → (y6 = none ∨ ∃ z, y6 = some (zi z)) → (y7 = none ∨ ∃ z, y7 = some (zi z)) →
      zR G l (zMJ G hMod_rotate 4 Qn Qx mc ms) bc bs h1 44 [w0, w1, some (zi b), some (.ref q), some (zi v), some (zi (m : Int)), y6, y7] [] := by
  intro n
  induction n with
  | zero => intro m bc bs h1 q c y6 y7 q1 q2 q3 q4 r hc1 hc2 hq hx hy6 hy7; omega
  | succ n ih =>
  intro m bc bs h1 q c y6 y7 q1 q2 q3 q4 r hc1 hc2 hq hx hy6 hy7
  have hln := zRot_len L c
  obtain ⟨fr, ra, rb, rc, rd⟩ := id r
  obtain ⟨V, rfl⟩ := Int.eq_ofNat_of_zero_le hv0
  rw [Int.toNat_natCast] at q1 q2 q3 q4
  refine z_iload dMod_rotate_44 rfl ?_
  refine z_iload dMod_rotate_46 rfl ?_
  refine z_icmp_ge (tgt := 106) dMod_rotate_48 (by decide) (by omega) (by omega) (fun c48 => ?_) (fun c48 => ?_)
  · first
      | exact K _ _ h1 q _ _ _ (by rw [show b = c by omega]; exact r) hq hx
      | exact K _ _ h1 q _ _ _ (by rw [show zRot L b = zRot L c from zl_ext (by rw [zRot_len, zRot_len]) (fun j hj => by rw [zRot_len] at hj; omega)]; exact r) hq hx
  · refine z_aload_n dMod_rotate_51 rfl ?_
    refine z_alenI dMod_rotate_52 ra ?_
    rw [hln]
    refine z_if_le (tgt := 106) dMod_rotate_53 (by decide) (by omega) (fun c53 => ?_) (fun c53 => ?_)
    · first
        | exact K _ _ h1 q _ _ _ (by rw [show b = c by omega]; exact r) hq hx
        | exact K _ _ h1 q _ _ _ (by rw [show zRot L b = zRot L c from zl_ext (by rw [zRot_len, zRot_len]) (fun j hj => by rw [zRot_len] at hj; omega)]; exact r) hq hx
    · refine z_iload_n dMod_rotate_56 rfl ?_
      refine z_if_le (tgt := 67) dMod_rotate_57 (by decide) (by omega) (fun c57 => ?_) (fun c57 => ?_)
      · refine z_iconst dMod_rotate_67 ?_
        refine z_istore dMod_rotate_68 (Nat.le_of_ble_eq_true rfl) ?_
        refine z_aload_n dMod_rotate_70 rfl ?_
        refine z_iload dMod_rotate_71 rfl ?_
        refine z_iald dMod_rotate_73 (by assumption) (by refine ⟨?_, ?_, ?_⟩ <;> omega) ?_
        rw [rc _ (by omega)]
        refine z_istore dMod_rotate_74 (Nat.le_of_ble_eq_true rfl) ?_
        refine z_aload_n dMod_rotate_76 rfl ?_
        refine z_iload dMod_rotate_77 rfl ?_
        refine z_callS (bc' := bc - 1) (bs' := bs - 60) MS_Mod_without lk_Mod_102 dMod_rotate_79 (k_Mod_without r (by omega) (by omega)) rfl rfl (Nat.le_of_ble_eq_true rfl)  (Nat.le_of_ble_eq_true rfl) (Nat.le_of_ble_eq_true rfl) (by omega) (by omega) (fun _ _ q => q.elim) ?_
        rintro _ h2 ⟨q2, rfl, hq2, gq2, r2, F2⟩
        obtain ⟨f2, r2a, r2b, r2c, r2d⟩ := id r2
        have hdl := zDel_len (zRot L c) ((L.length : Int) - 1)
        have hdl0 := zDel_len (zRot L c) 0
        refine z_astore_n dMod_rotate_82 (Nat.le_of_ble_eq_true rfl) ?_
        refine z_aload_n dMod_rotate_83 rfl ?_
        refine z_iload_n dMod_rotate_84 rfl ?_
        refine z_if_le (tgt := 92) dMod_rotate_85 (by decide) (by omega) (fun c85 => ?_) (fun c85 => ?_)
        · refine z_aload_n dMod_rotate_92 rfl ?_
          refine z_alenI dMod_rotate_93 r2a ?_
          refine z_iload dMod_rotate_94 rfl ?_
          refine z_callS (bc' := bc - 2) (bs' := bs - 121) MS_Mod_with lk_Mod_49 dMod_rotate_96 (k_Mod_with r2 (by omega) (rd _ (by omega)) (by omega)) rfl rfl (Nat.le_of_ble_eq_true rfl)  (Nat.le_of_ble_eq_true rfl) (Nat.le_of_ble_eq_true rfl) (by omega) (by omega) (fun _ _ q => q.elim) ?_
          rintro _ h3 ⟨q3, rfl, hq3, gq3, r3, F3⟩
          have hx2 := hx.tr (zExt.new hq2 F2)
          have hx3 := hx2.tr (zExt.new hq3 F3)
          refine z_astore_n dMod_rotate_99 (Nat.le_of_ble_eq_true rfl) ?_
          refine z_iinc dMod_rotate_100 rfl (Nat.le_of_ble_eq_true rfl) ?_
          refine z_goto (tgt := 44) dMod_rotate_103 (by decide) ?_
          first
            | (exfalso; omega)
            | (have e9 := zRot_right L c (by omega)
               rw [show ((L.length : Int) - 1).toNat = L.length - 1 by omega, e9] at r3
               exact ih (m + 1) _ _ h3 q3 (c + 1) _ _ (by omega) (by omega) (by omega) (by omega) r3 (fun _ => by omega) (fun _ => by omega) (Or.inr ⟨hq3.dn hx2, gq3⟩) hx3 (Or.inr ⟨_, rfl⟩) (Or.inr ⟨_, rfl⟩))
            | (have e9 := zRot_left L c (by omega)
               rw [hdl0, hln, show ((L.length - 1 : Nat) : Int) = (L.length : Int) - 1 by omega, show ((0 : Int)).toNat = 0 from rfl, e9] at r3
               exact ih (m + 1) _ _ h3 q3 (c - 1) _ _ (by omega) (by omega) (by omega) (by omega) r3 (fun _ => by omega) (fun _ => by omega) (Or.inr ⟨hq3.dn hx2, gq3⟩) hx3 (Or.inr ⟨_, rfl⟩) (Or.inr ⟨_, rfl⟩))
        · refine z_iconst dMod_rotate_88 ?_
          refine z_goto (tgt := 94) dMod_rotate_89 (by decide) ?_
          refine z_iload dMod_rotate_94 rfl ?_
          refine z_callS (bc' := bc - 2) (bs' := bs - 121) MS_Mod_with lk_Mod_49 dMod_rotate_96 (k_Mod_with r2 (by omega) (rd _ (by omega)) (by omega)) rfl rfl (Nat.le_of_ble_eq_true rfl)  (Nat.le_of_ble_eq_true rfl) (Nat.le_of_ble_eq_true rfl) (by omega) (by omega) (fun _ _ q => q.elim) ?_
          rintro _ h3 ⟨q3, rfl, hq3, gq3, r3, F3⟩
          have hx2 := hx.tr (zExt.new hq2 F2)
          have hx3 := hx2.tr (zExt.new hq3 F3)
          refine z_astore_n dMod_rotate_99 (Nat.le_of_ble_eq_true rfl) ?_
          refine z_iinc dMod_rotate_100 rfl (Nat.le_of_ble_eq_true rfl) ?_
          refine z_goto (tgt := 44) dMod_rotate_103 (by decide) ?_
          first
            | (exfalso; omega)
            | (have e9 := zRot_right L c (by omega)
               rw [show ((L.length : Int) - 1).toNat = L.length - 1 by omega, e9] at r3
               exact ih (m + 1) _ _ h3 q3 (c + 1) _ _ (by omega) (by omega) (by omega) (by omega) r3 (fun _ => by omega) (fun _ => by omega) (Or.inr ⟨hq3.dn hx2, gq3⟩) hx3 (Or.inr ⟨_, rfl⟩) (Or.inr ⟨_, rfl⟩))
            | (have e9 := zRot_left L c (by omega)
               rw [hdl0, hln, show ((L.length - 1 : Nat) : Int) = (L.length : Int) - 1 by omega, show ((0 : Int)).toNat = 0 from rfl, e9] at r3
               exact ih (m + 1) _ _ h3 q3 (c - 1) _ _ (by omega) (by omega) (by omega) (by omega) r3 (fun _ => by omega) (fun _ => by omega) (Or.inr ⟨hq3.dn hx2, gq3⟩) hx3 (Or.inr ⟨_, rfl⟩) (Or.inr ⟨_, rfl⟩))
      · refine z_aload_n dMod_rotate_60 rfl ?_
        refine z_alenI dMod_rotate_61 ra ?_
        rw [hln]
        refine z_iconst dMod_rotate_62 ?_
        refine z_isub dMod_rotate_63 ?_
        refine z_goto (tgt := 68) dMod_rotate_64 (by decide) ?_
        refine z_istore dMod_rotate_68 (Nat.le_of_ble_eq_true rfl) ?_
        refine z_aload_n dMod_rotate_70 rfl ?_
        refine z_iload dMod_rotate_71 rfl ?_
        refine z_iald dMod_rotate_73 (by assumption) (by refine ⟨?_, ?_, ?_⟩ <;> omega) ?_
        rw [rc _ (by omega)]
        refine z_istore dMod_rotate_74 (Nat.le_of_ble_eq_true rfl) ?_
        refine z_aload_n dMod_rotate_76 rfl ?_
        refine z_iload dMod_rotate_77 rfl ?_
        refine z_callS (bc' := bc - 1) (bs' := bs - 60) MS_Mod_without lk_Mod_102 dMod_rotate_79 (k_Mod_without r (by omega) (by omega)) rfl rfl (Nat.le_of_ble_eq_true rfl)  (Nat.le_of_ble_eq_true rfl) (Nat.le_of_ble_eq_true rfl) (by omega) (by omega) (fun _ _ q => q.elim) ?_
        rintro _ h2 ⟨q2, rfl, hq2, gq2, r2, F2⟩
        obtain ⟨f2, r2a, r2b, r2c, r2d⟩ := id r2
        have hdl := zDel_len (zRot L c) ((L.length : Int) - 1)
        have hdl0 := zDel_len (zRot L c) 0
        refine z_astore_n dMod_rotate_82 (Nat.le_of_ble_eq_true rfl) ?_
        refine z_aload_n dMod_rotate_83 rfl ?_
        refine z_iload_n dMod_rotate_84 rfl ?_
        refine z_if_le (tgt := 92) dMod_rotate_85 (by decide) (by omega) (fun c85 => ?_) (fun c85 => ?_)
        · refine z_aload_n dMod_rotate_92 rfl ?_
          refine z_alenI dMod_rotate_93 r2a ?_
          refine z_iload dMod_rotate_94 rfl ?_
          refine z_callS (bc' := bc - 2) (bs' := bs - 121) MS_Mod_with lk_Mod_49 dMod_rotate_96 (k_Mod_with r2 (by omega) (rd _ (by omega)) (by omega)) rfl rfl (Nat.le_of_ble_eq_true rfl)  (Nat.le_of_ble_eq_true rfl) (Nat.le_of_ble_eq_true rfl) (by omega) (by omega) (fun _ _ q => q.elim) ?_
          rintro _ h3 ⟨q3, rfl, hq3, gq3, r3, F3⟩
          have hx2 := hx.tr (zExt.new hq2 F2)
          have hx3 := hx2.tr (zExt.new hq3 F3)
          refine z_astore_n dMod_rotate_99 (Nat.le_of_ble_eq_true rfl) ?_
          refine z_iinc dMod_rotate_100 rfl (Nat.le_of_ble_eq_true rfl) ?_
          refine z_goto (tgt := 44) dMod_rotate_103 (by decide) ?_
          first
            | (exfalso; omega)
            | (have e9 := zRot_right L c (by omega)
               rw [show ((L.length : Int) - 1).toNat = L.length - 1 by omega, e9] at r3
               exact ih (m + 1) _ _ h3 q3 (c + 1) _ _ (by omega) (by omega) (by omega) (by omega) r3 (fun _ => by omega) (fun _ => by omega) (Or.inr ⟨hq3.dn hx2, gq3⟩) hx3 (Or.inr ⟨_, rfl⟩) (Or.inr ⟨_, rfl⟩))
            | (have e9 := zRot_left L c (by omega)
               rw [hdl0, hln, show ((L.length - 1 : Nat) : Int) = (L.length : Int) - 1 by omega, show ((0 : Int)).toNat = 0 from rfl, e9] at r3
               exact ih (m + 1) _ _ h3 q3 (c - 1) _ _ (by omega) (by omega) (by omega) (by omega) r3 (fun _ => by omega) (fun _ => by omega) (Or.inr ⟨hq3.dn hx2, gq3⟩) hx3 (Or.inr ⟨_, rfl⟩) (Or.inr ⟨_, rfl⟩))
        · refine z_iconst dMod_rotate_88 ?_
          refine z_goto (tgt := 94) dMod_rotate_89 (by decide) ?_
          refine z_iload dMod_rotate_94 rfl ?_
          refine z_callS (bc' := bc - 2) (bs' := bs - 121) MS_Mod_with lk_Mod_49 dMod_rotate_96 (k_Mod_with r2 (by omega) (rd _ (by omega)) (by omega)) rfl rfl (Nat.le_of_ble_eq_true rfl)  (Nat.le_of_ble_eq_true rfl) (Nat.le_of_ble_eq_true rfl) (by omega) (by omega) (fun _ _ q => q.elim) ?_
          rintro _ h3 ⟨q3, rfl, hq3, gq3, r3, F3⟩
          have hx2 := hx.tr (zExt.new hq2 F2)
          have hx3 := hx2.tr (zExt.new hq3 F3)
          refine z_astore_n dMod_rotate_99 (Nat.le_of_ble_eq_true rfl) ?_
          refine z_iinc dMod_rotate_100 rfl (Nat.le_of_ble_eq_true rfl) ?_
          refine z_goto (tgt := 44) dMod_rotate_103 (by decide) ?_
          first
            | (exfalso; omega)
            | (have e9 := zRot_right L c (by omega)
               rw [show ((L.length : Int) - 1).toNat = L.length - 1 by omega, e9] at r3
               exact ih (m + 1) _ _ h3 q3 (c + 1) _ _ (by omega) (by omega) (by omega) (by omega) r3 (fun _ => by omega) (fun _ => by omega) (Or.inr ⟨hq3.dn hx2, gq3⟩) hx3 (Or.inr ⟨_, rfl⟩) (Or.inr ⟨_, rfl⟩))
            | (have e9 := zRot_left L c (by omega)
               rw [hdl0, hln, show ((L.length - 1 : Nat) : Int) = (L.length : Int) - 1 by omega, show ((0 : Int)).toNat = 0 from rfl, e9] at r3
               exact ih (m + 1) _ _ h3 q3 (c - 1) _ _ (by omega) (by omega) (by omega) (by omega) r3 (fun _ => by omega) (fun _ => by omega) (Or.inr ⟨hq3.dn hx2, gq3⟩) hx3 (Or.inr ⟨_, rfl⟩) (Or.inr ⟨_, rfl⟩))
theorem k_Mod_rotate {p b : Int} (H : zMod G h ma S th) (z_p : zI32 p) (z_b : zI32 b) (h16 : ∀ k, k < 4 → (S.1 k).length ≤ 16) : zM G l hMod_rotate yMod_rotate 4 [.ref (ma 0), zi p, zi b] h (zQm G ma h (1) (2) (3) (sp_rotate S p b)) zNo 198 11979 := by
  obtain ⟨m1, m2, ⟨g, m3, m3a⟩, m4, ⟨f6, m5, m5a⟩, m6, m7⟩ := id H
  unfold zMfs at m2
  refine zM.of [some (.ref (ma 0)), some (zi p), some (zi b), none, none, none, none, none] (by decide +kernel) rfl (by decide) rfl (Nat.le_of_ble_eq_true rfl) rfl ?_
  refine z_aload_n dMod_rotate_0 rfl ?_
  refine z_iload_n dMod_rotate_1 rfl ?_
  refine z_callS MS_Mod_isNo lk_Mod_81 dMod_rotate_2 (k_Mod_isNo (by omega)) rfl rfl (Nat.le_of_ble_eq_true rfl)  (Nat.le_of_ble_eq_true rfl) (Nat.le_of_ble_eq_true rfl) (Nat.le_of_eq (Nat.zero_add _)) (Nat.le_of_eq (Nat.zero_add _)) (fun _ _ q => q.elim) ?_
  rintro _ _ ⟨n9, rfl, hn9, rfl⟩
  refine z_iload_n dMod_rotate_5 rfl ?_
  refine z_bipush dMod_rotate_6 rfl ?_
  refine z_bipush dMod_rotate_8 rfl ?_
  refine z_callS MS_Mod_isOut lk_Mod_41 dMod_rotate_10 (k_Mod_isOut (by omega) (by omega) (by omega)) rfl rfl (Nat.le_of_ble_eq_true rfl)  (Nat.le_of_ble_eq_true rfl) (Nat.le_of_ble_eq_true rfl) (Nat.le_of_eq (Nat.zero_add _)) (Nat.le_of_eq (Nat.zero_add _)) (fun _ _ q => q.elim) ?_
  rintro _ _ ⟨o9, rfl, ho9, rfl⟩
  refine z_iconst dMod_rotate_13 ?_
  refine z_callV MV_Mod_fails lk_Mod_88 dMod_rotate_14 (k_Mod_fails (by assumption) rfl (by omega) (by omega) (by omega)) rfl rfl (Nat.le_of_ble_eq_true rfl) rfl (by assumption) (Nat.le_of_ble_eq_true rfl) (Nat.le_of_ble_eq_true rfl) (Nat.le_of_eq (Nat.zero_add _)) (Nat.le_of_eq (Nat.zero_add _)) (fun _ _ q => q.elim) ?_
  rintro _ h1 ⟨t9, b8, rfl, ht, p1, g1⟩
  have H1 : zMod G h1 ma S t9 := H.obj (nu := S.2.2.2.2) (th' := t9) p1 g1
  have fz1 : zMfr ma h h1 := zMfr.of0 g1
  obtain ⟨-, n2, ⟨gg, n3, n3a⟩, n4, ⟨f61, n5, n5a⟩, n6, n7⟩ := id H1
  unfold zMfs at n2
  refine z_if_eq (tgt := 22) dMod_rotate_17 (by decide) (by omega) (fun c17 => ?_) (fun c17 => ?_)
  · obtain ⟨k, rfl⟩ := Int.eq_ofNat_of_zero_le (show 0 ≤ p by omega)
    obtain ⟨frk, rk1, rk2, rk3, rk4⟩ := id (n6 k (by omega))
    have h16k := h16 k (by omega)
    have ezk : ∀ i : Int, 0 ≤ i → i < ((S.1 k).length : Int) → frk i.toNat = zAt (S.1 k) i := fun i x1 x2 => by rw [rk3 _ (by omega), zAt_eq x1 x2]
    have hk : k < 4 := by omega
    refine z_aload_n dMod_rotate_22 rfl ?_
    refine z_get (k := 0) fd_Mod (by decide) fl_Mod_11 dMod_rotate_23 (by assumption) (by rfl) ?_
    refine z_iload_n dMod_rotate_26 rfl ?_
    refine z_aald (t := 4) (ty := .array .int) rfl rfl dMod_rotate_27 n3 (by refine ⟨?_, ?_, ?_⟩ <;> omega) ?_
    rw [show (k : Int).toNat = k from rfl, n3a k (by omega)]
    refine z_astore_n dMod_rotate_28 (Nat.le_of_ble_eq_true rfl) ?_
    refine z_iload_n dMod_rotate_29 rfl ?_
    refine z_if_ge (tgt := 38) dMod_rotate_30 (by decide) (by omega) (fun c30 => ?_) (fun c30 => ?_)
    · refine z_iload_n dMod_rotate_38 rfl ?_
      refine z_istore dMod_rotate_39 (Nat.le_of_ble_eq_true rfl) ?_
      refine z_iconst dMod_rotate_41 ?_
      refine z_istore dMod_rotate_42 (Nat.le_of_ble_eq_true rfl) ?_
      first
        | refine l_Mod_rotate (h := h1) (L := S.1 k) (a0 := ma (8 + k)) (b := b) (v := b) (by omega) (by omega) (by omega) (fun _ => by omega) (fun _ => by omega) (fun bc bs h2 q2 y5 y6 y7 r2 hq2 hx2 => ?_) 100 0 198 11979 h1 (ma (8 + k)) 0 _ _ (by omega) (by omega) (by omega) (by omega) (by rw [zRot_0]; exact n6 k hk) (fun _ => rfl) (fun _ => rfl) (Or.inl rfl) zExt.rf (Or.inl rfl) (Or.inl rfl)
        | refine l_Mod_rotate (h := h1) (L := S.1 k) (a0 := ma (8 + k)) (b := b) (v := -b) (by omega) (by omega) (by omega) (fun _ => by omega) (fun _ => by omega) (fun bc bs h2 q2 y5 y6 y7 r2 hq2 hx2 => ?_) 100 0 198 11979 h1 (ma (8 + k)) 0 _ _ (by omega) (by omega) (by omega) (by omega) (by rw [zRot_0]; exact n6 k hk) (fun _ => rfl) (fun _ => rfl) (Or.inl rfl) zExt.rf (Or.inl rfl) (Or.inl rfl)
      have H2 : zMod G h2 ma S t9 := H1.ext hx2
      have oc2 := H2.2.1
      have fz2 : zMfr ma h h2 := fz1.tr (zMfr.ext hx2)
      have hnq : ∀ i, i < 13 → i ≠ 8 + k → q2 ≠ ma i := by
        intro i hi hne
        rcases hq2 with rfl | ⟨x1, -⟩
        · exact H.inj (by omega) hi (Ne.symm hne)
        · exact H1.nq x1 hi
      refine z_aload_n dMod_rotate_106 rfl ?_
      refine z_iload_n dMod_rotate_107 rfl ?_
      refine z_aload_n dMod_rotate_108 rfl ?_
      refine z_iconst dMod_rotate_109 ?_
      refine z_callV MV_Mod_become lk_Mod_77 dMod_rotate_110 (k_Mod_become H2 hk r2 hnq (by omega)) rfl rfl (Nat.le_of_ble_eq_true rfl) rfl (by assumption) (Nat.le_of_ble_eq_true rfl) (Nat.le_of_ble_eq_true rfl) (Nat.le_of_eq (Nat.zero_add _)) (Nat.le_of_eq (Nat.zero_add _)) (fun _ _ q => q.elim) ?_
      rintro _ h3 ⟨rfl, H3, F3⟩
      have fz3 : zMfr ma h h3 := fz2.tr (zMfr.bec F3)
      have e0 : zup ma (8 + k) q2 0 = ma 0 := zup_ne (by omega)
      have hfi := k_Mod_first (l := l) H3 hk
      rw [e0] at hfi
      have oc3 := H3.2.1
      rw [e0] at oc3
      rw [zsS_l] at hfi
      refine z_aload_n dMod_rotate_113 rfl ?_
      refine z_iload_n dMod_rotate_114 rfl ?_
      refine z_callV MV_Mod_first lk_Mod_133 dMod_rotate_115 hfi rfl rfl (Nat.le_of_ble_eq_true rfl) rfl (by assumption) (Nat.le_of_ble_eq_true rfl) (Nat.le_of_ble_eq_true rfl) (Nat.le_of_eq (Nat.zero_add _)) (Nat.le_of_eq (Nat.zero_add _)) (fun _ _ q => q.elim) ?_
      rintro _ _ ⟨rfl, rfl⟩
      refine z_iret rfl rfl dMod_rotate_118 ?_
      first
        | (exfalso; omega)
        | exact zQm.okB H3 (hq2.imp id (fun x9 => ⟨x9.1.up H1 fz1, x9.2⟩)) (by omega) (by assumption) (by unfold sp_rotate; (try unfold spPut); (try simp only [Int.toNat_natCast]); (repeat (first | rw [if_pos (by omega)] | rw [if_neg (by omega)] | rw [if_pos (by assumption)] | rw [if_neg (by assumption)] | rw [if_pos (True.intro : True)])); (try (first | rfl | (congr 2; omega) | (congr 1; congr 1; omega))); done)
    · refine z_iload_n dMod_rotate_33 rfl ?_
      refine z_ineg dMod_rotate_34 ?_
      refine z_goto (tgt := 39) dMod_rotate_35 (by decide) ?_
      refine z_istore dMod_rotate_39 (Nat.le_of_ble_eq_true rfl) ?_
      refine z_iconst dMod_rotate_41 ?_
      refine z_istore dMod_rotate_42 (Nat.le_of_ble_eq_true rfl) ?_
      first
        | refine l_Mod_rotate (h := h1) (L := S.1 k) (a0 := ma (8 + k)) (b := b) (v := b) (by omega) (by omega) (by omega) (fun _ => by omega) (fun _ => by omega) (fun bc bs h2 q2 y5 y6 y7 r2 hq2 hx2 => ?_) 100 0 198 11979 h1 (ma (8 + k)) 0 _ _ (by omega) (by omega) (by omega) (by omega) (by rw [zRot_0]; exact n6 k hk) (fun _ => rfl) (fun _ => rfl) (Or.inl rfl) zExt.rf (Or.inl rfl) (Or.inl rfl)
        | refine l_Mod_rotate (h := h1) (L := S.1 k) (a0 := ma (8 + k)) (b := b) (v := -b) (by omega) (by omega) (by omega) (fun _ => by omega) (fun _ => by omega) (fun bc bs h2 q2 y5 y6 y7 r2 hq2 hx2 => ?_) 100 0 198 11979 h1 (ma (8 + k)) 0 _ _ (by omega) (by omega) (by omega) (by omega) (by rw [zRot_0]; exact n6 k hk) (fun _ => rfl) (fun _ => rfl) (Or.inl rfl) zExt.rf (Or.inl rfl) (Or.inl rfl)
      have H2 : zMod G h2 ma S t9 := H1.ext hx2
      have oc2 := H2.2.1
      have fz2 : zMfr ma h h2 := fz1.tr (zMfr.ext hx2)
      have hnq : ∀ i, i < 13 → i ≠ 8 + k → q2 ≠ ma i := by
        intro i hi hne
        rcases hq2 with rfl | ⟨x1, -⟩
        · exact H.inj (by omega) hi (Ne.symm hne)
        · exact H1.nq x1 hi
      refine z_aload_n dMod_rotate_106 rfl ?_
      refine z_iload_n dMod_rotate_107 rfl ?_
      refine z_aload_n dMod_rotate_108 rfl ?_
      refine z_iconst dMod_rotate_109 ?_
      refine z_callV MV_Mod_become lk_Mod_77 dMod_rotate_110 (k_Mod_become H2 hk r2 hnq (by omega)) rfl rfl (Nat.le_of_ble_eq_true rfl) rfl (by assumption) (Nat.le_of_ble_eq_true rfl) (Nat.le_of_ble_eq_true rfl) (Nat.le_of_eq (Nat.zero_add _)) (Nat.le_of_eq (Nat.zero_add _)) (fun _ _ q => q.elim) ?_
      rintro _ h3 ⟨rfl, H3, F3⟩
      have fz3 : zMfr ma h h3 := fz2.tr (zMfr.bec F3)
      have e0 : zup ma (8 + k) q2 0 = ma 0 := zup_ne (by omega)
      have hfi := k_Mod_first (l := l) H3 hk
      rw [e0] at hfi
      have oc3 := H3.2.1
      rw [e0] at oc3
      rw [zsS_l] at hfi
      refine z_aload_n dMod_rotate_113 rfl ?_
      refine z_iload_n dMod_rotate_114 rfl ?_
      refine z_callV MV_Mod_first lk_Mod_133 dMod_rotate_115 hfi rfl rfl (Nat.le_of_ble_eq_true rfl) rfl (by assumption) (Nat.le_of_ble_eq_true rfl) (Nat.le_of_ble_eq_true rfl) (Nat.le_of_eq (Nat.zero_add _)) (Nat.le_of_eq (Nat.zero_add _)) (fun _ _ q => q.elim) ?_
      rintro _ _ ⟨rfl, rfl⟩
      refine z_iret rfl rfl dMod_rotate_118 ?_
      first
        | (exfalso; omega)
        | exact zQm.okB H3 (hq2.imp id (fun x9 => ⟨x9.1.up H1 fz1, x9.2⟩)) (by omega) (by assumption) (by unfold sp_rotate; (try unfold spPut); (try simp only [Int.toNat_natCast]); (repeat (first | rw [if_pos (by omega)] | rw [if_neg (by omega)] | rw [if_pos (by assumption)] | rw [if_neg (by assumption)] | rw [if_pos (True.intro : True)])); (try (first | rfl | (congr 2; omega) | (congr 1; congr 1; omega))); done)
  · refine z_iconst dMod_rotate_20 ?_
    refine z_iret rfl rfl dMod_rotate_21 ?_
    rcases (show t9 = 0 ∨ t9 = 1 ∨ t9 = 2 ∨ t9 = 3 by omega) with t0 | t0 | t0 | t0
    all_goals first
      | (exfalso; omega)
      | exact zQm.ok H1 (by omega) (by assumption) (by unfold sp_rotate; (try unfold spPut); (try simp only [Int.toNat_natCast]); (repeat (first | rw [if_pos (by omega)] | rw [if_neg (by omega)] | rw [if_pos (by assumption)] | rw [if_neg (by assumption)] | rw [if_pos (True.intro : True)])); (try (first | rfl | (congr 2; omega) | (congr 1; congr 1; omega))); done)
      | exact zQm.b1 H1 (by omega) (by assumption) (by unfold sp_rotate; (try unfold spPut); (try simp only [Int.toNat_natCast]); (repeat (first | rw [if_pos (by omega)] | rw [if_neg (by omega)] | rw [if_pos (by assumption)] | rw [if_neg (by assumption)] | rw [if_pos (True.intro : True)])); (try (first | rfl | (congr 2; omega) | (congr 1; congr 1; omega))); done)
      | exact zQm.b2 H1 (by omega) (by assumption) (by unfold sp_rotate; (try unfold spPut); (try simp only [Int.toNat_natCast]); (repeat (first | rw [if_pos (by omega)] | rw [if_neg (by omega)] | rw [if_pos (by assumption)] | rw [if_neg (by assumption)] | rw [if_pos (True.intro : True)])); (try (first | rfl | (congr 2; omega) | (congr 1; congr 1; omega))); done)
      | exact zQm.b3 H1 (by omega) (by assumption) (by unfold sp_rotate; (try unfold spPut); (try simp only [Int.toNat_natCast]); (repeat (first | rw [if_pos (by omega)] | rw [if_neg (by omega)] | rw [if_pos (by assumption)] | rw [if_neg (by assumption)] | rw [if_pos (True.intro : True)])); (try (first | rfl | (congr 2; omega) | (congr 1; congr 1; omega))); done)
end MOD11
