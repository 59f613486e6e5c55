/-! ===== the model's state ===== -/
section MOD3
variable {G : zG} {l : Launch} {h h' : zHp} {ma : Nat → Nat} {S : zSt} {th : Int}
def zMfs (ma : Nat → Nat) (S : zSt) (th : Int) : List Value := [.ref (ma 1), .ref (ma 2), .ref (ma 3), .ref (ma 4), .ref (ma 5), .ref (ma 6), .ref (ma 12), .ref (ma 7), zi (S.2.2.2.1.length : Int), zi (S.2.2.2.2 0), zi (S.2.2.2.2 1), zi (S.2.2.2.2 2), zi th]
/-- the cursors' arrays: 2 there, 3 stale, 4 list, 5 index, 6 last -/
def zMcu (G : zG) (h : zHp) (ma : Nat → Nat) (cu : Nat → Nat → Int) : Prop :=
  (∃ f, h (ma 2) = some (zBools G 3 f) ∧ ∀ c, c < 3 → f c = cu c 0 ∧ (cu c 0 = 0 ∨ cu c 0 = 1)) ∧
  (∃ f, h (ma 3) = some (zBools G 3 f) ∧ ∀ c, c < 3 → (f c = 0 ∨ f c = 1) ∧ (cu c 0 = 1 → f c = cu c 1)) ∧
  (∃ f, h (ma 4) = some (zInts G 3 f) ∧ ∀ c, c < 3 → zI32 (f c) ∧ (cu c 0 = 1 → f c = cu c 2)) ∧
  (∃ f, h (ma 5) = some (zInts G 3 f) ∧ ∀ c, c < 3 → zI32 (f c) ∧ (cu c 0 = 1 → f c = cu c 3)) ∧
  (∃ f, h (ma 6) = some (zInts G 3 f) ∧ ∀ c, c < 3 → zI32 (f c) ∧ (cu c 0 = 1 → f c = cu c 4))
def zMod (G : zG) (h : zHp) (ma : Nat → Nat) (S : zSt) (th : Int) : Prop :=
  (∀ i j, i < 13 → j < 13 → ma i = ma j → i = j) ∧
  h (ma 0) = some (.inr (zkMod, zMfs ma S th)) ∧
  (∃ g, h (ma 1) = some (zRefs G 4 4 g) ∧ ∀ k, k < 4 → g k = some (ma (8 + k))) ∧
  zMcu G h ma S.2.1 ∧
  (∃ f, h (ma 7) = some (zInts G 60 f) ∧ ∀ j, j < S.2.2.2.1.length → f j = S.2.2.2.1.getD j 0) ∧
  (∀ k, k < 4 → zAr G h (ma (8 + k)) (S.1 k)) ∧ zAr G h (ma 12) S.2.2.1
theorem zMod.inj (H : zMod G h ma S th) {i j : Nat} (hi : i < 13) (hj : j < 13) (hne : i ≠ j) : ma i ≠ ma j := fun e => hne (H.1 i j hi hj e)
theorem zMod.row (H : zMod G h ma S th) {k : Nat} (hk : k < 4) : zAr G h (ma (8 + k)) (S.1 k) := H.2.2.2.2.2.1 k hk
/-- only the object's own cell changes -/
theorem zMod.obj {th' : Int} {nu : Nat → Int} (H : zMod G h ma S th) (e : h' (ma 0) = some (.inr (zkMod, zMfs ma (S.1, S.2.1, S.2.2.1, S.2.2.2.1, nu) th'))) (hf : ∀ q, q ≠ ma 0 → h' q = h q) : zMod G h' ma (S.1, S.2.1, S.2.2.1, S.2.2.2.1, nu) th' := by
  obtain ⟨m1, m2, ⟨g, m3, m3'⟩, ⟨⟨f1, a1, b1⟩, ⟨f2, a2, b2⟩, ⟨f3, a3, b3⟩, ⟨f4, a4, b4⟩, ⟨f5, a5, b5⟩⟩, ⟨f6, m5, m5'⟩, m6, m7⟩ := id H
  have kp : ∀ i, i < 13 → i ≠ 0 → h' (ma i) = h (ma i) := fun i hi h1 => hf _ (H.inj hi (by omega) h1)
  exact ⟨m1, e, ⟨g, (kp 1 (by omega) (by omega)).trans m3, m3'⟩, ⟨⟨f1, (kp 2 (by omega) (by omega)).trans a1, b1⟩, ⟨f2, (kp 3 (by omega) (by omega)).trans a2, b2⟩, ⟨f3, (kp 4 (by omega) (by omega)).trans a3, b3⟩, ⟨f4, (kp 5 (by omega) (by omega)).trans a4, b4⟩, ⟨f5, (kp 6 (by omega) (by omega)).trans a5, b5⟩⟩, ⟨f6, (kp 7 (by omega) (by omega)).trans m5, m5'⟩, fun k hk => (m6 k hk).kept (kp _ (by omega) (by omega)), m7.kept (kp 12 (by omega) (by omega))⟩
/-- the frame of the model's methods: cells that aren't its own stay -/
def zMfr (ma : Nat → Nat) (h h' : zHp) : Prop := ∀ q e, h q = some e → (∀ i, i < 13 → q ≠ ma i) → h' q = some e
theorem zMfr.rf : zMfr ma h h := fun _ _ e _ => e
theorem zMfr.of0 (hf : ∀ q, q ≠ ma 0 → h' q = h q) : zMfr ma h h' := fun q e he hq => (hf q (hq 0 (by omega))).trans he
theorem k_Mod_thrown (H : zMod G h ma S th) : zM G l hMod_thrown yMod_thrown 1 [.ref (ma 0)] h (fun v h' => v = some (zi th) ∧ h = h') zNo 0 0 := by
  obtain ⟨m1, m2, ⟨g, m3, m3a⟩, m4, ⟨f6, m5, m5a⟩, m6, m7⟩ := id H
  unfold zMfs at m2
  refine zM.of [some (.ref (ma 0))] (by decide +kernel) rfl (by decide) rfl (Nat.le_of_ble_eq_true rfl) rfl ?_
  refine z_aload_n dMod_thrown_0 rfl ?_
  refine z_get (k := 12) fd_Mod (by decide) fl_Mod_37 dMod_thrown_1 (by assumption) (by rfl) ?_
  refine z_iret rfl rfl dMod_thrown_4 ?_
  exact ⟨rfl, rfl⟩
theorem k_Mod_knock (H : zMod G h ma S th) : zM G l hMod_knock yMod_knock 1 [.ref (ma 0)] h (fun v h' => v = some (zi (S.2.2.2.2 2 + 1)) ∧ zMod G h' ma (sp_knock S).2 0 ∧ zMfr ma h h') zNo 0 0 := by
  obtain ⟨m1, m2, ⟨g, m3, m3a⟩, m4, ⟨f6, m5, m5a⟩, m6, m7⟩ := id H
  unfold zMfs at m2
  refine zM.of [some (.ref (ma 0))] (by decide +kernel) rfl (by decide) rfl (Nat.le_of_ble_eq_true rfl) rfl ?_
  refine z_aload_n dMod_knock_0 rfl ?_
  refine z_iconst dMod_knock_1 ?_
  refine z_put (k := 12) fd_Mod (by decide) fl_Mod_37 rfl dMod_knock_2 (by assumption) (by simp) rfl rfl ?_
  refine z_hx (fun h1 p1 f1 => ?_)
  refine z_aload_n dMod_knock_5 rfl ?_
  refine z_dup rfl dMod_knock_6 ?_
  refine z_get (k := 11) fd_Mod (by decide) fl_Mod_200 dMod_knock_7 (by assumption) (by rfl) ?_
  refine z_iconst dMod_knock_10 ?_
  refine z_iadd dMod_knock_11 ?_
  refine z_put (k := 11) fd_Mod (by decide) fl_Mod_200 rfl dMod_knock_12 (by assumption) (by simp) rfl rfl ?_
  refine z_hx (fun h2 p2 f2 => ?_)
  refine z_aload_n dMod_knock_15 rfl ?_
  refine z_get (k := 11) fd_Mod (by decide) fl_Mod_200 dMod_knock_16 (by assumption) (by rfl) ?_
  refine z_iret rfl rfl dMod_knock_19 ?_
  exact ⟨rfl, H.obj (nu := zup S.2.2.2.2 2 (S.2.2.2.2 2 + 1)) p2 (fun q hq => (f2 q hq).trans (f1 q hq)), zMfr.of0 (fun q hq => (f2 q hq).trans (f1 q hq))⟩
theorem k_Mod_isSound (H : zMod G h ma S th) : zM G l hMod_isSound yMod_isSound 1 [.ref (ma 0)] h (fun v h' => v = some (zi 1) ∧ zMod G h' ma S 0 ∧ zMfr ma h h') zNo 0 0 := by
  obtain ⟨m1, m2, ⟨g, m3, m3a⟩, m4, ⟨f6, m5, m5a⟩, m6, m7⟩ := id H
  unfold zMfs at m2
  refine zM.of [some (.ref (ma 0))] (by decide +kernel) rfl (by decide) rfl (Nat.le_of_ble_eq_true rfl) rfl ?_
  refine z_aload_n dMod_isSound_0 rfl ?_
  refine z_iconst dMod_isSound_1 ?_
  refine z_put (k := 12) fd_Mod (by decide) fl_Mod_37 rfl dMod_isSound_2 (by assumption) (by simp) rfl rfl ?_
  refine z_hx (fun h1 p1 f1 => ?_)
  refine z_iconst dMod_isSound_5 ?_
  refine z_iret rfl rfl dMod_isSound_6 ?_
  exact ⟨rfl, H.obj (nu := S.2.2.2.2) p1 f1, zMfr.of0 f1⟩
theorem k_Mod_isNoPlace {k : Nat} {p : Int} (H : zMod G h ma S th) (hk : k < 4) (hp : zI32 p) : zM G l hMod_isNoPlace yMod_isNoPlace 2 [.ref (ma 0), zi (k : Int), zi p] h (fun v h' => ∃ b9 : Int, v = some (zi b9) ∧ ((b9 = 1 ∧ (¬ (0 ≤ p ∧ p < ((S.1 k).length : Int)))) ∨ (b9 = 0 ∧ ¬ (¬ (0 ≤ p ∧ p < ((S.1 k).length : Int))))) ∧ h = h') zNo 0 0 := by
  obtain ⟨m1, m2, ⟨g, m3, m3a⟩, m4, ⟨f6, m5, m5a⟩, m6, m7⟩ := id H
  unfold zMfs at m2
  obtain ⟨fr, r1, r2, r3, r4⟩ := id (H.row hk)
  refine zM.of [some (.ref (ma 0)), some (zi (k : Int)), some (zi p)] (by decide +kernel) rfl (by decide) rfl (Nat.le_of_ble_eq_true rfl) rfl ?_
  refine z_iload_n dMod_isNoPlace_0 rfl ?_
  refine z_iconst dMod_isNoPlace_1 ?_
  refine z_aload_n dMod_isNoPlace_2 rfl ?_
  refine z_get (k := 0) fd_Mod (by decide) fl_Mod_11 dMod_isNoPlace_3 (by assumption) (by rfl) ?_
  refine z_iload_n dMod_isNoPlace_6 rfl ?_
  refine z_aald (t := 4) (ty := .array .int) rfl rfl dMod_isNoPlace_7 m3 (by refine ⟨?_, ?_, ?_⟩ <;> omega) ?_
  rw [show (k : Int).toNat = k from rfl, m3a k (by omega)]
  refine z_alenI dMod_isNoPlace_8 (by assumption) ?_
  refine z_iconst dMod_isNoPlace_9 ?_
  refine z_isub dMod_isNoPlace_10 ?_
  refine z_callS MS_Mod_isOut lk_Mod_41 dMod_isNoPlace_11 (k_Mod_isOut hp (by omega) (by omega)) rfl rfl (Nat.le_of_ble_eq_true rfl)  (Nat.le_of_ble_eq_true rfl) (Nat.le_of_ble_eq_true rfl) (Nat.le_of_eq (Nat.zero_add _)) (Nat.le_of_eq (Nat.zero_add _)) (fun _ _ q => q.elim) ?_
  rintro _ _ ⟨b9, rfl, hb9, rfl⟩
  refine z_iret rfl (by rcases hb9 with ⟨rfl, -⟩ | ⟨rfl, -⟩ <;> rfl) dMod_isNoPlace_14 ?_
  exact ⟨_, rfl, by omega, rfl⟩
theorem k_Mod_first {k : Nat} (H : zMod G h ma S th) (hk : k < 4) : zM G l hMod_first yMod_first 1 [.ref (ma 0), zi (k : Int)] h (fun v h' => v = some (zi (zFst (S.1 k))) ∧ h = h') zNo 0 0 := by
  obtain ⟨m1, m2, ⟨g, m3, m3a⟩, m4, ⟨f6, m5, m5a⟩, m6, m7⟩ := id H
  unfold zMfs at m2
  obtain ⟨fr, r1, r2, r3, r4⟩ := id (H.row hk)
  refine zM.of [some (.ref (ma 0)), some (zi (k : Int))] (by decide +kernel) rfl (by decide) rfl (Nat.le_of_ble_eq_true rfl) rfl ?_
  refine z_aload_n dMod_first_0 rfl ?_
  refine z_get (k := 0) fd_Mod (by decide) fl_Mod_11 dMod_first_1 (by assumption) (by rfl) ?_
  refine z_iload_n dMod_first_4 rfl ?_
  refine z_aald (t := 4) (ty := .array .int) rfl rfl dMod_first_5 m3 (by refine ⟨?_, ?_, ?_⟩ <;> omega) ?_
  rw [show (k : Int).toNat = k from rfl, m3a k (by omega)]
  refine z_alenI dMod_first_6 (by assumption) ?_
  refine z_if_ne (tgt := 16) dMod_first_7 (by decide) (by omega) (fun c7 => ?_) (fun c7 => ?_)
  · refine z_aload_n dMod_first_16 rfl ?_
    refine z_get (k := 0) fd_Mod (by decide) fl_Mod_11 dMod_first_17 (by assumption) (by rfl) ?_
    refine z_iload_n dMod_first_20 rfl ?_
    refine z_aald (t := 4) (ty := .array .int) rfl rfl dMod_first_21 m3 (by refine ⟨?_, ?_, ?_⟩ <;> omega) ?_
    rw [show (k : Int).toNat = k from rfl, m3a k (by omega)]
    refine z_iconst dMod_first_22 ?_
    refine z_iald dMod_first_23 (by assumption) (by refine ⟨?_, ?_, ?_⟩ <;> omega) ?_
    rw [show ((0 : Int)).toNat = 0 from rfl, r3 0 (by omega)]
    refine z_iret rfl rfl dMod_first_24 ?_
    unfold zFst
    first
      | (rw [if_pos (by omega)]; exact ⟨rfl, rfl⟩)
      | (rw [if_neg (by omega)]; exact ⟨rfl, rfl⟩)
  · refine z_sipush dMod_first_10 rfl ?_
    refine z_goto (tgt := 24) dMod_first_13 (by decide) ?_
    refine z_iret rfl rfl dMod_first_24 ?_
    unfold zFst
    first
      | (rw [if_pos (by omega)]; exact ⟨rfl, rfl⟩)
      | (rw [if_neg (by omega)]; exact ⟨rfl, rfl⟩)
end MOD3
