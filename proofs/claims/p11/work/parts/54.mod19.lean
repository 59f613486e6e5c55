section MOD19
variable {G : zG} {l : Launch} {h h' h'' : zHp} {ma : Nat → Nat} {S : zSt} {th : Int}
theorem lrem_eq_mod9 (x y : Int64) : x - (x / y) * y = x % y := by
  apply Int64.toInt_inj.mp
  have h1 := Int64.le_toInt (x % y)
  have h2 := Int64.toInt_lt (x % y)
  rw [Int64.toInt_sub, Int64.toInt_mul, Int64.toInt_div, Int.bmod_mul_bmod, Int.sub_bmod_bmod, Int.mul_comm (x.toInt.tdiv y.toInt), ← Int.tmod_def, ← Int64.toInt_mod]
  exact Int.bmod_eq_of_le_mul_two (by omega) (by omega)
theorem zL_rem {a b : Int} (ha : zI64 a) (hb : 0 < b ∧ b ≤ 9223372036854775807) : zL a - zL a / zL b * zL b = zL (a.tmod b) := by
  rw [lrem_eq_mod9]
  apply Int64.toInt_inj.mp
  have h1 := Int.lt_tmod_of_pos a hb.1
  have h2 := Int.tmod_lt_of_pos a hb.1
  rw [Int64.toInt_mod, zL_toInt ha, zL_toInt (by omega), zL_toInt (by omega)]
theorem zrest_eq (v : Int) : (v.tmod 9973 + 9973).tmod 9973 = v % 9973 := by
  have e := zmod_pos (a := v) (b := 9973) (by decide)
  rw [Int.tmod_eq_emod_of_nonneg (by split at e <;> omega)]
  split at e <;> omega
theorem zEm (a b x : Int) : (a % 9973 * x + b) % 9973 = (a * x + b) % 9973 := by
  have h := Int.mul_ediv_add_emod a 9973
  have e : a * x + b = (a % 9973 * x + b) + 9973 * (a / 9973 * x) := by
    have e1 : a * x = (9973 * (a / 9973) + a % 9973) * x := by rw [h]
    rw [e1, Int.add_mul, Int.mul_assoc]
    omega
  rw [e, Int.add_mul_emod_self_left]
def zVp (x : Int) : Nat → Int
  | 0 => 1
  | n + 1 => (zVp x n * x) % 9973
def zVs (L : List Int) (x : Int) : Nat → Int
  | 0 => 0
  | n + 1 => (zVs L x n + L.getD n 0 * zVp x n) % 9973
theorem zVp_in (x : Int) (n : Nat) : 0 ≤ zVp x n ∧ zVp x n < 9973 := by
  cases n with
  | zero => exact ⟨by show (0 : Int) ≤ 1; decide, by show (1 : Int) < 9973; decide⟩
  | succ n => unfold zVp; omega
theorem zVs_in (L : List Int) (x : Int) (n : Nat) : 0 ≤ zVs L x n ∧ zVs L x n < 9973 := by
  cases n with
  | zero => exact ⟨by show (0 : Int) ≤ 0; decide, by show (0 : Int) < 9973; decide⟩
  | succ n => unfold zVs; omega
def zPo9 (x : Int) : Nat → Int
  | 0 => 1
  | n + 1 => zPo9 x n * x
def zTs (L : List Int) (x : Int) (s : Nat) : Nat → Int
  | 0 => 0
  | n + 1 => zTs L x s n + L.getD (s + n) 0 * zPo9 x n
theorem zVp_eq (x : Int) : ∀ n, zVp x n = zPo9 x n % 9973
  | 0 => by show (1 : Int) = 1 % 9973; decide
  | n + 1 => by
    unfold zVp zPo9
    rw [zVp_eq x n]
    have := zEm (zPo9 x n) 0 x
    simpa using this
theorem zTs_front (L : List Int) (x : Int) : ∀ n s : Nat, zTs L x s (n + 1) = L.getD s 0 + zTs L x (s + 1) n * x
  | 0, s => by simp [zTs, zPo9]
  | n + 1, s => by
    have ih := zTs_front L x n s
    have e1 : zTs L x s (n + 1 + 1) = zTs L x s (n + 1) + L.getD (s + (n + 1)) 0 * zPo9 x (n + 1) := rfl
    have e2 : zTs L x (s + 1) (n + 1) = zTs L x (s + 1) n + L.getD (s + 1 + n) 0 * zPo9 x n := rfl
    rw [e1, e2, ih, Int.add_mul, show s + 1 + n = s + (n + 1) by omega]
    have e3 : L.getD (s + (n + 1)) 0 * zPo9 x (n + 1) = L.getD (s + (n + 1)) 0 * zPo9 x n * x := by
      show L.getD (s + (n + 1)) 0 * (zPo9 x n * x) = _
      rw [Int.mul_assoc]
    rw [e3]
    omega
theorem zVs_eq (L : List Int) (x : Int) : ∀ n, zVs L x n = zTs L x 0 n % 9973
  | 0 => by simp [zVs, zTs]
  | n + 1 => by
    unfold zVs zTs
    rw [zVs_eq L x n, zVp_eq x n, Nat.zero_add]
    have e1 := zEm (zPo9 x n) (zTs L x 0 n % 9973) (L.getD n 0)
    have e2 := zEm (zTs L x 0 n) (zPo9 x n * L.getD n 0) 1
    rw [Int.mul_one, Int.mul_one] at e2
    rw [Int.mul_comm (L.getD n 0), Int.add_comm (zTs L x 0 n % 9973), e1, Int.add_comm (zPo9 x n * L.getD n 0), e2, Int.mul_comm (L.getD n 0)]
theorem zHr_eq (L : List Int) (x : Int) : ∀ n, n ≤ L.length → zHr L x n = zTs L x (L.length - n) n % 9973
  | 0, _ => by simp [zHr, zTs]
  | n + 1, hn => by
    unfold zHr
    rw [zHr_eq L x n (by omega), zEm, zTs_front, show L.length - (n + 1) + 1 = L.length - n by omega, show L.length - (n + 1) = L.length - 1 - n by omega]
    congr 1
    omega
theorem zVs_hr (L : List Int) (x : Int) : zVs L x L.length = zHr L x L.length := by
  rw [zVs_eq, zHr_eq L x _ (Nat.le_refl _), Nat.sub_self]
theorem k_Mod_rest {v : Int} (hv : -1000000000000 ≤ v ∧ v ≤ 1000000000000) : zM G l hMod_rest yMod_rest 1 [zl v] h (fun w h' => w = some (zi (v % 9973)) ∧ h = h') zNo 0 0 := by
  refine zM.of [some (zl v), none] (by decide +kernel) rfl (by decide) rfl (Nat.le_of_ble_eq_true rfl) rfl ?_
  refine z_lload_n dMod_rest_0 rfl ?_
  refine z_ldc2 (v := (9973 : Int64)) dMod_rest_1 (9973) (by decide) ct_Mod_170 ?_
  refine z_lrem (v.tmod 9973) (zL_rem (by omega) (by omega)) (by decide) dMod_rest_4 ?_
  have g1 := Int.lt_tmod_of_pos v (show (0 : Int) < 9973 by decide)
  have g2 := Int.tmod_lt_of_pos v (show (0 : Int) < 9973 by decide)
  refine z_ldc2 (v := (9973 : Int64)) dMod_rest_5 (9973) (by decide) ct_Mod_170 ?_
  refine z_ladd dMod_rest_8 ?_
  refine z_ldc2 (v := (9973 : Int64)) dMod_rest_9 (9973) (by decide) ct_Mod_170 ?_
  refine z_lrem ((v.tmod 9973 + 9973).tmod 9973) (zL_rem (by omega) (by omega)) (by decide) dMod_rest_12 ?_
  rw [zrest_eq]
  refine z_l2i dMod_rest_13 ?_
  refine z_iret rfl rfl dMod_rest_14 ?_
  exact ⟨rfl, rfl⟩
theorem l_Mod_valueOf {mc ms bc bs : Nat} {Qn : Option Value → zHp → Prop} {Qx : String → zHp → Prop} {a : Nat} {L : List Int} {x : Int} (hr : zAr G h a L) (hx : -99 ≤ x ∧ x ≤ 99)
    (K : ∀ p8 y8 y9, zR G l (zMJ G hMod_valueOf 2 Qn Qx mc ms) bc bs h 59 [some (.ref a), some (zi x), some (zl p8), none, some (zl (zVs L x L.length)), none, some (.ref a), some (zi (L.length : Int)), y8, y9] []) :
    ∀ (n m : Nat) (y9 : Option Value), L.length - m < n → m ≤ L.length → zR G l (zMJ G hMod_valueOf 2 Qn Qx mc ms) bc bs h 16 [some (.ref a), some (zi x), some (zl (zVp x m)), none, some (zl (zVs L x m)), none, some (.ref a), some (zi (L.length : Int)), some (zi (m : Int)), y9] [] := by
  intro n
  induction n with
  | zero => intro m y9 x1 x2; omega
  | succ n ih =>
  intro m y9 x1 x2
  obtain ⟨f, d1, d2, d3, d4⟩ := id hr
  have p1 := zVp_in x m
  have s1 := zVs_in L x m
  refine z_iload dMod_valueOf_16 rfl ?_
  refine z_iload dMod_valueOf_18 rfl ?_
  refine z_icmp_ge (tgt := 59) dMod_valueOf_20 (by decide) (by omega) (by omega) (fun c20 => ?_) (fun c20 => ?_)
  · have em : m = L.length := by omega
    subst em
    exact K _ _ _
  · have d4m := d4 m (by omega)
    have m1 : L.getD m 0 * zVp x m ≤ 9999 * 9972 ∧ -(9999 * 9972) ≤ L.getD m 0 * zVp x m := by
      have q1 : L.getD m 0 * zVp x m ≤ 9999 * zVp x m := Int.mul_le_mul_of_nonneg_right (by omega) (by omega)
      have q2 : (-9999) * zVp x m ≤ L.getD m 0 * zVp x m := Int.mul_le_mul_of_nonneg_right (by omega) (by omega)
      omega
    have m2 : zVp x m * x ≤ 9972 * 99 ∧ -(9972 * 99) ≤ zVp x m * x := by
      have q1 : x * zVp x m ≤ 99 * zVp x m := Int.mul_le_mul_of_nonneg_right (by omega) (by omega)
      have q2 : (-99) * zVp x m ≤ x * zVp x m := Int.mul_le_mul_of_nonneg_right (by omega) (by omega)
      rw [Int.mul_comm]
      omega
    refine z_aload dMod_valueOf_23 rfl ?_
    refine z_iload dMod_valueOf_25 rfl ?_
    refine z_iald dMod_valueOf_27 (by assumption) (by refine ⟨?_, ?_, ?_⟩ <;> omega) ?_
    rw [Int.toNat_natCast, d3 m (by omega)]
    refine z_istore dMod_valueOf_28 (Nat.le_of_ble_eq_true rfl) ?_
    refine z_lload dMod_valueOf_30 rfl ?_
    refine z_iload dMod_valueOf_32 rfl ?_
    refine z_i2l (by first | omega | omega) dMod_valueOf_34 ?_
    refine z_lload_n dMod_valueOf_35 rfl ?_
    refine z_lmul dMod_valueOf_36 ?_
    refine z_ladd dMod_valueOf_37 ?_
    refine z_callS MS_Mod_rest lk_Mod_172 dMod_valueOf_38 (k_Mod_rest (by omega)) rfl rfl (Nat.le_of_ble_eq_true rfl)  (Nat.le_of_ble_eq_true rfl) (Nat.le_of_ble_eq_true rfl) (Nat.le_of_eq (Nat.zero_add _)) (Nat.le_of_eq (Nat.zero_add _)) (fun _ _ q => q.elim) ?_
    rintro _ _ ⟨rfl, rfl⟩
    refine z_i2l (by first | omega | omega) dMod_valueOf_41 ?_
    refine z_lstore dMod_valueOf_42 (Nat.le_of_ble_eq_true rfl) ?_
    refine z_lload_n dMod_valueOf_44 rfl ?_
    refine z_iload_n dMod_valueOf_45 rfl ?_
    refine z_i2l (by first | omega | omega) dMod_valueOf_46 ?_
    refine z_lmul dMod_valueOf_47 ?_
    refine z_callS MS_Mod_rest lk_Mod_172 dMod_valueOf_48 (k_Mod_rest (by omega)) rfl rfl (Nat.le_of_ble_eq_true rfl)  (Nat.le_of_ble_eq_true rfl) (Nat.le_of_ble_eq_true rfl) (Nat.le_of_eq (Nat.zero_add _)) (Nat.le_of_eq (Nat.zero_add _)) (fun _ _ q => q.elim) ?_
    rintro _ _ ⟨rfl, rfl⟩
    refine z_i2l (by first | omega | omega) dMod_valueOf_51 ?_
    refine z_lstore_n dMod_valueOf_52 (Nat.le_of_ble_eq_true rfl) ?_
    refine z_iinc dMod_valueOf_53 rfl (Nat.le_of_ble_eq_true rfl) ?_
    refine z_goto (tgt := 16) dMod_valueOf_56 (by decide) ?_
    exact ih (m + 1) _ (by omega) (by omega)
theorem k_Mod_valueOf {a : Nat} {L : List Int} {x : Int} (hr : zAr G h a L) (hx : -99 ≤ x ∧ x ≤ 99) : zM G l hMod_valueOf yMod_valueOf 2 [.ref a, zi x] h (fun v h' => v = some (zi (zHr L x L.length)) ∧ h = h') zNo 0 0 := by
  obtain ⟨f, d1, d2, d3, d4⟩ := id hr
  refine zM.of [some (.ref a), some (zi x), none, none, none, none, none, none, none, none] (by decide +kernel) rfl (by decide) rfl (Nat.le_of_ble_eq_true rfl) rfl ?_
  refine z_lconst dMod_valueOf_0 1 rfl ?_
  refine z_lstore_n dMod_valueOf_1 (Nat.le_of_ble_eq_true rfl) ?_
  refine z_lconst dMod_valueOf_2 0 rfl ?_
  refine z_lstore dMod_valueOf_3 (Nat.le_of_ble_eq_true rfl) ?_
  refine z_aload_n dMod_valueOf_5 rfl ?_
  refine z_astore dMod_valueOf_6 (Nat.le_of_ble_eq_true rfl) ?_
  refine z_aload dMod_valueOf_8 rfl ?_
  refine z_alenI dMod_valueOf_10 (by assumption) ?_
  refine z_istore dMod_valueOf_11 (Nat.le_of_ble_eq_true rfl) ?_
  refine z_iconst dMod_valueOf_13 ?_
  refine z_istore dMod_valueOf_14 (Nat.le_of_ble_eq_true rfl) ?_
  refine l_Mod_valueOf hr hx (fun p8 y8 y9 => ?_) (L.length + 1) 0 _ (by omega) (by omega)
  refine z_lload dMod_valueOf_59 rfl ?_
  refine z_l2i dMod_valueOf_61 ?_
  refine z_iret rfl rfl dMod_valueOf_62 ?_
  exact ⟨by rw [zVs_hr], rfl⟩
theorem k_Mod_value {p x : Int} (H : zMod G h ma S th) (z_p : zI32 p) (z_x : zI32 x)  : zM G l hMod_value yMod_value 4 [.ref (ma 0), zi p, zi x] h (zQm G ma h (1) (2) (3) (sp_value S p x)) zNo 0 0 := by
  obtain ⟨m1, m2, ⟨g, m3, m3a⟩, m4, ⟨f6, m5, m5a⟩, m6, m7⟩ := id H
  unfold zMfs at m2
  refine zM.of [some (.ref (ma 0)), some (zi p), some (zi x)] (by decide +kernel) rfl (by decide) rfl (Nat.le_of_ble_eq_true rfl) rfl ?_
  refine z_aload_n dMod_value_0 rfl ?_
  refine z_iload_n dMod_value_1 rfl ?_
  refine z_callS MS_Mod_isNo lk_Mod_81 dMod_value_2 (k_Mod_isNo (by omega)) rfl rfl (Nat.le_of_ble_eq_true rfl)  (Nat.le_of_ble_eq_true rfl) (Nat.le_of_ble_eq_true rfl) (Nat.le_of_eq (Nat.zero_add _)) (Nat.le_of_eq (Nat.zero_add _)) (fun _ _ q => q.elim) ?_
  rintro _ _ ⟨n9, rfl, hn9, rfl⟩
  refine z_iload_n dMod_value_5 rfl ?_
  refine z_bipush dMod_value_6 rfl ?_
  refine z_bipush dMod_value_8 rfl ?_
  refine z_callS MS_Mod_isOut lk_Mod_41 dMod_value_10 (k_Mod_isOut (by omega) (by omega) (by omega)) rfl rfl (Nat.le_of_ble_eq_true rfl)  (Nat.le_of_ble_eq_true rfl) (Nat.le_of_ble_eq_true rfl) (Nat.le_of_eq (Nat.zero_add _)) (Nat.le_of_eq (Nat.zero_add _)) (fun _ _ q => q.elim) ?_
  rintro _ _ ⟨o9, rfl, ho9, rfl⟩
  refine z_iconst dMod_value_13 ?_
  refine z_callV MV_Mod_fails lk_Mod_88 dMod_value_14 (k_Mod_fails (by assumption) rfl (by omega) (by omega) (by omega)) rfl rfl (Nat.le_of_ble_eq_true rfl) rfl (by assumption) (Nat.le_of_ble_eq_true rfl) (Nat.le_of_ble_eq_true rfl) (Nat.le_of_eq (Nat.zero_add _)) (Nat.le_of_eq (Nat.zero_add _)) (fun _ _ q => q.elim) ?_
  rintro _ h1 ⟨t9, b8, rfl, ht, p1, g1⟩
  have H1 : zMod G h1 ma S t9 := H.obj (nu := S.2.2.2.2) (th' := t9) p1 g1
  have fz1 : zMfr ma h h1 := zMfr.of0 g1
  obtain ⟨-, n2, ⟨gg, n3, n3a⟩, n4, ⟨f61, n5, n5a⟩, n6, n7⟩ := id H1
  unfold zMfs at n2
  refine z_if_eq (tgt := 24) dMod_value_17 (by decide) (by omega) (fun c17 => ?_) (fun c17 => ?_)
  · obtain ⟨k, rfl⟩ := Int.eq_ofNat_of_zero_le (show 0 ≤ p by omega)
    obtain ⟨frk, rk1, rk2, rk3, rk4⟩ := id (n6 k (by omega))
    refine z_aload_n dMod_value_24 rfl ?_
    refine z_get (k := 0) fd_Mod (by decide) fl_Mod_11 dMod_value_25 (by assumption) (by rfl) ?_
    refine z_iload_n dMod_value_28 rfl ?_
    refine z_aald (t := 4) (ty := .array .int) rfl rfl dMod_value_29 n3 (by refine ⟨?_, ?_, ?_⟩ <;> omega) ?_
    rw [show (k : Int).toNat = k from rfl, n3a k (by omega)]
    refine z_iload_n dMod_value_30 rfl ?_
    refine z_callS MS_Mod_valueOf lk_Mod_176 dMod_value_31 (k_Mod_valueOf (n6 k (by omega)) (by omega)) rfl rfl (Nat.le_of_ble_eq_true rfl)  (Nat.le_of_ble_eq_true rfl) (Nat.le_of_ble_eq_true rfl) (Nat.le_of_eq (Nat.zero_add _)) (Nat.le_of_eq (Nat.zero_add _)) (fun _ _ q => q.elim) ?_
    rintro _ _ ⟨rfl, rfl⟩
    refine z_iret rfl rfl dMod_value_34 ?_
    rcases (show t9 = 0 ∨ t9 = 1 ∨ t9 = 2 ∨ t9 = 3 by omega) with t0 | t0 | t0 | t0
    all_goals first
      | (exfalso; omega)
      | exact zQm.ok H1 (by omega) (by assumption) (by unfold sp_value; (try unfold spPut); (try simp only [Int.toNat_natCast]); (repeat (first | rw [if_pos (by omega)] | rw [if_neg (by omega)] | rw [if_pos (by assumption)] | rw [if_neg (by assumption)] | rw [if_pos (True.intro : True)])); (try (first | rfl | (congr 2; omega) | (congr 1; congr 1; omega))); done)
      | exact zQm.b1 H1 (by omega) (by assumption) (by unfold sp_value; (try unfold spPut); (try simp only [Int.toNat_natCast]); (repeat (first | rw [if_pos (by omega)] | rw [if_neg (by omega)] | rw [if_pos (by assumption)] | rw [if_neg (by assumption)] | rw [if_pos (True.intro : True)])); (try (first | rfl | (congr 2; omega) | (congr 1; congr 1; omega))); done)
      | exact zQm.b2 H1 (by omega) (by assumption) (by unfold sp_value; (try unfold spPut); (try simp only [Int.toNat_natCast]); (repeat (first | rw [if_pos (by omega)] | rw [if_neg (by omega)] | rw [if_pos (by assumption)] | rw [if_neg (by assumption)] | rw [if_pos (True.intro : True)])); (try (first | rfl | (congr 2; omega) | (congr 1; congr 1; omega))); done)
      | exact zQm.b3 H1 (by omega) (by assumption) (by unfold sp_value; (try unfold spPut); (try simp only [Int.toNat_natCast]); (repeat (first | rw [if_pos (by omega)] | rw [if_neg (by omega)] | rw [if_pos (by assumption)] | rw [if_neg (by assumption)] | rw [if_pos (True.intro : True)])); (try (first | rfl | (congr 2; omega) | (congr 1; congr 1; omega))); done)
  · refine z_iconst dMod_value_20 ?_
    refine z_goto (tgt := 34) dMod_value_21 (by decide) ?_
    refine z_iret rfl rfl dMod_value_34 ?_
    rcases (show t9 = 0 ∨ t9 = 1 ∨ t9 = 2 ∨ t9 = 3 by omega) with t0 | t0 | t0 | t0
    all_goals first
      | (exfalso; omega)
      | exact zQm.ok H1 (by omega) (by assumption) (by unfold sp_value; (try unfold spPut); (try simp only [Int.toNat_natCast]); (repeat (first | rw [if_pos (by omega)] | rw [if_neg (by omega)] | rw [if_pos (by assumption)] | rw [if_neg (by assumption)] | rw [if_pos (True.intro : True)])); (try (first | rfl | (congr 2; omega) | (congr 1; congr 1; omega))); done)
      | exact zQm.b1 H1 (by omega) (by assumption) (by unfold sp_value; (try unfold spPut); (try simp only [Int.toNat_natCast]); (repeat (first | rw [if_pos (by omega)] | rw [if_neg (by omega)] | rw [if_pos (by assumption)] | rw [if_neg (by assumption)] | rw [if_pos (True.intro : True)])); (try (first | rfl | (congr 2; omega) | (congr 1; congr 1; omega))); done)
      | exact zQm.b2 H1 (by omega) (by assumption) (by unfold sp_value; (try unfold spPut); (try simp only [Int.toNat_natCast]); (repeat (first | rw [if_pos (by omega)] | rw [if_neg (by omega)] | rw [if_pos (by assumption)] | rw [if_neg (by assumption)] | rw [if_pos (True.intro : True)])); (try (first | rfl | (congr 2; omega) | (congr 1; congr 1; omega))); done)
      | exact zQm.b3 H1 (by omega) (by assumption) (by unfold sp_value; (try unfold spPut); (try simp only [Int.toNat_natCast]); (repeat (first | rw [if_pos (by omega)] | rw [if_neg (by omega)] | rw [if_pos (by assumption)] | rw [if_neg (by assumption)] | rw [if_pos (True.intro : True)])); (try (first | rfl | (congr 2; omega) | (congr 1; congr 1; omega))); done)
theorem k_Mod_ofCursorNow {c : Nat} {w : Int} (H : zMod G h ma S th) (hc : c < 3) (hw : 0 ≤ w ∧ w ≤ 5) (hO : zOk S) (h16 : ∀ k, k < 4 → (S.1 k).length ≤ 16) : zM G l hMod_ofCursorNow yMod_ofCursorNow 1 [.ref (ma 0), zi (c : Int), zi w] h (fun v h' => v = some (zi (zCuV S c w)) ∧ zExt h h') zNo 1 6 := by
  obtain ⟨m1, m2, ⟨g, m3, m3a⟩, m4, ⟨f6, m5, m5a⟩, m6, m7⟩ := id H
  unfold zMfs at m2
  obtain ⟨⟨v1, a1, b1⟩, ⟨v2, a2, b2⟩, ⟨v3, a3, b3⟩, ⟨v4, a4, b4⟩, ⟨v5, a5, b5⟩⟩ := id m4
  have b1c := b1 c hc
  refine zM.of [some (.ref (ma 0)), some (zi (c : Int)), some (zi w), none, none] (by decide +kernel) rfl (by decide) rfl (Nat.le_of_ble_eq_true rfl) rfl ?_
  refine z_aload_n dMod_ofCursorNow_0 rfl ?_
  refine z_get (k := 1) fd_Mod (by decide) fl_Mod_14 dMod_ofCursorNow_1 (by assumption) (by rfl) ?_
  refine z_iload_n dMod_ofCursorNow_4 rfl ?_
  refine z_zald dMod_ofCursorNow_5 (by assumption) (by refine ⟨?_, ?_, ?_⟩ <;> omega) ?_
  rw [Int.toNat_natCast]
  rw [b1c.1]
  refine z_if_ne (tgt := 11) dMod_ofCursorNow_6 (by decide) (by omega) (fun c6 => ?_) (fun c6 => ?_)
  · have hth : S.2.1 c 0 = 1 := by omega
    have b2c := (b2 c hc).1
    have e2 := (b2 c hc).2 hth
    have e3 := (b3 c hc).2 hth
    have e4 := (b4 c hc).2 hth
    have ok9 := hO.1 c hc hth
    obtain ⟨kk, ek⟩ := Int.eq_ofNat_of_zero_le ok9.1.1
    have hkk : kk < 4 := by omega
    have h16k := h16 kk hkk
    obtain ⟨frkk, rkk1, rkk2, rkk3, rkk4⟩ := id (m6 kk hkk)
    refine z_aload_n dMod_ofCursorNow_11 rfl ?_
    refine z_get (k := 0) fd_Mod (by decide) fl_Mod_11 dMod_ofCursorNow_12 (by assumption) (by rfl) ?_
    refine z_aload_n dMod_ofCursorNow_15 rfl ?_
    refine z_get (k := 3) fd_Mod (by decide) fl_Mod_21 dMod_ofCursorNow_16 (by assumption) (by rfl) ?_
    refine z_iload_n dMod_ofCursorNow_19 rfl ?_
    refine z_iald dMod_ofCursorNow_20 (by assumption) (by refine ⟨?_, ?_, ?_⟩ <;> omega) ?_
    rw [Int.toNat_natCast]
    rw [e3, ek]
    refine z_aald (t := 4) (ty := .array .int) rfl rfl dMod_ofCursorNow_21 m3 (by refine ⟨?_, ?_, ?_⟩ <;> omega) ?_
    rw [show (kk : Int).toNat = kk from rfl, m3a kk (by omega)]
    refine z_alenI dMod_ofCursorNow_22 (by assumption) ?_
    refine z_istore_n dMod_ofCursorNow_23 (Nat.le_of_ble_eq_true rfl) ?_
    refine z_aload_n dMod_ofCursorNow_24 rfl ?_
    refine z_get (k := 2) fd_Mod (by decide) fl_Mod_18 dMod_ofCursorNow_25 (by assumption) (by rfl) ?_
    refine z_iload_n dMod_ofCursorNow_28 rfl ?_
    refine z_zald dMod_ofCursorNow_29 (by assumption) (by refine ⟨?_, ?_, ?_⟩ <;> omega) ?_
    rw [Int.toNat_natCast]
    rw [e2]
    refine z_if_eq (tgt := 57) dMod_ofCursorNow_30 (by decide) (by omega) (fun c30 => ?_) (fun c30 => ?_)
    · refine z_bipush dMod_ofCursorNow_57 rfl ?_
      refine z_newI (n := 6) (bc' := 0) (bs' := 0) rfl dMod_ofCursorNow_59 (by decide) (by decide) (by decide) (fun qa h1 hqa gqa p1 F1 => ?_)
      have n0 : ma 0 ≠ qa := (H.nq hqa (i := 0) (by omega)).symm
      have n4 : ma 4 ≠ qa := (H.nq hqa (i := 4) (by omega)).symm
      have n5 : ma 5 ≠ qa := (H.nq hqa (i := 5) (by omega)).symm
      have m2 := (F1 _ n0).trans m2
      have a3 := (F1 _ n4).trans a3
      have a4 := (F1 _ n5).trans a4
      refine z_dup rfl dMod_ofCursorNow_61 ?_
      refine z_iconst dMod_ofCursorNow_62 ?_
      refine z_aload_n dMod_ofCursorNow_63 rfl ?_
      refine z_get (k := 3) fd_Mod (by decide) fl_Mod_21 dMod_ofCursorNow_64 (by assumption) (by rfl) ?_
      refine z_iload_n dMod_ofCursorNow_67 rfl ?_
      refine z_iald dMod_ofCursorNow_68 (by assumption) (by refine ⟨?_, ?_, ?_⟩ <;> omega) ?_
      rw [Int.toNat_natCast]
      rw [e3]
      refine z_iast dMod_ofCursorNow_69 (by assumption) (by refine ⟨?_, ?_, ?_⟩ <;> omega) ?_
      refine z_hx (fun h2 p2 g2 => ?_)
      have F2 : ∀ z, z ≠ qa → h2 z = h z := fun z hz => (g2 z hz).trans (F1 z hz)
      have m2 := (g2 _ n0).trans m2
      have a3 := (g2 _ n4).trans a3
      have a4 := (g2 _ n5).trans a4
      refine z_dup rfl dMod_ofCursorNow_70 ?_
      refine z_iconst dMod_ofCursorNow_71 ?_
      refine z_aload_n dMod_ofCursorNow_72 rfl ?_
      refine z_get (k := 4) fd_Mod (by decide) fl_Mod_25 dMod_ofCursorNow_73 (by assumption) (by rfl) ?_
      refine z_iload_n dMod_ofCursorNow_76 rfl ?_
      refine z_iald dMod_ofCursorNow_77 (by assumption) (by refine ⟨?_, ?_, ?_⟩ <;> omega) ?_
      rw [Int.toNat_natCast]
      rw [e4]
      refine z_iast dMod_ofCursorNow_78 (by assumption) (by refine ⟨?_, ?_, ?_⟩ <;> omega) ?_
      refine z_hx (fun h3 p3 g3 => ?_)
      have F3 : ∀ z, z ≠ qa → h3 z = h z := fun z hz => (g3 z hz).trans (F2 z hz)
      have m2 := (g3 _ n0).trans m2
      have a3 := (g3 _ n4).trans a3
      have a4 := (g3 _ n5).trans a4
      refine z_dup rfl dMod_ofCursorNow_79 ?_
      refine z_iconst dMod_ofCursorNow_80 ?_
      refine z_aload_n dMod_ofCursorNow_81 rfl ?_
      refine z_get (k := 4) fd_Mod (by decide) fl_Mod_25 dMod_ofCursorNow_82 (by assumption) (by rfl) ?_
      refine z_iload_n dMod_ofCursorNow_85 rfl ?_
      refine z_iald dMod_ofCursorNow_86 (by assumption) (by refine ⟨?_, ?_, ?_⟩ <;> omega) ?_
      rw [Int.toNat_natCast]
      rw [e4]
      refine z_iconst dMod_ofCursorNow_87 ?_
      refine z_isub dMod_ofCursorNow_88 ?_
      refine z_iast dMod_ofCursorNow_89 (by assumption) (by refine ⟨?_, ?_, ?_⟩ <;> omega) ?_
      refine z_hx (fun h4 p4 g4 => ?_)
      have F4 : ∀ z, z ≠ qa → h4 z = h z := fun z hz => (g4 z hz).trans (F3 z hz)
      have m2 := (g4 _ n0).trans m2
      have a3 := (g4 _ n4).trans a3
      have a4 := (g4 _ n5).trans a4
      refine z_dup rfl dMod_ofCursorNow_90 ?_
      refine z_iconst dMod_ofCursorNow_91 ?_
      refine z_aload_n dMod_ofCursorNow_92 rfl ?_
      refine z_get (k := 4) fd_Mod (by decide) fl_Mod_25 dMod_ofCursorNow_93 (by assumption) (by rfl) ?_
      refine z_iload_n dMod_ofCursorNow_96 rfl ?_
      refine z_iald dMod_ofCursorNow_97 (by assumption) (by refine ⟨?_, ?_, ?_⟩ <;> omega) ?_
      rw [Int.toNat_natCast]
      rw [e4]
      refine z_iload_n dMod_ofCursorNow_98 rfl ?_
      refine z_icmp_ge (tgt := 106) dMod_ofCursorNow_99 (by decide) (by omega) (by omega) (fun c99 => ?_) (fun c99 => ?_)
      · refine z_iconst dMod_ofCursorNow_106 ?_
        refine z_iast dMod_ofCursorNow_107 (by assumption) (by refine ⟨?_, ?_, ?_⟩ <;> omega) ?_
        refine z_hx (fun h5 p5 g5 => ?_)
        have F5 : ∀ z, z ≠ qa → h5 z = h z := fun z hz => (g5 z hz).trans (F4 z hz)
        have m2 := (g5 _ n0).trans m2
        have a3 := (g5 _ n4).trans a3
        have a4 := (g5 _ n5).trans a4
        refine z_dup rfl dMod_ofCursorNow_108 ?_
        refine z_iconst dMod_ofCursorNow_109 ?_
        refine z_aload_n dMod_ofCursorNow_110 rfl ?_
        refine z_get (k := 4) fd_Mod (by decide) fl_Mod_25 dMod_ofCursorNow_111 (by assumption) (by rfl) ?_
        refine z_iload_n dMod_ofCursorNow_114 rfl ?_
        refine z_iald dMod_ofCursorNow_115 (by assumption) (by refine ⟨?_, ?_, ?_⟩ <;> omega) ?_
        rw [Int.toNat_natCast]
        rw [e4]
        refine z_if_le (tgt := 123) dMod_ofCursorNow_116 (by decide) (by omega) (fun c116 => ?_) (fun c116 => ?_)
        · refine z_iconst dMod_ofCursorNow_123 ?_
          refine z_iast dMod_ofCursorNow_124 (by assumption) (by refine ⟨?_, ?_, ?_⟩ <;> omega) ?_
          refine z_hx (fun h6 p6 g6 => ?_)
          have F6 : ∀ z, z ≠ qa → h6 z = h z := fun z hz => (g6 z hz).trans (F5 z hz)
          have m2 := (g6 _ n0).trans m2
          have a3 := (g6 _ n4).trans a3
          have a4 := (g6 _ n5).trans a4
          refine z_dup rfl dMod_ofCursorNow_125 ?_
          refine z_iconst dMod_ofCursorNow_126 ?_
          refine z_iconst dMod_ofCursorNow_127 ?_
          refine z_iast dMod_ofCursorNow_128 (by assumption) (by refine ⟨?_, ?_, ?_⟩ <;> omega) ?_
          refine z_hx (fun h7 p7 g7 => ?_)
          have F7 : ∀ z, z ≠ qa → h7 z = h z := fun z hz => (g7 z hz).trans (F6 z hz)
          have m2 := (g7 _ n0).trans m2
          have a3 := (g7 _ n4).trans a3
          have a4 := (g7 _ n5).trans a4
          refine z_astore dMod_ofCursorNow_129 (Nat.le_of_ble_eq_true rfl) ?_
          refine z_aload dMod_ofCursorNow_131 rfl ?_
          refine z_iload_n dMod_ofCursorNow_133 rfl ?_
          refine z_iald dMod_ofCursorNow_134 (by assumption) (by refine ⟨?_, ?_, ?_⟩ <;> omega) ?_
          refine z_iret rfl rfl dMod_ofCursorNow_135 ?_
          first
            | exact ⟨congrArg (fun z => some (zi z)) (by unfold zCuV; rw [if_pos (by omega)]), zExt.rf⟩
            | exact ⟨congrArg (fun z => some (zi z)) (by unfold zCuV; rw [if_neg (by omega), if_pos (by omega)]), zExt.rf⟩
            | exact ⟨congrArg (fun z => some (zi z)) (by unfold zCuV; rw [if_neg (by omega), if_neg (by omega), if_pos (by omega)]; omega), zExt.rf⟩
            | exact ⟨congrArg (fun z => some (zi z)) (by unfold zCuV; rw [if_neg (by omega), if_neg (by omega), if_neg (by omega), if_pos (by omega)]), zExt.rf⟩
            | (refine ⟨congrArg (fun z => some (zi z)) ?_, zExt.new hqa F7⟩
               unfold zCuV zWv
               rw [ek, Int.toNat_natCast]
               rcases (show w = 0 ∨ w = 1 ∨ w = 2 ∨ w = 3 ∨ w = 4 ∨ w = 5 by omega) with rfl | rfl | rfl | rfl | rfl | rfl
               · (repeat (first | rw [if_pos (by omega)] | rw [if_neg (by omega)])); rfl
               · (repeat (first | rw [if_pos (by omega)] | rw [if_neg (by omega)])); rfl
               · (repeat (first | rw [if_pos (by omega)] | rw [if_neg (by omega)])); rfl
               · (repeat (first | rw [if_pos (by omega)] | rw [if_neg (by omega)])); rfl
               · (repeat (first | rw [if_pos (by omega)] | rw [if_neg (by omega)])); rfl
               · (repeat (first | rw [if_pos (by omega)] | rw [if_neg (by omega)])); exact (show (0 : Int) = _ by omega))
        · refine z_iconst dMod_ofCursorNow_119 ?_
          refine z_goto (tgt := 124) dMod_ofCursorNow_120 (by decide) ?_
          refine z_iast dMod_ofCursorNow_124 (by assumption) (by refine ⟨?_, ?_, ?_⟩ <;> omega) ?_
          refine z_hx (fun h6 p6 g6 => ?_)
          have F6 : ∀ z, z ≠ qa → h6 z = h z := fun z hz => (g6 z hz).trans (F5 z hz)
          have m2 := (g6 _ n0).trans m2
          have a3 := (g6 _ n4).trans a3
          have a4 := (g6 _ n5).trans a4
          refine z_dup rfl dMod_ofCursorNow_125 ?_
          refine z_iconst dMod_ofCursorNow_126 ?_
          refine z_iconst dMod_ofCursorNow_127 ?_
          refine z_iast dMod_ofCursorNow_128 (by assumption) (by refine ⟨?_, ?_, ?_⟩ <;> omega) ?_
          refine z_hx (fun h7 p7 g7 => ?_)
          have F7 : ∀ z, z ≠ qa → h7 z = h z := fun z hz => (g7 z hz).trans (F6 z hz)
          have m2 := (g7 _ n0).trans m2
          have a3 := (g7 _ n4).trans a3
          have a4 := (g7 _ n5).trans a4
          refine z_astore dMod_ofCursorNow_129 (Nat.le_of_ble_eq_true rfl) ?_
          refine z_aload dMod_ofCursorNow_131 rfl ?_
          refine z_iload_n dMod_ofCursorNow_133 rfl ?_
          refine z_iald dMod_ofCursorNow_134 (by assumption) (by refine ⟨?_, ?_, ?_⟩ <;> omega) ?_
          refine z_iret rfl rfl dMod_ofCursorNow_135 ?_
          first
            | exact ⟨congrArg (fun z => some (zi z)) (by unfold zCuV; rw [if_pos (by omega)]), zExt.rf⟩
            | exact ⟨congrArg (fun z => some (zi z)) (by unfold zCuV; rw [if_neg (by omega), if_pos (by omega)]), zExt.rf⟩
            | exact ⟨congrArg (fun z => some (zi z)) (by unfold zCuV; rw [if_neg (by omega), if_neg (by omega), if_pos (by omega)]; omega), zExt.rf⟩
            | exact ⟨congrArg (fun z => some (zi z)) (by unfold zCuV; rw [if_neg (by omega), if_neg (by omega), if_neg (by omega), if_pos (by omega)]), zExt.rf⟩
            | (refine ⟨congrArg (fun z => some (zi z)) ?_, zExt.new hqa F7⟩
               unfold zCuV zWv
               rw [ek, Int.toNat_natCast]
               rcases (show w = 0 ∨ w = 1 ∨ w = 2 ∨ w = 3 ∨ w = 4 ∨ w = 5 by omega) with rfl | rfl | rfl | rfl | rfl | rfl
               · (repeat (first | rw [if_pos (by omega)] | rw [if_neg (by omega)])); rfl
               · (repeat (first | rw [if_pos (by omega)] | rw [if_neg (by omega)])); rfl
               · (repeat (first | rw [if_pos (by omega)] | rw [if_neg (by omega)])); rfl
               · (repeat (first | rw [if_pos (by omega)] | rw [if_neg (by omega)])); rfl
               · (repeat (first | rw [if_pos (by omega)] | rw [if_neg (by omega)])); rfl
               · (repeat (first | rw [if_pos (by omega)] | rw [if_neg (by omega)])); exact (show (0 : Int) = _ by omega))
      · refine z_iconst dMod_ofCursorNow_102 ?_
        refine z_goto (tgt := 107) dMod_ofCursorNow_103 (by decide) ?_
        refine z_iast dMod_ofCursorNow_107 (by assumption) (by refine ⟨?_, ?_, ?_⟩ <;> omega) ?_
        refine z_hx (fun h5 p5 g5 => ?_)
        have F5 : ∀ z, z ≠ qa → h5 z = h z := fun z hz => (g5 z hz).trans (F4 z hz)
        have m2 := (g5 _ n0).trans m2
        have a3 := (g5 _ n4).trans a3
        have a4 := (g5 _ n5).trans a4
        refine z_dup rfl dMod_ofCursorNow_108 ?_
        refine z_iconst dMod_ofCursorNow_109 ?_
        refine z_aload_n dMod_ofCursorNow_110 rfl ?_
        refine z_get (k := 4) fd_Mod (by decide) fl_Mod_25 dMod_ofCursorNow_111 (by assumption) (by rfl) ?_
        refine z_iload_n dMod_ofCursorNow_114 rfl ?_
        refine z_iald dMod_ofCursorNow_115 (by assumption) (by refine ⟨?_, ?_, ?_⟩ <;> omega) ?_
        rw [Int.toNat_natCast]
        rw [e4]
        refine z_if_le (tgt := 123) dMod_ofCursorNow_116 (by decide) (by omega) (fun c116 => ?_) (fun c116 => ?_)
        · refine z_iconst dMod_ofCursorNow_123 ?_
          refine z_iast dMod_ofCursorNow_124 (by assumption) (by refine ⟨?_, ?_, ?_⟩ <;> omega) ?_
          refine z_hx (fun h6 p6 g6 => ?_)
          have F6 : ∀ z, z ≠ qa → h6 z = h z := fun z hz => (g6 z hz).trans (F5 z hz)
          have m2 := (g6 _ n0).trans m2
          have a3 := (g6 _ n4).trans a3
          have a4 := (g6 _ n5).trans a4
          refine z_dup rfl dMod_ofCursorNow_125 ?_
          refine z_iconst dMod_ofCursorNow_126 ?_
          refine z_iconst dMod_ofCursorNow_127 ?_
          refine z_iast dMod_ofCursorNow_128 (by assumption) (by refine ⟨?_, ?_, ?_⟩ <;> omega) ?_
          refine z_hx (fun h7 p7 g7 => ?_)
          have F7 : ∀ z, z ≠ qa → h7 z = h z := fun z hz => (g7 z hz).trans (F6 z hz)
          have m2 := (g7 _ n0).trans m2
          have a3 := (g7 _ n4).trans a3
          have a4 := (g7 _ n5).trans a4
          refine z_astore dMod_ofCursorNow_129 (Nat.le_of_ble_eq_true rfl) ?_
          refine z_aload dMod_ofCursorNow_131 rfl ?_
          refine z_iload_n dMod_ofCursorNow_133 rfl ?_
          refine z_iald dMod_ofCursorNow_134 (by assumption) (by refine ⟨?_, ?_, ?_⟩ <;> omega) ?_
          refine z_iret rfl rfl dMod_ofCursorNow_135 ?_
          first
            | exact ⟨congrArg (fun z => some (zi z)) (by unfold zCuV; rw [if_pos (by omega)]), zExt.rf⟩
            | exact ⟨congrArg (fun z => some (zi z)) (by unfold zCuV; rw [if_neg (by omega), if_pos (by omega)]), zExt.rf⟩
            | exact ⟨congrArg (fun z => some (zi z)) (by unfold zCuV; rw [if_neg (by omega), if_neg (by omega), if_pos (by omega)]; omega), zExt.rf⟩
            | exact ⟨congrArg (fun z => some (zi z)) (by unfold zCuV; rw [if_neg (by omega), if_neg (by omega), if_neg (by omega), if_pos (by omega)]), zExt.rf⟩
            | (refine ⟨congrArg (fun z => some (zi z)) ?_, zExt.new hqa F7⟩
               unfold zCuV zWv
               rw [ek, Int.toNat_natCast]
               rcases (show w = 0 ∨ w = 1 ∨ w = 2 ∨ w = 3 ∨ w = 4 ∨ w = 5 by omega) with rfl | rfl | rfl | rfl | rfl | rfl
               · (repeat (first | rw [if_pos (by omega)] | rw [if_neg (by omega)])); rfl
               · (repeat (first | rw [if_pos (by omega)] | rw [if_neg (by omega)])); rfl
               · (repeat (first | rw [if_pos (by omega)] | rw [if_neg (by omega)])); rfl
               · (repeat (first | rw [if_pos (by omega)] | rw [if_neg (by omega)])); rfl
               · (repeat (first | rw [if_pos (by omega)] | rw [if_neg (by omega)])); rfl
               · (repeat (first | rw [if_pos (by omega)] | rw [if_neg (by omega)])); exact (show (0 : Int) = _ by omega))
        · refine z_iconst dMod_ofCursorNow_119 ?_
          refine z_goto (tgt := 124) dMod_ofCursorNow_120 (by decide) ?_
          refine z_iast dMod_ofCursorNow_124 (by assumption) (by refine ⟨?_, ?_, ?_⟩ <;> omega) ?_
          refine z_hx (fun h6 p6 g6 => ?_)
          have F6 : ∀ z, z ≠ qa → h6 z = h z := fun z hz => (g6 z hz).trans (F5 z hz)
          have m2 := (g6 _ n0).trans m2
          have a3 := (g6 _ n4).trans a3
          have a4 := (g6 _ n5).trans a4
          refine z_dup rfl dMod_ofCursorNow_125 ?_
          refine z_iconst dMod_ofCursorNow_126 ?_
          refine z_iconst dMod_ofCursorNow_127 ?_
          refine z_iast dMod_ofCursorNow_128 (by assumption) (by refine ⟨?_, ?_, ?_⟩ <;> omega) ?_
          refine z_hx (fun h7 p7 g7 => ?_)
          have F7 : ∀ z, z ≠ qa → h7 z = h z := fun z hz => (g7 z hz).trans (F6 z hz)
          have m2 := (g7 _ n0).trans m2
          have a3 := (g7 _ n4).trans a3
          have a4 := (g7 _ n5).trans a4
          refine z_astore dMod_ofCursorNow_129 (Nat.le_of_ble_eq_true rfl) ?_
          refine z_aload dMod_ofCursorNow_131 rfl ?_
          refine z_iload_n dMod_ofCursorNow_133 rfl ?_
          refine z_iald dMod_ofCursorNow_134 (by assumption) (by refine ⟨?_, ?_, ?_⟩ <;> omega) ?_
          refine z_iret rfl rfl dMod_ofCursorNow_135 ?_
          first
            | exact ⟨congrArg (fun z => some (zi z)) (by unfold zCuV; rw [if_pos (by omega)]), zExt.rf⟩
            | exact ⟨congrArg (fun z => some (zi z)) (by unfold zCuV; rw [if_neg (by omega), if_pos (by omega)]), zExt.rf⟩
            | exact ⟨congrArg (fun z => some (zi z)) (by unfold zCuV; rw [if_neg (by omega), if_neg (by omega), if_pos (by omega)]; omega), zExt.rf⟩
            | exact ⟨congrArg (fun z => some (zi z)) (by unfold zCuV; rw [if_neg (by omega), if_neg (by omega), if_neg (by omega), if_pos (by omega)]), zExt.rf⟩
            | (refine ⟨congrArg (fun z => some (zi z)) ?_, zExt.new hqa F7⟩
               unfold zCuV zWv
               rw [ek, Int.toNat_natCast]
               rcases (show w = 0 ∨ w = 1 ∨ w = 2 ∨ w = 3 ∨ w = 4 ∨ w = 5 by omega) with rfl | rfl | rfl | rfl | rfl | rfl
               · (repeat (first | rw [if_pos (by omega)] | rw [if_neg (by omega)])); rfl
               · (repeat (first | rw [if_pos (by omega)] | rw [if_neg (by omega)])); rfl
               · (repeat (first | rw [if_pos (by omega)] | rw [if_neg (by omega)])); rfl
               · (repeat (first | rw [if_pos (by omega)] | rw [if_neg (by omega)])); rfl
               · (repeat (first | rw [if_pos (by omega)] | rw [if_neg (by omega)])); rfl
               · (repeat (first | rw [if_pos (by omega)] | rw [if_neg (by omega)])); exact (show (0 : Int) = _ by omega))
    · refine z_iload_n dMod_ofCursorNow_33 rfl ?_
      refine z_if_ne (tgt := 46) dMod_ofCursorNow_34 (by decide) (by omega) (fun c34 => ?_) (fun c34 => ?_)
      · refine z_iload_n dMod_ofCursorNow_46 rfl ?_
        refine z_iconst dMod_ofCursorNow_47 ?_
        refine z_icmp_ne (tgt := 55) dMod_ofCursorNow_48 (by decide) (by omega) (by omega) (fun c48 => ?_) (fun c48 => ?_)
        · refine z_iconst dMod_ofCursorNow_55 ?_
          refine z_iret rfl rfl dMod_ofCursorNow_56 ?_
          first
            | exact ⟨congrArg (fun z => some (zi z)) (by unfold zCuV; rw [if_pos (by omega)]), zExt.rf⟩
            | exact ⟨congrArg (fun z => some (zi z)) (by unfold zCuV; rw [if_neg (by omega), if_pos (by omega)]), zExt.rf⟩
            | exact ⟨congrArg (fun z => some (zi z)) (by unfold zCuV; rw [if_neg (by omega), if_neg (by omega), if_pos (by omega)]; omega), zExt.rf⟩
            | exact ⟨congrArg (fun z => some (zi z)) (by unfold zCuV; rw [if_neg (by omega), if_neg (by omega), if_neg (by omega), if_pos (by omega)]), zExt.rf⟩
            | (refine ⟨congrArg (fun z => some (zi z)) ?_, zExt.new hqa F7⟩
               unfold zCuV zWv
               rw [ek, Int.toNat_natCast]
               rcases (show w = 0 ∨ w = 1 ∨ w = 2 ∨ w = 3 ∨ w = 4 ∨ w = 5 by omega) with rfl | rfl | rfl | rfl | rfl | rfl
               · (repeat (first | rw [if_pos (by omega)] | rw [if_neg (by omega)])); rfl
               · (repeat (first | rw [if_pos (by omega)] | rw [if_neg (by omega)])); rfl
               · (repeat (first | rw [if_pos (by omega)] | rw [if_neg (by omega)])); rfl
               · (repeat (first | rw [if_pos (by omega)] | rw [if_neg (by omega)])); rfl
               · (repeat (first | rw [if_pos (by omega)] | rw [if_neg (by omega)])); rfl
               · (repeat (first | rw [if_pos (by omega)] | rw [if_neg (by omega)])); exact (show (0 : Int) = _ by omega))
        · refine z_iconst dMod_ofCursorNow_51 ?_
          refine z_goto (tgt := 56) dMod_ofCursorNow_52 (by decide) ?_
          refine z_iret rfl rfl dMod_ofCursorNow_56 ?_
          first
            | exact ⟨congrArg (fun z => some (zi z)) (by unfold zCuV; rw [if_pos (by omega)]), zExt.rf⟩
            | exact ⟨congrArg (fun z => some (zi z)) (by unfold zCuV; rw [if_neg (by omega), if_pos (by omega)]), zExt.rf⟩
            | exact ⟨congrArg (fun z => some (zi z)) (by unfold zCuV; rw [if_neg (by omega), if_neg (by omega), if_pos (by omega)]; omega), zExt.rf⟩
            | exact ⟨congrArg (fun z => some (zi z)) (by unfold zCuV; rw [if_neg (by omega), if_neg (by omega), if_neg (by omega), if_pos (by omega)]), zExt.rf⟩
            | (refine ⟨congrArg (fun z => some (zi z)) ?_, zExt.new hqa F7⟩
               unfold zCuV zWv
               rw [ek, Int.toNat_natCast]
               rcases (show w = 0 ∨ w = 1 ∨ w = 2 ∨ w = 3 ∨ w = 4 ∨ w = 5 by omega) with rfl | rfl | rfl | rfl | rfl | rfl
               · (repeat (first | rw [if_pos (by omega)] | rw [if_neg (by omega)])); rfl
               · (repeat (first | rw [if_pos (by omega)] | rw [if_neg (by omega)])); rfl
               · (repeat (first | rw [if_pos (by omega)] | rw [if_neg (by omega)])); rfl
               · (repeat (first | rw [if_pos (by omega)] | rw [if_neg (by omega)])); rfl
               · (repeat (first | rw [if_pos (by omega)] | rw [if_neg (by omega)])); rfl
               · (repeat (first | rw [if_pos (by omega)] | rw [if_neg (by omega)])); exact (show (0 : Int) = _ by omega))
      · refine z_aload_n dMod_ofCursorNow_37 rfl ?_
        refine z_get (k := 3) fd_Mod (by decide) fl_Mod_21 dMod_ofCursorNow_38 (by assumption) (by rfl) ?_
        refine z_iload_n dMod_ofCursorNow_41 rfl ?_
        refine z_iald dMod_ofCursorNow_42 (by assumption) (by refine ⟨?_, ?_, ?_⟩ <;> omega) ?_
        rw [Int.toNat_natCast]
        rw [e3]
        refine z_goto (tgt := 56) dMod_ofCursorNow_43 (by decide) ?_
        refine z_iret rfl rfl dMod_ofCursorNow_56 ?_
        first
          | exact ⟨congrArg (fun z => some (zi z)) (by unfold zCuV; rw [if_pos (by omega)]), zExt.rf⟩
          | exact ⟨congrArg (fun z => some (zi z)) (by unfold zCuV; rw [if_neg (by omega), if_pos (by omega)]), zExt.rf⟩
          | exact ⟨congrArg (fun z => some (zi z)) (by unfold zCuV; rw [if_neg (by omega), if_neg (by omega), if_pos (by omega)]; omega), zExt.rf⟩
          | exact ⟨congrArg (fun z => some (zi z)) (by unfold zCuV; rw [if_neg (by omega), if_neg (by omega), if_neg (by omega), if_pos (by omega)]), zExt.rf⟩
          | (refine ⟨congrArg (fun z => some (zi z)) ?_, zExt.new hqa F7⟩
             unfold zCuV zWv
             rw [ek, Int.toNat_natCast]
             rcases (show w = 0 ∨ w = 1 ∨ w = 2 ∨ w = 3 ∨ w = 4 ∨ w = 5 by omega) with rfl | rfl | rfl | rfl | rfl | rfl
             · (repeat (first | rw [if_pos (by omega)] | rw [if_neg (by omega)])); rfl
             · (repeat (first | rw [if_pos (by omega)] | rw [if_neg (by omega)])); rfl
             · (repeat (first | rw [if_pos (by omega)] | rw [if_neg (by omega)])); rfl
             · (repeat (first | rw [if_pos (by omega)] | rw [if_neg (by omega)])); rfl
             · (repeat (first | rw [if_pos (by omega)] | rw [if_neg (by omega)])); rfl
             · (repeat (first | rw [if_pos (by omega)] | rw [if_neg (by omega)])); exact (show (0 : Int) = _ by omega))
  · refine z_iconst dMod_ofCursorNow_9 ?_
    refine z_iret rfl rfl dMod_ofCursorNow_10 ?_
    first
      | exact ⟨congrArg (fun z => some (zi z)) (by unfold zCuV; rw [if_pos (by omega)]), zExt.rf⟩
      | exact ⟨congrArg (fun z => some (zi z)) (by unfold zCuV; rw [if_neg (by omega), if_pos (by omega)]), zExt.rf⟩
      | exact ⟨congrArg (fun z => some (zi z)) (by unfold zCuV; rw [if_neg (by omega), if_neg (by omega), if_pos (by omega)]; omega), zExt.rf⟩
      | exact ⟨congrArg (fun z => some (zi z)) (by unfold zCuV; rw [if_neg (by omega), if_neg (by omega), if_neg (by omega), if_pos (by omega)]), zExt.rf⟩
      | (refine ⟨congrArg (fun z => some (zi z)) ?_, zExt.new hqa F7⟩
         unfold zCuV zWv
         rw [ek, Int.toNat_natCast]
         rcases (show w = 0 ∨ w = 1 ∨ w = 2 ∨ w = 3 ∨ w = 4 ∨ w = 5 by omega) with rfl | rfl | rfl | rfl | rfl | rfl
         · (repeat (first | rw [if_pos (by omega)] | rw [if_neg (by omega)])); rfl
         · (repeat (first | rw [if_pos (by omega)] | rw [if_neg (by omega)])); rfl
         · (repeat (first | rw [if_pos (by omega)] | rw [if_neg (by omega)])); rfl
         · (repeat (first | rw [if_pos (by omega)] | rw [if_neg (by omega)])); rfl
         · (repeat (first | rw [if_pos (by omega)] | rw [if_neg (by omega)])); rfl
         · (repeat (first | rw [if_pos (by omega)] | rw [if_neg (by omega)])); exact (show (0 : Int) = _ by omega))
end MOD19
