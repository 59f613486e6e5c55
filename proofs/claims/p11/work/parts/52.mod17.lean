section MOD17
variable {G : zG} {l : Launch} {h h' h'' : zHp} {ma : Nat → Nat} {S : zSt} {th : Int}
theorem z_alenL {J : zJ} {bc bs pc a n : Nat} {f : Nat → Int} {ls : List (Option Value)} {st : List Value} (hd : decode J.1.2.1 pc = .ok (.arraylength, 1)) (hh : h a = some (zLongs G n f)) (kk : zR G l J bc bs h (pc + 1) ls (zi (n : Int) :: st)) : zR G l J bc bs h pc ls (.ref a :: st) := z_alen (i := 3) rfl hd hh kk
theorem z_newL {J : zJ} {bc bs pc : Nat} {n : Nat} {ls : List (Option Value)} {st : List Value} {bc' bs' : Nat} {m : Int} (hm : m = n) (hd : decode J.1.2.1 pc = .ok (.newarray .long, 2)) (hn : n ≤ 1000) (hb1 : bc' + 1 ≤ bc) (hb2 : bs' + n ≤ bs)
    (kk : ∀ (q : Nat) (h1 : zHp), zDm h q → G.2.2 ≤ q → h1 q = some (zLongs G n (fun _ => 0)) → (∀ x, x ≠ q → h1 x = h x) → zR G l J bc' bs' h1 (pc + 2) ls (.ref q :: st)) : zR G l J bc bs h pc ls (zi m :: st) := by
  subst hm
  refine z_newa (at9 := .long) (ty := .long) (t := 3) (x := .inr (.inl (fun _ => zL 0))) rfl trivial rfl ac_long (fun cA => by rw [vp_cell_l]; rfl) ⟨by omega, by rw [Int.toNat_natCast]; show n * 8 ≤ 536870912; omega, by omega⟩ hd hb1 (by rw [Int.toNat_natCast]; exact hb2) (fun q hq hg => ?_)
  rw [Int.toNat_natCast]
  exact kk q _ hq hg (zup_same _ _ _) (fun x hx => zup_ne hx)
def zSg (a b : Int) : Int := if b < a then 1 else if a = b then 0 else -1
theorem zSg_spec (a b : Int) : (zSg a b < 0 ↔ a < b) ∧ (0 < zSg a b ↔ b < a) ∧ -1 ≤ zSg a b ∧ zSg a b ≤ 1 := by
  unfold zSg
  split
  · omega
  · split <;> omega
abbrev zI64 (a : Int) : Prop := -9223372036854775808 ≤ a ∧ a ≤ 9223372036854775807
theorem z_lcmpI {J : zJ} {bc bs pc : Nat} {a b : Int} {ls : List (Option Value)} {st : List Value} (ha : zI64 a) (hb : zI64 b) (hd : decode J.1.2.1 pc = .ok (.lcmp, 1)) (k : zR G l J bc bs h (pc + 1) ls (zi (zSg a b) :: st)) : zR G l J bc bs h pc ls (zl b :: zl a :: st) := by
  refine z_lcmp hd ?_
  have e : lg_cmp (zL a) (zL b) = zI (zSg a b) := by
    unfold lg_cmp zSg
    by_cases c : b < a
    · rw [if_pos ((zL_lt hb ha).mpr c), if_pos c]; rfl
    · rw [if_neg (fun q => c ((zL_lt hb ha).mp q)), if_neg c]
      by_cases c2 : a = b
      · rw [if_pos ((zL_eq ha hb).mpr c2), if_pos c2]; rfl
      · rw [if_neg (fun q => c2 ((zL_eq ha hb).mp q)), if_neg c2]; rfl
  rw [e]
  exact k
theorem zmk_congr {n : Nat} {f g : Nat → Int} (e : ∀ j, j < n → f j = g j) : zmk n f = zmk n g := by
  apply zl_ext (by rw [zmk_len, zmk_len])
  intro j hj
  rw [zmk_len] at hj
  rw [zmk_at _ hj, zmk_at _ hj, e j hj]
theorem zAt_ge {L : List Int} {j : Nat} (h : L.length ≤ j) : zAt L (j : Int) = 0 := by
  unfold zAt
  rw [if_neg (by omega)]
theorem zAt_lt {L : List Int} {j : Nat} (h : j < L.length) : zAt L (j : Int) = L.getD j 0 := by
  unfold zAt
  rw [if_pos (by omega), Int.toNat_natCast]
theorem l_Mod_fitting {a n : Nat} {g g0 : Nat → Int} {q : Nat} (e : h a = some (zLongs G n g)) (hn : n ≤ 16) (hr : ∀ j, j < n → zI64 (g j) ∧ g j = g0 j) (hq : zDm h q) (gq : G.2.2 ≤ q) :
    ∀ (n9 m : Nat) (h1 : zHp) (f : Nat → Int), n - m < n9 → m ≤ n → h1 q = some (zInts G n f) → (∀ j, j < m → zIn (g0 j) ∧ f j = g0 j) → (∀ z, z ≠ q → h1 z = h z) →
      zR G l (zMJ G hMod_fitting 1 (fun v h' => (¬ (n ≤ 16 ∧ ∀ j : Nat, j < n → zIn (g0 j)) ∧ v = some .null ∧ zExt h h') ∨ ((n ≤ 16 ∧ ∀ j : Nat, j < n → zIn (g0 j)) ∧ ∃ q, v = some (.ref q) ∧ zDm h q ∧ G.2.2 ≤ q ∧ zAr G h' q (zmk n g0) ∧ zExt h h')) zNo 1 16) 0 0 h1 16 [some (.ref a), some (.ref q), some (zi (m : Int))] [] := by
  intro n9
  induction n9 with
  | zero => intro m h1 f x1 x2 e1 e2 hf; omega
  | succ n9 ih =>
  intro m h1 f x1 x2 e1 e2 hf
  have haq : a ≠ q := Nat.ne_of_lt (hq a _ e)
  have ea := (hf a haq).trans e
  refine z_iload_n dMod_fitting_16 rfl ?_
  refine z_aload_n dMod_fitting_17 rfl ?_
  refine z_alenI dMod_fitting_18 (by assumption) ?_
  refine z_icmp_ge (tgt := 57) dMod_fitting_19 (by decide) (by omega) (by omega) (fun c19 => ?_) (fun c19 => ?_)
  · refine z_aload_n dMod_fitting_57 rfl ?_
    refine z_aret rfl (Or.inr ⟨_, rfl⟩) (Or.inr ⟨_, rfl⟩) dMod_fitting_58 ?_
    have em : m = n := by omega
    subst em
    exact Or.inr ⟨⟨hn, fun j hj => (e2 j hj).1⟩, q, rfl, hq, gq, ⟨f, by rw [zmk_len]; exact e1, by rw [zmk_len]; omega, fun j hj => by rw [zmk_len] at hj; rw [zmk_at _ hj]; exact (e2 j hj).2, fun j hj => by rw [zmk_len] at hj; rw [zmk_at _ hj]; exact (e2 j hj).1⟩, zExt.new hq hf⟩
  · refine z_aload_n dMod_fitting_22 rfl ?_
    refine z_iload_n dMod_fitting_23 rfl ?_
    refine z_lald dMod_fitting_24 (by assumption) (by refine ⟨?_, ?_, ?_⟩ <;> omega) ?_
    rw [Int.toNat_natCast]
    refine z_ldc2 (v := (-9999 : Int64)) dMod_fitting_25 (-9999) (by decide) ct_Mod_158 ?_
    refine z_lcmpI (hr m (by omega)).1 (by omega) dMod_fitting_28 ?_
    have hs28 := zSg_spec (g m) (-9999)
    refine z_if_lt (tgt := 42) dMod_fitting_29 (by decide) (by omega) (fun c29 => ?_) (fun c29 => ?_)
    · refine z_null dMod_fitting_42 ?_
      refine z_aret rfl (Or.inr ⟨_, rfl⟩) (Or.inl rfl) dMod_fitting_43 ?_
      exact Or.inl ⟨fun c => by have c2 := c.2 m (by omega); have c3 := (hr m (by omega)).2; omega, rfl, zExt.new hq hf⟩
    · refine z_aload_n dMod_fitting_32 rfl ?_
      refine z_iload_n dMod_fitting_33 rfl ?_
      refine z_lald dMod_fitting_34 (by assumption) (by refine ⟨?_, ?_, ?_⟩ <;> omega) ?_
      rw [Int.toNat_natCast]
      refine z_ldc2 (v := (9999 : Int64)) dMod_fitting_35 (9999) (by decide) ct_Mod_160 ?_
      refine z_lcmpI (hr m (by omega)).1 (by omega) dMod_fitting_38 ?_
      have hs38 := zSg_spec (g m) 9999
      refine z_if_le (tgt := 44) dMod_fitting_39 (by decide) (by omega) (fun c39 => ?_) (fun c39 => ?_)
      · refine z_aload_n dMod_fitting_44 rfl ?_
        refine z_iload_n dMod_fitting_45 rfl ?_
        refine z_aload_n dMod_fitting_46 rfl ?_
        refine z_iload_n dMod_fitting_47 rfl ?_
        refine z_lald dMod_fitting_48 (by assumption) (by refine ⟨?_, ?_, ?_⟩ <;> omega) ?_
        rw [Int.toNat_natCast]
        refine z_l2i dMod_fitting_49 ?_
        refine z_iast dMod_fitting_50 (by assumption) (by refine ⟨?_, ?_, ?_⟩ <;> omega) ?_
        refine z_hx (fun h2 p2 f2 => ?_)
        rw [Int.toNat_natCast] at p2
        have hrm := (hr m (by omega)).2
        refine z_iinc dMod_fitting_51 rfl (Nat.le_of_ble_eq_true rfl) ?_
        refine z_goto (tgt := 16) dMod_fitting_54 (by decide) ?_
        refine ih (m + 1) h2 _ (by omega) (by omega) p2 (fun t ht => ?_) (fun z hz => (f2 z hz).trans (hf z hz))
        by_cases e9 : t = m
        · subst e9
          rw [zup_same]
          exact ⟨by omega, hrm⟩
        · rw [zup_ne e9]
          exact e2 t (by omega)
      · refine z_null dMod_fitting_42 ?_
        refine z_aret rfl (Or.inr ⟨_, rfl⟩) (Or.inl rfl) dMod_fitting_43 ?_
        exact Or.inl ⟨fun c => by have c2 := c.2 m (by omega); have c3 := (hr m (by omega)).2; omega, rfl, zExt.new hq hf⟩
theorem k_Mod_fitting {a n : Nat} {g g0 : Nat → Int} (e : h a = some (zLongs G n g)) (hn : n ≤ 99) (hr : ∀ j, j < n → zI64 (g j) ∧ g j = g0 j) : zM G l hMod_fitting yMod_fitting 1 [.ref a] h (fun v h' => (¬ (n ≤ 16 ∧ ∀ j : Nat, j < n → zIn (g0 j)) ∧ v = some .null ∧ zExt h h') ∨ ((n ≤ 16 ∧ ∀ j : Nat, j < n → zIn (g0 j)) ∧ ∃ q, v = some (.ref q) ∧ zDm h q ∧ G.2.2 ≤ q ∧ zAr G h' q (zmk n g0) ∧ zExt h h')) zNo 1 16 := by
  refine zM.of [some (.ref a), none, none] (by decide +kernel) rfl (by decide) rfl (Nat.le_of_ble_eq_true rfl) rfl ?_
  refine z_aload_n dMod_fitting_0 rfl ?_
  refine z_alenL dMod_fitting_1 e ?_
  refine z_bipush dMod_fitting_2 rfl ?_
  refine z_icmp_le (tgt := 9) dMod_fitting_4 (by decide) (by omega) (by omega) (fun c4 => ?_) (fun c4 => ?_)
  · refine z_aload_n dMod_fitting_9 rfl ?_
    refine z_alenL dMod_fitting_10 e ?_
    refine z_newI (n := n) (bc' := 0) (bs' := 0) rfl dMod_fitting_11 (by omega) (by decide) (by omega) (fun q h1 hq gq e1 f1 => ?_)
    refine z_astore_n dMod_fitting_13 (Nat.le_of_ble_eq_true rfl) ?_
    refine z_iconst dMod_fitting_14 ?_
    refine z_istore_n dMod_fitting_15 (Nat.le_of_ble_eq_true rfl) ?_
    exact l_Mod_fitting e (by omega) hr hq gq (n + 1) 0 h1 _ (by omega) (by omega) e1 (fun j hj => absurd hj (by omega)) f1
  · refine z_null dMod_fitting_7 ?_
    refine z_aret rfl (Or.inr ⟨_, rfl⟩) (Or.inl rfl) dMod_fitting_8 ?_
    exact Or.inl ⟨fun c => by omega, rfl, zExt.rf⟩
theorem k_Mod_fits {k a n : Nat} {g g0 : Nat → Int} (H : zMod G h ma S th) (hk : k < 4) (e : h a = some (zLongs G n g)) (hn : n ≤ 99) (hr : ∀ j, j < n → zI64 (g j) ∧ g j = g0 j) : zM G l hMod_fits yMod_fits 3 [.ref (ma 0), zi (k : Int), .ref a] h (fun v h' => zMfr ma h h' ∧ (((n ≤ 16 ∧ ∀ j : Nat, j < n → zIn (g0 j)) ∧ v = some (zi ((zmk n g0).length : Int)) ∧ ∃ q9, (zDm h q9 ∧ G.2.2 ≤ q9) ∧ zMod G h' (zup ma (8 + k) q9) (zsStale (zsL S k (zmk n g0)) k (-1)) th) ∨ (¬ (n ≤ 16 ∧ ∀ j : Nat, j < n → zIn (g0 j)) ∧ v = some (zi (-1000009)) ∧ zMod G h' ma (zsRef S) th))) zNo 1 16 := by
  obtain ⟨m1, m2, ⟨g, m3, m3a⟩, m4, ⟨f6, m5, m5a⟩, m6, m7⟩ := id H
  unfold zMfs at m2
  refine zM.of [some (.ref (ma 0)), some (zi (k : Int)), some (.ref a), none] (by decide +kernel) rfl (by decide) rfl (Nat.le_of_ble_eq_true rfl) rfl ?_
  refine z_aload_n dMod_fits_0 rfl ?_
  refine z_callS (bc' := 0) (bs' := 0) MS_Mod_fitting lk_Mod_162 dMod_fits_1 (k_Mod_fitting (g0 := g0) e hn hr) rfl rfl (Nat.le_of_ble_eq_true rfl)  (Nat.le_of_ble_eq_true rfl) (Nat.le_of_ble_eq_true rfl) (by decide) (by decide) (fun _ _ q => q.elim) ?_
  rintro _ h2 (⟨hno, rfl, hx2⟩ | ⟨hyes, q2, rfl, hq2, gq2, r2, hx2⟩)
  all_goals have H2 : zMod G h2 ma S th := H.ext hx2
  all_goals have oc2 := H2.2.1
  · refine z_astore_nN dMod_fits_4 (Nat.le_of_ble_eq_true rfl) ?_
    refine z_aload_nN dMod_fits_5 rfl ?_
    refine z_ifnonnullN dMod_fits_6 ?_
    refine z_aload_n dMod_fits_9 rfl ?_
    refine z_callV MV_Mod_refused lk_Mod_92 dMod_fits_10 (k_Mod_refused oc2 rfl rfl) rfl rfl (Nat.le_of_ble_eq_true rfl) rfl (by assumption) (Nat.le_of_ble_eq_true rfl) (Nat.le_of_ble_eq_true rfl) (Nat.le_of_eq (Nat.zero_add _)) (Nat.le_of_eq (Nat.zero_add _)) (fun _ _ q => q.elim) ?_
    rintro _ h3 ⟨rfl, p3, g3⟩
    have H3 : zMod G h3 ma (zsRef S) th := H2.obj (nu := zup S.2.2.2.2 1 (S.2.2.2.2 1 + 1)) p3 g3
    refine z_goto (tgt := 22) dMod_fits_13 (by decide) ?_
    refine z_iret rfl rfl dMod_fits_22 ?_
    exact ⟨(zMfr.ext hx2).tr (zMfr.of0 g3), Or.inr ⟨hno, rfl, H3⟩⟩
  · refine z_astore_n dMod_fits_4 (Nat.le_of_ble_eq_true rfl) ?_
    refine z_aload_n dMod_fits_5 rfl ?_
    refine z_ifnonnull (tgt := 16) dMod_fits_6 (by decide) ?_
    refine z_aload_n dMod_fits_16 rfl ?_
    refine z_iload_n dMod_fits_17 rfl ?_
    refine z_aload_n dMod_fits_18 rfl ?_
    refine z_callV MV_Mod_becomes lk_Mod_95 dMod_fits_19 (k_Mod_becomes H2 hk r2 (fun i hi _ => H.nq hq2 hi)) rfl rfl (Nat.le_of_ble_eq_true rfl) rfl (by assumption) (Nat.le_of_ble_eq_true rfl) (Nat.le_of_ble_eq_true rfl) (Nat.le_of_eq (Nat.zero_add _)) (Nat.le_of_eq (Nat.zero_add _)) (fun _ _ q => q.elim) ?_
    rintro _ h3 ⟨rfl, H3, F3⟩
    refine z_iret rfl rfl dMod_fits_22 ?_
    exact ⟨(zMfr.ext hx2).tr (zMfr.bec F3), Or.inl ⟨hyes, rfl, q2, ⟨hq2, gq2⟩, H3⟩⟩
theorem l_Mod_derive {mc ms bc bs : Nat} {Qn : Option Value → zHp → Prop} {Qx : String → zHp → Prop} {k q : Nat} (H : zMod G h ma S th) (hq : zDm h q) (hk : k < 4) (h16 : ∀ k, k < 4 → (S.1 k).length ≤ 16)
    (K : ∀ (h1 : zHp) (f : Nat → Int) y, h1 q = some (zLongs G ((S.1 k).length - 1) f) → (∀ j, j < (S.1 k).length - 1 → zI64 (f j) ∧ f j = (fun j => (S.1 k).getD (j + 1) 0 * ((j : Int) + 1)) j) → (∀ z, z ≠ q → h1 z = h z) → zR G l (zMJ G hMod_derive 4 Qn Qx mc ms) bc bs h1 74 [some (.ref (ma 0)), some (zi (k : Int)), some (.ref q), y] []) :
    ∀ (n m : Nat) (h1 : zHp) (f : Nat → Int), (S.1 k).length - 1 - m < n → m ≤ (S.1 k).length - 1 → h1 q = some (zLongs G ((S.1 k).length - 1) f) → (∀ j, j < m → zI64 (f j) ∧ f j = (fun j => (S.1 k).getD (j + 1) 0 * ((j : Int) + 1)) j) → (∀ z, z ≠ q → h1 z = h z) →
      zR G l (zMJ G hMod_derive 4 Qn Qx mc ms) bc bs h1 43 [some (.ref (ma 0)), some (zi (k : Int)), some (.ref q), some (zi (m : Int))] [] := by
  intro n
  induction n with
  | zero => intro m h1 f x1 x2 e1 e2 hf; omega
  | succ n ih =>
  intro m h1 f x1 x2 e1 e2 hf
  have H1 : zMod G h1 ma S th := H.keep hq hf
  obtain ⟨-, n2, ⟨gg, n3, n3a⟩, -, -, n6, -⟩ := id H1
  unfold zMfs at n2
  obtain ⟨frk, rk1, rk2, rk3, rk4⟩ := id (n6 k hk)
  have h16k := h16 k hk
  refine z_iload_n dMod_derive_43 rfl ?_
  refine z_aload_n dMod_derive_44 rfl ?_
  refine z_alenL dMod_derive_45 e1 ?_
  refine z_icmp_ge (tgt := 74) dMod_derive_46 (by decide) (by omega) (by omega) (fun c46 => ?_) (fun c46 => ?_)
  · have em : m = (S.1 k).length - 1 := by omega
    subst em
    exact K h1 f _ e1 e2 hf
  · have rk4m := rk4 (m + 1) (by omega)
    have hmul : (S.1 k).getD (m + 1) 0 * ((m : Int) + 1) ≤ 9999 * 16 ∧ -(9999 * 16) ≤ (S.1 k).getD (m + 1) 0 * ((m : Int) + 1) := by
      have p1 : (S.1 k).getD (m + 1) 0 * ((m : Int) + 1) ≤ 9999 * ((m : Int) + 1) := Int.mul_le_mul_of_nonneg_right (by omega) (by omega)
      have p2 : (-9999) * ((m : Int) + 1) ≤ (S.1 k).getD (m + 1) 0 * ((m : Int) + 1) := Int.mul_le_mul_of_nonneg_right (by omega) (by omega)
      omega
    refine z_aload_n dMod_derive_49 rfl ?_
    refine z_iload_n dMod_derive_50 rfl ?_
    refine z_aload_n dMod_derive_51 rfl ?_
    refine z_get (k := 0) fd_Mod (by decide) fl_Mod_11 dMod_derive_52 (by assumption) (by rfl) ?_
    refine z_iload_n dMod_derive_55 rfl ?_
    refine z_aald (t := 4) (ty := .array .int) rfl rfl dMod_derive_56 n3 (by refine ⟨?_, ?_, ?_⟩ <;> omega) ?_
    rw [show (k : Int).toNat = k from rfl, n3a k (by omega)]
    refine z_iload_n dMod_derive_57 rfl ?_
    refine z_iconst dMod_derive_58 ?_
    refine z_iadd dMod_derive_59 ?_
    refine z_iald dMod_derive_60 (by assumption) (by refine ⟨?_, ?_, ?_⟩ <;> omega) ?_
    rw [show ((m : Int) + 1).toNat = m + 1 by omega, rk3 (m + 1) (by omega)]
    refine z_i2l (by first | omega | omega) dMod_derive_61 ?_
    refine z_iload_n dMod_derive_62 rfl ?_
    refine z_iconst dMod_derive_63 ?_
    refine z_iadd dMod_derive_64 ?_
    refine z_i2l (by first | omega | omega) dMod_derive_65 ?_
    refine z_lmul dMod_derive_66 ?_
    refine z_last dMod_derive_67 (by assumption) (by refine ⟨?_, ?_, ?_⟩ <;> omega) ?_
    refine z_hx (fun h2 p2 f2 => ?_)
    rw [Int.toNat_natCast] at p2
    refine z_iinc dMod_derive_68 rfl (Nat.le_of_ble_eq_true rfl) ?_
    refine z_goto (tgt := 43) dMod_derive_71 (by decide) ?_
    refine ih (m + 1) h2 _ (by omega) (by omega) p2 (fun t ht => ?_) (fun z hz => (f2 z hz).trans (hf z hz))
    by_cases e9 : t = m
    · subst e9
      rw [zup_same]
      exact ⟨by omega, rfl⟩
    · rw [zup_ne e9]
      exact e2 t (by omega)
theorem k_Mod_derive {p : Int} (H : zMod G h ma S th) (z_p : zI32 p) (h16 : ∀ k, k < 4 → (S.1 k).length ≤ 16) : zM G l hMod_derive yMod_derive 4 [.ref (ma 0), zi p] h (zQm G ma h (1) (2) (3) (sp_derive S p)) zNo 2 31 := by
  obtain ⟨m1, m2, ⟨g, m3, m3a⟩, m4, ⟨f6, m5, m5a⟩, m6, m7⟩ := id H
  unfold zMfs at m2
  refine zM.of [some (.ref (ma 0)), some (zi p), none, none] (by decide +kernel) rfl (by decide) rfl (Nat.le_of_ble_eq_true rfl) rfl ?_
  refine z_aload_n dMod_derive_0 rfl ?_
  refine z_iload_n dMod_derive_1 rfl ?_
  refine z_callS MS_Mod_isNo lk_Mod_81 dMod_derive_2 (k_Mod_isNo (by omega)) rfl rfl (Nat.le_of_ble_eq_true rfl)  (Nat.le_of_ble_eq_true rfl) (Nat.le_of_ble_eq_true rfl) (Nat.le_of_eq (Nat.zero_add _)) (Nat.le_of_eq (Nat.zero_add _)) (fun _ _ q => q.elim) ?_
  rintro _ _ ⟨n9, rfl, hn9, rfl⟩
  refine z_iconst dMod_derive_5 ?_
  refine z_iconst dMod_derive_6 ?_
  refine z_callV MV_Mod_fails lk_Mod_88 dMod_derive_7 (k_Mod_fails (by assumption) rfl (by omega) (by omega) (by omega)) rfl rfl (Nat.le_of_ble_eq_true rfl) rfl (by assumption) (Nat.le_of_ble_eq_true rfl) (Nat.le_of_ble_eq_true rfl) (Nat.le_of_eq (Nat.zero_add _)) (Nat.le_of_eq (Nat.zero_add _)) (fun _ _ q => q.elim) ?_
  rintro _ h1 ⟨t9, b8, rfl, ht, p1, g1⟩
  have H1 : zMod G h1 ma S t9 := H.obj (nu := S.2.2.2.2) (th' := t9) p1 g1
  have fz1 : zMfr ma h h1 := zMfr.of0 g1
  obtain ⟨-, n2, ⟨gg, n3, n3a⟩, n4, ⟨f61, n5, n5a⟩, n6, n7⟩ := id H1
  unfold zMfs at n2
  refine z_if_eq (tgt := 15) dMod_derive_10 (by decide) (by omega) (fun c10 => ?_) (fun c10 => ?_)
  · obtain ⟨k, rfl⟩ := Int.eq_ofNat_of_zero_le (show 0 ≤ p by omega)
    obtain ⟨frk, rk1, rk2, rk3, rk4⟩ := id (n6 k (by omega))
    have h16k := h16 k (by omega)
    have ezk : ∀ i : Int, 0 ≤ i → i < ((S.1 k).length : Int) → frk i.toNat = zAt (S.1 k) i := fun i x1 x2 => by rw [rk3 _ (by omega), zAt_eq x1 x2]
    have hk : k < 4 := by omega
    have et9 : t9 = 0 := by omega
    subst et9
    refine z_aload_n dMod_derive_15 rfl ?_
    refine z_get (k := 0) fd_Mod (by decide) fl_Mod_11 dMod_derive_16 (by assumption) (by rfl) ?_
    refine z_iload_n dMod_derive_19 rfl ?_
    refine z_aald (t := 4) (ty := .array .int) rfl rfl dMod_derive_20 n3 (by refine ⟨?_, ?_, ?_⟩ <;> omega) ?_
    rw [show (k : Int).toNat = k from rfl, n3a k (by omega)]
    refine z_alenI dMod_derive_21 (by assumption) ?_
    refine z_if_ne (tgt := 29) dMod_derive_22 (by decide) (by omega) (fun c22 => ?_) (fun c22 => ?_)
    · refine z_aload_n dMod_derive_29 rfl ?_
      refine z_get (k := 0) fd_Mod (by decide) fl_Mod_11 dMod_derive_30 (by assumption) (by rfl) ?_
      refine z_iload_n dMod_derive_33 rfl ?_
      refine z_aald (t := 4) (ty := .array .int) rfl rfl dMod_derive_34 n3 (by refine ⟨?_, ?_, ?_⟩ <;> omega) ?_
      rw [show (k : Int).toNat = k from rfl, n3a k (by omega)]
      refine z_alenI dMod_derive_35 (by assumption) ?_
      refine z_iconst dMod_derive_36 ?_
      refine z_isub dMod_derive_37 ?_
      refine z_newL (n := (S.1 k).length - 1) (bc' := 1) (bs' := 16) (by omega) dMod_derive_38 (by omega) (by decide) (by omega) (fun q2 h2 hq2 gq2 e2 F2 => ?_)
      refine z_astore_n dMod_derive_40 (Nat.le_of_ble_eq_true rfl) ?_
      refine z_iconst dMod_derive_41 ?_
      refine z_istore_n dMod_derive_42 (Nat.le_of_ble_eq_true rfl) ?_
      refine l_Mod_derive (h := h1) H1 hq2 hk h16 (fun h3 f3 y e3 v3 F3 => ?_) ((S.1 k).length + 1) 0 h2 _ (by omega) (by omega) e2 (fun j hj => absurd hj (by omega)) F2
      have H3 : zMod G h3 ma S 0 := H1.keep hq2 F3
      have fz3 : zMfr ma h h3 := fz1.tr (zMfr.new hq2 F3)
      have oc3 := H3.2.1
      refine z_aload_n dMod_derive_74 rfl ?_
      refine z_iload_n dMod_derive_75 rfl ?_
      refine z_aload_n dMod_derive_76 rfl ?_
      refine z_callV (bc' := 0) (bs' := 0) MV_Mod_fits lk_Mod_166 dMod_derive_77 (k_Mod_fits H3 hk e3 (by omega) v3) rfl rfl (Nat.le_of_ble_eq_true rfl) rfl (by assumption) (Nat.le_of_ble_eq_true rfl) (Nat.le_of_ble_eq_true rfl) (by decide) (by decide) (fun _ _ q => q.elim) ?_
      rintro _ h9 ⟨fj, (⟨hfit, rfl, q9, hq9, H9⟩ | ⟨hfit, rfl, H9⟩)⟩
      all_goals have fz9 : zMfr ma h h9 := fz3.tr fj
      · refine z_iret rfl rfl dMod_derive_80 ?_
        exact zQm.okB H9 (Or.inr ⟨zDm.up hq9.1 H3 fz3, hq9.2⟩) rfl fz9 (by unfold sp_derive; rw [if_pos (by omega)]; simp only [Int.toNat_natCast]; exact if_pos hfit.2)
      · refine z_iret rfl rfl dMod_derive_80 ?_
        exact zQm.ok H9 rfl fz9 (by unfold sp_derive; rw [if_pos (by omega)]; simp only [Int.toNat_natCast]; exact if_neg (fun c => hfit ⟨by omega, c⟩))
    · refine z_iconst dMod_derive_25 ?_
      refine z_goto (tgt := 38) dMod_derive_26 (by decide) ?_
      refine z_newL (n := (S.1 k).length - 1) (bc' := 1) (bs' := 16) (by omega) dMod_derive_38 (by omega) (by decide) (by omega) (fun q2 h2 hq2 gq2 e2 F2 => ?_)
      refine z_astore_n dMod_derive_40 (Nat.le_of_ble_eq_true rfl) ?_
      refine z_iconst dMod_derive_41 ?_
      refine z_istore_n dMod_derive_42 (Nat.le_of_ble_eq_true rfl) ?_
      refine l_Mod_derive (h := h1) H1 hq2 hk h16 (fun h3 f3 y e3 v3 F3 => ?_) ((S.1 k).length + 1) 0 h2 _ (by omega) (by omega) e2 (fun j hj => absurd hj (by omega)) F2
      have H3 : zMod G h3 ma S 0 := H1.keep hq2 F3
      have fz3 : zMfr ma h h3 := fz1.tr (zMfr.new hq2 F3)
      have oc3 := H3.2.1
      refine z_aload_n dMod_derive_74 rfl ?_
      refine z_iload_n dMod_derive_75 rfl ?_
      refine z_aload_n dMod_derive_76 rfl ?_
      refine z_callV (bc' := 0) (bs' := 0) MV_Mod_fits lk_Mod_166 dMod_derive_77 (k_Mod_fits H3 hk e3 (by omega) v3) rfl rfl (Nat.le_of_ble_eq_true rfl) rfl (by assumption) (Nat.le_of_ble_eq_true rfl) (Nat.le_of_ble_eq_true rfl) (by decide) (by decide) (fun _ _ q => q.elim) ?_
      rintro _ h9 ⟨fj, (⟨hfit, rfl, q9, hq9, H9⟩ | ⟨hfit, rfl, H9⟩)⟩
      all_goals have fz9 : zMfr ma h h9 := fz3.tr fj
      · refine z_iret rfl rfl dMod_derive_80 ?_
        exact zQm.okB H9 (Or.inr ⟨zDm.up hq9.1 H3 fz3, hq9.2⟩) rfl fz9 (by unfold sp_derive; rw [if_pos (by omega)]; simp only [Int.toNat_natCast]; exact if_pos hfit.2)
      · refine z_iret rfl rfl dMod_derive_80 ?_
        exact zQm.ok H9 rfl fz9 (by unfold sp_derive; rw [if_pos (by omega)]; simp only [Int.toNat_natCast]; exact if_neg (fun c => hfit ⟨by omega, c⟩))
  · refine z_iconst dMod_derive_13 ?_
    refine z_iret rfl rfl dMod_derive_14 ?_
    rcases (show t9 = 0 ∨ t9 = 1 ∨ t9 = 2 ∨ t9 = 3 by omega) with t0 | t0 | t0 | t0
    all_goals first
      | (exfalso; omega)
      | exact zQm.ok H1 (by omega) (by assumption) (by unfold sp_derive; (try unfold spPut); (try simp only [Int.toNat_natCast]); (repeat (first | rw [if_pos (by omega)] | rw [if_neg (by omega)] | rw [if_pos (by assumption)] | rw [if_neg (by assumption)] | rw [if_pos (True.intro : True)])); (try (first | rfl | (congr 2; omega) | (congr 1; congr 1; omega))); done)
      | exact zQm.b1 H1 (by omega) (by assumption) (by unfold sp_derive; (try unfold spPut); (try simp only [Int.toNat_natCast]); (repeat (first | rw [if_pos (by omega)] | rw [if_neg (by omega)] | rw [if_pos (by assumption)] | rw [if_neg (by assumption)] | rw [if_pos (True.intro : True)])); (try (first | rfl | (congr 2; omega) | (congr 1; congr 1; omega))); done)
      | exact zQm.b2 H1 (by omega) (by assumption) (by unfold sp_derive; (try unfold spPut); (try simp only [Int.toNat_natCast]); (repeat (first | rw [if_pos (by omega)] | rw [if_neg (by omega)] | rw [if_pos (by assumption)] | rw [if_neg (by assumption)] | rw [if_pos (True.intro : True)])); (try (first | rfl | (congr 2; omega) | (congr 1; congr 1; omega))); done)
      | exact zQm.b3 H1 (by omega) (by assumption) (by unfold sp_derive; (try unfold spPut); (try simp only [Int.toNat_natCast]); (repeat (first | rw [if_pos (by omega)] | rw [if_neg (by omega)] | rw [if_pos (by assumption)] | rw [if_neg (by assumption)] | rw [if_pos (True.intro : True)])); (try (first | rfl | (congr 2; omega) | (congr 1; congr 1; omega))); done)
end MOD17
