section CLS17
variable {G : zG} {l : Launch} {h h' : zHp} {ad : Nat → Nat} {S : zSt}
def zIv (G : zG) (h h1 : zHp) (q1 lo m : Nat) (R A : Nat → Nat) (g : Nat → Option Nat) : Prop :=
  h1 q1 = some (zRefs G 5 4 g) ∧ (∀ k, k < m → g k = some (R k) ∧ lo < R k ∧ R k < A k ∧ G.2.2 ≤ R k ∧ zRow G h1 (R k) (A k) []) ∧ (∀ j k, j < k → k < m → A j < R k) ∧ ∀ x, x ≠ q1 → (∀ k, k < m → x ≠ R k ∧ x ≠ A k) → h1 x = h x
def zIv2 (G : zG) (h h1 : zHp) (q2 lo m : Nat) (C : Nat → Nat) (g : Nat → Option Nat) : Prop :=
  h1 q2 = some (zRefs G 6 3 g) ∧ (∀ k, k < m → g k = some (C k) ∧ lo < C k ∧ G.2.2 ≤ C k ∧ zCe h1 (C k) 0 0 0 0 (-1)) ∧ (∀ j k, j < k → k < m → C j < C k) ∧ ∀ x, x ≠ q2 → (∀ k, k < m → x ≠ C k) → h1 x = h x
theorem l_Cls_init1 {d mc ms bc bs : Nat} {Qn : Option Value → zHp → Prop} {Qx : String → zHp → Prop} {b q1 q2 q3 q4 lo : Nat} (hd : 3 ≤ d) (eb : h b = some (.inr (zkCls, [.ref q1, .ref q2, .ref q3, .ref q4, zi 0, zi 0]))) (nb : b ≠ q1) (lb : b ≤ lo) (nl : lo ≠ q1) (l1 : q1 ≤ lo) {el : va_E} (hlo : h lo = some el)
    (K : ∀ (h1 : zHp) R A g y, zIv G h h1 q1 lo 4 R A g → zR G l (zMJ G hCls_init d Qn Qx mc ms) 3 15 h1 68 [some (.ref b), y] []) :
    ∀ (n : Nat) (m : Nat) (h1 : zHp) (R A : Nat → Nat) (g : Nat → Option Nat), 4 - m < n → m ≤ 4 → zIv G h h1 q1 lo m R A g → zR G l (zMJ G hCls_init d Qn Qx mc ms) (3 + 2 * (4 - m)) (15 + 18 * (4 - m)) h1 44 [some (.ref b), some (zi (m : Int))] [] := by
  intro n
  induction n with
  | zero => intro m h1 R A g z1 z2 H; omega
  | succ n ih =>
  intro m h1 R A g z1 z2 H
  obtain ⟨i1, i2, i3, i4⟩ := id H
  have eb1 : h1 b = _ := (i4 b nb (fun k hk => by have := i2 k hk; omega)).trans eb
  have el1 := (i4 lo nl (fun k hk => by have := i2 k hk; omega)).trans hlo
  refine z_iload_n dCls_init_44 rfl ?_
  refine z_iconst dCls_init_45 ?_
  refine z_icmp_ge (tgt := 68) dCls_init_46 (by decide) (by omega) (by omega) (fun c46 => ?_) (fun c46 => ?_)
  · have em : m = 4 := by omega
    subst em
    exact K h1 R A g _ H
  · refine z_aload_n dCls_init_49 rfl ?_
    refine z_get (k := 0) fd_Cls (by decide) fl_Cls_11 dCls_init_50 (by assumption) (by rfl) ?_
    refine z_iload_n dCls_init_53 rfl ?_
    refine z_new (fs := [.null, zi 0]) (bc' := 3 + 2 * (4 - (m + 1)) + 1) (bs' := 15 + 18 * (4 - (m + 1)) + 16) fd_Row cl_Cls_9 im_Row in_Row (by intro j hj; match j, hj with | 0, _ => rfl | 1, _ => rfl) dCls_init_54 (by omega) (by omega) (fun q hq gq => ?_)
    refine z_hx (fun h2 p2 f2 => ?_)
    have n1 : q1 < q := hq q1 _ i1
    have n2 : lo < q := hq lo _ el1
    refine z_dup rfl dCls_init_57 ?_
    refine z_callIN MI_Row_init lk_Cls_28 dCls_init_58 (k_Row_init p2) rfl rfl (Nat.le_of_ble_eq_true rfl)  (by show _ + 1 ≤ d; omega) (by show _ * 64 + 64 ≤ d * 64; omega) (bc' := 3 + 2 * (4 - (m + 1))) (bs' := 15 + 18 * (4 - (m + 1))) (by omega) (by omega) (fun _ _ q => q.elim) ?_
    rintro _ h3 ⟨rfl, a, ha, ga, hr3, f3⟩
    have n3 : q < a := ha q _ p2
    have i13 := (f3 q1 (by omega) (by omega)).trans ((f2 q1 (by omega)).trans i1)
    obtain ⟨fr3, er3, -⟩ := id hr3
    refine z_aastO (t := 5) (C := "Cursorlist$Row") rfl rfl dCls_init_61 i13 er3 (by refine ⟨?_, ?_, ?_⟩ <;> omega) ?_
    refine z_hx (fun h4 p4 f4 => ?_)
    rw [show (m : Int).toNat = m by omega] at p4
    refine z_iinc dCls_init_62 rfl (Nat.le_of_ble_eq_true rfl) ?_
    refine z_goto (tgt := 44) dCls_init_65 (by decide) ?_
    refine ih (m + 1) h4 (zup R m q) (zup A m a) (zup g m (some q)) (by omega) (by omega) ⟨p4, fun k hk => ?_, fun j k hj hk => ?_, fun x x1 x2 => ?_⟩
    · by_cases e9 : k = m
      · subst e9
        rw [zup_same, zup_same, zup_same]
        exact ⟨rfl, n2, n3, gq, hr3.kept (f4 q (by omega)) (f4 a (by omega))⟩
      · rw [zup_ne e9, zup_ne e9, zup_ne e9]
        obtain ⟨j1, j2, j3, j4, j5⟩ := i2 k (by omega)
        obtain ⟨fk, ek, ek2, -⟩ := id j5
        have o1 := hq _ _ ek
        have o2 := hq _ _ ek2
        exact ⟨j1, j2, j3, j4, j5.kept ((f4 _ (by omega)).trans ((f3 _ (by omega) (by omega)).trans (f2 _ (by omega)))) ((f4 _ (by omega)).trans ((f3 _ (by omega) (by omega)).trans (f2 _ (by omega))))⟩
    · by_cases e9 : k = m
      · subst e9
        rw [zup_same, zup_ne (by omega)]
        obtain ⟨j1, j2, j3, j4, j5⟩ := i2 j (by omega)
        obtain ⟨fk, ek, ek2, -⟩ := id j5
        exact hq _ _ ek2
      · rw [zup_ne e9, zup_ne (by omega)]
        exact i3 j k hj (by omega)
    · have x3 := x2 m (by omega)
      rw [zup_same, zup_same] at x3
      refine (f4 x x1).trans ((f3 x x3.1 x3.2).trans ((f2 x x3.1).trans (i4 x x1 (fun k hk => ?_))))
      have x4 := x2 k (by omega)
      rw [zup_ne (by omega), zup_ne (by omega)] at x4
      exact x4
theorem l_Cls_init2 {d mc ms bc bs : Nat} {Qn : Option Value → zHp → Prop} {Qx : String → zHp → Prop} {b q1 q2 q3 q4 lo : Nat} (hd : 3 ≤ d) (eb : h b = some (.inr (zkCls, [.ref q1, .ref q2, .ref q3, .ref q4, zi 0, zi 0]))) (nb : b ≠ q2) (lb : b ≤ lo) (nl : lo ≠ q2) (l1 : q2 ≤ lo) {el : va_E} (hlo : h lo = some el)
    (K : ∀ (h1 : zHp) C g y, zIv2 G h h1 q2 lo 3 C g → zR G l (zMJ G hCls_init d Qn Qx mc ms) 0 0 h1 94 [some (.ref b), y] []) :
    ∀ (n : Nat) (m : Nat) (h1 : zHp) (C : Nat → Nat) (g : Nat → Option Nat), 3 - m < n → m ≤ 3 → zIv2 G h h1 q2 lo m C g → zR G l (zMJ G hCls_init d Qn Qx mc ms) (0 + 1 * (3 - m)) (0 + 5 * (3 - m)) h1 70 [some (.ref b), some (zi (m : Int))] [] := by
  intro n
  induction n with
  | zero => intro m h1 C g z1 z2 H; omega
  | succ n ih =>
  intro m h1 C g z1 z2 H
  obtain ⟨i1, i2, i3, i4⟩ := id H
  have eb1 : h1 b = _ := (i4 b nb (fun k hk => by have := i2 k hk; omega)).trans eb
  have el1 := (i4 lo nl (fun k hk => by have := i2 k hk; omega)).trans hlo
  refine z_iload_n dCls_init_70 rfl ?_
  refine z_iconst dCls_init_71 ?_
  refine z_icmp_ge (tgt := 94) dCls_init_72 (by decide) (by omega) (by omega) (fun c72 => ?_) (fun c72 => ?_)
  · have em : m = 3 := by omega
    subst em
    exact K h1 C g _ H
  · refine z_aload_n dCls_init_75 rfl ?_
    refine z_get (k := 1) fd_Cls (by decide) fl_Cls_17 dCls_init_76 (by assumption) (by rfl) ?_
    refine z_iload_n dCls_init_79 rfl ?_
    refine z_new (fs := [zi 0, zi 0, zi 0, zi 0, zi 0]) (bc' := 0 + 1 * (3 - (m + 1))) (bs' := 0 + 5 * (3 - (m + 1))) fd_Cur cl_Cls_15 im_Cur in_Cur (by intro j hj; match j, hj with | 0, _ => rfl | 1, _ => rfl | 2, _ => rfl | 3, _ => rfl | 4, _ => rfl) dCls_init_80 (by omega) (by omega) (fun q hq gq => ?_)
    refine z_hx (fun h2 p2 f2 => ?_)
    have n1 : q2 < q := hq q2 _ i1
    have n2 : lo < q := hq lo _ el1
    refine z_dup rfl dCls_init_83 ?_
    refine z_callIN MI_Cur_init lk_Cls_33 dCls_init_84 (k_Cur_init p2) rfl rfl (Nat.le_of_ble_eq_true rfl)  (by show _ + 1 ≤ d; omega) (by show _ * 64 + 64 ≤ d * 64; omega) (Nat.le_of_eq (Nat.zero_add _)) (Nat.le_of_eq (Nat.zero_add _)) (fun _ _ q => q.elim) ?_
    rintro _ h3 ⟨rfl, er3, f3⟩
    have i13 := (f3 q2 (by omega)).trans ((f2 q2 (by omega)).trans i1)
    refine z_aastO (t := 6) (C := "Cursorlist$Cursor") rfl rfl dCls_init_87 i13 er3 (by refine ⟨?_, ?_, ?_⟩ <;> omega) ?_
    refine z_hx (fun h4 p4 f4 => ?_)
    rw [show (m : Int).toNat = m by omega] at p4
    refine z_iinc dCls_init_88 rfl (Nat.le_of_ble_eq_true rfl) ?_
    refine z_goto (tgt := 70) dCls_init_91 (by decide) ?_
    refine ih (m + 1) h4 (zup C m q) (zup g m (some q)) (by omega) (by omega) ⟨p4, fun k hk => ?_, fun j k hj hk => ?_, fun x x1 x2 => ?_⟩
    · by_cases e9 : k = m
      · subst e9
        rw [zup_same, zup_same]
        exact ⟨rfl, n2, gq, (f4 q (by omega)).trans er3⟩
      · rw [zup_ne e9, zup_ne e9]
        obtain ⟨j1, j2, j4, j5⟩ := i2 k (by omega)
        have o1 := hq _ _ j5
        exact ⟨j1, j2, j4, ((f4 _ (by omega)).trans ((f3 _ (by omega)).trans (f2 _ (by omega)))).trans j5⟩
    · by_cases e9 : k = m
      · subst e9
        rw [zup_same, zup_ne (by omega)]
        obtain ⟨j1, j2, j4, j5⟩ := i2 j (by omega)
        exact hq _ _ j5
      · rw [zup_ne e9, zup_ne (by omega)]
        exact i3 j k hj (by omega)
    · have x3 := x2 m (by omega)
      rw [zup_same] at x3
      refine (f4 x x1).trans ((f3 x x3).trans ((f2 x x3).trans (i4 x x1 (fun k hk => ?_))))
      have x4 := x2 k (by omega)
      rw [zup_ne (by omega)] at x4
      exact x4
end CLS17
