section CLS18
variable {G : zG} {l : Launch} {h h' : zHp} {ad : Nat → Nat} {S : zSt}
def zCh (b q1 q2 q3 y ya t q4 w : Nat) (R A C : Nat → Nat) : Nat → Nat
  | 0 => b
  | 1 => q1
  | 2 => q2
  | 3 => q3
  | 4 => y
  | 5 => ya
  | 6 => t
  | 7 => q4
  | 8 => w
  | 9 => R 0
  | 10 => A 0
  | 11 => R 1
  | 12 => A 1
  | 13 => R 2
  | 14 => A 2
  | 15 => R 3
  | 16 => A 3
  | 17 => C 0
  | 18 => C 1
  | _ => C 2
def zPo : Nat → Nat
  | 0 => 0
  | 1 => 1
  | 2 => 2
  | 3 => 3
  | 4 => 6
  | 5 => 17
  | 6 => 18
  | 7 => 19
  | 8 => 9
  | 9 => 10
  | 10 => 11
  | 11 => 12
  | 12 => 13
  | 13 => 14
  | 14 => 15
  | 15 => 16
  | 16 => 7
  | 17 => 8
  | 18 => 4
  | _ => 5
def zAdr (b q1 q2 q3 y ya t q4 w : Nat) (R A C : Nat → Nat) (i : Nat) : Nat := zCh b q1 q2 q3 y ya t q4 w R A C (zPo i)
def zS0 : zSt := (fun _ => [], fun _ => zCv 0 0 0 0 (-1), zPl9 8, [], fun _ => 0)
theorem zmono {f : Nat → Nat} {N : Nat} (H : ∀ r, r < N → f r < f (r + 1)) : ∀ s r, r < s → s ≤ N → f r < f s
  | 0, r, h1, _ => absurd h1 (by omega)
  | s + 1, r, h1, h2 => by
    have h3 := H s (by omega)
    by_cases e : r = s
    · rw [e]; exact h3
    · exact Nat.lt_trans (zmono H s r (by omega) (by omega)) h3
theorem zPo_in : ∀ i, i < 20 → zPo i < 20 := by decide
theorem zPo_inj : ∀ i, i < 20 → ∀ j, j < 20 → zPo i = zPo j → i = j := by decide
theorem zPo_1 : ∀ i, 0 < i → i < 20 → 1 ≤ zPo i := by
  have : ∀ i, i < 20 → 0 < i → 1 ≤ zPo i := by decide
  exact fun i a b => this i b a
theorem zCh_up {b q1 q2 q3 y ya t q4 w : Nat} {R A C : Nat → Nat} (o1 : b < q1) (o2 : q1 < q2) (o3 : q2 < q3) (o4 : q3 < y) (o5 : y < ya) (o6 : ya < t) (o7 : t < q4) (o8 : q4 < w) (o9 : w < R 0) (oR : ∀ k, k < 4 → R k < A k) (oA : ∀ j k, j < k → k < 4 → A j < R k) (oC : A 3 < C 0) (oCC : ∀ j k, j < k → k < 3 → C j < C k) : ∀ r, r < 19 → zCh b q1 q2 q3 y ya t q4 w R A C r < zCh b q1 q2 q3 y ya t q4 w R A C (r + 1) := fun r hr => match r, hr with
  | 0, _ => o1
  | 1, _ => o2
  | 2, _ => o3
  | 3, _ => o4
  | 4, _ => o5
  | 5, _ => o6
  | 6, _ => o7
  | 7, _ => o8
  | 8, _ => o9
  | 9, _ => oR 0 (by omega)
  | 10, _ => oA 0 1 (by omega) (by omega)
  | 11, _ => oR 1 (by omega)
  | 12, _ => oA 1 2 (by omega) (by omega)
  | 13, _ => oR 2 (by omega)
  | 14, _ => oA 2 3 (by omega) (by omega)
  | 15, _ => oR 3 (by omega)
  | 16, _ => oC
  | 17, _ => oCC 0 1 (by omega) (by omega)
  | 18, _ => oCC 1 2 (by omega) (by omega)
  | n + 19, hr => absurd hr (by omega)
theorem zCls_asm {b q1 q2 q3 y ya t q4 w : Nat} {R A C : Nat → Nat} (o1 : b < q1) (o2 : q1 < q2) (o3 : q2 < q3) (o4 : q3 < y) (o5 : y < ya) (o6 : ya < t) (o7 : t < q4) (o8 : q4 < w) (o9 : w < R 0) (oR : ∀ k, k < 4 → R k < A k) (oA : ∀ j k, j < k → k < 4 → A j < R k) (oC : A 3 < C 0) (oCC : ∀ j k, j < k → k < 3 → C j < C k) {g g2 : Nat → Option Nat} {T' : Nat → Int}
    (e0 : h b = some (.inr (zkCls, [.ref q1, .ref q2, .ref q3, .ref q4, zi 0, zi 0]))) (e1 : h q1 = some (zRefs G 5 4 g)) (gg : ∀ k, k < 4 → g k = some (R k)) (e2 : h q2 = some (zRefs G 6 3 g2)) (gg2 : ∀ k, k < 3 → g2 k = some (C k)) (e3 : h q3 = some (.inr (zkRec, [.ref y, .ref t, zi 0, zi 0, zi (-1)]))) (e4 : h t = some (zInts G 8 T')) (eT : ∀ k : Nat, k < 8 → T' k = 0) (ec : ∀ c, c < 3 → zCe h (C c) 0 0 0 0 (-1)) (er : ∀ k, k < 4 → zRow G h (R k) (A k) []) (e16 : zRow G h q4 w []) (e18 : zRow G h y ya (zPl9 8)) : zCls G h (zAdr b q1 q2 q3 y ya t q4 w R A C) zS0 := by
  have hup := zCh_up o1 o2 o3 o4 o5 o6 o7 o8 o9 oR oA oC oCC
  refine ⟨fun i j hi hj e => ?_, e0, ⟨g, e1, fun k hk => ?_⟩, ⟨g2, e2, fun c hc => ?_⟩, e3, ⟨T', e4, fun k hk => eT k hk⟩, fun c hc => ?_, fun k hk => ?_, ⟨[], e16⟩, e18⟩
  · have h1 := zPo_in i hi
    have h2 := zPo_in j hj
    have e9 : zCh b q1 q2 q3 y ya t q4 w R A C (zPo i) = zCh b q1 q2 q3 y ya t q4 w R A C (zPo j) := e
    by_cases c1 : zPo i < zPo j
    · have := zmono hup (zPo j) (zPo i) c1 (by omega)
      omega
    · by_cases c2 : zPo j < zPo i
      · have := zmono hup (zPo i) (zPo j) c2 (by omega)
        omega
      · exact zPo_inj i hi j hj (by omega)
  · rw [gg k hk]
    match k, hk with
    | 0, _ => rfl
    | 1, _ => rfl
    | 2, _ => rfl
    | 3, _ => rfl
  · rw [gg2 c hc]
    match c, hc with
    | 0, _ => rfl
    | 1, _ => rfl
    | 2, _ => rfl
  · have := ec c hc
    refine ⟨0, 0, 0, -1, ?_, Or.inl rfl, Or.inl rfl, by omega, by omega, by omega, fun q => absurd (show (0 : Int) = 1 from q) (by decide)⟩
    match c, hc with
    | 0, _ => exact this
    | 1, _ => exact this
    | 2, _ => exact this
  · have := er k hk
    match k, hk with
    | 0, _ => exact this
    | 1, _ => exact this
    | 2, _ => exact this
    | 3, _ => exact this
theorem k_Cls_init {b : Nat} (e : h b = some (.inr (zkCls, [.null, .null, .null, .null, zi 0, zi 0]))) : zM G l hCls_init yCls_init 7 [.ref b] h (fun v h' => v = none ∧ ∃ ad : Nat → Nat, ad 0 = b ∧ zCls G h' ad zS0 ∧ (∀ i, 0 < i → i < 20 → zDm h (ad i) ∧ G.2.2 ≤ ad i) ∧ ∀ q, (∀ i, i < 20 → q ≠ ad i) → h' q = h q) zNo 19 143 := by
  refine zM.of [some (.ref b), none] (by decide +kernel) rfl (by decide) rfl (Nat.le_of_ble_eq_true rfl) rfl ?_
  refine z_aload_n dCls_init_0 rfl ?_
  refine z_obj lk_Cls_1 ob_i ob_c dCls_init_1 (Nat.le_of_ble_eq_true rfl) (Nat.le_of_ble_eq_true rfl) (Nat.le_of_ble_eq_true rfl) ?_
  refine z_aload_n dCls_init_4 rfl ?_
  refine z_iconst dCls_init_5 ?_
  refine z_newq (t := 5) (C := "Cursorlist$Row") (bc' := 18) (bs' := 139) rfl (fun U H hS => hS.2.2.2.2.2.2.2.1) cl_Cls_9 (by decide) dCls_init_6 (by decide) (by decide) (fun q1 hq1 gq1 => ?_)
  refine z_hx (fun h1 p1 f1 => ?_)
  have o1 : b < q1 := hq1 b _ e
  have eb1 := (f1 b (by omega)).trans e
  refine z_putF (k := 0) fd_Cls (by decide) fl_Cls_11 rfl rfl rfl dCls_init_9 (by assumption) (by simp) rfl rfl ?_
  refine z_hx (fun h2 p2 f2 => ?_)
  refine z_aload_n dCls_init_12 rfl ?_
  refine z_iconst dCls_init_13 ?_
  refine z_newq (t := 6) (C := "Cursorlist$Cursor") (bc' := 17) (bs' := 136) rfl (fun U H hS => hS.2.2.2.2.2.2.2.2.1) cl_Cls_15 (by decide) dCls_init_14 (by decide) (by decide) (fun q2 hq2 gq2 => ?_)
  refine z_hx (fun h3 p3 f3 => ?_)
  have o2 : q1 < q2 := hq2 q1 _ ((f2 q1 (by omega)).trans p1)
  have eb3 := (f3 b (by omega)).trans p2
  refine z_putF (k := 1) fd_Cls (by decide) fl_Cls_17 rfl rfl rfl dCls_init_17 (by assumption) (by simp) rfl rfl ?_
  refine z_hx (fun h4 p4 f4 => ?_)
  refine z_aload_n dCls_init_20 rfl ?_
  refine z_new (fs := [.null, .null, zi 0, zi 0, zi 0]) (bc' := 16) (bs' := 131) fd_Rec cl_Cls_21 im_Rec in_Rec (by intro j hj; match j, hj with | 0, _ => rfl | 1, _ => rfl | 2, _ => rfl | 3, _ => rfl | 4, _ => rfl) dCls_init_21 (by omega) (by omega) (fun q3 hq3 gq3 => ?_)
  refine z_hx (fun h5 p5 f5 => ?_)
  have o3 : q2 < q3 := hq3 q2 _ ((f4 q2 (by omega)).trans p3)
  refine z_dup rfl dCls_init_24 ?_
  refine z_callIN MI_Rec_init lk_Cls_23 dCls_init_25 (k_Rec_init p5) rfl rfl (Nat.le_of_ble_eq_true rfl)  (Nat.le_of_ble_eq_true rfl) (Nat.le_of_ble_eq_true rfl) (bc' := 13) (bs' := 105) (by decide) (by decide) (fun _ _ q => q.elim) ?_
  rintro _ h6 ⟨rfl, y, ya, t, hy, gy, o5, o6, e6r, ⟨T9, e6t, eT⟩, hr6, f6⟩
  have o4 : q3 < y := hy q3 _ p5
  have eb6 := (f6 b (by omega) (by omega) (by omega) (by omega)).trans ((f5 b (by omega)).trans p4)
  refine z_putF (k := 2) fd_Cls (by decide) fl_Cls_24 rfl rfl rfl dCls_init_28 (by assumption) (by simp) rfl rfl ?_
  refine z_hx (fun h7 p7 f7 => ?_)
  refine z_aload_n dCls_init_31 rfl ?_
  refine z_new (fs := [.null, zi 0]) (bc' := 12) (bs' := 103) fd_Row cl_Cls_9 im_Row in_Row (by intro j hj; match j, hj with | 0, _ => rfl | 1, _ => rfl) dCls_init_32 (by omega) (by omega) (fun q4 hq4 gq4 => ?_)
  refine z_hx (fun h8 p8 f8 => ?_)
  have o7 : t < q4 := hq4 t _ ((f7 t (by omega)).trans e6t)
  refine z_dup rfl dCls_init_35 ?_
  refine z_callIN MI_Row_init lk_Cls_28 dCls_init_36 (k_Row_init p8) rfl rfl (Nat.le_of_ble_eq_true rfl)  (Nat.le_of_ble_eq_true rfl) (Nat.le_of_ble_eq_true rfl) (bc' := 11) (bs' := 87) (by decide) (by decide) (fun _ _ q => q.elim) ?_
  rintro _ h9 ⟨rfl, w, hw, gw, hr9, f9⟩
  have o8 : q4 < w := hw q4 _ p8
  have eb9 := (f9 b (by omega) (by omega)).trans ((f8 b (by omega)).trans p7)
  refine z_putF (k := 3) fd_Cls (by decide) fl_Cls_29 rfl rfl rfl dCls_init_39 (by assumption) (by simp) rfl rfl ?_
  refine z_hx (fun h10 p10 f10 => ?_)
  refine z_iconst dCls_init_42 ?_
  refine z_istore_n dCls_init_43 (Nat.le_of_ble_eq_true rfl) ?_
  have hr10 := hr9.kept (f10 q4 (by omega)) (f10 w (by omega))
  obtain ⟨fw, ew1, ew2, -⟩ := id hr10
  have F10 : ∀ x, x ≠ b → x < q4 → h10 x = h6 x := fun x x1 x2 => (f10 x x1).trans ((f9 x (by omega) (by omega)).trans ((f8 x (by omega)).trans (f7 x x1)))
  have F6 : ∀ x, x ≠ b → x < q3 → h10 x = h3 x := fun x x1 x2 => (F10 x x1 (by omega)).trans ((f6 x (by omega) (by omega) (by omega) (by omega)).trans ((f5 x (by omega)).trans (f4 x x1)))
  have p10' : h10 b = some (.inr (zkCls, [.ref q1, .ref q2, .ref q3, .ref q4, zi 0, zi 0])) := p10
  have c1 : h10 q1 = some (zRefs G 5 4 (fun _ => none)) := (F6 q1 (by omega) (by omega)).trans ((f3 q1 (by omega)).trans ((f2 q1 (by omega)).trans p1))
  have c2 : h10 q2 = some (zRefs G 6 3 (fun _ => none)) := (F6 q2 (by omega) (by omega)).trans p3
  refine l_Cls_init1 (bc := 0) (bs := 0) (h := h10) (lo := w) (by omega) p10' (by omega) (by omega) (by omega) (by omega) ew2 (fun h11 R A g yy H => ?_) 5 0 h10 (fun _ => 0) (fun _ => 0) (fun _ => none) (by omega) (by omega) ⟨c1, fun k hk => absurd hk (by omega), fun j k _ hk => absurd hk (by omega), fun _ _ _ => rfl⟩
  obtain ⟨i1, i2, i3, i4⟩ := id H
  have b0 := i2 0 (by omega)
  have b1 := i2 1 (by omega)
  have b2 := i2 2 (by omega)
  have b3 := i2 3 (by omega)
  have a01 := i3 0 1 (by omega) (by omega)
  have a12 := i3 1 2 (by omega) (by omega)
  have a23 := i3 2 3 (by omega) (by omega)
  have F11 : ∀ x, x ≠ q1 → x ≤ w → h11 x = h10 x := fun x x1 x2 => i4 x x1 (fun k hk => by have := i2 k hk; omega)
  refine z_iconst dCls_init_68 ?_
  refine z_istore_n dCls_init_69 (Nat.le_of_ble_eq_true rfl) ?_
  obtain ⟨fa, ea1, ea2, -⟩ := id b3.2.2.2.2
  refine l_Cls_init2 (bc := 0) (bs := 0) (h := h11) (lo := A 3) (by omega) ((F11 b (by omega) (by omega)).trans p10') (by omega) (by omega) (by omega) (by omega) ea2 (fun h12 C g2 yy2 H2 => ?_) 4 0 h11 (fun _ => 0) (fun _ => none) (by omega) (by omega) ⟨(F11 q2 (by omega) (by omega)).trans c2, fun k hk => absurd hk (by omega), fun j k _ hk => absurd hk (by omega), fun _ _ _ => rfl⟩
  refine z_vret rfl dCls_init_94 ?_
  obtain ⟨k1, k2, k3, k4⟩ := id H2
  have F12 : ∀ x, x ≠ q2 → x ≤ A 3 → h12 x = h11 x := fun x x1 x2 => k4 x x1 (fun k hk => by have := k2 k hk; omega)
  have d0 := k2 0 (by omega)
  have oRA : ∀ k, k < 4 → R k ≤ A 3 ∧ A k ≤ A 3 := fun k hk => by
    have := i2 k hk
    by_cases e9 : k = 3
    · subst e9; omega
    · have := i3 k 3 (by omega) (by omega); omega
  have hup := zCh_up (b := b) (q1 := q1) (q2 := q2) (q3 := q3) (y := y) (ya := ya) (t := t) (q4 := q4) (w := w) (R := R) (A := A) (C := C) o1 o2 o3 o4 o5 o6 o7 o8 b0.2.1 (fun k hk => (i2 k hk).2.2.1) i3 d0.2.1 k3
  refine ⟨rfl, zAdr b q1 q2 q3 y ya t q4 w R A C, rfl, ?_, fun i i1 i2 => ?_, fun x hx => ?_⟩
  · refine zCls_asm o1 o2 o3 o4 o5 o6 o7 o8 b0.2.1 (fun k hk => (i2 k hk).2.2.1) i3 d0.2.1 k3 (g := g) (g2 := g2) ?_ ?_ (fun k hk => (i2 k hk).1) k1 (fun k hk => (k2 k hk).1) ?_ ?_ eT (fun c hc => (k2 c hc).2.2.2) (fun k hk => ?_) ?_ ?_
    · exact (F12 b (by omega) (by omega)).trans ((F11 b (by omega) (by omega)).trans p10')
    · exact (F12 q1 (by omega) (by omega)).trans i1
    · exact (F12 q3 (by omega) (by omega)).trans ((F11 q3 (by omega) (by omega)).trans ((F10 q3 (by omega) (by omega)).trans e6r))
    · exact (F12 t (by omega) (by omega)).trans ((F11 t (by omega) (by omega)).trans ((F10 t (by omega) (by omega)).trans e6t))
    · have o := i2 k hk
      have o' := oRA k hk
      exact o.2.2.2.2.kept (F12 _ (by omega) (by omega)) (F12 _ (by omega) (by omega))
    · exact hr10.kept ((F12 q4 (by omega) (by omega)).trans (F11 q4 (by omega) (by omega))) ((F12 w (by omega) (by omega)).trans (F11 w (by omega) (by omega)))
    · exact hr6.kept ((F12 y (by omega) (by omega)).trans ((F11 y (by omega) (by omega)).trans (F10 y (by omega) (by omega)))) ((F12 ya (by omega) (by omega)).trans ((F11 ya (by omega) (by omega)).trans (F10 ya (by omega) (by omega))))
  · have z1 := zPo_1 i i1 i2
    have z2 := zPo_in i i2
    have z3 : q1 ≤ zAdr b q1 q2 q3 y ya t q4 w R A C i := by
      show zCh b q1 q2 q3 y ya t q4 w R A C 1 ≤ zCh b q1 q2 q3 y ya t q4 w R A C (zPo i)
      by_cases e9 : zPo i = 1
      · rw [e9]; exact Nat.le_refl _
      · exact Nat.le_of_lt (zmono hup (zPo i) 1 (by omega) (by omega))
    exact ⟨fun a9 e9 ha => Nat.lt_of_lt_of_le (hq1 a9 e9 ha) z3, Nat.le_trans gq1 z3⟩
  · have x0 : x ≠ b := hx 0 (by omega)
    have x1 : x ≠ q1 := hx 1 (by omega)
    have x2 : x ≠ q2 := hx 2 (by omega)
    have x3 : x ≠ q3 := hx 3 (by omega)
    have x4 : x ≠ t := hx 4 (by omega)
    have y0 : x ≠ C 0 := hx 5 (by omega)
    have y1 : x ≠ C 1 := hx 6 (by omega)
    have y2 : x ≠ C 2 := hx 7 (by omega)
    have r0 : x ≠ R 0 := hx 8 (by omega)
    have s0 : x ≠ A 0 := hx 9 (by omega)
    have r1 : x ≠ R 1 := hx 10 (by omega)
    have s1 : x ≠ A 1 := hx 11 (by omega)
    have r2 : x ≠ R 2 := hx 12 (by omega)
    have s2 : x ≠ A 2 := hx 13 (by omega)
    have r3 : x ≠ R 3 := hx 14 (by omega)
    have s3 : x ≠ A 3 := hx 15 (by omega)
    have x16 : x ≠ q4 := hx 16 (by omega)
    have x17 : x ≠ w := hx 17 (by omega)
    have x18 : x ≠ y := hx 18 (by omega)
    have x19 : x ≠ ya := hx 19 (by omega)
    refine (k4 x x2 (fun k hk => ?_)).trans ((i4 x x1 (fun k hk => ?_)).trans ?_)
    · match k, hk with
      | 0, _ => exact y0
      | 1, _ => exact y1
      | 2, _ => exact y2
    · match k, hk with
      | 0, _ => exact ⟨r0, s0⟩
      | 1, _ => exact ⟨r1, s1⟩
      | 2, _ => exact ⟨r2, s2⟩
      | 3, _ => exact ⟨r3, s3⟩
    · exact (f10 x x0).trans ((f9 x x16 x17).trans ((f8 x x16).trans ((f7 x x0).trans ((f6 x x3 x18 x19 x4).trans ((f5 x x3).trans ((f4 x x0).trans ((f3 x x2).trans ((f2 x x0).trans (f1 x x1)))))))))
end CLS18
