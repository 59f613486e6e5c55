section ROW4
variable {G : zG} {l : Launch} {h : zHp} {r a : Nat} {L : List Int} {p x : Int}
theorem k_Row_init (hr : h r = some (.inr (zkRow, [.null, zi 0]))) : zM G l hRow_init yRow_init 2 [.ref r] h (fun v h' => v = none ∧ ∃ a, (∀ b e, h b = some e → b < a) ∧ G.2.2 ≤ a ∧ zRow G h' r a [] ∧ ∀ q, q ≠ r → q ≠ a → h' q = h q) zNo 1 16 := by
  refine zM.of [some (.ref r)] (by decide +kernel) rfl (by decide) rfl (Nat.le_of_ble_eq_true rfl) rfl ?_
  refine z_aload_n dRow_init_0 rfl ?_
  refine z_obj lk_Row_3 ob_i ob_c dRow_init_1 (Nat.le_of_ble_eq_true rfl) (Nat.le_of_ble_eq_true rfl) (Nat.le_of_ble_eq_true rfl) ?_
  refine z_aload_n dRow_init_4 rfl ?_
  refine z_bipush dRow_init_5 rfl ?_
  refine z_newa (at9 := .int) (ty := .int) (bc' := 0) (bs' := 0) (t := 0) (x := .inl (fun _ => zI 0)) rfl trivial rfl ac_int (fun cA => by rw [vp_cell_i]; rfl) (by decide) dRow_init_7 (by decide) (by decide) (fun q hq hb => ?_)
  have e1 : zup h q (some (.inl (G.2.1 0, (16 : Int).toNat, .inl (fun _ => zI 0)))) r = some (.inr (zkRow, [.null, zi 0])) := (zup_ne (Nat.ne_of_lt (hq r _ hr))).trans hr
  refine z_putF (k := 0) fd_Row (by decide) fl_Row_9 rfl rfl rfl dRow_init_9 (by assumption) (by simp) rfl rfl ?_
  refine z_vret rfl dRow_init_12 ?_
  refine ⟨rfl, q, hq, hb, ⟨fun _ => 0, zup_same _ _ _, ?_, by simp, fun j hj => by simp at hj, fun j hj => by simp at hj⟩, fun q1 h1 h2 => (zup_ne h1).trans (zup_ne h2)⟩
  rw [zup_ne (Ne.symm (Nat.ne_of_lt (hq r _ hr))), zup_same]
  rfl
theorem l_Row_become {d mc ms bc bs : Nat} {Qn : Option Value → zHp → Prop} {Qx : String → zHp → Prop} {f2 : Nat → Int} {r2 a2 : Nat} {M : List Int} {c : Int} (hra : r ≠ a) (n1 : r2 ≠ r) (n2 : r2 ≠ a) (n3 : a2 ≠ r) (n4 : a2 ≠ a) (d1 : h r2 = some (.inr (zkRow, [.ref a2, zi (M.length : Int)]))) (d2 : h a2 = some (zInts G 16 f2)) (d3 : M.length ≤ 16) (d4 : ∀ j, j < M.length → f2 j = M.getD j 0)
    (K : ∀ (h1 : zHp) (f1 : Nat → Int) y, h1 r = some (.inr (zkRow, [.ref a, zi c])) → h1 a = some (zInts G 16 f1) → (∀ q, q ≠ a → h1 q = h q) → (∀ j, j < M.length → f1 j = M.getD j 0) → zR G l (zMJ G hRow_become d Qn Qx mc ms) bc bs h1 28 [some (.ref r), some (.ref r2), y] []) :
    ∀ (n : Nat) (m : Nat) (h1 : zHp) (f1 : Nat → Int), M.length - m < n → m ≤ M.length → h1 r = some (.inr (zkRow, [.ref a, zi c])) → h1 a = some (zInts G 16 f1) → (∀ q, q ≠ a → h1 q = h q) → (∀ j, j < m → f1 j = M.getD j 0) →
      zR G l (zMJ G hRow_become d Qn Qx mc ms) bc bs h1 2 [some (.ref r), some (.ref r2), some (zi (m : Int))] [] := by
  intro n
  induction n with
  | zero => intro m h1 f1 q1 q2 g1 g2 g3 g4; omega
  | succ n ih =>
  intro m h1 f1 q1 q2 g1 g2 g3 g4
  have d1 := (g3 r2 n2).trans d1
  have d2 := (g3 a2 n4).trans d2
  refine z_iload_n dRow_become_2 rfl ?_
  refine z_aload_n dRow_become_3 rfl ?_
  refine z_get (k := 1) fd_Row (by decide) fl_Row_15 dRow_become_4 d1 (by rfl) ?_
  refine z_icmp_ge (tgt := 28) dRow_become_7 (by decide) (by omega) (by omega) (fun c7 => ?_) (fun c7 => ?_)
  · exact K h1 f1 _ g1 g2 g3 (fun j hj => g4 j (by omega))
  · refine z_aload_n dRow_become_10 rfl ?_
    refine z_get (k := 0) fd_Row (by decide) fl_Row_9 dRow_become_11 g1 (by rfl) ?_
    refine z_iload_n dRow_become_14 rfl ?_
    refine z_aload_n dRow_become_15 rfl ?_
    refine z_get (k := 0) fd_Row (by decide) fl_Row_9 dRow_become_16 d1 (by rfl) ?_
    refine z_iload_n dRow_become_19 rfl ?_
    refine z_iald dRow_become_20 d2 (by refine ⟨?_, ?_, ?_⟩ <;> omega) ?_
    rw [show (m : Int).toNat = m by omega, d4 m (by omega)]
    refine z_iast dRow_become_21 g2 (by refine ⟨?_, ?_, ?_⟩ <;> omega) ?_
    rw [show (m : Int).toNat = m by omega]
    refine z_iinc dRow_become_22 rfl (Nat.le_of_ble_eq_true rfl) ?_
    refine z_goto (tgt := 2) dRow_become_25 (by decide) ?_
    refine ih (m + 1) _ _ (by omega) (by omega) ((zup_ne hra).trans g1) (zup_same _ _ _) (fun q hq => (zup_ne hq).trans (g3 q hq)) (fun j hj => ?_)
    by_cases e : j = m
    · rw [e, zup_same]
    · exact (zup_ne e).trans (g4 j (by omega))
theorem zRow.apart {G : zG} {h : zHp} {r a r2 a2 : Nat} {L M : List Int} (h1 : zRow G h r a L) (h2 : zRow G h r2 a2 M) : r2 ≠ a ∧ a2 ≠ r := by
  obtain ⟨f, e1, e2, -⟩ := h1
  obtain ⟨g, d1, d2, -⟩ := h2
  constructor
  · rintro rfl
    rw [e2] at d1
    cases d1
  · rintro rfl
    rw [e1] at d2
    cases d2
theorem k_Row_become {r2 a2 : Nat} {M : List Int} (hr : zRow G h r a L) (hm : zRow G h r2 a2 M) (n1 : r2 ≠ r) (n4 : a2 ≠ a) : zM G l hRow_become yRow_become 1 [.ref r, .ref r2] h (fun v h' => v = none ∧ zRow G h' r a M ∧ ∀ q, q ≠ r → q ≠ a → h' q = h q) zNo 0 0 := by
  obtain ⟨f, e1, e2, e3, e4, e5⟩ := id hr
  obtain ⟨f2, d1, d2, d3, d4, d5⟩ := id hm
  obtain ⟨n2, n3⟩ := hr.apart hm
  have hra := hr.ne
  refine zM.of [some (.ref r), some (.ref r2), none] (by decide +kernel) rfl (by decide) rfl (Nat.le_of_ble_eq_true rfl) rfl ?_
  refine z_iconst dRow_become_0 ?_
  refine z_istore_n dRow_become_1 (Nat.le_of_ble_eq_true rfl) ?_
  refine l_Row_become (h := h) hra n1 n2 n3 n4 d1 d2 d3 d4 (fun h1 f1 y g1 g2 g3 g4 => ?_) 17 0 h f (by omega) (by omega) e1 e2 (fun _ _ => rfl) (fun j hj => absurd hj (by omega))
  have d1 := (g3 r2 n2).trans d1
  refine z_aload_n dRow_become_28 rfl ?_
  refine z_aload_n dRow_become_29 rfl ?_
  refine z_get (k := 1) fd_Row (by decide) fl_Row_15 dRow_become_30 d1 (by rfl) ?_
  refine z_put (k := 1) fd_Row (by decide) fl_Row_15 rfl dRow_become_33 g1 (by simp) rfl rfl ?_
  refine z_vret rfl dRow_become_36 ?_
  exact ⟨rfl, ⟨f1, zup_same _ _ _, (zup_ne (Ne.symm hra)).trans g2, d3, g4, d5⟩, fun q h1 h2 => (zup_ne h1).trans (g3 q h2)⟩
theorem l_Row_becomeS {d mc ms bc bs : Nat} {Qn : Option Value → zHp → Prop} {Qx : String → zHp → Prop} (hra : r ≠ a) (hl : L.length ≤ 16)
    (K : ∀ (h1 : zHp) (f1 : Nat → Int) y, h1 r = some (.inr (zkRow, [.ref a, zi (L.length : Int)])) → h1 a = some (zInts G 16 f1) → (∀ q, q ≠ a → h1 q = h q) → (∀ j, j < L.length → f1 j = L.getD j 0) → zR G l (zMJ G hRow_become d Qn Qx mc ms) bc bs h1 28 [some (.ref r), some (.ref r), y] []) :
    ∀ (n : Nat) (m : Nat) (h1 : zHp) (f1 : Nat → Int), L.length - m < n → m ≤ L.length → h1 r = some (.inr (zkRow, [.ref a, zi (L.length : Int)])) → h1 a = some (zInts G 16 f1) → (∀ q, q ≠ a → h1 q = h q) → (∀ j, j < L.length → f1 j = L.getD j 0) →
      zR G l (zMJ G hRow_become d Qn Qx mc ms) bc bs h1 2 [some (.ref r), some (.ref r), some (zi (m : Int))] [] := by
  intro n
  induction n with
  | zero => intro m h1 f1 q1 q2 g1 g2 g3 g4; omega
  | succ n ih =>
  intro m h1 f1 q1 q2 g1 g2 g3 g4
  refine z_iload_n dRow_become_2 rfl ?_
  refine z_aload_n dRow_become_3 rfl ?_
  refine z_get (k := 1) fd_Row (by decide) fl_Row_15 dRow_become_4 (by assumption) (by rfl) ?_
  refine z_icmp_ge (tgt := 28) dRow_become_7 (by decide) (by omega) (by omega) (fun c7 => ?_) (fun c7 => ?_)
  · exact K h1 f1 _ g1 g2 g3 g4
  · refine z_aload_n dRow_become_10 rfl ?_
    refine z_get (k := 0) fd_Row (by decide) fl_Row_9 dRow_become_11 (by assumption) (by rfl) ?_
    refine z_iload_n dRow_become_14 rfl ?_
    refine z_aload_n dRow_become_15 rfl ?_
    refine z_get (k := 0) fd_Row (by decide) fl_Row_9 dRow_become_16 (by assumption) (by rfl) ?_
    refine z_iload_n dRow_become_19 rfl ?_
    refine z_iald dRow_become_20 g2 (by refine ⟨?_, ?_, ?_⟩ <;> omega) ?_
    rw [show (m : Int).toNat = m by omega, g4 m (by omega)]
    refine z_iast dRow_become_21 g2 (by refine ⟨?_, ?_, ?_⟩ <;> omega) ?_
    rw [show (m : Int).toNat = m by omega]
    refine z_iinc dRow_become_22 rfl (Nat.le_of_ble_eq_true rfl) ?_
    refine z_goto (tgt := 2) dRow_become_25 (by decide) ?_
    refine ih (m + 1) _ _ (by omega) (by omega) ((zup_ne hra).trans g1) (zup_same _ _ _) (fun q hq => (zup_ne hq).trans (g3 q hq)) (fun j hj => ?_)
    by_cases e : j = m
    · rw [e, zup_same]
    · exact (zup_ne e).trans (g4 j (by omega))
theorem k_Row_becomeS (hr : zRow G h r a L) : zM G l hRow_become yRow_become 1 [.ref r, .ref r] h (fun v h' => v = none ∧ zRow G h' r a L ∧ ∀ q, q ≠ r → q ≠ a → h' q = h q) zNo 0 0 := by
  obtain ⟨f, e1, e2, e3, e4, e5⟩ := id hr
  have hra := hr.ne
  refine zM.of [some (.ref r), some (.ref r), none] (by decide +kernel) rfl (by decide) rfl (Nat.le_of_ble_eq_true rfl) rfl ?_
  refine z_iconst dRow_become_0 ?_
  refine z_istore_n dRow_become_1 (Nat.le_of_ble_eq_true rfl) ?_
  refine l_Row_becomeS (h := h) hra e3 (fun h1 f1 y g1 g2 g3 g4 => ?_) 17 0 h f (by omega) (by omega) e1 e2 (fun _ _ => rfl) e4
  refine z_aload_n dRow_become_28 rfl ?_
  refine z_aload_n dRow_become_29 rfl ?_
  refine z_get (k := 1) fd_Row (by decide) fl_Row_15 dRow_become_30 (by assumption) (by rfl) ?_
  refine z_put (k := 1) fd_Row (by decide) fl_Row_15 rfl dRow_become_33 (by assumption) (by simp) rfl rfl ?_
  refine z_vret rfl dRow_become_36 ?_
  exact ⟨rfl, ⟨f1, zup_same _ _ _, (zup_ne (Ne.symm hra)).trans g2, e3, g4, e5⟩, fun q h1 h2 => (zup_ne h1).trans (g3 q h2)⟩
theorem zRow.cleared (hr : zRow G h r a L) : zRow G (zup h r (some (.inr (zkRow, [.ref a, zi 0])))) r a [] := by
  obtain ⟨f, e1, e2, e3, e4, e5⟩ := id hr
  exact ⟨f, zup_same _ _ _, (zup_ne (Ne.symm hr.ne)).trans e2, by simp, fun j hj => by simp at hj, fun j hj => by simp at hj⟩
def zPl9 (n : Nat) : List Int := zmk n (fun j => (j : Int))
theorem zPl9_len (n : Nat) : (zPl9 n).length = n := zmk_len _ _
theorem l_Row_becomePlaces {d mc ms bc bs : Nat} {Qn : Option Value → zHp → Prop} {Qx : String → zHp → Prop} {N : Nat} (hN : N ≤ 16) (hd : 4 ≤ d)
    (K : ∀ (h1 : zHp) y, zRow G h1 r a (zPl9 N) → (∀ q, q ≠ r → q ≠ a → h1 q = h q) → zR G l (zMJ G hRow_becomePlaces d Qn Qx mc ms) bc bs h1 24 [some (.ref r), some (zi (N : Int)), y] []) :
    ∀ (n : Nat) (m : Nat) (h1 : zHp), N - m < n → m ≤ N → zRow G h1 r a (zPl9 m) → (∀ q, q ≠ r → q ≠ a → h1 q = h q) →
      zR G l (zMJ G hRow_becomePlaces d Qn Qx mc ms) bc bs h1 7 [some (.ref r), some (zi (N : Int)), some (zi (m : Int))] [] := by
  intro n
  induction n with
  | zero => intro m h1 q1 q2 hr1 g2; omega
  | succ n ih =>
  intro m h1 q1 q2 hr1 g2
  obtain ⟨f, e1, e2, e3, e4, e5⟩ := id hr1
  refine z_iload_n dRow_becomePlaces_7 rfl ?_
  refine z_iload_n dRow_becomePlaces_8 rfl ?_
  refine z_icmp_ge (tgt := 24) dRow_becomePlaces_9 (by decide) (by omega) (by omega) (fun c9 => ?_) (fun c9 => ?_)
  · have em : m = N := by omega
    subst em
    exact K h1 _ hr1 g2
  · refine z_aload_n dRow_becomePlaces_12 rfl ?_
    refine z_iload_n dRow_becomePlaces_13 rfl ?_
    refine z_callV MV_Row_addBehind lk_Row_64 dRow_becomePlaces_14 (k_Row_addBehind hr1 (by omega)) rfl rfl (Nat.le_of_ble_eq_true rfl) rfl (by assumption) (by show 4 ≤ d; omega) (by show 3 * 64 + 64 ≤ d * 64; omega) (Nat.le_of_eq (Nat.zero_add _)) (Nat.le_of_eq (Nat.zero_add _)) (fun _ _ q => q.elim) ?_
    rintro _ h2 (⟨rfl, k1, k2, hr2, f2⟩ | ⟨rfl, k1, rfl⟩)
    rotate_left
    · exact absurd (show zIn (m : Int) ∧ (zPl9 m).length < 16 from ⟨by omega, by rw [zPl9_len]; omega⟩) k1
    rw [show zPl9 m ++ [(m : Int)] = zPl9 (m + 1) from (zmk_succ _ _).symm] at hr2
    refine z_pop rfl dRow_becomePlaces_17 ?_
    refine z_iinc dRow_becomePlaces_18 rfl (Nat.le_of_ble_eq_true rfl) ?_
    refine z_goto (tgt := 7) dRow_becomePlaces_21 (by decide) ?_
    exact ih (m + 1) h2 (by omega) (by omega) hr2 (fun q h3 h4 => (f2 q h3 h4).trans (g2 q h3 h4))
theorem k_Row_becomePlaces {N : Nat} (hr : zRow G h r a L) (hN : N ≤ 16) : zM G l hRow_becomePlaces yRow_becomePlaces 4 [.ref r, zi (N : Int)] h (fun v h' => v = none ∧ zRow G h' r a (zPl9 N) ∧ ∀ q, q ≠ r → q ≠ a → h' q = h q) zNo 0 0 := by
  obtain ⟨f, e1, e2, e3, e4, e5⟩ := id hr
  refine zM.of [some (.ref r), some (zi (N : Int)), none] (by decide +kernel) rfl (by decide) rfl (Nat.le_of_ble_eq_true rfl) rfl ?_
  refine z_aload_n dRow_becomePlaces_0 rfl ?_
  refine z_iconst dRow_becomePlaces_1 ?_
  refine z_put (k := 1) fd_Row (by decide) fl_Row_15 rfl dRow_becomePlaces_2 (by assumption) (by simp) rfl rfl ?_
  refine z_iconst dRow_becomePlaces_5 ?_
  refine z_istore_n dRow_becomePlaces_6 (Nat.le_of_ble_eq_true rfl) ?_
  refine l_Row_becomePlaces (h := h) hN (by omega) (fun h1 y hr1 f1 => ?_) 17 0 _ (by omega) (by omega) hr.cleared (fun q h1 h2 => zup_ne h1)
  refine z_vret rfl dRow_becomePlaces_24 ?_
  exact ⟨rfl, hr1, f1⟩
def zHr (L : List Int) (x : Int) : Nat → Int
  | 0 => 0
  | n + 1 => (zHr L x n * x + L.getD (L.length - 1 - n) 0) % 9973
theorem zHr_in (L : List Int) (x : Int) (n : Nat) : 0 ≤ zHr L x n ∧ zHr L x n < 9973 := by
  cases n with
  | zero => simp [zHr]
  | succ n => unfold zHr; omega
theorem zmul_in {u x : Int} (hu : 0 ≤ u ∧ u < 9973) (hx : -99 ≤ x ∧ x ≤ 99) : -987327 ≤ u * x ∧ u * x ≤ 987327 := by
  have h1 := Int.mul_le_mul_of_nonneg_left hx.2 hu.1
  have h2 := Int.mul_le_mul_of_nonneg_left hx.1 hu.1
  omega
theorem l_Row_restAt {d mc ms bc bs : Nat} {Qn : Option Value → zHp → Prop} {Qx : String → zHp → Prop} {f : Nat → Int} (e1 : h r = some (.inr (zkRow, [.ref a, zi (L.length : Int)]))) (e2 : h a = some (zInts G 16 f)) (e3 : L.length ≤ 16) (e4 : ∀ j, j < L.length → f j = L.getD j 0) (e5 : ∀ j, j < L.length → zIn (L.getD j 0)) (hx : -99 ≤ x ∧ x ≤ 99) (hd : 2 ≤ d)
    (K : ∀ y, zR G l (zMJ G hRow_restAt d Qn Qx mc ms) bc bs h 36 [some (.ref r), some (zi x), some (zi (zHr L x L.length)), y] []) :
    ∀ (n : Nat) (m : Nat), L.length - m < n → m ≤ L.length →
      zR G l (zMJ G hRow_restAt d Qn Qx mc ms) bc bs h 9 [some (.ref r), some (zi x), some (zi (zHr L x m)), some (zi ((L.length : Int) - 1 - m))] [] := by
  intro n
  induction n with
  | zero => intro m q1 q2; omega
  | succ n ih =>
  intro m q1 q2
  have hz := zHr_in L x m
  have hm := zmul_in hz hx
  refine z_iload_n dRow_restAt_9 rfl ?_
  refine z_if_lt (tgt := 36) dRow_restAt_10 (by decide) (by omega) (fun c10 => ?_) (fun c10 => ?_)
  · have em : m = L.length := by omega
    subst em
    exact K _
  · refine z_iload_n dRow_restAt_13 rfl ?_
    refine z_iload_n dRow_restAt_14 rfl ?_
    refine z_imul dRow_restAt_15 ?_
    refine z_aload_n dRow_restAt_16 rfl ?_
    refine z_get (k := 0) fd_Row (by decide) fl_Row_9 dRow_restAt_17 (by assumption) (by rfl) ?_
    refine z_iload_n dRow_restAt_20 rfl ?_
    refine z_iald dRow_restAt_21 e2 (by refine ⟨?_, ?_, ?_⟩ <;> omega) ?_
    rw [show ((L.length : Int) - 1 - (m : Int)).toNat = L.length - 1 - m by omega, e4 _ (by omega)]
    have hmi := e5 (L.length - 1 - m) (by omega)
    refine z_iadd dRow_restAt_22 ?_
    refine z_sipush dRow_restAt_23 rfl ?_
    refine z_callS MS_Mth_floorMod_7cf53 lk_Row_51 dRow_restAt_26 (k_Mth_floorMod (by omega) (by omega)) rfl rfl (Nat.le_of_ble_eq_true rfl) (by show 2 ≤ d; omega) (by show 1 * 64 + 64 ≤ d * 64; omega) (Nat.le_of_eq (Nat.zero_add _)) (Nat.le_of_eq (Nat.zero_add _)) (fun _ _ q => q.elim) ?_
    rintro _ _ ⟨rfl, rfl⟩
    refine z_istore_n dRow_restAt_29 (Nat.le_of_ble_eq_true rfl) ?_
    refine z_iinc dRow_restAt_30 rfl (Nat.le_of_ble_eq_true rfl) ?_
    refine z_goto (tgt := 9) dRow_restAt_33 (by decide) ?_
    have := ih (m + 1) (by omega) (by omega)
    rw [show (L.length : Int) - 1 - ((m + 1 : Nat) : Int) = (L.length : Int) - 1 - (m : Int) + -1 by omega] at this
    exact this
theorem k_Row_restAt (hr : zRow G h r a L) (hx : -99 ≤ x ∧ x ≤ 99) : zM G l hRow_restAt yRow_restAt 2 [.ref r, zi x] h (fun v h' => v = some (zi (zHr L x L.length)) ∧ h = h') zNo 0 0 := by
  obtain ⟨f, e1, e2, e3, e4, e5⟩ := id hr
  refine zM.of [some (.ref r), some (zi x), none, none] (by decide +kernel) rfl (by decide) rfl (Nat.le_of_ble_eq_true rfl) rfl ?_
  refine z_iconst dRow_restAt_0 ?_
  refine z_istore_n dRow_restAt_1 (Nat.le_of_ble_eq_true rfl) ?_
  refine z_aload_n dRow_restAt_2 rfl ?_
  refine z_get (k := 1) fd_Row (by decide) fl_Row_15 dRow_restAt_3 (by assumption) (by rfl) ?_
  refine z_iconst dRow_restAt_6 ?_
  refine z_isub dRow_restAt_7 ?_
  refine z_istore_n dRow_restAt_8 (Nat.le_of_ble_eq_true rfl) ?_
  have := l_Row_restAt (G := G) (l := l) (d := 2) (mc := 0) (ms := 0) (bc := 0) (bs := 0) (Qn := fun v h' => v = some (zi (zHr L x L.length)) ∧ h = h') (Qx := zNo) e1 e2 e3 e4 e5 hx (by omega) (fun y => ?_) 17 0 (by omega) (by omega)
  · rw [show (L.length : Int) - 1 - ((0 : Nat) : Int) = (L.length : Int) - 1 by omega] at this
    exact this
  · refine z_iload_n dRow_restAt_36 rfl ?_
    refine z_iret rfl rfl dRow_restAt_37 ?_
    exact ⟨rfl, rfl⟩
def zOrd (L : List Int) : Prop := L.length = 8 ∧ ∀ k : Nat, k < 8 → zFind L k 0 ≠ -1
theorem l_Row_isOrder {d mc ms bc bs : Nat} {Qn : Option Value → zHp → Prop} {Qx : String → zHp → Prop} (hr : zRow G h r a L) (hd : 2 ≤ d)
    (K1 : (∀ k : Nat, k < 8 → zFind L k 0 ≠ -1) → ∀ y, zR G l (zMJ G hRow_isOrder d Qn Qx mc ms) bc bs h 37 [some (.ref r), y] []) (K2 : ¬ (∀ k : Nat, k < 8 → zFind L k 0 ≠ -1) → ∀ y, zR G l (zMJ G hRow_isOrder d Qn Qx mc ms) bc bs h 29 [some (.ref r), y] []) :
    ∀ (n : Nat) (m : Nat), 8 - m < n → m ≤ 8 → (∀ k : Nat, k < m → zFind L k 0 ≠ -1) →
      zR G l (zMJ G hRow_isOrder d Qn Qx mc ms) bc bs h 13 [some (.ref r), some (zi (m : Int))] [] := by
  intro n
  induction n with
  | zero => intro m q1 q2 q3; omega
  | succ n ih =>
  intro m q1 q2 q3
  obtain ⟨f, e1, e2, e3, e4, e5⟩ := id hr
  have hz := zFind_in L m 0
  refine z_iload_n dRow_isOrder_13 rfl ?_
  refine z_bipush dRow_isOrder_14 rfl ?_
  refine z_icmp_ge (tgt := 37) dRow_isOrder_16 (by decide) (by omega) (by omega) (fun c16 => ?_) (fun c16 => ?_)
  · exact K1 (fun k hk => q3 k (by omega)) _
  · refine z_aload_n dRow_isOrder_19 rfl ?_
    refine z_iload_n dRow_isOrder_20 rfl ?_
    refine z_iconst dRow_isOrder_21 ?_
    refine z_callV MV_Row_placeOf lk_Row_78 dRow_isOrder_22 (k_Row_placeOf hr (by omega) (by omega)) rfl rfl (Nat.le_of_ble_eq_true rfl) rfl (by assumption) (by show 2 ≤ d; omega) (by show 1 * 64 + 64 ≤ d * 64; omega) (Nat.le_of_eq (Nat.zero_add _)) (Nat.le_of_eq (Nat.zero_add _)) (fun _ _ q => q.elim) ?_
    rintro _ _ ⟨rfl, rfl⟩
    refine z_iconst dRow_isOrder_25 ?_
    refine z_icmp_ne (tgt := 31) dRow_isOrder_26 (by decide) (by omega) (by omega) (fun c26 => ?_) (fun c26 => ?_)
    · refine z_iinc dRow_isOrder_31 rfl (Nat.le_of_ble_eq_true rfl) ?_
      refine z_goto (tgt := 13) dRow_isOrder_34 (by decide) ?_
      refine ih (m + 1) (by omega) (by omega) (fun k hk => ?_)
      rcases (show k < m ∨ k = m by omega) with e | e
      · exact q3 k e
      · rw [e]; exact c26
    · exact K2 (fun q => q m (by omega) c26) _
theorem k_Row_isOrder (hr : zRow G h r a L) : zM G l hRow_isOrder yRow_isOrder 2 [.ref r] h (fun v h' => ∃ b : Int, v = some (zi b) ∧ ((b = 1 ∧ (zOrd L)) ∨ (b = 0 ∧ ¬ (zOrd L))) ∧ h = h') zNo 0 0 := by
  obtain ⟨f, e1, e2, e3, e4, e5⟩ := id hr
  refine zM.of [some (.ref r), none] (by decide +kernel) rfl (by decide) rfl (Nat.le_of_ble_eq_true rfl) rfl ?_
  refine z_aload_n dRow_isOrder_0 rfl ?_
  refine z_get (k := 1) fd_Row (by decide) fl_Row_15 dRow_isOrder_1 (by assumption) (by rfl) ?_
  refine z_bipush dRow_isOrder_4 rfl ?_
  refine z_icmp_eq (tgt := 11) dRow_isOrder_6 (by decide) (by omega) (by omega) (fun c6 => ?_) (fun c6 => ?_)
  · refine z_iconst dRow_isOrder_11 ?_
    refine z_istore_n dRow_isOrder_12 (Nat.le_of_ble_eq_true rfl) ?_
    refine l_Row_isOrder hr (by omega) (fun hq y => ?_) (fun hq y => ?_) 9 0 (by omega) (by omega) (fun k hk => absurd hk (by omega))
    · refine z_iconst dRow_isOrder_37 ?_
      refine z_iret rfl rfl dRow_isOrder_38 ?_
      exact ⟨1, rfl, Or.inl ⟨rfl, by omega, hq⟩, rfl⟩
    · refine z_iconst dRow_isOrder_29 ?_
      refine z_iret rfl rfl dRow_isOrder_30 ?_
      exact ⟨0, rfl, Or.inr ⟨rfl, fun q => hq q.2⟩, rfl⟩
  · refine z_iconst dRow_isOrder_9 ?_
    refine z_iret rfl rfl dRow_isOrder_10 ?_
    exact ⟨0, rfl, Or.inr ⟨rfl, fun q => by have := q.1; omega⟩, rfl⟩
def zC1 (L : List Int) (i : Nat) : Nat → Int
  | 0 => 0
  | n + 1 => zC1 L i n + (if i < n ∧ L.getD n 0 < L.getD i 0 then 1 else 0)
def zC2 (L : List Int) : Nat → Int
  | 0 => 0
  | n + 1 => zC2 L n + zC1 L n L.length
/-- how many pairs stand the wrong way round -/
def zInv (L : List Int) : Int := zC2 L L.length
theorem zC1_0 (L : List Int) (i : Nat) : ∀ n, n ≤ i + 1 → zC1 L i n = 0
  | 0, _ => rfl
  | n + 1, h => by
    unfold zC1
    rw [zC1_0 L i n (by omega), if_neg (by omega)]
    rfl
theorem zC1_in (L : List Int) (i : Nat) : ∀ n : Nat, 0 ≤ zC1 L i n ∧ zC1 L i n ≤ n
  | 0 => by simp [zC1]
  | n + 1 => by
    have := zC1_in L i n
    unfold zC1
    split <;> omega
theorem zC2_in (L : List Int) : ∀ n : Nat, 0 ≤ zC2 L n ∧ zC2 L n ≤ n * L.length
  | 0 => by simp [zC2]
  | n + 1 => by
    have h1 := zC2_in L n
    have h2 := zC1_in L n L.length
    unfold zC2
    have : ((n + 1 : Nat) : Int) * L.length = n * L.length + L.length := by rw [Int.natCast_add, Int.add_mul]; omega
    omega
theorem l_Row_inversions1 {d mc ms bc bs : Nat} {Qn : Option Value → zHp → Prop} {Qx : String → zHp → Prop} {f : Nat → Int} {i : Nat} {S : Int} (e1 : h r = some (.inr (zkRow, [.ref a, zi (L.length : Int)]))) (e2 : h a = some (zInts G 16 f)) (e3 : L.length ≤ 16) (e4 : ∀ j, j < L.length → f j = L.getD j 0) (e5 : ∀ j, j < L.length → zIn (L.getD j 0)) (hi : i < L.length)
    (K : ∀ y, zR G l (zMJ G hRow_inversions d Qn Qx mc ms) bc bs h 48 [some (.ref r), some (zi (S + zC1 L i L.length)), some (zi (i : Int)), y] []) :
    ∀ (n : Nat) (m : Nat), L.length - m < n → m ≤ L.length → i < m →
      zR G l (zMJ G hRow_inversions d Qn Qx mc ms) bc bs h 16 [some (.ref r), some (zi (S + zC1 L i m)), some (zi (i : Int)), some (zi (m : Int))] [] := by
  intro n
  induction n with
  | zero => intro m q1 q2 q3; omega
  | succ n ih =>
  intro m q1 q2 q3
  refine z_iload_n dRow_inversions_16 rfl ?_
  refine z_aload_n dRow_inversions_17 rfl ?_
  refine z_get (k := 1) fd_Row (by decide) fl_Row_15 dRow_inversions_18 (by assumption) (by rfl) ?_
  refine z_icmp_ge (tgt := 48) dRow_inversions_21 (by decide) (by omega) (by omega) (fun c21 => ?_) (fun c21 => ?_)
  · have em : m = L.length := by omega
    subst em
    exact K _
  · refine z_aload_n dRow_inversions_24 rfl ?_
    refine z_get (k := 0) fd_Row (by decide) fl_Row_9 dRow_inversions_25 (by assumption) (by rfl) ?_
    refine z_iload_n dRow_inversions_28 rfl ?_
    refine z_iald dRow_inversions_29 e2 (by refine ⟨?_, ?_, ?_⟩ <;> omega) ?_
    rw [show (i : Int).toNat = i by omega, e4 i hi]
    have hmi := e5 i hi
    refine z_aload_n dRow_inversions_30 rfl ?_
    refine z_get (k := 0) fd_Row (by decide) fl_Row_9 dRow_inversions_31 (by assumption) (by rfl) ?_
    refine z_iload_n dRow_inversions_34 rfl ?_
    refine z_iald dRow_inversions_35 e2 (by refine ⟨?_, ?_, ?_⟩ <;> omega) ?_
    rw [show (m : Int).toNat = m by omega, e4 m (by omega)]
    have hmj := e5 m (by omega)
    refine z_icmp_le (tgt := 42) dRow_inversions_36 (by decide) (by omega) (by omega) (fun c36 => ?_) (fun c36 => ?_)
    · refine z_iinc dRow_inversions_42 rfl (Nat.le_of_ble_eq_true rfl) ?_
      refine z_goto (tgt := 16) dRow_inversions_45 (by decide) ?_
      first
        | (have e9 : zC1 L i (m + 1) = zC1 L i m := by unfold zC1; rw [if_neg (by omega)]; cases m <;> simp [zC1]
           have := ih (m + 1) (by omega) (by omega) (by omega)
           rw [e9] at this
           exact this)
        | (have e9 : zC1 L i (m + 1) = zC1 L i m + 1 := by rw [zC1, if_pos (by omega)]
           have := ih (m + 1) (by omega) (by omega) (by omega)
           rw [e9, ← Int.add_assoc] at this
           exact this)
    · refine z_iinc dRow_inversions_39 rfl (Nat.le_of_ble_eq_true rfl) ?_
      refine z_iinc dRow_inversions_42 rfl (Nat.le_of_ble_eq_true rfl) ?_
      refine z_goto (tgt := 16) dRow_inversions_45 (by decide) ?_
      first
        | (have e9 : zC1 L i (m + 1) = zC1 L i m := by unfold zC1; rw [if_neg (by omega)]; cases m <;> simp [zC1]
           have := ih (m + 1) (by omega) (by omega) (by omega)
           rw [e9] at this
           exact this)
        | (have e9 : zC1 L i (m + 1) = zC1 L i m + 1 := by rw [zC1, if_pos (by omega)]
           have := ih (m + 1) (by omega) (by omega) (by omega)
           rw [e9, ← Int.add_assoc] at this
           exact this)
theorem l_Row_inversions2 {d mc ms bc bs : Nat} {Qn : Option Value → zHp → Prop} {Qx : String → zHp → Prop} {f : Nat → Int} (e1 : h r = some (.inr (zkRow, [.ref a, zi (L.length : Int)]))) (e2 : h a = some (zInts G 16 f)) (e3 : L.length ≤ 16) (e4 : ∀ j, j < L.length → f j = L.getD j 0) (e5 : ∀ j, j < L.length → zIn (L.getD j 0))
    (K : ∀ y z, zR G l (zMJ G hRow_inversions d Qn Qx mc ms) bc bs h 54 [some (.ref r), some (zi (zInv L)), y, z] []) :
    ∀ (n : Nat) (m : Nat) z, L.length - m < n → m ≤ L.length →
      zR G l (zMJ G hRow_inversions d Qn Qx mc ms) bc bs h 4 [some (.ref r), some (zi (zC2 L m)), some (zi (m : Int)), z] [] := by
  intro n
  induction n with
  | zero => intro m z q1 q2; omega
  | succ n ih =>
  intro m z q1 q2
  refine z_iload_n dRow_inversions_4 rfl ?_
  refine z_aload_n dRow_inversions_5 rfl ?_
  refine z_get (k := 1) fd_Row (by decide) fl_Row_15 dRow_inversions_6 (by assumption) (by rfl) ?_
  refine z_icmp_ge (tgt := 54) dRow_inversions_9 (by decide) (by omega) (by omega) (fun c9 => ?_) (fun c9 => ?_)
  · have em : m = L.length := by omega
    subst em
    exact K _ _
  · refine z_iload_n dRow_inversions_12 rfl ?_
    refine z_iconst dRow_inversions_13 ?_
    refine z_iadd dRow_inversions_14 ?_
    refine z_istore_n dRow_inversions_15 (Nat.le_of_ble_eq_true rfl) ?_
    have hlt : m < L.length := by omega
    have := l_Row_inversions1 (G := G) (l := l) (d := d) (mc := mc) (ms := ms) (bc := bc) (bs := bs) (Qn := Qn) (Qx := Qx) (S := zC2 L m) e1 e2 e3 e4 e5 hlt (fun y => ?_) 17 (m + 1) (by omega) (by omega) (by omega)
    · rw [zC1_0 L m (m + 1) (by omega), Int.add_zero] at this
      exact this
    · refine z_iinc dRow_inversions_48 rfl (Nat.le_of_ble_eq_true rfl) ?_
      refine z_goto (tgt := 4) dRow_inversions_51 (by decide) ?_
      exact ih (m + 1) _ (by omega) (by omega)
theorem k_Row_inversions (hr : zRow G h r a L) : zM G l hRow_inversions yRow_inversions 1 [.ref r] h (fun v h' => v = some (zi (zInv L)) ∧ h = h') zNo 0 0 := by
  obtain ⟨f, e1, e2, e3, e4, e5⟩ := id hr
  refine zM.of [some (.ref r), none, none, none] (by decide +kernel) rfl (by decide) rfl (Nat.le_of_ble_eq_true rfl) rfl ?_
  refine z_iconst dRow_inversions_0 ?_
  refine z_istore_n dRow_inversions_1 (Nat.le_of_ble_eq_true rfl) ?_
  refine z_iconst dRow_inversions_2 ?_
  refine z_istore_n dRow_inversions_3 (Nat.le_of_ble_eq_true rfl) ?_
  refine l_Row_inversions2 e1 e2 e3 e4 e5 (fun y z => ?_) 17 0 _ (by omega) (by omega)
  refine z_iload_n dRow_inversions_54 rfl ?_
  refine z_iret rfl rfl dRow_inversions_55 ?_
  exact ⟨rfl, rfl⟩
end ROW4
