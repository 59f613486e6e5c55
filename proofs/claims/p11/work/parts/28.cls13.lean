section CLS13
variable {G : zG} {l : Launch} {h h' : zHp} {ad : Nat → Nat} {S : zSt}
def zSnd (S : zSt) : Prop := (∀ k : Nat, k < 4 → zTB (S.1 k) ∧ ∀ j : Nat, k ≤ j → j < 4 → zAU (S.1 k) (S.1 j)) ∧ zRS S
theorem l_Cls_isSound1 {m : Nat} (hm : m < 4) (K : ∀ (h1 : zHp) y, zCls G h1 ad S → zFrm ad h h1 → (∀ j : Nat, m ≤ j → j < 4 → zAU (S.1 m) (S.1 j)) → zR G l (zMJ G hCls_isSound 6 (fun v h' => ∃ b9 : Int, v = some (zi b9) ∧ ((b9 = 1 ∧ zSnd S) ∨ (b9 = 0 ∧ ¬ zSnd S)) ∧ zCls G h' ad S ∧ zFrm ad h h') zNo 0 0) 0 0 h1 56 [some (.ref (ad 0)), some (zi (m : Int)), y] []) :
    ∀ (n : Nat) (i : Nat) (h1 : zHp), 4 - i < n → m ≤ i → i ≤ 4 → zCls G h1 ad S → zFrm ad h h1 → (∀ j : Nat, m ≤ j → j < i → zAU (S.1 m) (S.1 j)) → zR G l (zMJ G hCls_isSound 6 (fun v h' => ∃ b9 : Int, v = some (zi b9) ∧ ((b9 = 1 ∧ zSnd S) ∨ (b9 = 0 ∧ ¬ zSnd S)) ∧ zCls G h' ad S ∧ zFrm ad h h') zNo 0 0) 0 0 h1 24 [some (.ref (ad 0)), some (zi (m : Int)), some (zi (i : Int))] [] := by
  intro n
  induction n with
  | zero => intro i h1 q0 q1 q2 hC1 hf q3; omega
  | succ n ih =>
  intro i h1 q0 q1 q2 hC1 hf q3
  obtain ⟨c1, c2, ⟨g3, c3, d3⟩, ⟨g4, hc4, d4⟩, c5, -⟩ := id hC1
  refine z_iload_n dCls_isSound_24 rfl ?_
  refine z_iconst dCls_isSound_25 ?_
  refine z_icmp_ge (tgt := 56) dCls_isSound_26 (by decide) (by omega) (by omega) (fun c26 => ?_) (fun c26 => ?_)
  · exact K h1 _ hC1 hf (fun j j1 j2 => q3 j j1 (by omega))
  · refine z_aload_n dCls_isSound_29 rfl ?_
    refine z_aload_n dCls_isSound_30 rfl ?_
    refine z_get (k := 0) fd_Cls (by decide) fl_Cls_11 dCls_isSound_31 (by assumption) (by rfl) ?_
    refine z_iload_n dCls_isSound_34 rfl ?_
    refine z_aald (t := 5) (ty := .object "Cursorlist$Row") rfl rfl dCls_isSound_35 c3 (by refine ⟨?_, ?_, ?_⟩ <;> omega) ?_
    rw [show (m : Int).toNat = m by omega, d3 m (by omega)]
    refine z_aload_n dCls_isSound_36 rfl ?_
    refine z_get (k := 0) fd_Cls (by decide) fl_Cls_11 dCls_isSound_37 (by assumption) (by rfl) ?_
    refine z_iload_n dCls_isSound_40 rfl ?_
    refine z_aald (t := 5) (ty := .object "Cursorlist$Row") rfl rfl dCls_isSound_41 c3 (by refine ⟨?_, ?_, ?_⟩ <;> omega) ?_
    rw [show (i : Int).toNat = i by omega, d3 i (by omega)]
    refine z_callV MV_Cls_addsUp lk_Cls_268 dCls_isSound_42 (k_Cls_addsUp hC1 (by omega) (by omega)) rfl rfl (Nat.le_of_ble_eq_true rfl) rfl (by assumption) (Nat.le_of_ble_eq_true rfl) (Nat.le_of_ble_eq_true rfl) (Nat.le_of_eq (Nat.zero_add _)) (Nat.le_of_eq (Nat.zero_add _)) (fun _ _ q => q.elim) ?_
    rintro _ h2 ⟨b9, rfl, (⟨rfl, m9⟩ | ⟨rfl, m9⟩), hC2, g2⟩
    · refine z_if_ne (tgt := 50) dCls_isSound_45 (by decide) (by omega) (fun c45 => ?_) (fun c45 => ?_)
      · refine z_iinc dCls_isSound_50 rfl (Nat.le_of_ble_eq_true rfl) ?_
        refine z_goto (tgt := 24) dCls_isSound_53 (by decide) ?_
        first
          | (exfalso; omega)
          | exact ih (i + 1) h2 (by omega) (by omega) (by omega) hC2 (hf.tr g2) (fun j j1 j2 => by
              by_cases e9 : j = i
              · rw [e9]; exact m9
              · exact q3 j j1 (by omega))
      · refine z_iconst dCls_isSound_48 ?_
        refine z_iret rfl rfl dCls_isSound_49 ?_
        first
          | (exfalso; omega)
          | exact ⟨0, rfl, Or.inr ⟨rfl, fun q => m9 ((q.1 m hm).2 i (by omega) (by omega))⟩, hC2, hf.tr g2⟩
    · refine z_if_ne (tgt := 50) dCls_isSound_45 (by decide) (by omega) (fun c45 => ?_) (fun c45 => ?_)
      · refine z_iinc dCls_isSound_50 rfl (Nat.le_of_ble_eq_true rfl) ?_
        refine z_goto (tgt := 24) dCls_isSound_53 (by decide) ?_
        first
          | (exfalso; omega)
          | exact ih (i + 1) h2 (by omega) (by omega) (by omega) hC2 (hf.tr g2) (fun j j1 j2 => by
              by_cases e9 : j = i
              · rw [e9]; exact m9
              · exact q3 j j1 (by omega))
      · refine z_iconst dCls_isSound_48 ?_
        refine z_iret rfl rfl dCls_isSound_49 ?_
        first
          | (exfalso; omega)
          | exact ⟨0, rfl, Or.inr ⟨rfl, fun q => m9 ((q.1 m hm).2 i (by omega) (by omega))⟩, hC2, hf.tr g2⟩
theorem l_Cls_isSound2 (hO : zOk S) :
    ∀ (n : Nat) (m : Nat) (h1 : zHp), 4 - m < n → m ≤ 4 → zCls G h1 ad S → zFrm ad h h1 → (∀ k : Nat, k < m → zTB (S.1 k) ∧ ∀ j : Nat, k ≤ j → j < 4 → zAU (S.1 k) (S.1 j)) → ∀ y, zR G l (zMJ G hCls_isSound 6 (fun v h' => ∃ b9 : Int, v = some (zi b9) ∧ ((b9 = 1 ∧ zSnd S) ∨ (b9 = 0 ∧ ¬ zSnd S)) ∧ zCls G h' ad S ∧ zFrm ad h h') zNo 0 0) 0 0 h1 2 [some (.ref (ad 0)), some (zi (m : Int)), y] [] := by
  intro n
  induction n with
  | zero => intro m h1 q0 q1 hC1 hf q3 y; omega
  | succ n ih =>
  intro m h1 q0 q1 hC1 hf q3 y
  obtain ⟨c1, c2, ⟨g3, c3, d3⟩, ⟨g4, hc4, d4⟩, c5, -⟩ := id hC1
  refine z_iload_n dCls_isSound_2 rfl ?_
  refine z_iconst dCls_isSound_3 ?_
  refine z_icmp_ge (tgt := 62) dCls_isSound_4 (by decide) (by omega) (by omega) (fun c4 => ?_) (fun c4 => ?_)
  · refine z_aload_n dCls_isSound_62 rfl ?_
    refine z_callV MV_Cls_isRecencySound lk_Cls_271 dCls_isSound_63 (k_Cls_isRecencySound hC1 hO) rfl rfl (Nat.le_of_ble_eq_true rfl) rfl (by assumption) (Nat.le_of_ble_eq_true rfl) (Nat.le_of_ble_eq_true rfl) (Nat.le_of_eq (Nat.zero_add _)) (Nat.le_of_eq (Nat.zero_add _)) (fun _ _ q => q.elim) ?_
    rintro _ _ ⟨b9, rfl, (⟨rfl, m9⟩ | ⟨rfl, m9⟩), rfl⟩
    · refine z_iret rfl rfl dCls_isSound_66 ?_
      first
        | exact ⟨1, rfl, Or.inl ⟨rfl, fun k hk => q3 k (by omega), m9⟩, hC1, hf⟩
        | exact ⟨0, rfl, Or.inr ⟨rfl, fun q => m9 q.2⟩, hC1, hf⟩
    · refine z_iret rfl rfl dCls_isSound_66 ?_
      first
        | exact ⟨1, rfl, Or.inl ⟨rfl, fun k hk => q3 k (by omega), m9⟩, hC1, hf⟩
        | exact ⟨0, rfl, Or.inr ⟨rfl, fun q => m9 q.2⟩, hC1, hf⟩
  · refine z_aload_n dCls_isSound_7 rfl ?_
    refine z_aload_n dCls_isSound_8 rfl ?_
    refine z_get (k := 0) fd_Cls (by decide) fl_Cls_11 dCls_isSound_9 (by assumption) (by rfl) ?_
    refine z_iload_n dCls_isSound_12 rfl ?_
    refine z_aald (t := 5) (ty := .object "Cursorlist$Row") rfl rfl dCls_isSound_13 c3 (by refine ⟨?_, ?_, ?_⟩ <;> omega) ?_
    rw [show (m : Int).toNat = m by omega, d3 m (by omega)]
    refine z_callV MV_Cls_turnsBack lk_Cls_265 dCls_isSound_14 (k_Cls_turnsBack hC1 (by omega)) rfl rfl (Nat.le_of_ble_eq_true rfl) rfl (by assumption) (Nat.le_of_ble_eq_true rfl) (Nat.le_of_ble_eq_true rfl) (Nat.le_of_eq (Nat.zero_add _)) (Nat.le_of_eq (Nat.zero_add _)) (fun _ _ q => q.elim) ?_
    rintro _ h2 ⟨b9, rfl, (⟨rfl, m9⟩ | ⟨rfl, m9⟩), hC2, g2⟩
    · refine z_if_ne (tgt := 22) dCls_isSound_17 (by decide) (by omega) (fun c17 => ?_) (fun c17 => ?_)
      · refine z_iload_n dCls_isSound_22 rfl ?_
        refine z_istore_n dCls_isSound_23 (Nat.le_of_ble_eq_true rfl) ?_
        refine l_Cls_isSound1 (m := m) (by omega) (fun h3 y hC3 f3 q5 => ?_) 5 m h2 (by omega) (by omega) (by omega) hC2 (hf.tr g2) (fun j j1 j2 => absurd j1 (by omega))
        refine z_iinc dCls_isSound_56 rfl (Nat.le_of_ble_eq_true rfl) ?_
        refine z_goto (tgt := 2) dCls_isSound_59 (by decide) ?_
        refine ih (m + 1) h3 (by omega) (by omega) hC3 f3 (fun k hk => ?_) _
        by_cases e9 : k = m
        · rw [e9]; exact ⟨m9, q5⟩
        · exact q3 k (by omega)
      · refine z_iconst dCls_isSound_20 ?_
        refine z_iret rfl rfl dCls_isSound_21 ?_
        first
          | (exfalso; omega)
          | exact ⟨0, rfl, Or.inr ⟨rfl, fun q => m9 (q.1 m (by omega)).1⟩, hC2, hf.tr g2⟩
    · refine z_if_ne (tgt := 22) dCls_isSound_17 (by decide) (by omega) (fun c17 => ?_) (fun c17 => ?_)
      · exact absurd rfl c17
      · refine z_iconst dCls_isSound_20 ?_
        refine z_iret rfl rfl dCls_isSound_21 ?_
        first
          | (exfalso; omega)
          | exact ⟨0, rfl, Or.inr ⟨rfl, fun q => m9 (q.1 m (by omega)).1⟩, hC2, hf.tr g2⟩
theorem k_Cls_isSound (hC : zCls G h ad S) (hO : zOk S) : zM G l hCls_isSound yCls_isSound 6 [.ref (ad 0)] h (fun v h' => ∃ b9 : Int, v = some (zi b9) ∧ ((b9 = 1 ∧ zSnd S) ∨ (b9 = 0 ∧ ¬ zSnd S)) ∧ zCls G h' ad S ∧ zFrm ad h h') zNo 0 0 := by
  refine zM.of [some (.ref (ad 0)), none, none] (by decide +kernel) rfl (by decide) rfl (Nat.le_of_ble_eq_true rfl) rfl ?_
  refine z_iconst dCls_isSound_0 ?_
  refine z_istore_n dCls_isSound_1 (Nat.le_of_ble_eq_true rfl) ?_
  exact l_Cls_isSound2 hO 5 0 h (by omega) (by omega) hC zFrm.rf (fun k hk => absurd hk (by omega)) _
end CLS13
