section MOD2
variable {G : zG} {l : Launch} {h h' : zHp}
theorem l_Mod_find {d mc ms bc bs : Nat} {Qn : Option Value → zHp → Prop} {Qx : String → zHp → Prop} {a : Nat} {L : List Int} {x t : Int} (hr : zAr G h a L) (hx : zI32 x) (ht : zI32 t)
    (K : ∀ y, zR G l (zMJ G hMod_find d Qn Qx mc ms) bc bs h 38 [some (.ref a), some (zi x), some (zi t), some (zi (zFind L x t)), y] []) :
    ∀ (n : Nat) (m : Nat), L.length - m < n → m ≤ L.length → zR G l (zMJ G hMod_find d Qn Qx mc ms) bc bs h 5 [some (.ref a), some (zi x), some (zi t), some (zi (zFd9 L x t m)), some (zi (m : Int))] [] := by
  intro n
  induction n with
  | zero => intro m q1 q2; omega
  | succ n ih =>
  intro m q1 q2
  obtain ⟨f, d1, d2, d3, d4⟩ := id hr
  have hin := zFd9_in L x t m
  refine z_iload dMod_find_5 rfl ?_
  refine z_aload_n dMod_find_7 rfl ?_
  refine z_alenI dMod_find_8 (by assumption) ?_
  refine z_icmp_ge (tgt := 38) dMod_find_9 (by decide) (by omega) (by omega) (fun c9 => ?_) (fun c9 => ?_)
  · have em : m = L.length := by omega
    rw [em]
    exact K _
  · have d3m := d3 m (by omega)
    have d4m := d4 m (by omega)
    refine z_aload_n dMod_find_12 rfl ?_
    refine z_iload dMod_find_13 rfl ?_
    refine z_iald dMod_find_15 (by assumption) (by refine ⟨?_, ?_, ?_⟩ <;> omega) ?_
    rw [Int.toNat_natCast, d3m]
    refine z_iload_n dMod_find_16 rfl ?_
    refine z_icmp_ne (tgt := 32) dMod_find_17 (by decide) (by omega) (by omega) (fun c17 => ?_) (fun c17 => ?_)
    · refine z_iinc dMod_find_32 rfl (Nat.le_of_ble_eq_true rfl) ?_
      refine z_goto (tgt := 5) dMod_find_35 (by decide) ?_
      have ih := ih (m + 1) (by omega) (by omega)
      first
        | (rw [show zFd9 L x t (m + 1) = zFd9 L x t m from if_neg (by omega)] at ih
           exact ih)
        | (rw [show zFd9 L x t (m + 1) = (m : Int) from if_pos (by omega)] at ih
           exact ih)
    · refine z_iload_n dMod_find_20 rfl ?_
      refine z_if_ne (tgt := 29) dMod_find_21 (by decide) (by omega) (fun c21 => ?_) (fun c21 => ?_)
      · refine z_iload dMod_find_29 rfl ?_
        refine z_istore_n dMod_find_31 (Nat.le_of_ble_eq_true rfl) ?_
        refine z_iinc dMod_find_32 rfl (Nat.le_of_ble_eq_true rfl) ?_
        refine z_goto (tgt := 5) dMod_find_35 (by decide) ?_
        have ih := ih (m + 1) (by omega) (by omega)
        first
          | (rw [show zFd9 L x t (m + 1) = zFd9 L x t m from if_neg (by omega)] at ih
             exact ih)
          | (rw [show zFd9 L x t (m + 1) = (m : Int) from if_pos (by omega)] at ih
             exact ih)
      · refine z_iload_n dMod_find_24 rfl ?_
        refine z_iconst dMod_find_25 ?_
        refine z_icmp_ne (tgt := 32) dMod_find_26 (by decide) (by omega) (by omega) (fun c26 => ?_) (fun c26 => ?_)
        · refine z_iinc dMod_find_32 rfl (Nat.le_of_ble_eq_true rfl) ?_
          refine z_goto (tgt := 5) dMod_find_35 (by decide) ?_
          have ih := ih (m + 1) (by omega) (by omega)
          first
            | (rw [show zFd9 L x t (m + 1) = zFd9 L x t m from if_neg (by omega)] at ih
               exact ih)
            | (rw [show zFd9 L x t (m + 1) = (m : Int) from if_pos (by omega)] at ih
               exact ih)
        · refine z_iload dMod_find_29 rfl ?_
          refine z_istore_n dMod_find_31 (Nat.le_of_ble_eq_true rfl) ?_
          refine z_iinc dMod_find_32 rfl (Nat.le_of_ble_eq_true rfl) ?_
          refine z_goto (tgt := 5) dMod_find_35 (by decide) ?_
          have ih := ih (m + 1) (by omega) (by omega)
          first
            | (rw [show zFd9 L x t (m + 1) = zFd9 L x t m from if_neg (by omega)] at ih
               exact ih)
            | (rw [show zFd9 L x t (m + 1) = (m : Int) from if_pos (by omega)] at ih
               exact ih)
theorem k_Mod_find {a : Nat} {L : List Int} {x t : Int} (hr : zAr G h a L) (hx : zI32 x) (ht : zI32 t) : zM G l hMod_find yMod_find 1 [.ref a, zi x, zi t] h (fun v h' => v = some (zi (zFind L x t)) ∧ h = h') zNo 0 0 := by
  refine zM.of [some (.ref a), some (zi x), some (zi t), none, none] (by decide +kernel) rfl (by decide) rfl (Nat.le_of_ble_eq_true rfl) rfl ?_
  refine z_iconst dMod_find_0 ?_
  refine z_istore_n dMod_find_1 (Nat.le_of_ble_eq_true rfl) ?_
  refine z_iconst dMod_find_2 ?_
  refine z_istore dMod_find_3 (Nat.le_of_ble_eq_true rfl) ?_
  refine l_Mod_find hr hx ht (fun y => ?_) (L.length + 1) 0 (by omega) (by omega)
  refine z_iload_n dMod_find_38 rfl ?_
  refine z_iret rfl rfl dMod_find_39 ?_
  exact ⟨rfl, rfl⟩
theorem l_Mod_degreeOf {d mc ms bc bs : Nat} {Qn : Option Value → zHp → Prop} {Qx : String → zHp → Prop} {a : Nat} {L : List Int} (hr : zAr G h a L)
    (K : ∀ y, zR G l (zMJ G hMod_degreeOf d Qn Qx mc ms) bc bs h 28 [some (.ref a), some (zi (zLnz L)), y] []) :
    ∀ (n : Nat) (m : Nat), L.length - m < n → m ≤ L.length → zR G l (zMJ G hMod_degreeOf d Qn Qx mc ms) bc bs h 4 [some (.ref a), some (zi (zLn9 L m)), some (zi (m : Int))] [] := by
  intro n
  induction n with
  | zero => intro m q1 q2; omega
  | succ n ih =>
  intro m q1 q2
  obtain ⟨f, d1, d2, d3, d4⟩ := id hr
  refine z_iload_n dMod_degreeOf_4 rfl ?_
  refine z_aload_n dMod_degreeOf_5 rfl ?_
  refine z_alenI dMod_degreeOf_6 (by assumption) ?_
  refine z_icmp_ge (tgt := 28) dMod_degreeOf_7 (by decide) (by omega) (by omega) (fun c7 => ?_) (fun c7 => ?_)
  · have em : m = L.length := by omega
    rw [em]
    exact K _
  · have d3m := d3 m (by omega)
    have d4m := d4 m (by omega)
    refine z_aload_n dMod_degreeOf_10 rfl ?_
    refine z_iload_n dMod_degreeOf_11 rfl ?_
    refine z_iald dMod_degreeOf_12 (by assumption) (by refine ⟨?_, ?_, ?_⟩ <;> omega) ?_
    rw [Int.toNat_natCast, d3m]
    refine z_if_eq (tgt := 20) dMod_degreeOf_13 (by decide) (by omega) (fun c13 => ?_) (fun c13 => ?_)
    · refine z_iload_n dMod_degreeOf_20 rfl ?_
      refine z_istore_n dMod_degreeOf_21 (Nat.le_of_ble_eq_true rfl) ?_
      refine z_iinc dMod_degreeOf_22 rfl (Nat.le_of_ble_eq_true rfl) ?_
      refine z_goto (tgt := 4) dMod_degreeOf_25 (by decide) ?_
      have ih := ih (m + 1) (by omega) (by omega)
      first
        | (rw [show zLn9 L (m + 1) = zLn9 L m from if_pos (by omega)] at ih
           exact ih)
        | (rw [show zLn9 L (m + 1) = (m : Int) from if_neg (by omega)] at ih
           exact ih)
    · refine z_iload_n dMod_degreeOf_16 rfl ?_
      refine z_goto (tgt := 21) dMod_degreeOf_17 (by decide) ?_
      refine z_istore_n dMod_degreeOf_21 (Nat.le_of_ble_eq_true rfl) ?_
      refine z_iinc dMod_degreeOf_22 rfl (Nat.le_of_ble_eq_true rfl) ?_
      refine z_goto (tgt := 4) dMod_degreeOf_25 (by decide) ?_
      have ih := ih (m + 1) (by omega) (by omega)
      first
        | (rw [show zLn9 L (m + 1) = zLn9 L m from if_pos (by omega)] at ih
           exact ih)
        | (rw [show zLn9 L (m + 1) = (m : Int) from if_neg (by omega)] at ih
           exact ih)
theorem k_Mod_degreeOf {a : Nat} {L : List Int} (hr : zAr G h a L) : zM G l hMod_degreeOf yMod_degreeOf 1 [.ref a] h (fun v h' => v = some (zi (zLnz L)) ∧ h = h') zNo 0 0 := by
  refine zM.of [some (.ref a), none, none] (by decide +kernel) rfl (by decide) rfl (Nat.le_of_ble_eq_true rfl) rfl ?_
  refine z_iconst dMod_degreeOf_0 ?_
  refine z_istore_n dMod_degreeOf_1 (Nat.le_of_ble_eq_true rfl) ?_
  refine z_iconst dMod_degreeOf_2 ?_
  refine z_istore_n dMod_degreeOf_3 (Nat.le_of_ble_eq_true rfl) ?_
  refine l_Mod_degreeOf hr (fun y => ?_) (L.length + 1) 0 (by omega) (by omega)
  refine z_iload_n dMod_degreeOf_28 rfl ?_
  refine z_iret rfl rfl dMod_degreeOf_29 ?_
  exact ⟨rfl, rfl⟩
theorem k_Mod_isAtEnd {p : Int} (hp : zI32 p) : zM G l hMod_isAtEnd yMod_isAtEnd 1 [zi p] h (fun v h' => ∃ b9 : Int, v = some (zi b9) ∧ ((b9 = 1 ∧ (p = 1 ∨ p = 3)) ∨ (b9 = 0 ∧ ¬ (p = 1 ∨ p = 3))) ∧ h = h') zNo 0 0 := by
  refine zM.of [some (zi p)] (by decide +kernel) rfl (by decide) rfl (Nat.le_of_ble_eq_true rfl) rfl ?_
  refine z_iload_n dMod_isAtEnd_0 rfl ?_
  refine z_iconst dMod_isAtEnd_1 ?_
  refine z_icmp_eq (tgt := 10) dMod_isAtEnd_2 (by decide) (by omega) (by omega) (fun c2 => ?_) (fun c2 => ?_)
  · refine z_iconst dMod_isAtEnd_10 ?_
    refine z_goto (tgt := 15) dMod_isAtEnd_11 (by decide) ?_
    refine z_iret rfl rfl dMod_isAtEnd_15 ?_
    exact ⟨_, rfl, by omega, rfl⟩
  · refine z_iload_n dMod_isAtEnd_5 rfl ?_
    refine z_iconst dMod_isAtEnd_6 ?_
    refine z_icmp_ne (tgt := 14) dMod_isAtEnd_7 (by decide) (by omega) (by omega) (fun c7 => ?_) (fun c7 => ?_)
    · refine z_iconst dMod_isAtEnd_14 ?_
      refine z_iret rfl rfl dMod_isAtEnd_15 ?_
      exact ⟨_, rfl, by omega, rfl⟩
    · refine z_iconst dMod_isAtEnd_10 ?_
      refine z_goto (tgt := 15) dMod_isAtEnd_11 (by decide) ?_
      refine z_iret rfl rfl dMod_isAtEnd_15 ?_
      exact ⟨_, rfl, by omega, rfl⟩
theorem l_Mod_areLike0 {a b : Nat} {L M : List Int} (hne : ¬ L = M) {y : Option Value} : zR G l (zMJ G hMod_areLike 1 (fun v h' => ∃ b9 : Int, v = some (zi b9) ∧ ((b9 = 1 ∧ L = M) ∨ (b9 = 0 ∧ ¬ L = M)) ∧ h = h') zNo 0 0) 0 0 h 15 [some (.ref a), some (.ref b), some (zi 0), y] [] := by
  refine z_iload_n dMod_areLike_15 rfl ?_
  refine z_if_eq (tgt := 46) dMod_areLike_16 (by decide) (by omega) (fun c16 => ?_) (fun c16 => ?_)
  · refine z_iload_n dMod_areLike_46 rfl ?_
    refine z_iret rfl rfl dMod_areLike_47 ?_
    exact ⟨0, rfl, Or.inr ⟨rfl, hne⟩, rfl⟩
  · exact absurd rfl c16
theorem l_Mod_areLike {a b : Nat} {L M : List Int} (hr : zAr G h a L) (hm : zAr G h b M) (hl : L.length = M.length) : ∀ (n : Nat) (m : Nat), L.length - m < n → m ≤ L.length → (∀ j, j < m → L.getD j 0 = M.getD j 0) → zR G l (zMJ G hMod_areLike 1 (fun v h' => ∃ b9 : Int, v = some (zi b9) ∧ ((b9 = 1 ∧ L = M) ∨ (b9 = 0 ∧ ¬ L = M)) ∧ h = h') zNo 0 0) 0 0 h 15 [some (.ref a), some (.ref b), some (zi 1), some (zi (m : Int))] [] := by
  intro n
  induction n with
  | zero => intro m q1 q2 q3; omega
  | succ n ih =>
  intro m q1 q2 q3
  obtain ⟨f, d1, d2, d3, d4⟩ := id hr
  obtain ⟨f2, b1, b2, b3, b4⟩ := id hm
  refine z_iload_n dMod_areLike_15 rfl ?_
  refine z_if_eq (tgt := 46) dMod_areLike_16 (by decide) (by omega) (fun c16 => ?_) (fun c16 => ?_)
  · exact absurd c16 (by decide)
  refine z_iload_n dMod_areLike_19 rfl ?_
  refine z_aload_n dMod_areLike_20 rfl ?_
  refine z_alenI dMod_areLike_21 (by assumption) ?_
  refine z_icmp_ge (tgt := 46) dMod_areLike_22 (by decide) (by omega) (by omega) (fun c22 => ?_) (fun c22 => ?_)
  · refine z_iload_n dMod_areLike_46 rfl ?_
    refine z_iret rfl rfl dMod_areLike_47 ?_
    exact ⟨1, rfl, Or.inl ⟨rfl, zl_ext hl (fun j hj => q3 j (by omega))⟩, rfl⟩
  · have d3m := d3 m (by omega)
    have d4m := d4 m (by omega)
    have b3m := b3 m (by omega)
    have b4m := b4 m (by omega)
    refine z_aload_n dMod_areLike_25 rfl ?_
    refine z_iload_n dMod_areLike_26 rfl ?_
    refine z_iald dMod_areLike_27 (by assumption) (by refine ⟨?_, ?_, ?_⟩ <;> omega) ?_
    rw [Int.toNat_natCast, d3m]
    refine z_aload_n dMod_areLike_28 rfl ?_
    refine z_iload_n dMod_areLike_29 rfl ?_
    refine z_iald dMod_areLike_30 (by assumption) (by refine ⟨?_, ?_, ?_⟩ <;> omega) ?_
    rw [Int.toNat_natCast, b3m]
    refine z_icmp_ne (tgt := 38) dMod_areLike_31 (by decide) (by omega) (by omega) (fun c31 => ?_) (fun c31 => ?_)
    · refine z_iconst dMod_areLike_38 ?_
      refine z_istore_n dMod_areLike_39 (Nat.le_of_ble_eq_true rfl) ?_
      refine z_iinc dMod_areLike_40 rfl (Nat.le_of_ble_eq_true rfl) ?_
      refine z_goto (tgt := 15) dMod_areLike_43 (by decide) ?_
      exact l_Mod_areLike0 (fun e => c31 (by rw [e]))
    · refine z_iconst dMod_areLike_34 ?_
      refine z_goto (tgt := 39) dMod_areLike_35 (by decide) ?_
      refine z_istore_n dMod_areLike_39 (Nat.le_of_ble_eq_true rfl) ?_
      refine z_iinc dMod_areLike_40 rfl (Nat.le_of_ble_eq_true rfl) ?_
      refine z_goto (tgt := 15) dMod_areLike_43 (by decide) ?_
      exact ih (m + 1) (by omega) (by omega) (fun j hj => by
        by_cases e9 : j = m
        · rw [e9]; exact c31
        · exact q3 j (by omega))
theorem k_Mod_areLike {a b : Nat} {L M : List Int} (hr : zAr G h a L) (hm : zAr G h b M) : zM G l hMod_areLike yMod_areLike 1 [.ref a, .ref b] h (fun v h' => ∃ b9 : Int, v = some (zi b9) ∧ ((b9 = 1 ∧ L = M) ∨ (b9 = 0 ∧ ¬ L = M)) ∧ h = h') zNo 0 0 := by
  obtain ⟨f, d1, d2, d3, d4⟩ := id hr
  obtain ⟨f2, b1, b2, b3, b4⟩ := id hm
  refine zM.of [some (.ref a), some (.ref b), none, none] (by decide +kernel) rfl (by decide) rfl (Nat.le_of_ble_eq_true rfl) rfl ?_
  refine z_aload_n dMod_areLike_0 rfl ?_
  refine z_alenI dMod_areLike_1 (by assumption) ?_
  refine z_aload_n dMod_areLike_2 rfl ?_
  refine z_alenI dMod_areLike_3 (by assumption) ?_
  refine z_icmp_ne (tgt := 11) dMod_areLike_4 (by decide) (by omega) (by omega) (fun c4 => ?_) (fun c4 => ?_)
  · refine z_iconst dMod_areLike_11 ?_
    refine z_istore_n dMod_areLike_12 (Nat.le_of_ble_eq_true rfl) ?_
    refine z_iconst dMod_areLike_13 ?_
    refine z_istore_n dMod_areLike_14 (Nat.le_of_ble_eq_true rfl) ?_
    first
      | exact l_Mod_areLike hr hm (by omega) (L.length + 1) 0 (by omega) (by omega) (fun j hj => absurd hj (by omega))
      | exact l_Mod_areLike0 (fun e => by have := congrArg List.length e; omega)
  · refine z_iconst dMod_areLike_7 ?_
    refine z_goto (tgt := 12) dMod_areLike_8 (by decide) ?_
    refine z_istore_n dMod_areLike_12 (Nat.le_of_ble_eq_true rfl) ?_
    refine z_iconst dMod_areLike_13 ?_
    refine z_istore_n dMod_areLike_14 (Nat.le_of_ble_eq_true rfl) ?_
    first
      | exact l_Mod_areLike hr hm (by omega) (L.length + 1) 0 (by omega) (by omega) (fun j hj => absurd hj (by omega))
      | exact l_Mod_areLike0 (fun e => by have := congrArg List.length e; omega)
theorem l_Mod_isOrder0 {a : Nat} {L : List Int} (hne : ¬ zOrd L) {y : Option Value} : zR G l (zMJ G hMod_isOrder 2 (fun v h' => ∃ b9 : Int, v = some (zi b9) ∧ ((b9 = 1 ∧ zOrd L) ∨ (b9 = 0 ∧ ¬ zOrd L)) ∧ h = h') zNo 0 0) 0 0 h 15 [some (.ref a), some (zi 0), y] [] := by
  refine z_iload_n dMod_isOrder_15 rfl ?_
  refine z_if_eq (tgt := 47) dMod_isOrder_16 (by decide) (by omega) (fun c16 => ?_) (fun c16 => ?_)
  · refine z_iload_n dMod_isOrder_47 rfl ?_
    refine z_iret rfl rfl dMod_isOrder_48 ?_
    exact ⟨0, rfl, Or.inr ⟨rfl, hne⟩, rfl⟩
  · exact absurd rfl c16
theorem l_Mod_isOrder {a : Nat} {L : List Int} (hr : zAr G h a L) (hl : L.length = 8) : ∀ (n : Nat) (m : Nat), 8 - m < n → m ≤ 8 → (∀ j : Nat, j < m → zFind L j 0 ≠ -1) → zR G l (zMJ G hMod_isOrder 2 (fun v h' => ∃ b9 : Int, v = some (zi b9) ∧ ((b9 = 1 ∧ zOrd L) ∨ (b9 = 0 ∧ ¬ zOrd L)) ∧ h = h') zNo 0 0) 0 0 h 15 [some (.ref a), some (zi 1), some (zi (m : Int))] [] := by
  intro n
  induction n with
  | zero => intro m q1 q2 q3; omega
  | succ n ih =>
  intro m q1 q2 q3
  have hz := zFind_in L m 0
  refine z_iload_n dMod_isOrder_15 rfl ?_
  refine z_if_eq (tgt := 47) dMod_isOrder_16 (by decide) (by omega) (fun c16 => ?_) (fun c16 => ?_)
  · exact absurd c16 (by decide)
  refine z_iload_n dMod_isOrder_19 rfl ?_
  refine z_bipush dMod_isOrder_20 rfl ?_
  refine z_icmp_ge (tgt := 47) dMod_isOrder_22 (by decide) (by omega) (by omega) (fun c22 => ?_) (fun c22 => ?_)
  · refine z_iload_n dMod_isOrder_47 rfl ?_
    refine z_iret rfl rfl dMod_isOrder_48 ?_
    exact ⟨1, rfl, Or.inl ⟨rfl, hl, fun k hk => q3 k (by omega)⟩, rfl⟩
  · refine z_aload_n dMod_isOrder_25 rfl ?_
    refine z_iload_n dMod_isOrder_26 rfl ?_
    refine z_iconst dMod_isOrder_27 ?_
    refine z_callS MS_Mod_find lk_Mod_110 dMod_isOrder_28 (k_Mod_find hr (by omega) (by omega)) rfl rfl (Nat.le_of_ble_eq_true rfl)  (Nat.le_of_ble_eq_true rfl) (Nat.le_of_ble_eq_true rfl) (Nat.le_of_eq (Nat.zero_add _)) (Nat.le_of_eq (Nat.zero_add _)) (fun _ _ q => q.elim) ?_
    rintro _ _ ⟨rfl, rfl⟩
    refine z_iconst dMod_isOrder_31 ?_
    refine z_icmp_eq (tgt := 39) dMod_isOrder_32 (by decide) (by omega) (by omega) (fun c32 => ?_) (fun c32 => ?_)
    · refine z_iconst dMod_isOrder_39 ?_
      refine z_istore_n dMod_isOrder_40 (Nat.le_of_ble_eq_true rfl) ?_
      refine z_iinc dMod_isOrder_41 rfl (Nat.le_of_ble_eq_true rfl) ?_
      refine z_goto (tgt := 15) dMod_isOrder_44 (by decide) ?_
      exact l_Mod_isOrder0 (fun e => e.2 m (by omega) c32)
    · refine z_iconst dMod_isOrder_35 ?_
      refine z_goto (tgt := 40) dMod_isOrder_36 (by decide) ?_
      refine z_istore_n dMod_isOrder_40 (Nat.le_of_ble_eq_true rfl) ?_
      refine z_iinc dMod_isOrder_41 rfl (Nat.le_of_ble_eq_true rfl) ?_
      refine z_goto (tgt := 15) dMod_isOrder_44 (by decide) ?_
      exact ih (m + 1) (by omega) (by omega) (fun j hj => by
        by_cases e9 : j = m
        · rw [e9]; exact c32
        · exact q3 j (by omega))
theorem k_Mod_isOrder {a : Nat} {L : List Int} (hr : zAr G h a L) : zM G l hMod_isOrder yMod_isOrder 2 [.ref a] h (fun v h' => ∃ b9 : Int, v = some (zi b9) ∧ ((b9 = 1 ∧ zOrd L) ∨ (b9 = 0 ∧ ¬ zOrd L)) ∧ h = h') zNo 0 0 := by
  obtain ⟨f, d1, d2, d3, d4⟩ := id hr
  refine zM.of [some (.ref a), none, none] (by decide +kernel) rfl (by decide) rfl (Nat.le_of_ble_eq_true rfl) rfl ?_
  refine z_aload_n dMod_isOrder_0 rfl ?_
  refine z_alenI dMod_isOrder_1 (by assumption) ?_
  refine z_bipush dMod_isOrder_2 rfl ?_
  refine z_icmp_ne (tgt := 11) dMod_isOrder_4 (by decide) (by omega) (by omega) (fun c4 => ?_) (fun c4 => ?_)
  · refine z_iconst dMod_isOrder_11 ?_
    refine z_istore_n dMod_isOrder_12 (Nat.le_of_ble_eq_true rfl) ?_
    refine z_iconst dMod_isOrder_13 ?_
    refine z_istore_n dMod_isOrder_14 (Nat.le_of_ble_eq_true rfl) ?_
    first
      | exact l_Mod_isOrder hr (by omega) 9 0 (by omega) (by omega) (fun j hj => absurd hj (by omega))
      | exact l_Mod_isOrder0 (fun e => by have := e.1; omega)
  · refine z_iconst dMod_isOrder_7 ?_
    refine z_goto (tgt := 12) dMod_isOrder_8 (by decide) ?_
    refine z_istore_n dMod_isOrder_12 (Nat.le_of_ble_eq_true rfl) ?_
    refine z_iconst dMod_isOrder_13 ?_
    refine z_istore_n dMod_isOrder_14 (Nat.le_of_ble_eq_true rfl) ?_
    first
      | exact l_Mod_isOrder hr (by omega) 9 0 (by omega) (by omega) (fun j hj => absurd hj (by omega))
      | exact l_Mod_isOrder0 (fun e => by have := e.1; omega)
end MOD2
