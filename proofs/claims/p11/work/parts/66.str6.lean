section STR6
variable {G : zG} {l : Launch} {h h' h0 : zHp}
def zSz (x : Int) : Nat := (if x < 0 then 1 else 0) + (if -10 < x ∧ x < 10 then 1 else if -100 < x ∧ x < 100 then 2 else if -1000 < x ∧ x < 1000 then 3 else 4)
theorem zSz_spec (x : Int) : 1 ≤ zSz x ∧ (x ≤ -1 → 2 ≤ zSz x) ∧ (10 ≤ x → 2 ≤ zSz x) ∧ (x ≤ -10 → 3 ≤ zSz x) ∧ (100 ≤ x → 3 ≤ zSz x) ∧ (x ≤ -100 → 4 ≤ zSz x) ∧ (1000 ≤ x → 4 ≤ zSz x) ∧ (x ≤ -1000 → 5 ≤ zSz x) ∧ zSz x ≤ 5 := by
  unfold zSz
  (repeat' split) <;> omega
theorem zdivn {i : Int} (h : -2147483648 < i ∧ i ≤ 0) : zI i / zI 100 = zI (-((-i) / 100)) := by
  apply Int32.toInt_inj.mp
  have e : i.tdiv 100 = -((-i) / 100) := by
    have e1 : i.tdiv 100 = -((-i).tdiv 100) := by rw [Int.neg_tdiv]; omega
    rw [e1, Int.tdiv_eq_ediv_of_nonneg (by omega)]
  rw [Int32.toInt_div, zI_toInt (by omega), zI_toInt (by omega), zI_toInt (by omega), e]
  exact Int.bmod_eq_of_le_mul_two (by omega) (by omega)
theorem zbst (x : Int) : (zI x).toInt8.toInt32 = zI ((zI x).toInt8.toInt32).toInt := (zI_of _).symm
theorem zfitb (x : Int) : fits .byte (zi ((zI x).toInt8.toInt32).toInt) = true := by
  rw [zi, zI_of]
  have h1 := Int8.le_toInt (zI x).toInt8
  have h2 := Int8.toInt_lt (zI x).toInt8
  have e : ((zI x).toInt8.toInt32).toInt = (zI x).toInt8.toInt := Int8.toInt_toInt32 _
  simp only [fits, Bool.and_eq_true, decide_eq_true_eq, Int32.le_iff_toInt_le, e]
  exact ⟨by show (-128 : Int) ≤ _; omega, by show _ ≤ (127 : Int); omega⟩
theorem k_Int_stringSize {x : Int} (hx : zIn x) : zM G l hInt_stringSize_0f7a4 yInt_stringSize_0f7a4 1 [zi x] h (fun v h' => v = some (zi (zSz x : Int)) ∧ h = h') zNo 0 0 := by
  refine zM.of [some (zi x), none, none, none] (by decide +kernel) rfl (by decide) rfl (Nat.le_of_ble_eq_true rfl) rfl ?_
  refine z_iconst dInt_stringSize_0f7a4_0 ?_
  refine z_istore_n dInt_stringSize_0f7a4_1 (Nat.le_of_ble_eq_true rfl) ?_
  refine z_iload_n dInt_stringSize_0f7a4_2 rfl ?_
  refine z_if_lt (tgt := 11) dInt_stringSize_0f7a4_3 (by decide) (by omega) (fun c3 => ?_) (fun c3 => ?_)
  · refine z_bipush dInt_stringSize_0f7a4_11 rfl ?_
    refine z_istore_n dInt_stringSize_0f7a4_13 (Nat.le_of_ble_eq_true rfl) ?_
    refine z_iconst dInt_stringSize_0f7a4_14 ?_
    refine z_istore_n dInt_stringSize_0f7a4_15 (Nat.le_of_ble_eq_true rfl) ?_
    show zR _ _ _ _ _ _ 16 [some (zi x), some (zi 1), some (zi (-10)), some (zi 1)] []
    refine z_iload_n dInt_stringSize_0f7a4_16 rfl ?_
    refine z_bipush dInt_stringSize_0f7a4_17 rfl ?_
    refine z_icmp_ge (tgt := 42) dInt_stringSize_0f7a4_19 (by decide) (by omega) (by omega) (fun c19 => ?_) (fun c19 => ?_)
    · exfalso; omega
    · refine z_iload_n dInt_stringSize_0f7a4_22 rfl ?_
      refine z_iload_n dInt_stringSize_0f7a4_23 rfl ?_
      refine z_icmp_le (tgt := 31) dInt_stringSize_0f7a4_24 (by decide) (by omega) (by omega) (fun c24 => ?_) (fun c24 => ?_)
      · refine z_bipush dInt_stringSize_0f7a4_31 rfl ?_
        refine z_iload_n dInt_stringSize_0f7a4_33 rfl ?_
        refine z_imul dInt_stringSize_0f7a4_34 ?_
        refine z_istore_n dInt_stringSize_0f7a4_35 (Nat.le_of_ble_eq_true rfl) ?_
        refine z_iinc dInt_stringSize_0f7a4_36 rfl (Nat.le_of_ble_eq_true rfl) ?_
        refine z_goto (tgt := 16) dInt_stringSize_0f7a4_39 (by decide) ?_
        show zR _ _ _ _ _ _ 16 [some (zi x), some (zi 1), some (zi (-100)), some (zi 2)] []
        refine z_iload_n dInt_stringSize_0f7a4_16 rfl ?_
        refine z_bipush dInt_stringSize_0f7a4_17 rfl ?_
        refine z_icmp_ge (tgt := 42) dInt_stringSize_0f7a4_19 (by decide) (by omega) (by omega) (fun c19 => ?_) (fun c19 => ?_)
        · exfalso; omega
        · refine z_iload_n dInt_stringSize_0f7a4_22 rfl ?_
          refine z_iload_n dInt_stringSize_0f7a4_23 rfl ?_
          refine z_icmp_le (tgt := 31) dInt_stringSize_0f7a4_24 (by decide) (by omega) (by omega) (fun c24 => ?_) (fun c24 => ?_)
          · refine z_bipush dInt_stringSize_0f7a4_31 rfl ?_
            refine z_iload_n dInt_stringSize_0f7a4_33 rfl ?_
            refine z_imul dInt_stringSize_0f7a4_34 ?_
            refine z_istore_n dInt_stringSize_0f7a4_35 (Nat.le_of_ble_eq_true rfl) ?_
            refine z_iinc dInt_stringSize_0f7a4_36 rfl (Nat.le_of_ble_eq_true rfl) ?_
            refine z_goto (tgt := 16) dInt_stringSize_0f7a4_39 (by decide) ?_
            show zR _ _ _ _ _ _ 16 [some (zi x), some (zi 1), some (zi (-1000)), some (zi 3)] []
            refine z_iload_n dInt_stringSize_0f7a4_16 rfl ?_
            refine z_bipush dInt_stringSize_0f7a4_17 rfl ?_
            refine z_icmp_ge (tgt := 42) dInt_stringSize_0f7a4_19 (by decide) (by omega) (by omega) (fun c19 => ?_) (fun c19 => ?_)
            · exfalso; omega
            · refine z_iload_n dInt_stringSize_0f7a4_22 rfl ?_
              refine z_iload_n dInt_stringSize_0f7a4_23 rfl ?_
              refine z_icmp_le (tgt := 31) dInt_stringSize_0f7a4_24 (by decide) (by omega) (by omega) (fun c24 => ?_) (fun c24 => ?_)
              · refine z_bipush dInt_stringSize_0f7a4_31 rfl ?_
                refine z_iload_n dInt_stringSize_0f7a4_33 rfl ?_
                refine z_imul dInt_stringSize_0f7a4_34 ?_
                refine z_istore_n dInt_stringSize_0f7a4_35 (Nat.le_of_ble_eq_true rfl) ?_
                refine z_iinc dInt_stringSize_0f7a4_36 rfl (Nat.le_of_ble_eq_true rfl) ?_
                refine z_goto (tgt := 16) dInt_stringSize_0f7a4_39 (by decide) ?_
                show zR _ _ _ _ _ _ 16 [some (zi x), some (zi 1), some (zi (-10000)), some (zi 4)] []
                refine z_iload_n dInt_stringSize_0f7a4_16 rfl ?_
                refine z_bipush dInt_stringSize_0f7a4_17 rfl ?_
                refine z_icmp_ge (tgt := 42) dInt_stringSize_0f7a4_19 (by decide) (by omega) (by omega) (fun c19 => ?_) (fun c19 => ?_)
                · exfalso; omega
                · refine z_iload_n dInt_stringSize_0f7a4_22 rfl ?_
                  refine z_iload_n dInt_stringSize_0f7a4_23 rfl ?_
                  refine z_icmp_le (tgt := 31) dInt_stringSize_0f7a4_24 (by decide) (by omega) (by omega) (fun c24 => ?_) (fun c24 => ?_)
                  · exfalso; omega
                  · refine z_iload_n dInt_stringSize_0f7a4_27 rfl ?_
                    refine z_iload_n dInt_stringSize_0f7a4_28 rfl ?_
                    refine z_iadd dInt_stringSize_0f7a4_29 ?_
                    refine z_iret rfl rfl dInt_stringSize_0f7a4_30 ?_
                    exact ⟨congrArg (fun z => some (zi z)) (by unfold zSz; (repeat' split) <;> omega), rfl⟩
              · refine z_iload_n dInt_stringSize_0f7a4_27 rfl ?_
                refine z_iload_n dInt_stringSize_0f7a4_28 rfl ?_
                refine z_iadd dInt_stringSize_0f7a4_29 ?_
                refine z_iret rfl rfl dInt_stringSize_0f7a4_30 ?_
                exact ⟨congrArg (fun z => some (zi z)) (by unfold zSz; (repeat' split) <;> omega), rfl⟩
          · refine z_iload_n dInt_stringSize_0f7a4_27 rfl ?_
            refine z_iload_n dInt_stringSize_0f7a4_28 rfl ?_
            refine z_iadd dInt_stringSize_0f7a4_29 ?_
            refine z_iret rfl rfl dInt_stringSize_0f7a4_30 ?_
            exact ⟨congrArg (fun z => some (zi z)) (by unfold zSz; (repeat' split) <;> omega), rfl⟩
      · refine z_iload_n dInt_stringSize_0f7a4_27 rfl ?_
        refine z_iload_n dInt_stringSize_0f7a4_28 rfl ?_
        refine z_iadd dInt_stringSize_0f7a4_29 ?_
        refine z_iret rfl rfl dInt_stringSize_0f7a4_30 ?_
        exact ⟨congrArg (fun z => some (zi z)) (by unfold zSz; (repeat' split) <;> omega), rfl⟩
  · refine z_iconst dInt_stringSize_0f7a4_6 ?_
    refine z_istore_n dInt_stringSize_0f7a4_7 (Nat.le_of_ble_eq_true rfl) ?_
    refine z_iload_n dInt_stringSize_0f7a4_8 rfl ?_
    refine z_ineg dInt_stringSize_0f7a4_9 ?_
    refine z_istore_n dInt_stringSize_0f7a4_10 (Nat.le_of_ble_eq_true rfl) ?_
    refine z_bipush dInt_stringSize_0f7a4_11 rfl ?_
    refine z_istore_n dInt_stringSize_0f7a4_13 (Nat.le_of_ble_eq_true rfl) ?_
    refine z_iconst dInt_stringSize_0f7a4_14 ?_
    refine z_istore_n dInt_stringSize_0f7a4_15 (Nat.le_of_ble_eq_true rfl) ?_
    show zR _ _ _ _ _ _ 16 [some (zi (-x)), some (zi 0), some (zi (-10)), some (zi 1)] []
    refine z_iload_n dInt_stringSize_0f7a4_16 rfl ?_
    refine z_bipush dInt_stringSize_0f7a4_17 rfl ?_
    refine z_icmp_ge (tgt := 42) dInt_stringSize_0f7a4_19 (by decide) (by omega) (by omega) (fun c19 => ?_) (fun c19 => ?_)
    · exfalso; omega
    · refine z_iload_n dInt_stringSize_0f7a4_22 rfl ?_
      refine z_iload_n dInt_stringSize_0f7a4_23 rfl ?_
      refine z_icmp_le (tgt := 31) dInt_stringSize_0f7a4_24 (by decide) (by omega) (by omega) (fun c24 => ?_) (fun c24 => ?_)
      · refine z_bipush dInt_stringSize_0f7a4_31 rfl ?_
        refine z_iload_n dInt_stringSize_0f7a4_33 rfl ?_
        refine z_imul dInt_stringSize_0f7a4_34 ?_
        refine z_istore_n dInt_stringSize_0f7a4_35 (Nat.le_of_ble_eq_true rfl) ?_
        refine z_iinc dInt_stringSize_0f7a4_36 rfl (Nat.le_of_ble_eq_true rfl) ?_
        refine z_goto (tgt := 16) dInt_stringSize_0f7a4_39 (by decide) ?_
        show zR _ _ _ _ _ _ 16 [some (zi (-x)), some (zi 0), some (zi (-100)), some (zi 2)] []
        refine z_iload_n dInt_stringSize_0f7a4_16 rfl ?_
        refine z_bipush dInt_stringSize_0f7a4_17 rfl ?_
        refine z_icmp_ge (tgt := 42) dInt_stringSize_0f7a4_19 (by decide) (by omega) (by omega) (fun c19 => ?_) (fun c19 => ?_)
        · exfalso; omega
        · refine z_iload_n dInt_stringSize_0f7a4_22 rfl ?_
          refine z_iload_n dInt_stringSize_0f7a4_23 rfl ?_
          refine z_icmp_le (tgt := 31) dInt_stringSize_0f7a4_24 (by decide) (by omega) (by omega) (fun c24 => ?_) (fun c24 => ?_)
          · refine z_bipush dInt_stringSize_0f7a4_31 rfl ?_
            refine z_iload_n dInt_stringSize_0f7a4_33 rfl ?_
            refine z_imul dInt_stringSize_0f7a4_34 ?_
            refine z_istore_n dInt_stringSize_0f7a4_35 (Nat.le_of_ble_eq_true rfl) ?_
            refine z_iinc dInt_stringSize_0f7a4_36 rfl (Nat.le_of_ble_eq_true rfl) ?_
            refine z_goto (tgt := 16) dInt_stringSize_0f7a4_39 (by decide) ?_
            show zR _ _ _ _ _ _ 16 [some (zi (-x)), some (zi 0), some (zi (-1000)), some (zi 3)] []
            refine z_iload_n dInt_stringSize_0f7a4_16 rfl ?_
            refine z_bipush dInt_stringSize_0f7a4_17 rfl ?_
            refine z_icmp_ge (tgt := 42) dInt_stringSize_0f7a4_19 (by decide) (by omega) (by omega) (fun c19 => ?_) (fun c19 => ?_)
            · exfalso; omega
            · refine z_iload_n dInt_stringSize_0f7a4_22 rfl ?_
              refine z_iload_n dInt_stringSize_0f7a4_23 rfl ?_
              refine z_icmp_le (tgt := 31) dInt_stringSize_0f7a4_24 (by decide) (by omega) (by omega) (fun c24 => ?_) (fun c24 => ?_)
              · refine z_bipush dInt_stringSize_0f7a4_31 rfl ?_
                refine z_iload_n dInt_stringSize_0f7a4_33 rfl ?_
                refine z_imul dInt_stringSize_0f7a4_34 ?_
                refine z_istore_n dInt_stringSize_0f7a4_35 (Nat.le_of_ble_eq_true rfl) ?_
                refine z_iinc dInt_stringSize_0f7a4_36 rfl (Nat.le_of_ble_eq_true rfl) ?_
                refine z_goto (tgt := 16) dInt_stringSize_0f7a4_39 (by decide) ?_
                show zR _ _ _ _ _ _ 16 [some (zi (-x)), some (zi 0), some (zi (-10000)), some (zi 4)] []
                refine z_iload_n dInt_stringSize_0f7a4_16 rfl ?_
                refine z_bipush dInt_stringSize_0f7a4_17 rfl ?_
                refine z_icmp_ge (tgt := 42) dInt_stringSize_0f7a4_19 (by decide) (by omega) (by omega) (fun c19 => ?_) (fun c19 => ?_)
                · exfalso; omega
                · refine z_iload_n dInt_stringSize_0f7a4_22 rfl ?_
                  refine z_iload_n dInt_stringSize_0f7a4_23 rfl ?_
                  refine z_icmp_le (tgt := 31) dInt_stringSize_0f7a4_24 (by decide) (by omega) (by omega) (fun c24 => ?_) (fun c24 => ?_)
                  · exfalso; omega
                  · refine z_iload_n dInt_stringSize_0f7a4_27 rfl ?_
                    refine z_iload_n dInt_stringSize_0f7a4_28 rfl ?_
                    refine z_iadd dInt_stringSize_0f7a4_29 ?_
                    refine z_iret rfl rfl dInt_stringSize_0f7a4_30 ?_
                    exact ⟨congrArg (fun z => some (zi z)) (by unfold zSz; (repeat' split) <;> omega), rfl⟩
              · refine z_iload_n dInt_stringSize_0f7a4_27 rfl ?_
                refine z_iload_n dInt_stringSize_0f7a4_28 rfl ?_
                refine z_iadd dInt_stringSize_0f7a4_29 ?_
                refine z_iret rfl rfl dInt_stringSize_0f7a4_30 ?_
                exact ⟨congrArg (fun z => some (zi z)) (by unfold zSz; (repeat' split) <;> omega), rfl⟩
          · refine z_iload_n dInt_stringSize_0f7a4_27 rfl ?_
            refine z_iload_n dInt_stringSize_0f7a4_28 rfl ?_
            refine z_iadd dInt_stringSize_0f7a4_29 ?_
            refine z_iret rfl rfl dInt_stringSize_0f7a4_30 ?_
            exact ⟨congrArg (fun z => some (zi z)) (by unfold zSz; (repeat' split) <;> omega), rfl⟩
      · refine z_iload_n dInt_stringSize_0f7a4_27 rfl ?_
        refine z_iload_n dInt_stringSize_0f7a4_28 rfl ?_
        refine z_iadd dInt_stringSize_0f7a4_29 ?_
        refine z_iret rfl rfl dInt_stringSize_0f7a4_30 ?_
        exact ⟨congrArg (fun z => some (zi z)) (by unfold zSz; (repeat' split) <;> omega), rfl⟩
theorem k_Int_getChars {x : Int} {i9 a cap : Nat} {f : Nat → Int} (hx : zIn x) (hi : zSz x ≤ i9 ∧ i9 ≤ cap) (hc : cap ≤ 1000) (ea : h a = some (zBytes G cap f)) (hf : zFit f) : zM G l hInt_getChars_ba4f3 yInt_getChars_ba4f3 1 [zi x, zi (i9 : Int), .ref a] h (fun v h' => ∃ r g', v = some (zi r) ∧ zFit g' ∧ h' a = some (zBytes G cap g') ∧ ∀ z, z ≠ a → h' z = h z) zNo 0 0 := by
  have hz := zSz_spec x
  have hfx := hf
  have Fx : ∀ z, z ≠ a → h z = h z := fun _ _ => rfl
  refine zM.of [some (zi x), some (zi (i9 : Int)), some (.ref a), none, none, none, none] (by decide +kernel) rfl (by decide) rfl (Nat.le_of_ble_eq_true rfl) rfl ?_
  refine z_iload_n dInt_getChars_ba4f3_0 rfl ?_
  refine z_istore dInt_getChars_ba4f3_1 (Nat.le_of_ble_eq_true rfl) ?_
  refine z_iload_n dInt_getChars_ba4f3_3 rfl ?_
  refine z_if_ge (tgt := 11) dInt_getChars_ba4f3_4 (by decide) (by omega) (fun c4 => ?_) (fun c4 => ?_)
  · refine z_iconst dInt_getChars_ba4f3_11 ?_
    refine z_istore dInt_getChars_ba4f3_12 (Nat.le_of_ble_eq_true rfl) ?_
    refine z_iload dInt_getChars_ba4f3_14 rfl ?_
    refine z_if_ne (tgt := 22) dInt_getChars_ba4f3_16 (by decide) (by omega) (fun c16 => absurd rfl c16) (fun c16 => ?_)
    refine z_iload_n dInt_getChars_ba4f3_19 rfl ?_
    refine z_ineg dInt_getChars_ba4f3_20 ?_
    refine z_istore_n dInt_getChars_ba4f3_21 (Nat.le_of_ble_eq_true rfl) ?_
    show zR _ _ _ _ _ _ 22 [some (zi (-x)), some (zi (i9 : Int)), some (.ref a), none, none, some (zi (i9 : Int)), some (zi 0)] []
    refine z_iload_n dInt_getChars_ba4f3_22 rfl ?_
    refine z_bipush dInt_getChars_ba4f3_23 rfl ?_
    refine z_icmp_gt (tgt := 72) dInt_getChars_ba4f3_25 (by decide) (by omega) (by omega) (fun c25 => ?_) (fun c25 => ?_)
    · refine z_aload_n dInt_getChars_ba4f3_72 rfl ?_
      refine z_iinc dInt_getChars_ba4f3_73 rfl (Nat.le_of_ble_eq_true rfl) ?_
      refine z_iload dInt_getChars_ba4f3_76 rfl ?_
      refine z_gets zZd1 fl_Int_83 dInt_getChars_ba4f3_78 ?_
      refine z_iload_n dInt_getChars_ba4f3_81 rfl ?_
      refine z_ineg dInt_getChars_ba4f3_82 ?_
      refine z_baldO (N := 100) zTd1 (by refine ⟨?_, ?_, ?_⟩ <;> omega) dInt_getChars_ba4f3_83 (fun y83 => ?_)
      refine z_bast _ (zbst y83) dInt_getChars_ba4f3_84 (by assumption) (by refine ⟨?_, ?_, ?_⟩ <;> omega) ?_
      refine z_hx (fun h84 p84 f84 => ?_)
      obtain ⟨g84, p84, hfx⟩ : ∃ g, h84 a = some (zBytes G cap g) ∧ zFit g := ⟨_, p84, zFit_up hfx (zfitb y83)⟩
      have Fx : ∀ z, z ≠ a → h84 z = h z := fun z hz => (f84 z hz).trans (Fx z hz)
      refine z_iload_n dInt_getChars_ba4f3_85 rfl ?_
      refine z_bipush dInt_getChars_ba4f3_86 rfl ?_
      refine z_icmp_ge (tgt := 104) dInt_getChars_ba4f3_88 (by decide) (by omega) (by omega) (fun c88 => ?_) (fun c88 => ?_)
      · refine z_iload dInt_getChars_ba4f3_104 rfl ?_
        refine z_if_eq (tgt := 118) dInt_getChars_ba4f3_106 (by decide) (by omega) (fun c106 => ?_) (fun c106 => ?_)
        · refine z_iload dInt_getChars_ba4f3_118 rfl ?_
          refine z_iret rfl rfl dInt_getChars_ba4f3_120 ?_
          exact ⟨_, _, rfl, hfx, by assumption, Fx⟩
        · refine z_aload_n dInt_getChars_ba4f3_109 rfl ?_
          refine z_iinc dInt_getChars_ba4f3_110 rfl (Nat.le_of_ble_eq_true rfl) ?_
          refine z_iload dInt_getChars_ba4f3_113 rfl ?_
          refine z_bipush dInt_getChars_ba4f3_115 rfl ?_
          refine z_bast 45 (by decide) dInt_getChars_ba4f3_117 (by assumption) (by refine ⟨?_, ?_, ?_⟩ <;> omega) ?_
          refine z_hx (fun h117 p117 f117 => ?_)
          obtain ⟨g117, p117, hfx⟩ : ∃ g, h117 a = some (zBytes G cap g) ∧ zFit g := ⟨_, p117, zFit_up hfx (show fits .byte (zi 45) = true from rfl)⟩
          have Fx : ∀ z, z ≠ a → h117 z = h z := fun z hz => (f117 z hz).trans (Fx z hz)
          refine z_iload dInt_getChars_ba4f3_118 rfl ?_
          refine z_iret rfl rfl dInt_getChars_ba4f3_120 ?_
          exact ⟨_, _, rfl, hfx, by assumption, Fx⟩
      · refine z_aload_n dInt_getChars_ba4f3_91 rfl ?_
        refine z_iinc dInt_getChars_ba4f3_92 rfl (Nat.le_of_ble_eq_true rfl) ?_
        refine z_iload dInt_getChars_ba4f3_95 rfl ?_
        refine z_gets zZd2 fl_Int_87 dInt_getChars_ba4f3_97 ?_
        refine z_iload_n dInt_getChars_ba4f3_100 rfl ?_
        refine z_ineg dInt_getChars_ba4f3_101 ?_
        refine z_baldO (N := 100) zTd2 (by refine ⟨?_, ?_, ?_⟩ <;> omega) dInt_getChars_ba4f3_102 (fun y102 => ?_)
        refine z_bast _ (zbst y102) dInt_getChars_ba4f3_103 (by assumption) (by refine ⟨?_, ?_, ?_⟩ <;> omega) ?_
        refine z_hx (fun h103 p103 f103 => ?_)
        obtain ⟨g103, p103, hfx⟩ : ∃ g, h103 a = some (zBytes G cap g) ∧ zFit g := ⟨_, p103, zFit_up hfx (zfitb y102)⟩
        have Fx : ∀ z, z ≠ a → h103 z = h z := fun z hz => (f103 z hz).trans (Fx z hz)
        refine z_iload dInt_getChars_ba4f3_104 rfl ?_
        refine z_if_eq (tgt := 118) dInt_getChars_ba4f3_106 (by decide) (by omega) (fun c106 => ?_) (fun c106 => ?_)
        · refine z_iload dInt_getChars_ba4f3_118 rfl ?_
          refine z_iret rfl rfl dInt_getChars_ba4f3_120 ?_
          exact ⟨_, _, rfl, hfx, by assumption, Fx⟩
        · refine z_aload_n dInt_getChars_ba4f3_109 rfl ?_
          refine z_iinc dInt_getChars_ba4f3_110 rfl (Nat.le_of_ble_eq_true rfl) ?_
          refine z_iload dInt_getChars_ba4f3_113 rfl ?_
          refine z_bipush dInt_getChars_ba4f3_115 rfl ?_
          refine z_bast 45 (by decide) dInt_getChars_ba4f3_117 (by assumption) (by refine ⟨?_, ?_, ?_⟩ <;> omega) ?_
          refine z_hx (fun h117 p117 f117 => ?_)
          obtain ⟨g117, p117, hfx⟩ : ∃ g, h117 a = some (zBytes G cap g) ∧ zFit g := ⟨_, p117, zFit_up hfx (show fits .byte (zi 45) = true from rfl)⟩
          have Fx : ∀ z, z ≠ a → h117 z = h z := fun z hz => (f117 z hz).trans (Fx z hz)
          refine z_iload dInt_getChars_ba4f3_118 rfl ?_
          refine z_iret rfl rfl dInt_getChars_ba4f3_120 ?_
          exact ⟨_, _, rfl, hfx, by assumption, Fx⟩
    · refine z_iload_n dInt_getChars_ba4f3_28 rfl ?_
      refine z_bipush dInt_getChars_ba4f3_29 rfl ?_
      refine z_idiv (-((-(-x)) / 100)) (zdivn (by omega)) (by decide) dInt_getChars_ba4f3_31 ?_
      refine z_istore_n dInt_getChars_ba4f3_32 (Nat.le_of_ble_eq_true rfl) ?_
      refine z_iload_n dInt_getChars_ba4f3_33 rfl ?_
      refine z_bipush dInt_getChars_ba4f3_34 rfl ?_
      refine z_imul dInt_getChars_ba4f3_36 ?_
      refine z_iload_n dInt_getChars_ba4f3_37 rfl ?_
      refine z_isub dInt_getChars_ba4f3_38 ?_
      refine z_istore dInt_getChars_ba4f3_39 (Nat.le_of_ble_eq_true rfl) ?_
      refine z_iload_n dInt_getChars_ba4f3_41 rfl ?_
      refine z_istore_n dInt_getChars_ba4f3_42 (Nat.le_of_ble_eq_true rfl) ?_
      refine z_aload_n dInt_getChars_ba4f3_43 rfl ?_
      refine z_iinc dInt_getChars_ba4f3_44 rfl (Nat.le_of_ble_eq_true rfl) ?_
      refine z_iload dInt_getChars_ba4f3_47 rfl ?_
      refine z_gets zZd1 fl_Int_83 dInt_getChars_ba4f3_49 ?_
      refine z_iload dInt_getChars_ba4f3_52 rfl ?_
      refine z_baldO (N := 100) zTd1 (by refine ⟨?_, ?_, ?_⟩ <;> omega) dInt_getChars_ba4f3_54 (fun y54 => ?_)
      refine z_bast _ (zbst y54) dInt_getChars_ba4f3_55 (by assumption) (by refine ⟨?_, ?_, ?_⟩ <;> omega) ?_
      refine z_hx (fun h55 p55 f55 => ?_)
      obtain ⟨g55, p55, hfx⟩ : ∃ g, h55 a = some (zBytes G cap g) ∧ zFit g := ⟨_, p55, zFit_up hfx (zfitb y54)⟩
      have Fx : ∀ z, z ≠ a → h55 z = h z := fun z hz => (f55 z hz).trans (Fx z hz)
      refine z_aload_n dInt_getChars_ba4f3_56 rfl ?_
      refine z_iinc dInt_getChars_ba4f3_57 rfl (Nat.le_of_ble_eq_true rfl) ?_
      refine z_iload dInt_getChars_ba4f3_60 rfl ?_
      refine z_gets zZd2 fl_Int_87 dInt_getChars_ba4f3_62 ?_
      refine z_iload dInt_getChars_ba4f3_65 rfl ?_
      refine z_baldO (N := 100) zTd2 (by refine ⟨?_, ?_, ?_⟩ <;> omega) dInt_getChars_ba4f3_67 (fun y67 => ?_)
      refine z_bast _ (zbst y67) dInt_getChars_ba4f3_68 (by assumption) (by refine ⟨?_, ?_, ?_⟩ <;> omega) ?_
      refine z_hx (fun h68 p68 f68 => ?_)
      obtain ⟨g68, p68, hfx⟩ : ∃ g, h68 a = some (zBytes G cap g) ∧ zFit g := ⟨_, p68, zFit_up hfx (zfitb y67)⟩
      have Fx : ∀ z, z ≠ a → h68 z = h z := fun z hz => (f68 z hz).trans (Fx z hz)
      refine z_goto (tgt := 22) dInt_getChars_ba4f3_69 (by decide) ?_
      show zR _ _ _ _ _ _ 22 [some (zi (-((-(-x)) / 100))), some (zi (i9 : Int)), some (.ref a), some (zi (-((-(-x)) / 100))), some (zi ((-((-(-x)) / 100)) * 100 - (-x))), some (zi ((i9 : Int) + -1 + -1)), some (zi 0)] []
      refine z_iload_n dInt_getChars_ba4f3_22 rfl ?_
      refine z_bipush dInt_getChars_ba4f3_23 rfl ?_
      refine z_icmp_gt (tgt := 72) dInt_getChars_ba4f3_25 (by decide) (by omega) (by omega) (fun c25 => ?_) (fun c25 => ?_)
      · refine z_aload_n dInt_getChars_ba4f3_72 rfl ?_
        refine z_iinc dInt_getChars_ba4f3_73 rfl (Nat.le_of_ble_eq_true rfl) ?_
        refine z_iload dInt_getChars_ba4f3_76 rfl ?_
        refine z_gets zZd1 fl_Int_83 dInt_getChars_ba4f3_78 ?_
        refine z_iload_n dInt_getChars_ba4f3_81 rfl ?_
        refine z_ineg dInt_getChars_ba4f3_82 ?_
        refine z_baldO (N := 100) zTd1 (by refine ⟨?_, ?_, ?_⟩ <;> omega) dInt_getChars_ba4f3_83 (fun y83 => ?_)
        refine z_bast _ (zbst y83) dInt_getChars_ba4f3_84 (by assumption) (by refine ⟨?_, ?_, ?_⟩ <;> omega) ?_
        refine z_hx (fun h84 p84 f84 => ?_)
        obtain ⟨g84, p84, hfx⟩ : ∃ g, h84 a = some (zBytes G cap g) ∧ zFit g := ⟨_, p84, zFit_up hfx (zfitb y83)⟩
        have Fx : ∀ z, z ≠ a → h84 z = h z := fun z hz => (f84 z hz).trans (Fx z hz)
        refine z_iload_n dInt_getChars_ba4f3_85 rfl ?_
        refine z_bipush dInt_getChars_ba4f3_86 rfl ?_
        refine z_icmp_ge (tgt := 104) dInt_getChars_ba4f3_88 (by decide) (by omega) (by omega) (fun c88 => ?_) (fun c88 => ?_)
        · refine z_iload dInt_getChars_ba4f3_104 rfl ?_
          refine z_if_eq (tgt := 118) dInt_getChars_ba4f3_106 (by decide) (by omega) (fun c106 => ?_) (fun c106 => ?_)
          · refine z_iload dInt_getChars_ba4f3_118 rfl ?_
            refine z_iret rfl rfl dInt_getChars_ba4f3_120 ?_
            exact ⟨_, _, rfl, hfx, by assumption, Fx⟩
          · refine z_aload_n dInt_getChars_ba4f3_109 rfl ?_
            refine z_iinc dInt_getChars_ba4f3_110 rfl (Nat.le_of_ble_eq_true rfl) ?_
            refine z_iload dInt_getChars_ba4f3_113 rfl ?_
            refine z_bipush dInt_getChars_ba4f3_115 rfl ?_
            refine z_bast 45 (by decide) dInt_getChars_ba4f3_117 (by assumption) (by refine ⟨?_, ?_, ?_⟩ <;> omega) ?_
            refine z_hx (fun h117 p117 f117 => ?_)
            obtain ⟨g117, p117, hfx⟩ : ∃ g, h117 a = some (zBytes G cap g) ∧ zFit g := ⟨_, p117, zFit_up hfx (show fits .byte (zi 45) = true from rfl)⟩
            have Fx : ∀ z, z ≠ a → h117 z = h z := fun z hz => (f117 z hz).trans (Fx z hz)
            refine z_iload dInt_getChars_ba4f3_118 rfl ?_
            refine z_iret rfl rfl dInt_getChars_ba4f3_120 ?_
            exact ⟨_, _, rfl, hfx, by assumption, Fx⟩
        · refine z_aload_n dInt_getChars_ba4f3_91 rfl ?_
          refine z_iinc dInt_getChars_ba4f3_92 rfl (Nat.le_of_ble_eq_true rfl) ?_
          refine z_iload dInt_getChars_ba4f3_95 rfl ?_
          refine z_gets zZd2 fl_Int_87 dInt_getChars_ba4f3_97 ?_
          refine z_iload_n dInt_getChars_ba4f3_100 rfl ?_
          refine z_ineg dInt_getChars_ba4f3_101 ?_
          refine z_baldO (N := 100) zTd2 (by refine ⟨?_, ?_, ?_⟩ <;> omega) dInt_getChars_ba4f3_102 (fun y102 => ?_)
          refine z_bast _ (zbst y102) dInt_getChars_ba4f3_103 (by assumption) (by refine ⟨?_, ?_, ?_⟩ <;> omega) ?_
          refine z_hx (fun h103 p103 f103 => ?_)
          obtain ⟨g103, p103, hfx⟩ : ∃ g, h103 a = some (zBytes G cap g) ∧ zFit g := ⟨_, p103, zFit_up hfx (zfitb y102)⟩
          have Fx : ∀ z, z ≠ a → h103 z = h z := fun z hz => (f103 z hz).trans (Fx z hz)
          refine z_iload dInt_getChars_ba4f3_104 rfl ?_
          refine z_if_eq (tgt := 118) dInt_getChars_ba4f3_106 (by decide) (by omega) (fun c106 => ?_) (fun c106 => ?_)
          · refine z_iload dInt_getChars_ba4f3_118 rfl ?_
            refine z_iret rfl rfl dInt_getChars_ba4f3_120 ?_
            exact ⟨_, _, rfl, hfx, by assumption, Fx⟩
          · refine z_aload_n dInt_getChars_ba4f3_109 rfl ?_
            refine z_iinc dInt_getChars_ba4f3_110 rfl (Nat.le_of_ble_eq_true rfl) ?_
            refine z_iload dInt_getChars_ba4f3_113 rfl ?_
            refine z_bipush dInt_getChars_ba4f3_115 rfl ?_
            refine z_bast 45 (by decide) dInt_getChars_ba4f3_117 (by assumption) (by refine ⟨?_, ?_, ?_⟩ <;> omega) ?_
            refine z_hx (fun h117 p117 f117 => ?_)
            obtain ⟨g117, p117, hfx⟩ : ∃ g, h117 a = some (zBytes G cap g) ∧ zFit g := ⟨_, p117, zFit_up hfx (show fits .byte (zi 45) = true from rfl)⟩
            have Fx : ∀ z, z ≠ a → h117 z = h z := fun z hz => (f117 z hz).trans (Fx z hz)
            refine z_iload dInt_getChars_ba4f3_118 rfl ?_
            refine z_iret rfl rfl dInt_getChars_ba4f3_120 ?_
            exact ⟨_, _, rfl, hfx, by assumption, Fx⟩
      · exfalso; omega
  · refine z_iconst dInt_getChars_ba4f3_7 ?_
    refine z_goto (tgt := 12) dInt_getChars_ba4f3_8 (by decide) ?_
    refine z_istore dInt_getChars_ba4f3_12 (Nat.le_of_ble_eq_true rfl) ?_
    refine z_iload dInt_getChars_ba4f3_14 rfl ?_
    refine z_if_ne (tgt := 22) dInt_getChars_ba4f3_16 (by decide) (by omega) (fun c16 => ?_) (fun c16 => absurd c16 (by decide))
    show zR _ _ _ _ _ _ 22 [some (zi x), some (zi (i9 : Int)), some (.ref a), none, none, some (zi (i9 : Int)), some (zi 1)] []
    refine z_iload_n dInt_getChars_ba4f3_22 rfl ?_
    refine z_bipush dInt_getChars_ba4f3_23 rfl ?_
    refine z_icmp_gt (tgt := 72) dInt_getChars_ba4f3_25 (by decide) (by omega) (by omega) (fun c25 => ?_) (fun c25 => ?_)
    · refine z_aload_n dInt_getChars_ba4f3_72 rfl ?_
      refine z_iinc dInt_getChars_ba4f3_73 rfl (Nat.le_of_ble_eq_true rfl) ?_
      refine z_iload dInt_getChars_ba4f3_76 rfl ?_
      refine z_gets zZd1 fl_Int_83 dInt_getChars_ba4f3_78 ?_
      refine z_iload_n dInt_getChars_ba4f3_81 rfl ?_
      refine z_ineg dInt_getChars_ba4f3_82 ?_
      refine z_baldO (N := 100) zTd1 (by refine ⟨?_, ?_, ?_⟩ <;> omega) dInt_getChars_ba4f3_83 (fun y83 => ?_)
      refine z_bast _ (zbst y83) dInt_getChars_ba4f3_84 (by assumption) (by refine ⟨?_, ?_, ?_⟩ <;> omega) ?_
      refine z_hx (fun h84 p84 f84 => ?_)
      obtain ⟨g84, p84, hfx⟩ : ∃ g, h84 a = some (zBytes G cap g) ∧ zFit g := ⟨_, p84, zFit_up hfx (zfitb y83)⟩
      have Fx : ∀ z, z ≠ a → h84 z = h z := fun z hz => (f84 z hz).trans (Fx z hz)
      refine z_iload_n dInt_getChars_ba4f3_85 rfl ?_
      refine z_bipush dInt_getChars_ba4f3_86 rfl ?_
      refine z_icmp_ge (tgt := 104) dInt_getChars_ba4f3_88 (by decide) (by omega) (by omega) (fun c88 => ?_) (fun c88 => ?_)
      · refine z_iload dInt_getChars_ba4f3_104 rfl ?_
        refine z_if_eq (tgt := 118) dInt_getChars_ba4f3_106 (by decide) (by omega) (fun c106 => ?_) (fun c106 => ?_)
        · refine z_iload dInt_getChars_ba4f3_118 rfl ?_
          refine z_iret rfl rfl dInt_getChars_ba4f3_120 ?_
          exact ⟨_, _, rfl, hfx, by assumption, Fx⟩
        · refine z_aload_n dInt_getChars_ba4f3_109 rfl ?_
          refine z_iinc dInt_getChars_ba4f3_110 rfl (Nat.le_of_ble_eq_true rfl) ?_
          refine z_iload dInt_getChars_ba4f3_113 rfl ?_
          refine z_bipush dInt_getChars_ba4f3_115 rfl ?_
          refine z_bast 45 (by decide) dInt_getChars_ba4f3_117 (by assumption) (by refine ⟨?_, ?_, ?_⟩ <;> omega) ?_
          refine z_hx (fun h117 p117 f117 => ?_)
          obtain ⟨g117, p117, hfx⟩ : ∃ g, h117 a = some (zBytes G cap g) ∧ zFit g := ⟨_, p117, zFit_up hfx (show fits .byte (zi 45) = true from rfl)⟩
          have Fx : ∀ z, z ≠ a → h117 z = h z := fun z hz => (f117 z hz).trans (Fx z hz)
          refine z_iload dInt_getChars_ba4f3_118 rfl ?_
          refine z_iret rfl rfl dInt_getChars_ba4f3_120 ?_
          exact ⟨_, _, rfl, hfx, by assumption, Fx⟩
      · refine z_aload_n dInt_getChars_ba4f3_91 rfl ?_
        refine z_iinc dInt_getChars_ba4f3_92 rfl (Nat.le_of_ble_eq_true rfl) ?_
        refine z_iload dInt_getChars_ba4f3_95 rfl ?_
        refine z_gets zZd2 fl_Int_87 dInt_getChars_ba4f3_97 ?_
        refine z_iload_n dInt_getChars_ba4f3_100 rfl ?_
        refine z_ineg dInt_getChars_ba4f3_101 ?_
        refine z_baldO (N := 100) zTd2 (by refine ⟨?_, ?_, ?_⟩ <;> omega) dInt_getChars_ba4f3_102 (fun y102 => ?_)
        refine z_bast _ (zbst y102) dInt_getChars_ba4f3_103 (by assumption) (by refine ⟨?_, ?_, ?_⟩ <;> omega) ?_
        refine z_hx (fun h103 p103 f103 => ?_)
        obtain ⟨g103, p103, hfx⟩ : ∃ g, h103 a = some (zBytes G cap g) ∧ zFit g := ⟨_, p103, zFit_up hfx (zfitb y102)⟩
        have Fx : ∀ z, z ≠ a → h103 z = h z := fun z hz => (f103 z hz).trans (Fx z hz)
        refine z_iload dInt_getChars_ba4f3_104 rfl ?_
        refine z_if_eq (tgt := 118) dInt_getChars_ba4f3_106 (by decide) (by omega) (fun c106 => ?_) (fun c106 => ?_)
        · refine z_iload dInt_getChars_ba4f3_118 rfl ?_
          refine z_iret rfl rfl dInt_getChars_ba4f3_120 ?_
          exact ⟨_, _, rfl, hfx, by assumption, Fx⟩
        · refine z_aload_n dInt_getChars_ba4f3_109 rfl ?_
          refine z_iinc dInt_getChars_ba4f3_110 rfl (Nat.le_of_ble_eq_true rfl) ?_
          refine z_iload dInt_getChars_ba4f3_113 rfl ?_
          refine z_bipush dInt_getChars_ba4f3_115 rfl ?_
          refine z_bast 45 (by decide) dInt_getChars_ba4f3_117 (by assumption) (by refine ⟨?_, ?_, ?_⟩ <;> omega) ?_
          refine z_hx (fun h117 p117 f117 => ?_)
          obtain ⟨g117, p117, hfx⟩ : ∃ g, h117 a = some (zBytes G cap g) ∧ zFit g := ⟨_, p117, zFit_up hfx (show fits .byte (zi 45) = true from rfl)⟩
          have Fx : ∀ z, z ≠ a → h117 z = h z := fun z hz => (f117 z hz).trans (Fx z hz)
          refine z_iload dInt_getChars_ba4f3_118 rfl ?_
          refine z_iret rfl rfl dInt_getChars_ba4f3_120 ?_
          exact ⟨_, _, rfl, hfx, by assumption, Fx⟩
    · refine z_iload_n dInt_getChars_ba4f3_28 rfl ?_
      refine z_bipush dInt_getChars_ba4f3_29 rfl ?_
      refine z_idiv (-((-x) / 100)) (zdivn (by omega)) (by decide) dInt_getChars_ba4f3_31 ?_
      refine z_istore_n dInt_getChars_ba4f3_32 (Nat.le_of_ble_eq_true rfl) ?_
      refine z_iload_n dInt_getChars_ba4f3_33 rfl ?_
      refine z_bipush dInt_getChars_ba4f3_34 rfl ?_
      refine z_imul dInt_getChars_ba4f3_36 ?_
      refine z_iload_n dInt_getChars_ba4f3_37 rfl ?_
      refine z_isub dInt_getChars_ba4f3_38 ?_
      refine z_istore dInt_getChars_ba4f3_39 (Nat.le_of_ble_eq_true rfl) ?_
      refine z_iload_n dInt_getChars_ba4f3_41 rfl ?_
      refine z_istore_n dInt_getChars_ba4f3_42 (Nat.le_of_ble_eq_true rfl) ?_
      refine z_aload_n dInt_getChars_ba4f3_43 rfl ?_
      refine z_iinc dInt_getChars_ba4f3_44 rfl (Nat.le_of_ble_eq_true rfl) ?_
      refine z_iload dInt_getChars_ba4f3_47 rfl ?_
      refine z_gets zZd1 fl_Int_83 dInt_getChars_ba4f3_49 ?_
      refine z_iload dInt_getChars_ba4f3_52 rfl ?_
      refine z_baldO (N := 100) zTd1 (by refine ⟨?_, ?_, ?_⟩ <;> omega) dInt_getChars_ba4f3_54 (fun y54 => ?_)
      refine z_bast _ (zbst y54) dInt_getChars_ba4f3_55 (by assumption) (by refine ⟨?_, ?_, ?_⟩ <;> omega) ?_
      refine z_hx (fun h55 p55 f55 => ?_)
      obtain ⟨g55, p55, hfx⟩ : ∃ g, h55 a = some (zBytes G cap g) ∧ zFit g := ⟨_, p55, zFit_up hfx (zfitb y54)⟩
      have Fx : ∀ z, z ≠ a → h55 z = h z := fun z hz => (f55 z hz).trans (Fx z hz)
      refine z_aload_n dInt_getChars_ba4f3_56 rfl ?_
      refine z_iinc dInt_getChars_ba4f3_57 rfl (Nat.le_of_ble_eq_true rfl) ?_
      refine z_iload dInt_getChars_ba4f3_60 rfl ?_
      refine z_gets zZd2 fl_Int_87 dInt_getChars_ba4f3_62 ?_
      refine z_iload dInt_getChars_ba4f3_65 rfl ?_
      refine z_baldO (N := 100) zTd2 (by refine ⟨?_, ?_, ?_⟩ <;> omega) dInt_getChars_ba4f3_67 (fun y67 => ?_)
      refine z_bast _ (zbst y67) dInt_getChars_ba4f3_68 (by assumption) (by refine ⟨?_, ?_, ?_⟩ <;> omega) ?_
      refine z_hx (fun h68 p68 f68 => ?_)
      obtain ⟨g68, p68, hfx⟩ : ∃ g, h68 a = some (zBytes G cap g) ∧ zFit g := ⟨_, p68, zFit_up hfx (zfitb y67)⟩
      have Fx : ∀ z, z ≠ a → h68 z = h z := fun z hz => (f68 z hz).trans (Fx z hz)
      refine z_goto (tgt := 22) dInt_getChars_ba4f3_69 (by decide) ?_
      show zR _ _ _ _ _ _ 22 [some (zi (-((-x) / 100))), some (zi (i9 : Int)), some (.ref a), some (zi (-((-x) / 100))), some (zi ((-((-x) / 100)) * 100 - x)), some (zi ((i9 : Int) + -1 + -1)), some (zi 1)] []
      refine z_iload_n dInt_getChars_ba4f3_22 rfl ?_
      refine z_bipush dInt_getChars_ba4f3_23 rfl ?_
      refine z_icmp_gt (tgt := 72) dInt_getChars_ba4f3_25 (by decide) (by omega) (by omega) (fun c25 => ?_) (fun c25 => ?_)
      · refine z_aload_n dInt_getChars_ba4f3_72 rfl ?_
        refine z_iinc dInt_getChars_ba4f3_73 rfl (Nat.le_of_ble_eq_true rfl) ?_
        refine z_iload dInt_getChars_ba4f3_76 rfl ?_
        refine z_gets zZd1 fl_Int_83 dInt_getChars_ba4f3_78 ?_
        refine z_iload_n dInt_getChars_ba4f3_81 rfl ?_
        refine z_ineg dInt_getChars_ba4f3_82 ?_
        refine z_baldO (N := 100) zTd1 (by refine ⟨?_, ?_, ?_⟩ <;> omega) dInt_getChars_ba4f3_83 (fun y83 => ?_)
        refine z_bast _ (zbst y83) dInt_getChars_ba4f3_84 (by assumption) (by refine ⟨?_, ?_, ?_⟩ <;> omega) ?_
        refine z_hx (fun h84 p84 f84 => ?_)
        obtain ⟨g84, p84, hfx⟩ : ∃ g, h84 a = some (zBytes G cap g) ∧ zFit g := ⟨_, p84, zFit_up hfx (zfitb y83)⟩
        have Fx : ∀ z, z ≠ a → h84 z = h z := fun z hz => (f84 z hz).trans (Fx z hz)
        refine z_iload_n dInt_getChars_ba4f3_85 rfl ?_
        refine z_bipush dInt_getChars_ba4f3_86 rfl ?_
        refine z_icmp_ge (tgt := 104) dInt_getChars_ba4f3_88 (by decide) (by omega) (by omega) (fun c88 => ?_) (fun c88 => ?_)
        · refine z_iload dInt_getChars_ba4f3_104 rfl ?_
          refine z_if_eq (tgt := 118) dInt_getChars_ba4f3_106 (by decide) (by omega) (fun c106 => ?_) (fun c106 => ?_)
          · refine z_iload dInt_getChars_ba4f3_118 rfl ?_
            refine z_iret rfl rfl dInt_getChars_ba4f3_120 ?_
            exact ⟨_, _, rfl, hfx, by assumption, Fx⟩
          · refine z_aload_n dInt_getChars_ba4f3_109 rfl ?_
            refine z_iinc dInt_getChars_ba4f3_110 rfl (Nat.le_of_ble_eq_true rfl) ?_
            refine z_iload dInt_getChars_ba4f3_113 rfl ?_
            refine z_bipush dInt_getChars_ba4f3_115 rfl ?_
            refine z_bast 45 (by decide) dInt_getChars_ba4f3_117 (by assumption) (by refine ⟨?_, ?_, ?_⟩ <;> omega) ?_
            refine z_hx (fun h117 p117 f117 => ?_)
            obtain ⟨g117, p117, hfx⟩ : ∃ g, h117 a = some (zBytes G cap g) ∧ zFit g := ⟨_, p117, zFit_up hfx (show fits .byte (zi 45) = true from rfl)⟩
            have Fx : ∀ z, z ≠ a → h117 z = h z := fun z hz => (f117 z hz).trans (Fx z hz)
            refine z_iload dInt_getChars_ba4f3_118 rfl ?_
            refine z_iret rfl rfl dInt_getChars_ba4f3_120 ?_
            exact ⟨_, _, rfl, hfx, by assumption, Fx⟩
        · refine z_aload_n dInt_getChars_ba4f3_91 rfl ?_
          refine z_iinc dInt_getChars_ba4f3_92 rfl (Nat.le_of_ble_eq_true rfl) ?_
          refine z_iload dInt_getChars_ba4f3_95 rfl ?_
          refine z_gets zZd2 fl_Int_87 dInt_getChars_ba4f3_97 ?_
          refine z_iload_n dInt_getChars_ba4f3_100 rfl ?_
          refine z_ineg dInt_getChars_ba4f3_101 ?_
          refine z_baldO (N := 100) zTd2 (by refine ⟨?_, ?_, ?_⟩ <;> omega) dInt_getChars_ba4f3_102 (fun y102 => ?_)
          refine z_bast _ (zbst y102) dInt_getChars_ba4f3_103 (by assumption) (by refine ⟨?_, ?_, ?_⟩ <;> omega) ?_
          refine z_hx (fun h103 p103 f103 => ?_)
          obtain ⟨g103, p103, hfx⟩ : ∃ g, h103 a = some (zBytes G cap g) ∧ zFit g := ⟨_, p103, zFit_up hfx (zfitb y102)⟩
          have Fx : ∀ z, z ≠ a → h103 z = h z := fun z hz => (f103 z hz).trans (Fx z hz)
          refine z_iload dInt_getChars_ba4f3_104 rfl ?_
          refine z_if_eq (tgt := 118) dInt_getChars_ba4f3_106 (by decide) (by omega) (fun c106 => ?_) (fun c106 => ?_)
          · refine z_iload dInt_getChars_ba4f3_118 rfl ?_
            refine z_iret rfl rfl dInt_getChars_ba4f3_120 ?_
            exact ⟨_, _, rfl, hfx, by assumption, Fx⟩
          · refine z_aload_n dInt_getChars_ba4f3_109 rfl ?_
            refine z_iinc dInt_getChars_ba4f3_110 rfl (Nat.le_of_ble_eq_true rfl) ?_
            refine z_iload dInt_getChars_ba4f3_113 rfl ?_
            refine z_bipush dInt_getChars_ba4f3_115 rfl ?_
            refine z_bast 45 (by decide) dInt_getChars_ba4f3_117 (by assumption) (by refine ⟨?_, ?_, ?_⟩ <;> omega) ?_
            refine z_hx (fun h117 p117 f117 => ?_)
            obtain ⟨g117, p117, hfx⟩ : ∃ g, h117 a = some (zBytes G cap g) ∧ zFit g := ⟨_, p117, zFit_up hfx (show fits .byte (zi 45) = true from rfl)⟩
            have Fx : ∀ z, z ≠ a → h117 z = h z := fun z hz => (f117 z hz).trans (Fx z hz)
            refine z_iload dInt_getChars_ba4f3_118 rfl ?_
            refine z_iret rfl rfl dInt_getChars_ba4f3_120 ?_
            exact ⟨_, _, rfl, hfx, by assumption, Fx⟩
      · exfalso; omega
theorem k_Asb_appendI {b a cap n : Nat} {x : Int} (B : zSb G h0 h b a cap n) (hx : zIn x) (hm : n + zSz x ≤ 120) (hc : cap ≤ 240) : zM G l hAsb_append_c97b9 yAsb_append_c97b9 5 [.ref b, zi x] h (fun v h' => v = some (.ref b) ∧ ∃ a', zSb G h0 h' b a' (zCp cap (n + zSz x)) (n + zSz x)) zNo 1 (zGr cap (n + zSz x)) := by
  have B0 := B
  obtain ⟨ml, f, e, ea, hf, hnc, hba, db, da, hx0⟩ := B
  refine zM.of [some (.ref b), some (zi x), none, none] (by decide +kernel) rfl (by decide) rfl (Nat.le_of_ble_eq_true rfl) rfl ?_
  refine z_aload_n dAsb_append_c97b9_0 rfl ?_
  refine z_get (k := 3) fd_Sbd (by decide) fl_Asb_79 dAsb_append_c97b9_1 (by assumption) (by rfl) ?_
  refine z_istore_n dAsb_append_c97b9_4 (Nat.le_of_ble_eq_true rfl) ?_
  refine z_iload_n dAsb_append_c97b9_5 rfl ?_
  refine z_iload_n dAsb_append_c97b9_6 rfl ?_
  refine z_callS MS_Int_stringSize_0f7a4 lk_Asb_245 dAsb_append_c97b9_7 (k_Int_stringSize hx) rfl rfl (Nat.le_of_ble_eq_true rfl)  (Nat.le_of_ble_eq_true rfl) (Nat.le_of_ble_eq_true rfl) (Nat.le_of_eq (Nat.zero_add _)) (Nat.le_of_eq (Nat.zero_add _)) (fun _ _ q => q.elim) ?_
  rintro _ _ ⟨rfl, rfl⟩
  refine z_iadd dAsb_append_c97b9_10 ?_
  rw [show (n : Int) + (zSz x : Int) = ((n + zSz x : Nat) : Int) by omega]
  refine z_istore_n dAsb_append_c97b9_11 (Nat.le_of_ble_eq_true rfl) ?_
  refine z_aload_n dAsb_append_c97b9_12 rfl ?_
  refine z_iload_n dAsb_append_c97b9_13 rfl ?_
  refine z_callC (bc' := 0) (bs' := 0) ME_Asb_ensureCapacityInternal_d00df IN_Asb_ensureCapacityInternal_d00df SE_Asb_ensureCapacityInternal_d00df lk_Asb_100 dAsb_append_c97b9_14 (k_Asb_ensure (k := n + zSz x) B0 (by omega) hc) rfl rfl (Nat.le_of_ble_eq_true rfl) (ci := zkSbd) rfl (by assumption) (Nat.le_of_ble_eq_true rfl) (Nat.le_of_ble_eq_true rfl) (by omega) (by omega) (fun _ _ q => q.elim) ?_
  rintro _ h2 ⟨rfl, a2, B2⟩
  obtain ⟨ml2, f2, e2, ea2, hf2, hnc2, hba2, db2, da2, hx2⟩ := B2
  have hcp : n + zSz x ≤ zCp cap (n + zSz x) ∧ zCp cap (n + zSz x) ≤ 240 := by unfold zCp zNc; split <;> (try split) <;> omega
  refine z_aload_n dAsb_append_c97b9_17 rfl ?_
  refine z_callC ME_Asb_isLatin1_aae02 IN_Asb_isLatin1_aae02 SE_Asb_isLatin1_aae02 lk_Asb_83 dAsb_append_c97b9_18 (k_Asb_isLatin1 e2) rfl rfl (Nat.le_of_ble_eq_true rfl) (ci := zkSbd) rfl (by assumption) (Nat.le_of_ble_eq_true rfl) (Nat.le_of_ble_eq_true rfl) (Nat.le_of_eq (Nat.zero_add _)) (Nat.le_of_eq (Nat.zero_add _)) (fun _ _ q => q.elim) ?_
  rintro _ _ ⟨rfl, rfl⟩
  refine z_if_eq (tgt := 37) dAsb_append_c97b9_21 (by decide) (by omega) (fun c21 => ?_) (fun c21 => ?_)
  · exact absurd c21 (by decide)
  · refine z_iload_n dAsb_append_c97b9_24 rfl ?_
    refine z_iload_n dAsb_append_c97b9_25 rfl ?_
    refine z_aload_n dAsb_append_c97b9_26 rfl ?_
    refine z_get (k := 0) fd_Sbd (by decide) fl_Asb_15 dAsb_append_c97b9_27 (by assumption) (by rfl) ?_
    refine z_callS MS_Int_getChars_ba4f3 lk_Asb_248 dAsb_append_c97b9_30 (k_Int_getChars hx ⟨by omega, hcp.1⟩ (by omega) ea2 hf2) rfl rfl (Nat.le_of_ble_eq_true rfl)  (Nat.le_of_ble_eq_true rfl) (Nat.le_of_ble_eq_true rfl) (Nat.le_of_eq (Nat.zero_add _)) (Nat.le_of_eq (Nat.zero_add _)) (fun _ _ q => q.elim) ?_
    rintro _ h3 ⟨r9, g3, rfl, hg3, p3, F3⟩
    have e3 := (F3 b hba2).trans e2
    refine z_pop rfl dAsb_append_c97b9_33 ?_
    refine z_goto (tgt := 48) dAsb_append_c97b9_34 (by decide) ?_
    refine z_aload_n dAsb_append_c97b9_48 rfl ?_
    refine z_iload_n dAsb_append_c97b9_49 rfl ?_
    refine z_put (k := 3) fd_Sbd (by decide) fl_Asb_79 rfl dAsb_append_c97b9_50 e3 (by simp) rfl rfl ?_
    refine z_hx (fun h4 p4 F4 => ?_)
    refine z_aload_n dAsb_append_c97b9_53 rfl ?_
    refine z_aret rfl (Or.inl ⟨_, rfl⟩) (Or.inr ⟨_, rfl⟩) dAsb_append_c97b9_54 ?_
    refine ⟨rfl, a2, ml2, g3, p4, (F4 a2 (Ne.symm hba2)).trans p3, hg3, hcp.1, hba2, db2, da2, fun z x hz => ?_⟩
    exact (F4 z (Nat.ne_of_lt (db2 z x hz))).trans ((F3 z (Nat.ne_of_lt (da2 z x hz))).trans (hx2 z x hz))
theorem k_Sbd_appendI {b a cap n : Nat} {x : Int} (B : zSb G h0 h b a cap n) (hx : zIn x) (hm : n + zSz x ≤ 120) (hc : cap ≤ 240) : zM G l hSbd_append_bf812 ySbd_append_bf812 6 [.ref b, zi x] h (fun v h' => v = some (.ref b) ∧ ∃ a', zSb G h0 h' b a' (zCp cap (n + zSz x)) (n + zSz x)) zNo 1 (zGr cap (n + zSz x)) := by
  have B0 := B
  obtain ⟨ml, f, e, ea, hf, hnc, hba, db, da, hx0⟩ := B
  refine zM.of [some (.ref b), some (zi x)] (by decide +kernel) rfl (by decide) rfl (Nat.le_of_ble_eq_true rfl) rfl ?_
  refine z_aload_n dSbd_append_bf812_0 rfl ?_
  refine z_iload_n dSbd_append_bf812_1 rfl ?_
  refine z_callSU (bc' := 0) (bs' := 0) ME_Asb_append_c97b9 IN_Asb_append_c97b9 SM_Asb_append_c97b9 SU_Sbd (by decide) lk_Sbd_53 dSbd_append_bf812_2 (k_Asb_appendI B0 hx hm hc) rfl rfl (Nat.le_of_ble_eq_true rfl) (by assumption) (Nat.le_of_ble_eq_true rfl) (Nat.le_of_ble_eq_true rfl) (by omega) (by omega) (fun _ _ q => q.elim) ?_
  rintro _ h2 ⟨rfl, a2, B2⟩
  refine z_pop rfl dSbd_append_bf812_5 ?_
  refine z_aload_n dSbd_append_bf812_6 rfl ?_
  refine z_aret rfl (Or.inl ⟨_, rfl⟩) (Or.inr ⟨_, rfl⟩) dSbd_append_bf812_7 ?_
  exact ⟨rfl, a2, B2⟩
theorem k_Lat_canEncode_fc78d  : zM G l hLat_canEncode_fc78d yLat_canEncode_fc78d 1 [zi 32] h (fun v h' => v = some (zi 1) ∧ h = h') zNo 0 0 := by
  refine zM.of [some (zi 32)] (by decide +kernel) rfl (by decide) rfl (Nat.le_of_ble_eq_true rfl) rfl ?_
  refine z_iload_n dLat_canEncode_fc78d_0 rfl ?_
  refine z_sipush dLat_canEncode_fc78d_1 rfl ?_
  refine z_icmp_gt (tgt := 11) dLat_canEncode_fc78d_4 (by decide) (by omega) (by omega) (fun c4 => ?_) (fun c4 => ?_)
  · exfalso; omega
  · refine z_iconst dLat_canEncode_fc78d_7 ?_
    refine z_goto (tgt := 12) dLat_canEncode_fc78d_8 (by decide) ?_
    refine z_iret rfl rfl dLat_canEncode_fc78d_12 ?_
    exact ⟨rfl, rfl⟩
theorem k_Asb_appendC {b a cap n : Nat} (B : zSb G h0 h b a cap n) (hm : n + 1 ≤ 120) (hc : cap ≤ 240) : zM G l hAsb_append_3fe6f yAsb_append_3fe6f 5 [.ref b, zi 32] h (fun v h' => v = some (.ref b) ∧ ∃ a', zSb G h0 h' b a' (zCp cap (n + 1)) (n + 1)) zNo 1 (zGr cap (n + 1)) := by
  have B0 := B
  obtain ⟨ml, f, e, ea, hf, hnc, hba, db, da, hx0⟩ := B
  refine zM.of [some (.ref b), some (zi 32)] (by decide +kernel) rfl (by decide) rfl (Nat.le_of_ble_eq_true rfl) rfl ?_
  refine z_aload_n dAsb_append_3fe6f_0 rfl ?_
  refine z_aload_n dAsb_append_3fe6f_1 rfl ?_
  refine z_get (k := 3) fd_Sbd (by decide) fl_Asb_79 dAsb_append_3fe6f_2 (by assumption) (by rfl) ?_
  refine z_iconst dAsb_append_3fe6f_5 ?_
  refine z_iadd dAsb_append_3fe6f_6 ?_
  rw [show (n : Int) + 1 = ((n + 1 : Nat) : Int) by omega]
  refine z_callC (bc' := 0) (bs' := 0) ME_Asb_ensureCapacityInternal_d00df IN_Asb_ensureCapacityInternal_d00df SE_Asb_ensureCapacityInternal_d00df lk_Asb_100 dAsb_append_3fe6f_7 (k_Asb_ensure (k := n + 1) B0 (by omega) hc) rfl rfl (Nat.le_of_ble_eq_true rfl) (ci := zkSbd) rfl (by assumption) (Nat.le_of_ble_eq_true rfl) (Nat.le_of_ble_eq_true rfl) (by omega) (by omega) (fun _ _ q => q.elim) ?_
  rintro _ h2 ⟨rfl, a2, B2⟩
  obtain ⟨ml2, f2, e2, ea2, hf2, hnc2, hba2, db2, da2, hx2⟩ := B2
  have hcp : n + 1 ≤ zCp cap (n + 1) ∧ zCp cap (n + 1) ≤ 240 := by unfold zCp zNc; split <;> (try split) <;> omega
  refine z_aload_n dAsb_append_3fe6f_10 rfl ?_
  refine z_callC ME_Asb_isLatin1_aae02 IN_Asb_isLatin1_aae02 SE_Asb_isLatin1_aae02 lk_Asb_83 dAsb_append_3fe6f_11 (k_Asb_isLatin1 e2) rfl rfl (Nat.le_of_ble_eq_true rfl) (ci := zkSbd) rfl (by assumption) (Nat.le_of_ble_eq_true rfl) (Nat.le_of_ble_eq_true rfl) (Nat.le_of_eq (Nat.zero_add _)) (Nat.le_of_eq (Nat.zero_add _)) (fun _ _ q => q.elim) ?_
  rintro _ _ ⟨rfl, rfl⟩
  refine z_if_eq (tgt := 45) dAsb_append_3fe6f_14 (by decide) (by omega) (fun c14 => ?_) (fun c14 => ?_)
  · first
      | exact absurd c14 (by decide)
      | exact absurd c21 (by decide)
  · refine z_iload_n dAsb_append_3fe6f_17 rfl ?_
    refine z_callS MS_Lat_canEncode_fc78d lk_Asb_191 dAsb_append_3fe6f_18 (k_Lat_canEncode_fc78d) rfl rfl (Nat.le_of_ble_eq_true rfl)  (Nat.le_of_ble_eq_true rfl) (Nat.le_of_ble_eq_true rfl) (Nat.le_of_eq (Nat.zero_add _)) (Nat.le_of_eq (Nat.zero_add _)) (fun _ _ q => q.elim) ?_
    rintro _ _ ⟨rfl, rfl⟩
    refine z_if_eq (tgt := 45) dAsb_append_3fe6f_21 (by decide) (by omega) (fun c21 => ?_) (fun c21 => ?_)
    · first
        | exact absurd c14 (by decide)
        | exact absurd c21 (by decide)
    · refine z_aload_n dAsb_append_3fe6f_24 rfl ?_
      refine z_get (k := 0) fd_Sbd (by decide) fl_Asb_15 dAsb_append_3fe6f_25 (by assumption) (by rfl) ?_
      refine z_aload_n dAsb_append_3fe6f_28 rfl ?_
      refine z_dup rfl dAsb_append_3fe6f_29 ?_
      refine z_get (k := 3) fd_Sbd (by decide) fl_Asb_79 dAsb_append_3fe6f_30 (by assumption) (by rfl) ?_
      refine z_dup_x1 rfl rfl dAsb_append_3fe6f_33 ?_
      refine z_iconst dAsb_append_3fe6f_34 ?_
      refine z_iadd dAsb_append_3fe6f_35 ?_
      refine z_put (k := 3) fd_Sbd (by decide) fl_Asb_79 rfl dAsb_append_3fe6f_36 e2 (by simp) rfl rfl ?_
      refine z_hx (fun h3 p3 F3 => ?_)
      have ea3 := (F3 a2 (Ne.symm hba2)).trans ea2
      refine z_iload_n dAsb_append_3fe6f_39 rfl ?_
      refine z_i2b 32 (by decide) dAsb_append_3fe6f_40 ?_
      refine z_bast 32 (by decide) dAsb_append_3fe6f_41 ea3 (by refine ⟨?_, ?_, ?_⟩ <;> omega) ?_
      refine z_hx (fun h4 p4 F4 => ?_)
      refine z_goto (tgt := 75) dAsb_append_3fe6f_42 (by decide) ?_
      refine z_aload_n dAsb_append_3fe6f_75 rfl ?_
      refine z_aret rfl (Or.inl ⟨_, rfl⟩) (Or.inr ⟨_, rfl⟩) dAsb_append_3fe6f_76 ?_
      refine ⟨rfl, a2, ml2, _, (F4 b hba2).trans p3, p4, zFit_up hf2 rfl, hcp.1, hba2, db2, da2, fun z x hz => ?_⟩
      exact (F4 z (Nat.ne_of_lt (da2 z x hz))).trans ((F3 z (Nat.ne_of_lt (db2 z x hz))).trans (hx2 z x hz))
theorem k_Sbd_appendC {b a cap n : Nat} (B : zSb G h0 h b a cap n) (hm : n + 1 ≤ 120) (hc : cap ≤ 240) : zM G l hSbd_append_cf468 ySbd_append_cf468 6 [.ref b, zi 32] h (fun v h' => v = some (.ref b) ∧ ∃ a', zSb G h0 h' b a' (zCp cap (n + 1)) (n + 1)) zNo 1 (zGr cap (n + 1)) := by
  have B0 := B
  obtain ⟨ml, f, e, ea, hf, hnc, hba, db, da, hx0⟩ := B
  refine zM.of [some (.ref b), some (zi 32)] (by decide +kernel) rfl (by decide) rfl (Nat.le_of_ble_eq_true rfl) rfl ?_
  refine z_aload_n dSbd_append_cf468_0 rfl ?_
  refine z_iload_n dSbd_append_cf468_1 rfl ?_
  refine z_callSU (bc' := 0) (bs' := 0) ME_Asb_append_3fe6f IN_Asb_append_3fe6f SM_Asb_append_3fe6f SU_Sbd (by decide) lk_Sbd_50 dSbd_append_cf468_2 (k_Asb_appendC B0 hm hc) rfl rfl (Nat.le_of_ble_eq_true rfl) (by assumption) (Nat.le_of_ble_eq_true rfl) (Nat.le_of_ble_eq_true rfl) (by omega) (by omega) (fun _ _ q => q.elim) ?_
  rintro _ h2 ⟨rfl, a2, B2⟩
  refine z_pop rfl dSbd_append_cf468_5 ?_
  refine z_aload_n dSbd_append_cf468_6 rfl ?_
  refine z_aret rfl (Or.inl ⟨_, rfl⟩) (Or.inr ⟨_, rfl⟩) dSbd_append_cf468_7 ?_
  exact ⟨rfl, a2, B2⟩
end STR6
