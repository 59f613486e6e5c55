section MOD22
variable {G : zG} {l : Launch} {h h' h'' : zHp} {ma : Nat → Nat} {S : zSt} {th : Int}
def zBc (L A : List Int) : Nat → Int
  | 0 => 0
  | n + 1 => zBc L A n + (1 + zFind L (A.getD n 0) 0)
def zB1 (L : List Int) (b : Nat) : Nat → Int
  | 0 => 0
  | a + 1 => zB1 L b a + (if zFind L b 0 < zFind L a 0 then 1 else 0)
def zB2 (L : List Int) : Nat → Int
  | 0 => 0
  | b + 1 => zB2 L b + zB1 L b b
def zBo (S : zSt) (L : List Int) (w : Int) : Int := if w = 0 then zBc L S.2.2.2.1 S.2.2.2.1.length else if w = 1 then zB2 L 8 else 2 * zBc L S.2.2.2.1 S.2.2.2.1.length - (S.2.2.2.1.length : Int) + zB2 L 8
/-- what the model's byOrder says -/
def spm_byOrder (S : zSt) (p w : Int) : zRes := if 0 ≤ p ∧ p < 4 then (if 0 ≤ w ∧ w ≤ 2 then (if ((S.1 p.toNat).length = 8 ∧ ∀ k : Nat, k < 8 → zFind (S.1 p.toNat) k 0 ≠ -1) then (.inl (zBo S (S.1 p.toNat) w), S) else spRef S) else (.inr zE2, S)) else (.inr zE1, S)
theorem spm_state (S : zSt) (p w : Int) : (spm_byOrder S p w).2 = (sp_byOrder S p w).2 := by
  unfold spm_byOrder sp_byOrder
  (repeat' split) <;> rfl
theorem l_Mod_byOrder1 {mc ms bc bs : Nat} {Qn : Option Value → zHp → Prop} {Qx : String → zHp → Prop} {a : Nat} {L : List Int} {w : Int} {y5 y6 : Option Value} (H : zMod G h ma S th) (hr : zAr G h a L) (hA : S.2.2.2.1.length ≤ 60) (hI : ∀ j, j < S.2.2.2.1.length → zI32 (S.2.2.2.1.getD j 0))
    (K : ∀ y4, zR G l (zMJ G hMod_byOrderNow 2 Qn Qx mc ms) bc bs h 37 [some (.ref (ma 0)), some (.ref a), some (zi w), some (zi (zBc L S.2.2.2.1 S.2.2.2.1.length)), y4, y5, y6] []) :
    ∀ (n m : Nat), 60 - m < n → m ≤ S.2.2.2.1.length → zR G l (zMJ G hMod_byOrderNow 2 Qn Qx mc ms) bc bs h 5 [some (.ref (ma 0)), some (.ref a), some (zi w), some (zi (zBc L S.2.2.2.1 m)), some (zi (m : Int)), y5, y6] [] := by
  intro n
  induction n with
  | zero => intro m x1 x2; omega
  | succ n ih =>
  intro m x1 x2
  obtain ⟨m1, m2, ⟨g, m3, m3a⟩, m4, ⟨f6, m5, m5a⟩, m6, m7⟩ := id H
  unfold zMfs at m2
  refine z_iload dMod_byOrderNow_5 rfl ?_
  refine z_aload_n dMod_byOrderNow_7 rfl ?_
  refine z_get (k := 8) fd_Mod (by decide) fl_Mod_184 dMod_byOrderNow_8 (by assumption) (by rfl) ?_
  refine z_icmp_ge (tgt := 37) dMod_byOrderNow_11 (by decide) (by omega) (by omega) (fun c11 => ?_) (fun c11 => ?_)
  · have em : m = S.2.2.2.1.length := by omega
    subst em
    exact K _
  · refine z_iload_n dMod_byOrderNow_14 rfl ?_
    refine z_iconst dMod_byOrderNow_15 ?_
    refine z_aload_n dMod_byOrderNow_16 rfl ?_
    refine z_aload_n dMod_byOrderNow_17 rfl ?_
    refine z_get (k := 7) fd_Mod (by decide) fl_Mod_34 dMod_byOrderNow_18 (by assumption) (by rfl) ?_
    refine z_iload dMod_byOrderNow_21 rfl ?_
    refine z_iald dMod_byOrderNow_23 (by assumption) (by refine ⟨?_, ?_, ?_⟩ <;> omega) ?_
    rw [Int.toNat_natCast, m5a m (by omega)]
    refine z_iconst dMod_byOrderNow_24 ?_
    refine z_callS MS_Mod_find lk_Mod_110 dMod_byOrderNow_25 (k_Mod_find hr (by exact hI m (by omega)) (by omega)) rfl rfl (Nat.le_of_ble_eq_true rfl)  (Nat.le_of_ble_eq_true rfl) (Nat.le_of_ble_eq_true rfl) (Nat.le_of_eq (Nat.zero_add _)) (Nat.le_of_eq (Nat.zero_add _)) (fun _ _ q => q.elim) ?_
    rintro _ _ ⟨rfl, rfl⟩
    refine z_iadd dMod_byOrderNow_28 ?_
    refine z_iadd dMod_byOrderNow_29 ?_
    refine z_istore_n dMod_byOrderNow_30 (Nat.le_of_ble_eq_true rfl) ?_
    refine z_iinc dMod_byOrderNow_31 rfl (Nat.le_of_ble_eq_true rfl) ?_
    refine z_goto (tgt := 5) dMod_byOrderNow_34 (by decide) ?_
    exact ih (m + 1) (by omega) (by omega)
theorem l_Mod_byOrder3 {mc ms bc bs : Nat} {Qn : Option Value → zHp → Prop} {Qx : String → zHp → Prop} {a : Nat} {L : List Int} {w : Int} {cs : Int} {b : Nat} (H : zMod G h ma S th) (hr : zAr G h a L) (hb : b < 8)
    (K : ∀ y6, zR G l (zMJ G hMod_byOrderNow 2 Qn Qx mc ms) bc bs h 93 [some (.ref (ma 0)), some (.ref a), some (zi w), some (zi cs), some (zi (zB2 L b + zB1 L b b)), some (zi (b : Int)), y6] []) :
    ∀ (n m : Nat), b - m < n → m ≤ b → zR G l (zMJ G hMod_byOrderNow 2 Qn Qx mc ms) bc bs h 53 [some (.ref (ma 0)), some (.ref a), some (zi w), some (zi cs), some (zi (zB2 L b + zB1 L b m)), some (zi (b : Int)), some (zi (m : Int))] [] := by
  intro n
  induction n with
  | zero => intro m x1 x2; omega
  | succ n ih =>
  intro m x1 x2
  have hf1 := zFind_in L b 0
  have hf2 := zFind_in L m 0
  obtain ⟨f, d1, d2, d3, d4⟩ := id hr
  refine z_iload dMod_byOrderNow_53 rfl ?_
  refine z_iload dMod_byOrderNow_55 rfl ?_
  refine z_icmp_ge (tgt := 93) dMod_byOrderNow_57 (by decide) (by omega) (by omega) (fun c57 => ?_) (fun c57 => ?_)
  · have em : m = b := by omega
    subst em
    exact K _
  · refine z_iload dMod_byOrderNow_60 rfl ?_
    refine z_aload_n dMod_byOrderNow_62 rfl ?_
    refine z_iload dMod_byOrderNow_63 rfl ?_
    refine z_iconst dMod_byOrderNow_65 ?_
    refine z_callS MS_Mod_find lk_Mod_110 dMod_byOrderNow_66 (k_Mod_find hr (by omega) (by omega)) rfl rfl (Nat.le_of_ble_eq_true rfl)  (Nat.le_of_ble_eq_true rfl) (Nat.le_of_ble_eq_true rfl) (Nat.le_of_eq (Nat.zero_add _)) (Nat.le_of_eq (Nat.zero_add _)) (fun _ _ q => q.elim) ?_
    rintro _ _ ⟨rfl, rfl⟩
    refine z_aload_n dMod_byOrderNow_69 rfl ?_
    refine z_iload dMod_byOrderNow_70 rfl ?_
    refine z_iconst dMod_byOrderNow_72 ?_
    refine z_callS MS_Mod_find lk_Mod_110 dMod_byOrderNow_73 (k_Mod_find hr (by omega) (by omega)) rfl rfl (Nat.le_of_ble_eq_true rfl)  (Nat.le_of_ble_eq_true rfl) (Nat.le_of_ble_eq_true rfl) (Nat.le_of_eq (Nat.zero_add _)) (Nat.le_of_eq (Nat.zero_add _)) (fun _ _ q => q.elim) ?_
    rintro _ _ ⟨rfl, rfl⟩
    refine z_icmp_ge (tgt := 83) dMod_byOrderNow_76 (by decide) (by omega) (by omega) (fun c76 => ?_) (fun c76 => ?_)
    · refine z_iconst dMod_byOrderNow_83 ?_
      refine z_iadd dMod_byOrderNow_84 ?_
      refine z_istore dMod_byOrderNow_85 (Nat.le_of_ble_eq_true rfl) ?_
      refine z_iinc dMod_byOrderNow_87 rfl (Nat.le_of_ble_eq_true rfl) ?_
      refine z_goto (tgt := 53) dMod_byOrderNow_90 (by decide) ?_
      have ihE := ih (m + 1) (by omega) (by omega)
      rw [show zB1 L b (m + 1) = zB1 L b m + (if zFind L b 0 < zFind L m 0 then 1 else 0) from rfl] at ihE
      first
        | (rw [if_pos (by omega), ← Int.add_assoc] at ihE; exact ihE)
        | (rw [if_neg (by omega), ← Int.add_assoc] at ihE; exact ihE)
    · refine z_iconst dMod_byOrderNow_79 ?_
      refine z_goto (tgt := 84) dMod_byOrderNow_80 (by decide) ?_
      refine z_iadd dMod_byOrderNow_84 ?_
      refine z_istore dMod_byOrderNow_85 (Nat.le_of_ble_eq_true rfl) ?_
      refine z_iinc dMod_byOrderNow_87 rfl (Nat.le_of_ble_eq_true rfl) ?_
      refine z_goto (tgt := 53) dMod_byOrderNow_90 (by decide) ?_
      have ihE := ih (m + 1) (by omega) (by omega)
      rw [show zB1 L b (m + 1) = zB1 L b m + (if zFind L b 0 < zFind L m 0 then 1 else 0) from rfl] at ihE
      first
        | (rw [if_pos (by omega), ← Int.add_assoc] at ihE; exact ihE)
        | (rw [if_neg (by omega), ← Int.add_assoc] at ihE; exact ihE)
theorem l_Mod_byOrder2 {mc ms bc bs : Nat} {Qn : Option Value → zHp → Prop} {Qx : String → zHp → Prop} {a : Nat} {L : List Int} {w : Int} {cs : Int} (H : zMod G h ma S th) (hr : zAr G h a L)
    (K : ∀ y5 y6, zR G l (zMJ G hMod_byOrderNow 2 Qn Qx mc ms) bc bs h 99 [some (.ref (ma 0)), some (.ref a), some (zi w), some (zi cs), some (zi (zB2 L 8)), y5, y6] []) :
    ∀ (n m : Nat) (y6 : Option Value), 8 - m < n → m ≤ 8 → zR G l (zMJ G hMod_byOrderNow 2 Qn Qx mc ms) bc bs h 43 [some (.ref (ma 0)), some (.ref a), some (zi w), some (zi cs), some (zi (zB2 L m)), some (zi (m : Int)), y6] [] := by
  intro n
  induction n with
  | zero => intro m y6 x1 x2; omega
  | succ n ih =>
  intro m y6 x1 x2
  refine z_iload dMod_byOrderNow_43 rfl ?_
  refine z_bipush dMod_byOrderNow_45 rfl ?_
  refine z_icmp_ge (tgt := 99) dMod_byOrderNow_47 (by decide) (by omega) (by omega) (fun c47 => ?_) (fun c47 => ?_)
  · have em : m = 8 := by omega
    subst em
    exact K _ _
  · refine z_iconst dMod_byOrderNow_50 ?_
    refine z_istore dMod_byOrderNow_51 (Nat.le_of_ble_eq_true rfl) ?_
    have e0 : zB2 L m = zB2 L m + zB1 L m 0 := by show _ = _ + 0; omega
    rw [e0]
    refine l_Mod_byOrder3 H hr (by omega) (fun y6 => ?_) (m + 1) 0 (by omega) (by omega)
    refine z_iinc dMod_byOrderNow_93 rfl (Nat.le_of_ble_eq_true rfl) ?_
    refine z_goto (tgt := 43) dMod_byOrderNow_96 (by decide) ?_
    exact ih (m + 1) _ (by omega) (by omega)
theorem k_Mod_byOrderNow {a : Nat} {L : List Int} {w : Int} (H : zMod G h ma S th) (hr : zAr G h a L) (hw : 0 ≤ w ∧ w ≤ 2) (hA : S.2.2.2.1.length ≤ 60) (hI : ∀ j, j < S.2.2.2.1.length → zI32 (S.2.2.2.1.getD j 0)) : zM G l hMod_byOrderNow yMod_byOrderNow 2 [.ref (ma 0), .ref a, zi w] h (fun v h' => v = some (zi (zBo S L w)) ∧ h = h') zNo 0 0 := by
  obtain ⟨m1, m2, ⟨g, m3, m3a⟩, m4, ⟨f6, m5, m5a⟩, m6, m7⟩ := id H
  unfold zMfs at m2
  refine zM.of [some (.ref (ma 0)), some (.ref a), some (zi w), none, none, none, none] (by decide +kernel) rfl (by decide) rfl (Nat.le_of_ble_eq_true rfl) rfl ?_
  refine z_iconst dMod_byOrderNow_0 ?_
  refine z_istore_n dMod_byOrderNow_1 (Nat.le_of_ble_eq_true rfl) ?_
  refine z_iconst dMod_byOrderNow_2 ?_
  refine z_istore dMod_byOrderNow_3 (Nat.le_of_ble_eq_true rfl) ?_
  refine l_Mod_byOrder1 H hr hA hI (fun y4 => ?_) 61 0 (by omega) (by omega)
  refine z_iconst dMod_byOrderNow_37 ?_
  refine z_istore dMod_byOrderNow_38 (Nat.le_of_ble_eq_true rfl) ?_
  refine z_iconst dMod_byOrderNow_40 ?_
  refine z_istore dMod_byOrderNow_41 (Nat.le_of_ble_eq_true rfl) ?_
  refine l_Mod_byOrder2 H hr (fun y5 y6 => ?_) 9 0 _ (by omega) (by omega)
  refine z_iload_n dMod_byOrderNow_99 rfl ?_
  refine z_if_ne (tgt := 107) dMod_byOrderNow_100 (by decide) (by omega) (fun c100 => ?_) (fun c100 => ?_)
  · refine z_iload_n dMod_byOrderNow_107 rfl ?_
    refine z_iconst dMod_byOrderNow_108 ?_
    refine z_icmp_ne (tgt := 117) dMod_byOrderNow_109 (by decide) (by omega) (by omega) (fun c109 => ?_) (fun c109 => ?_)
    · refine z_iconst dMod_byOrderNow_117 ?_
      refine z_iload_n dMod_byOrderNow_118 rfl ?_
      refine z_imul dMod_byOrderNow_119 ?_
      refine z_aload_n dMod_byOrderNow_120 rfl ?_
      refine z_get (k := 8) fd_Mod (by decide) fl_Mod_184 dMod_byOrderNow_121 (by assumption) (by rfl) ?_
      refine z_isub dMod_byOrderNow_124 ?_
      refine z_iload dMod_byOrderNow_125 rfl ?_
      refine z_iadd dMod_byOrderNow_127 ?_
      refine z_iret rfl rfl dMod_byOrderNow_128 ?_
      refine ⟨congrArg (fun z => some (zi z)) ?_, rfl⟩
      unfold zBo
      (repeat (first | rw [if_pos (by omega)] | rw [if_neg (by omega)]))
    · refine z_iload dMod_byOrderNow_112 rfl ?_
      refine z_goto (tgt := 128) dMod_byOrderNow_114 (by decide) ?_
      refine z_iret rfl rfl dMod_byOrderNow_128 ?_
      refine ⟨congrArg (fun z => some (zi z)) ?_, rfl⟩
      unfold zBo
      (repeat (first | rw [if_pos (by omega)] | rw [if_neg (by omega)]))
  · refine z_iload_n dMod_byOrderNow_103 rfl ?_
    refine z_goto (tgt := 128) dMod_byOrderNow_104 (by decide) ?_
    refine z_iret rfl rfl dMod_byOrderNow_128 ?_
    refine ⟨congrArg (fun z => some (zi z)) ?_, rfl⟩
    unfold zBo
    (repeat (first | rw [if_pos (by omega)] | rw [if_neg (by omega)]))
theorem k_Mod_byOrder {p w : Int} (H : zMod G h ma S th) (z_p : zI32 p) (z_w : zI32 w) (hA : S.2.2.2.1.length ≤ 60) (hI : ∀ j, j < S.2.2.2.1.length → zI32 (S.2.2.2.1.getD j 0)) : zM G l hMod_byOrder yMod_byOrder 4 [.ref (ma 0), zi p, zi w] h (zQm G ma h (1) (2) (3) (spm_byOrder S p w)) zNo 0 0 := by
  obtain ⟨m1, m2, ⟨g, m3, m3a⟩, m4, ⟨f6, m5, m5a⟩, m6, m7⟩ := id H
  unfold zMfs at m2
  refine zM.of [some (.ref (ma 0)), some (zi p), some (zi w)] (by decide +kernel) rfl (by decide) rfl (Nat.le_of_ble_eq_true rfl) rfl ?_
  refine z_aload_n dMod_byOrder_0 rfl ?_
  refine z_iload_n dMod_byOrder_1 rfl ?_
  refine z_callS MS_Mod_isNo lk_Mod_81 dMod_byOrder_2 (k_Mod_isNo (by omega)) rfl rfl (Nat.le_of_ble_eq_true rfl)  (Nat.le_of_ble_eq_true rfl) (Nat.le_of_ble_eq_true rfl) (Nat.le_of_eq (Nat.zero_add _)) (Nat.le_of_eq (Nat.zero_add _)) (fun _ _ q => q.elim) ?_
  rintro _ _ ⟨n9, rfl, hn9, rfl⟩
  refine z_iload_n dMod_byOrder_5 rfl ?_
  refine z_iconst dMod_byOrder_6 ?_
  refine z_iconst dMod_byOrder_7 ?_
  refine z_callS MS_Mod_isOut lk_Mod_41 dMod_byOrder_8 (k_Mod_isOut (by omega) (by omega) (by omega)) rfl rfl (Nat.le_of_ble_eq_true rfl)  (Nat.le_of_ble_eq_true rfl) (Nat.le_of_ble_eq_true rfl) (Nat.le_of_eq (Nat.zero_add _)) (Nat.le_of_eq (Nat.zero_add _)) (fun _ _ q => q.elim) ?_
  rintro _ _ ⟨o9, rfl, ho9, rfl⟩
  refine z_iconst dMod_byOrder_11 ?_
  refine z_callV MV_Mod_fails lk_Mod_88 dMod_byOrder_12 (k_Mod_fails (by assumption) rfl (by omega) (by omega) (by omega)) rfl rfl (Nat.le_of_ble_eq_true rfl) rfl (by assumption) (Nat.le_of_ble_eq_true rfl) (Nat.le_of_ble_eq_true rfl) (Nat.le_of_eq (Nat.zero_add _)) (Nat.le_of_eq (Nat.zero_add _)) (fun _ _ q => q.elim) ?_
  rintro _ h1 ⟨t9, b8, rfl, ht, p1, g1⟩
  have H1 : zMod G h1 ma S t9 := H.obj (nu := S.2.2.2.2) (th' := t9) p1 g1
  have fz1 : zMfr ma h h1 := zMfr.of0 g1
  obtain ⟨-, n2, ⟨gg, n3, n3a⟩, n4, ⟨f61, n5, n5a⟩, n6, n7⟩ := id H1
  unfold zMfs at n2
  refine z_if_eq (tgt := 20) dMod_byOrder_15 (by decide) (by omega) (fun c15 => ?_) (fun c15 => ?_)
  · obtain ⟨k, rfl⟩ := Int.eq_ofNat_of_zero_le (show 0 ≤ p by omega)
    obtain ⟨frk, rk1, rk2, rk3, rk4⟩ := id (n6 k (by omega))
    refine z_aload_n dMod_byOrder_20 rfl ?_
    refine z_get (k := 0) fd_Mod (by decide) fl_Mod_11 dMod_byOrder_21 (by assumption) (by rfl) ?_
    refine z_iload_n dMod_byOrder_24 rfl ?_
    refine z_aald (t := 4) (ty := .array .int) rfl rfl dMod_byOrder_25 n3 (by refine ⟨?_, ?_, ?_⟩ <;> omega) ?_
    rw [show (k : Int).toNat = k from rfl, n3a k (by omega)]
    refine z_callS MS_Mod_isOrder lk_Mod_193 dMod_byOrder_26 (k_Mod_isOrder (n6 k (by omega))) rfl rfl (Nat.le_of_ble_eq_true rfl)  (Nat.le_of_ble_eq_true rfl) (Nat.le_of_ble_eq_true rfl) (Nat.le_of_eq (Nat.zero_add _)) (Nat.le_of_eq (Nat.zero_add _)) (fun _ _ q => q.elim) ?_
    rintro _ _ ⟨b7, rfl, (⟨rfl, m9⟩ | ⟨rfl, m9⟩), rfl⟩
    · unfold zOrd at m9
      refine z_if_eq (tgt := 46) dMod_byOrder_29 (by decide) (by omega) (fun c29 => ?_) (fun c29 => ?_)
      · exact absurd c29 (by decide)
      · refine z_aload_n dMod_byOrder_32 rfl ?_
        refine z_aload_n dMod_byOrder_33 rfl ?_
        refine z_get (k := 0) fd_Mod (by decide) fl_Mod_11 dMod_byOrder_34 (by assumption) (by rfl) ?_
        refine z_iload_n dMod_byOrder_37 rfl ?_
        refine z_aald (t := 4) (ty := .array .int) rfl rfl dMod_byOrder_38 n3 (by refine ⟨?_, ?_, ?_⟩ <;> omega) ?_
        rw [show (k : Int).toNat = k from rfl, n3a k (by omega)]
        refine z_iload_n dMod_byOrder_39 rfl ?_
        refine z_callV MV_Mod_byOrderNow lk_Mod_197 dMod_byOrder_40 (k_Mod_byOrderNow H1 (n6 k (by omega)) (by omega) hA hI) rfl rfl (Nat.le_of_ble_eq_true rfl) rfl (by assumption) (Nat.le_of_ble_eq_true rfl) (Nat.le_of_ble_eq_true rfl) (Nat.le_of_eq (Nat.zero_add _)) (Nat.le_of_eq (Nat.zero_add _)) (fun _ _ q => q.elim) ?_
        rintro _ _ ⟨rfl, rfl⟩
        refine z_goto (tgt := 50) dMod_byOrder_43 (by decide) ?_
        refine z_iret rfl rfl dMod_byOrder_50 ?_
        rcases (show t9 = 0 ∨ t9 = 1 ∨ t9 = 2 ∨ t9 = 3 by omega) with t0 | t0 | t0 | t0
        all_goals first
          | (exfalso; omega)
          | exact zQm.ok H2 (by omega) (by assumption) (by unfold spm_byOrder; (try unfold spPut); (try simp only [Int.toNat_natCast]); (repeat (first | rw [if_pos (by omega)] | rw [if_neg (by omega)] | rw [if_pos (by assumption)] | rw [if_neg (by assumption)] | rw [if_pos (True.intro : True)])); (try (first | rfl | (congr 2; omega) | (congr 1; congr 1; omega))); done)
          | exact zQm.b1 H2 (by omega) (by assumption) (by unfold spm_byOrder; (try unfold spPut); (try simp only [Int.toNat_natCast]); (repeat (first | rw [if_pos (by omega)] | rw [if_neg (by omega)] | rw [if_pos (by assumption)] | rw [if_neg (by assumption)] | rw [if_pos (True.intro : True)])); (try (first | rfl | (congr 2; omega) | (congr 1; congr 1; omega))); done)
          | exact zQm.b2 H2 (by omega) (by assumption) (by unfold spm_byOrder; (try unfold spPut); (try simp only [Int.toNat_natCast]); (repeat (first | rw [if_pos (by omega)] | rw [if_neg (by omega)] | rw [if_pos (by assumption)] | rw [if_neg (by assumption)] | rw [if_pos (True.intro : True)])); (try (first | rfl | (congr 2; omega) | (congr 1; congr 1; omega))); done)
          | exact zQm.b3 H2 (by omega) (by assumption) (by unfold spm_byOrder; (try unfold spPut); (try simp only [Int.toNat_natCast]); (repeat (first | rw [if_pos (by omega)] | rw [if_neg (by omega)] | rw [if_pos (by assumption)] | rw [if_neg (by assumption)] | rw [if_pos (True.intro : True)])); (try (first | rfl | (congr 2; omega) | (congr 1; congr 1; omega))); done)
          | exact zQm.ok H1 (by omega) (by assumption) (by unfold spm_byOrder; (try unfold spPut); (try simp only [Int.toNat_natCast]); (repeat (first | rw [if_pos (by omega)] | rw [if_neg (by omega)] | rw [if_pos (by assumption)] | rw [if_neg (by assumption)] | rw [if_pos (True.intro : True)])); (try (first | rfl | (congr 2; omega) | (congr 1; congr 1; omega))); done)
          | exact zQm.b1 H1 (by omega) (by assumption) (by unfold spm_byOrder; (try unfold spPut); (try simp only [Int.toNat_natCast]); (repeat (first | rw [if_pos (by omega)] | rw [if_neg (by omega)] | rw [if_pos (by assumption)] | rw [if_neg (by assumption)] | rw [if_pos (True.intro : True)])); (try (first | rfl | (congr 2; omega) | (congr 1; congr 1; omega))); done)
          | exact zQm.b2 H1 (by omega) (by assumption) (by unfold spm_byOrder; (try unfold spPut); (try simp only [Int.toNat_natCast]); (repeat (first | rw [if_pos (by omega)] | rw [if_neg (by omega)] | rw [if_pos (by assumption)] | rw [if_neg (by assumption)] | rw [if_pos (True.intro : True)])); (try (first | rfl | (congr 2; omega) | (congr 1; congr 1; omega))); done)
          | exact zQm.b3 H1 (by omega) (by assumption) (by unfold spm_byOrder; (try unfold spPut); (try simp only [Int.toNat_natCast]); (repeat (first | rw [if_pos (by omega)] | rw [if_neg (by omega)] | rw [if_pos (by assumption)] | rw [if_neg (by assumption)] | rw [if_pos (True.intro : True)])); (try (first | rfl | (congr 2; omega) | (congr 1; congr 1; omega))); done)
    · unfold zOrd at m9
      refine z_if_eq (tgt := 46) dMod_byOrder_29 (by decide) (by omega) (fun c29 => ?_) (fun c29 => ?_)
      · refine z_aload_n dMod_byOrder_46 rfl ?_
        refine z_callV MV_Mod_refused lk_Mod_92 dMod_byOrder_47 (k_Mod_refused n2 rfl rfl) rfl rfl (Nat.le_of_ble_eq_true rfl) rfl (by assumption) (Nat.le_of_ble_eq_true rfl) (Nat.le_of_ble_eq_true rfl) (Nat.le_of_eq (Nat.zero_add _)) (Nat.le_of_eq (Nat.zero_add _)) (fun _ _ q => q.elim) ?_
        rintro _ h2 ⟨rfl, p2, g2⟩
        have H2 : zMod G h2 ma (zsRef S) t9 := H1.obj (nu := zup S.2.2.2.2 1 (S.2.2.2.2 1 + 1)) p2 g2
        have fz2 : zMfr ma h h2 := zMfr.of0 (fun q hq => (g2 q hq).trans (g1 q hq))
        refine z_iret rfl rfl dMod_byOrder_50 ?_
        rcases (show t9 = 0 ∨ t9 = 1 ∨ t9 = 2 ∨ t9 = 3 by omega) with t0 | t0 | t0 | t0
        all_goals first
          | (exfalso; omega)
          | exact zQm.ok H2 (by omega) (by assumption) (by unfold spm_byOrder; (try unfold spPut); (try simp only [Int.toNat_natCast]); (repeat (first | rw [if_pos (by omega)] | rw [if_neg (by omega)] | rw [if_pos (by assumption)] | rw [if_neg (by assumption)] | rw [if_pos (True.intro : True)])); (try (first | rfl | (congr 2; omega) | (congr 1; congr 1; omega))); done)
          | exact zQm.b1 H2 (by omega) (by assumption) (by unfold spm_byOrder; (try unfold spPut); (try simp only [Int.toNat_natCast]); (repeat (first | rw [if_pos (by omega)] | rw [if_neg (by omega)] | rw [if_pos (by assumption)] | rw [if_neg (by assumption)] | rw [if_pos (True.intro : True)])); (try (first | rfl | (congr 2; omega) | (congr 1; congr 1; omega))); done)
          | exact zQm.b2 H2 (by omega) (by assumption) (by unfold spm_byOrder; (try unfold spPut); (try simp only [Int.toNat_natCast]); (repeat (first | rw [if_pos (by omega)] | rw [if_neg (by omega)] | rw [if_pos (by assumption)] | rw [if_neg (by assumption)] | rw [if_pos (True.intro : True)])); (try (first | rfl | (congr 2; omega) | (congr 1; congr 1; omega))); done)
          | exact zQm.b3 H2 (by omega) (by assumption) (by unfold spm_byOrder; (try unfold spPut); (try simp only [Int.toNat_natCast]); (repeat (first | rw [if_pos (by omega)] | rw [if_neg (by omega)] | rw [if_pos (by assumption)] | rw [if_neg (by assumption)] | rw [if_pos (True.intro : True)])); (try (first | rfl | (congr 2; omega) | (congr 1; congr 1; omega))); done)
          | exact zQm.ok H1 (by omega) (by assumption) (by unfold spm_byOrder; (try unfold spPut); (try simp only [Int.toNat_natCast]); (repeat (first | rw [if_pos (by omega)] | rw [if_neg (by omega)] | rw [if_pos (by assumption)] | rw [if_neg (by assumption)] | rw [if_pos (True.intro : True)])); (try (first | rfl | (congr 2; omega) | (congr 1; congr 1; omega))); done)
          | exact zQm.b1 H1 (by omega) (by assumption) (by unfold spm_byOrder; (try unfold spPut); (try simp only [Int.toNat_natCast]); (repeat (first | rw [if_pos (by omega)] | rw [if_neg (by omega)] | rw [if_pos (by assumption)] | rw [if_neg (by assumption)] | rw [if_pos (True.intro : True)])); (try (first | rfl | (congr 2; omega) | (congr 1; congr 1; omega))); done)
          | exact zQm.b2 H1 (by omega) (by assumption) (by unfold spm_byOrder; (try unfold spPut); (try simp only [Int.toNat_natCast]); (repeat (first | rw [if_pos (by omega)] | rw [if_neg (by omega)] | rw [if_pos (by assumption)] | rw [if_neg (by assumption)] | rw [if_pos (True.intro : True)])); (try (first | rfl | (congr 2; omega) | (congr 1; congr 1; omega))); done)
          | exact zQm.b3 H1 (by omega) (by assumption) (by unfold spm_byOrder; (try unfold spPut); (try simp only [Int.toNat_natCast]); (repeat (first | rw [if_pos (by omega)] | rw [if_neg (by omega)] | rw [if_pos (by assumption)] | rw [if_neg (by assumption)] | rw [if_pos (True.intro : True)])); (try (first | rfl | (congr 2; omega) | (congr 1; congr 1; omega))); done)
      · exact absurd rfl c29
  · refine z_iconst dMod_byOrder_18 ?_
    refine z_iret rfl rfl dMod_byOrder_19 ?_
    rcases (show t9 = 0 ∨ t9 = 1 ∨ t9 = 2 ∨ t9 = 3 by omega) with t0 | t0 | t0 | t0
    all_goals first
      | (exfalso; omega)
      | exact zQm.ok H2 (by omega) (by assumption) (by unfold spm_byOrder; (try unfold spPut); (try simp only [Int.toNat_natCast]); (repeat (first | rw [if_pos (by omega)] | rw [if_neg (by omega)] | rw [if_pos (by assumption)] | rw [if_neg (by assumption)] | rw [if_pos (True.intro : True)])); (try (first | rfl | (congr 2; omega) | (congr 1; congr 1; omega))); done)
      | exact zQm.b1 H2 (by omega) (by assumption) (by unfold spm_byOrder; (try unfold spPut); (try simp only [Int.toNat_natCast]); (repeat (first | rw [if_pos (by omega)] | rw [if_neg (by omega)] | rw [if_pos (by assumption)] | rw [if_neg (by assumption)] | rw [if_pos (True.intro : True)])); (try (first | rfl | (congr 2; omega) | (congr 1; congr 1; omega))); done)
      | exact zQm.b2 H2 (by omega) (by assumption) (by unfold spm_byOrder; (try unfold spPut); (try simp only [Int.toNat_natCast]); (repeat (first | rw [if_pos (by omega)] | rw [if_neg (by omega)] | rw [if_pos (by assumption)] | rw [if_neg (by assumption)] | rw [if_pos (True.intro : True)])); (try (first | rfl | (congr 2; omega) | (congr 1; congr 1; omega))); done)
      | exact zQm.b3 H2 (by omega) (by assumption) (by unfold spm_byOrder; (try unfold spPut); (try simp only [Int.toNat_natCast]); (repeat (first | rw [if_pos (by omega)] | rw [if_neg (by omega)] | rw [if_pos (by assumption)] | rw [if_neg (by assumption)] | rw [if_pos (True.intro : True)])); (try (first | rfl | (congr 2; omega) | (congr 1; congr 1; omega))); done)
      | exact zQm.ok H1 (by omega) (by assumption) (by unfold spm_byOrder; (try unfold spPut); (try simp only [Int.toNat_natCast]); (repeat (first | rw [if_pos (by omega)] | rw [if_neg (by omega)] | rw [if_pos (by assumption)] | rw [if_neg (by assumption)] | rw [if_pos (True.intro : True)])); (try (first | rfl | (congr 2; omega) | (congr 1; congr 1; omega))); done)
      | exact zQm.b1 H1 (by omega) (by assumption) (by unfold spm_byOrder; (try unfold spPut); (try simp only [Int.toNat_natCast]); (repeat (first | rw [if_pos (by omega)] | rw [if_neg (by omega)] | rw [if_pos (by assumption)] | rw [if_neg (by assumption)] | rw [if_pos (True.intro : True)])); (try (first | rfl | (congr 2; omega) | (congr 1; congr 1; omega))); done)
      | exact zQm.b2 H1 (by omega) (by assumption) (by unfold spm_byOrder; (try unfold spPut); (try simp only [Int.toNat_natCast]); (repeat (first | rw [if_pos (by omega)] | rw [if_neg (by omega)] | rw [if_pos (by assumption)] | rw [if_neg (by assumption)] | rw [if_pos (True.intro : True)])); (try (first | rfl | (congr 2; omega) | (congr 1; congr 1; omega))); done)
      | exact zQm.b3 H1 (by omega) (by assumption) (by unfold spm_byOrder; (try unfold spPut); (try simp only [Int.toNat_natCast]); (repeat (first | rw [if_pos (by omega)] | rw [if_neg (by omega)] | rw [if_pos (by assumption)] | rw [if_neg (by assumption)] | rw [if_pos (True.intro : True)])); (try (first | rfl | (congr 2; omega) | (congr 1; congr 1; omega))); done)
end MOD22
