section MOD23
variable {G : zG} {l : Launch} {h h' h'' : zHp} {ma : Nat → Nat} {S : zSt} {th : Int}
/-- what was asked are keys -/
def zOkA (S : zSt) : Prop := ∀ j, j < S.2.2.2.1.length → 0 ≤ S.2.2.2.1.getD j 0 ∧ S.2.2.2.1.getD j 0 ≤ 7
theorem zOkA.of {S S' : zSt} (hO : zOkA S) (e : S'.2.2.2.1 = S.2.2.2.1) : zOkA S' := by
  unfold zOkA
  rw [e]
  exact hO
theorem zwd_i (x : Int) : zi x = zi (zwd x) := congrArg Value.int (zI_of (zI x)).symm
theorem zwd_r (x : Int) : -2147483648 ≤ zwd x ∧ zwd x ≤ 2147483647 := zI_range (zI x)
theorem k_Mod_add {d v : Int} : zM G l hMod_add yMod_add 1 [zl d, zl v] h (fun w h' => w = some (zl (d * 31 + v)) ∧ h = h') zNo 0 0 := by
  refine zM.of [some (zl d), none, some (zl v), none] (by decide +kernel) rfl (by decide) rfl (Nat.le_of_ble_eq_true rfl) rfl ?_
  refine z_lload_n dMod_add_0 rfl ?_
  refine z_ldc2 (v := (31 : Int64)) dMod_add_1 (31) (by decide) ct_Mod_206 ?_
  refine z_lmul dMod_add_4 ?_
  refine z_lload_n dMod_add_5 rfl ?_
  refine z_ladd dMod_add_6 ?_
  refine z_lret rfl dMod_add_7 ?_
  exact ⟨rfl, rfl⟩
theorem l_Mod_digA {mc ms : Nat} {Qn : Option Value → zHp → Prop} {Qx : String → zHp → Prop} (H : zMod G h ma S 0) (hO : zOk S) (hA : zOkA S) (h16 : ∀ k, k < 4 → (S.1 k).length ≤ 16)
    (K : ∀ bc bs (h1 : zHp) d y3 y4 y5 y6 y7 y8 y9 y10, 0 ≤ bc → 0 ≤ bs → 18 ≤ bc → 108 ≤ bs → zExt h h1 → zR G l (zMJ G hMod_digest 4 Qn Qx mc ms) bc bs h1 33 [some (.ref (ma 0)), some (zl d), none, y3, y4, y5, y6, y7, y8, y9, y10] []) :
    ∀ (n m bc bs : Nat) (h1 : zHp) (d : Int) (y4 y5 y6 y7 y8 y9 y10 : Option Value), 5 - m < n → m ≤ 5 → (5 - m) + 18 ≤ bc → 5 * (5 - m) + 108 ≤ bs → zExt h h1 → zR G l (zMJ G hMod_digest 4 Qn Qx mc ms) bc bs h1 11 [some (.ref (ma 0)), some (zl d), none, some (zi (m : Int)), y4, y5, y6, y7, y8, y9, y10] [] := by
  intro n
  induction n with
  | zero => intro m bc bs h1 d y4 y5 y6 y7 y8 y9 y10 x1 x2 x3 x4 hx; omega
  | succ n ih =>
  intro m bc bs h1 d y4 y5 y6 y7 y8 y9 y10 x1 x2 x3 x4 hx
  have H1 := H.ext hx
  have oc1 := H1.2.1
  refine z_iload_n dMod_digest_11 rfl ?_
  refine z_iconst dMod_digest_12 ?_
  refine z_icmp_ge (tgt := 33) dMod_digest_13 (by decide) (by omega) (by omega) (fun c13 => ?_) (fun c13 => ?_)
  · exact K _ _ h1 _ _ _ _ _ _ _ _ _ (by omega) (by omega) (by omega) (by omega) hx
  · refine z_lload_n dMod_digest_16 rfl ?_
    refine z_aload_n dMod_digest_17 rfl ?_
    refine z_iload_n dMod_digest_18 rfl ?_
    refine z_callV (bc' := bc - 1) (bs' := bs - 5) MV_Mod_houseNow lk_Mod_203 dMod_digest_19 (k_Mod_houseNow H1 (by omega)) rfl rfl (Nat.le_of_ble_eq_true rfl) rfl (by assumption) (Nat.le_of_ble_eq_true rfl) (Nat.le_of_ble_eq_true rfl) (by omega) (by omega) (fun _ _ q => q.elim) ?_
    rintro _ h2 ⟨rfl, hx2⟩
    rw [zwd_i (zHv S (m : Int))]
    have hw9 := zwd_r (zHv S (m : Int))
    have H2 := H1.ext hx2
    have oc2 := H2.2.1
    refine z_i2l (by first | omega | omega) dMod_digest_22 ?_
    refine z_callS MS_Mod_add lk_Mod_210 dMod_digest_23 k_Mod_add rfl rfl (Nat.le_of_ble_eq_true rfl)  (Nat.le_of_ble_eq_true rfl) (Nat.le_of_ble_eq_true rfl) (Nat.le_of_eq (Nat.zero_add _)) (Nat.le_of_eq (Nat.zero_add _)) (fun _ _ q => q.elim) ?_
    rintro _ _ ⟨rfl, rfl⟩
    refine z_lstore_n dMod_digest_26 (Nat.le_of_ble_eq_true rfl) ?_
    refine z_iinc dMod_digest_27 rfl (Nat.le_of_ble_eq_true rfl) ?_
    refine z_goto (tgt := 11) dMod_digest_30 (by decide) ?_
    exact ih (m + 1) (bc - 1) (bs - 5) h2 _ _ _ _ _ _ _ _ (by omega) (by omega) (by omega) (by omega) (hx.tr hx2)
theorem l_Mod_digC2 {mc ms : Nat} {Qn : Option Value → zHp → Prop} {Qx : String → zHp → Prop} {c : Nat} (hc : c < 3) {B : Nat} (H : zMod G h ma S 0) (hO : zOk S) (hA : zOkA S) (h16 : ∀ k, k < 4 → (S.1 k).length ≤ 16)
    (K : ∀ bc bs (h1 : zHp) d y4 y5 y6 y7 y8 y9 y10, B ≤ bc → 6 * B ≤ bs → zExt h h1 → zR G l (zMJ G hMod_digest 4 Qn Qx mc ms) bc bs h1 170 [some (.ref (ma 0)), some (zl d), none, some (zi (c : Int)), y4, y5, y6, y7, y8, y9, y10] []) :
    ∀ (n m bc bs : Nat) (h1 : zHp) (d : Int) (y5 y6 y7 y8 y9 y10 : Option Value), 6 - m < n → m ≤ 6 → (6 - m) + B ≤ bc → 6 * (6 - m) + 6 * B ≤ bs → zExt h h1 → zR G l (zMJ G hMod_digest 4 Qn Qx mc ms) bc bs h1 144 [some (.ref (ma 0)), some (zl d), none, some (zi (c : Int)), some (zi (m : Int)), y5, y6, y7, y8, y9, y10] [] := by
  intro n
  induction n with
  | zero => intro m bc bs h1 d y5 y6 y7 y8 y9 y10 x1 x2 x3 x4 hx; omega
  | succ n ih =>
  intro m bc bs h1 d y5 y6 y7 y8 y9 y10 x1 x2 x3 x4 hx
  have H1 := H.ext hx
  have oc1 := H1.2.1
  refine z_iload dMod_digest_144 rfl ?_
  refine z_bipush dMod_digest_146 rfl ?_
  refine z_icmp_ge (tgt := 170) dMod_digest_148 (by decide) (by omega) (by omega) (fun c148 => ?_) (fun c148 => ?_)
  · exact K _ _ h1 _ _ _ _ _ _ _ _ (by omega) (by omega) hx
  · refine z_lload_n dMod_digest_151 rfl ?_
    refine z_aload_n dMod_digest_152 rfl ?_
    refine z_iload_n dMod_digest_153 rfl ?_
    refine z_iload dMod_digest_154 rfl ?_
    refine z_callV (bc' := bc - 1) (bs' := bs - 6) MV_Mod_ofCursorNow lk_Mod_154 dMod_digest_156 (k_Mod_ofCursorNow H1 (by omega) (by omega) hO h16) rfl rfl (Nat.le_of_ble_eq_true rfl) rfl (by assumption) (Nat.le_of_ble_eq_true rfl) (Nat.le_of_ble_eq_true rfl) (by omega) (by omega) (fun _ _ q => q.elim) ?_
    rintro _ h2 ⟨rfl, hx2⟩
    rw [zwd_i (zCuV S c (m : Int))]
    have hw9 := zwd_r (zCuV S c (m : Int))
    have H2 := H1.ext hx2
    have oc2 := H2.2.1
    refine z_i2l (by first | omega | omega) dMod_digest_159 ?_
    refine z_callS MS_Mod_add lk_Mod_210 dMod_digest_160 k_Mod_add rfl rfl (Nat.le_of_ble_eq_true rfl)  (Nat.le_of_ble_eq_true rfl) (Nat.le_of_ble_eq_true rfl) (Nat.le_of_eq (Nat.zero_add _)) (Nat.le_of_eq (Nat.zero_add _)) (fun _ _ q => q.elim) ?_
    rintro _ _ ⟨rfl, rfl⟩
    refine z_lstore_n dMod_digest_163 (Nat.le_of_ble_eq_true rfl) ?_
    refine z_iinc dMod_digest_164 rfl (Nat.le_of_ble_eq_true rfl) ?_
    refine z_goto (tgt := 144) dMod_digest_167 (by decide) ?_
    exact ih (m + 1) (bc - 1) (bs - 6) h2 _ _ _ _ _ _ _ (by omega) (by omega) (by omega) (by omega) (hx.tr hx2)
theorem l_Mod_digC {mc ms : Nat} {Qn : Option Value → zHp → Prop} {Qx : String → zHp → Prop} (H : zMod G h ma S 0) (hO : zOk S) (hA : zOkA S) (h16 : ∀ k, k < 4 → (S.1 k).length ≤ 16)
    (K : ∀ bc bs (h1 : zHp) d y3 y4 y5 y6 y7 y8 y9 y10, zExt h h1 → zR G l (zMJ G hMod_digest 4 Qn Qx mc ms) bc bs h1 176 [some (.ref (ma 0)), some (zl d), none, y3, y4, y5, y6, y7, y8, y9, y10] []) :
    ∀ (n m bc bs : Nat) (h1 : zHp) (d : Int) (y4 y5 y6 y7 y8 y9 y10 : Option Value), 3 - m < n → m ≤ 3 → 6 * (3 - m) ≤ bc → 36 * (3 - m) ≤ bs → zExt h h1 → zR G l (zMJ G hMod_digest 4 Qn Qx mc ms) bc bs h1 136 [some (.ref (ma 0)), some (zl d), none, some (zi (m : Int)), y4, y5, y6, y7, y8, y9, y10] [] := by
  intro n
  induction n with
  | zero => intro m bc bs h1 d y4 y5 y6 y7 y8 y9 y10 x1 x2 x3 x4 hx; omega
  | succ n ih =>
  intro m bc bs h1 d y4 y5 y6 y7 y8 y9 y10 x1 x2 x3 x4 hx
  refine z_iload_n dMod_digest_136 rfl ?_
  refine z_iconst dMod_digest_137 ?_
  refine z_icmp_ge (tgt := 176) dMod_digest_138 (by decide) (by omega) (by omega) (fun c138 => ?_) (fun c138 => ?_)
  · exact K _ _ h1 _ _ _ _ _ _ _ _ _ hx
  · refine z_iconst dMod_digest_141 ?_
    refine z_istore dMod_digest_142 (Nat.le_of_ble_eq_true rfl) ?_
    refine l_Mod_digC2 (h := h1) (c := m) (by omega) (B := 6 * (2 - m)) (H.ext hx) hO hA h16 (fun bc2 bs2 h2 d2 y4 y5 y6 y7 y8 y9 y10 z1 z2 hx2 => ?_) 7 0 _ _ h1 _ _ _ _ _ _ _ (by omega) (by omega) (by omega) (by omega) zExt.rf
    refine z_iinc dMod_digest_170 rfl (Nat.le_of_ble_eq_true rfl) ?_
    refine z_goto (tgt := 136) dMod_digest_173 (by decide) ?_
    exact ih (m + 1) bc2 bs2 h2 _ _ _ _ _ _ _ _ (by omega) (by omega) (by omega) (by omega) (hx.tr hx2)
theorem l_Mod_digB2 {mc ms bc bs : Nat} {Qn : Option Value → zHp → Prop} {Qx : String → zHp → Prop} {r a : Nat} {L : List Int} {b m9 : Int} (hr : zAr G h a L)
    (K : ∀ d y9 y10, zR G l (zMJ G hMod_digest 4 Qn Qx mc ms) bc bs h 107 [some (.ref (ma 0)), some (zl d), none, some (.ref r), some (zi b), some (zi m9), some (.ref a), some (.ref a), some (zi (L.length : Int)), y9, y10] []) :
    ∀ (n m : Nat) (d : Int) (y10 : Option Value), L.length - m < n → m ≤ L.length → zR G l (zMJ G hMod_digest 4 Qn Qx mc ms) bc bs h 79 [some (.ref (ma 0)), some (zl d), none, some (.ref r), some (zi b), some (zi m9), some (.ref a), some (.ref a), some (zi (L.length : Int)), some (zi (m : Int)), y10] [] := by
  intro n
  induction n with
  | zero => intro m d y10 x1 x2; omega
  | succ n ih =>
  intro m d y10 x1 x2
  obtain ⟨f, d1, d2, d3, d4⟩ := id hr
  refine z_iload dMod_digest_79 rfl ?_
  refine z_iload dMod_digest_81 rfl ?_
  refine z_icmp_ge (tgt := 107) dMod_digest_83 (by decide) (by omega) (by omega) (fun c83 => ?_) (fun c83 => ?_)
  · exact K _ _ _
  · have d4m := d4 m (by omega)
    refine z_aload dMod_digest_86 rfl ?_
    refine z_iload dMod_digest_88 rfl ?_
    refine z_iald dMod_digest_90 (by assumption) (by refine ⟨?_, ?_, ?_⟩ <;> omega) ?_
    rw [Int.toNat_natCast, d3 m (by omega)]
    refine z_istore dMod_digest_91 (Nat.le_of_ble_eq_true rfl) ?_
    refine z_lload_n dMod_digest_93 rfl ?_
    refine z_iload dMod_digest_94 rfl ?_
    refine z_i2l (by first | omega | omega) dMod_digest_96 ?_
    refine z_callS MS_Mod_add lk_Mod_210 dMod_digest_97 k_Mod_add rfl rfl (Nat.le_of_ble_eq_true rfl)  (Nat.le_of_ble_eq_true rfl) (Nat.le_of_ble_eq_true rfl) (Nat.le_of_eq (Nat.zero_add _)) (Nat.le_of_eq (Nat.zero_add _)) (fun _ _ q => q.elim) ?_
    rintro _ _ ⟨rfl, rfl⟩
    refine z_lstore_n dMod_digest_100 (Nat.le_of_ble_eq_true rfl) ?_
    refine z_iinc dMod_digest_101 rfl (Nat.le_of_ble_eq_true rfl) ?_
    refine z_goto (tgt := 79) dMod_digest_104 (by decide) ?_
    exact ih (m + 1) _ _ (by omega) (by omega)
theorem l_Mod_digB {mc ms bc bs : Nat} {Qn : Option Value → zHp → Prop} {Qx : String → zHp → Prop} (H : zMod G h ma S 0)
    (K : ∀ d y3 y4 y5 y6 y7 y8 y9 y10, zR G l (zMJ G hMod_digest 4 Qn Qx mc ms) bc bs h 134 [some (.ref (ma 0)), some (zl d), none, y3, y4, y5, y6, y7, y8, y9, y10] []) :
    ∀ (n m : Nat) (d : Int) (y6 y7 y8 y9 y10 : Option Value), 4 - m < n → m ≤ 4 → zR G l (zMJ G hMod_digest 4 Qn Qx mc ms) bc bs h 45 [some (.ref (ma 0)), some (zl d), none, some (.ref (ma 1)), some (zi (4 : Int)), some (zi (m : Int)), y6, y7, y8, y9, y10] [] := by
  intro n
  induction n with
  | zero => intro m d y6 y7 y8 y9 y10 x1 x2; omega
  | succ n ih =>
  intro m d y6 y7 y8 y9 y10 x1 x2
  obtain ⟨m1, m2, ⟨g, m3, m3a⟩, m4, ⟨f6, m5, m5a⟩, m6, m7⟩ := id H
  unfold zMfs at m2
  refine z_iload dMod_digest_45 rfl ?_
  refine z_iload dMod_digest_47 rfl ?_
  refine z_icmp_ge (tgt := 134) dMod_digest_49 (by decide) (by omega) (by omega) (fun c49 => ?_) (fun c49 => ?_)
  · exact K _ _ _ _ _ _ _ _ _
  · refine z_aload_n dMod_digest_52 rfl ?_
    refine z_iload dMod_digest_53 rfl ?_
    refine z_aald (t := 4) (ty := .array .int) rfl rfl dMod_digest_55 m3 (by refine ⟨?_, ?_, ?_⟩ <;> omega) ?_
    rw [Int.toNat_natCast, m3a m (by omega)]
    obtain ⟨fr, r1, r2, r3, r4⟩ := id (m6 m (by omega))
    refine z_astore dMod_digest_56 (Nat.le_of_ble_eq_true rfl) ?_
    refine z_lload_n dMod_digest_58 rfl ?_
    refine z_aload dMod_digest_59 rfl ?_
    refine z_alenI dMod_digest_61 r1 ?_
    refine z_i2l (by first | omega | omega) dMod_digest_62 ?_
    refine z_callS MS_Mod_add lk_Mod_210 dMod_digest_63 k_Mod_add rfl rfl (Nat.le_of_ble_eq_true rfl)  (Nat.le_of_ble_eq_true rfl) (Nat.le_of_ble_eq_true rfl) (Nat.le_of_eq (Nat.zero_add _)) (Nat.le_of_eq (Nat.zero_add _)) (fun _ _ q => q.elim) ?_
    rintro _ _ ⟨rfl, rfl⟩
    refine z_lstore_n dMod_digest_66 (Nat.le_of_ble_eq_true rfl) ?_
    refine z_aload dMod_digest_67 rfl ?_
    refine z_astore dMod_digest_69 (Nat.le_of_ble_eq_true rfl) ?_
    refine z_aload dMod_digest_71 rfl ?_
    refine z_alenI dMod_digest_73 r1 ?_
    refine z_istore dMod_digest_74 (Nat.le_of_ble_eq_true rfl) ?_
    refine z_iconst dMod_digest_76 ?_
    refine z_istore dMod_digest_77 (Nat.le_of_ble_eq_true rfl) ?_
    refine l_Mod_digB2 (m6 m (by omega)) (fun d2 y9 y10 => ?_) ((S.1 m).length + 1) 0 _ _ (by omega) (by omega)
    refine z_lload_n dMod_digest_107 rfl ?_
    refine z_aload dMod_digest_108 rfl ?_
    refine z_iconst dMod_digest_110 ?_
    refine z_callS MS_Mod_valueOf lk_Mod_176 dMod_digest_111 (k_Mod_valueOf (m6 m (by omega)) (by omega)) rfl rfl (Nat.le_of_ble_eq_true rfl)  (Nat.le_of_ble_eq_true rfl) (Nat.le_of_ble_eq_true rfl) (Nat.le_of_eq (Nat.zero_add _)) (Nat.le_of_eq (Nat.zero_add _)) (fun _ _ q => q.elim) ?_
    rintro _ _ ⟨rfl, rfl⟩
    have hv9 := zHr_in (S.1 m) 2 (S.1 m).length
    refine z_i2l (by first | omega | omega) dMod_digest_114 ?_
    refine z_callS MS_Mod_add lk_Mod_210 dMod_digest_115 k_Mod_add rfl rfl (Nat.le_of_ble_eq_true rfl)  (Nat.le_of_ble_eq_true rfl) (Nat.le_of_ble_eq_true rfl) (Nat.le_of_eq (Nat.zero_add _)) (Nat.le_of_eq (Nat.zero_add _)) (fun _ _ q => q.elim) ?_
    rintro _ _ ⟨rfl, rfl⟩
    refine z_aload dMod_digest_118 rfl ?_
    refine z_callS MS_Mod_degreeOf lk_Mod_180 dMod_digest_120 (k_Mod_degreeOf (m6 m (by omega))) rfl rfl (Nat.le_of_ble_eq_true rfl)  (Nat.le_of_ble_eq_true rfl) (Nat.le_of_ble_eq_true rfl) (Nat.le_of_eq (Nat.zero_add _)) (Nat.le_of_eq (Nat.zero_add _)) (fun _ _ q => q.elim) ?_
    rintro _ _ ⟨rfl, rfl⟩
    have hz9 := zLnz_in (S.1 m)
    refine z_i2l (by first | omega | omega) dMod_digest_123 ?_
    refine z_callS MS_Mod_add lk_Mod_210 dMod_digest_124 k_Mod_add rfl rfl (Nat.le_of_ble_eq_true rfl)  (Nat.le_of_ble_eq_true rfl) (Nat.le_of_ble_eq_true rfl) (Nat.le_of_eq (Nat.zero_add _)) (Nat.le_of_eq (Nat.zero_add _)) (fun _ _ q => q.elim) ?_
    rintro _ _ ⟨rfl, rfl⟩
    refine z_lstore_n dMod_digest_127 (Nat.le_of_ble_eq_true rfl) ?_
    refine z_iinc dMod_digest_128 rfl (Nat.le_of_ble_eq_true rfl) ?_
    refine z_goto (tgt := 45) dMod_digest_131 (by decide) ?_
    exact ih (m + 1) _ _ _ _ _ _ (by omega) (by omega)
theorem l_Mod_digD {mc ms bc bs : Nat} {Qn : Option Value → zHp → Prop} {Qx : String → zHp → Prop} (H : zMod G h ma S 0) (hO : zOk S)
    (K : ∀ d y3 y4 y5 y6 y7 y8 y9 y10, zR G l (zMJ G hMod_digest 4 Qn Qx mc ms) bc bs h 200 [some (.ref (ma 0)), some (zl d), none, y3, y4, y5, y6, y7, y8, y9, y10] []) :
    ∀ (n m : Nat) (d : Int) (y4 y5 y6 y7 y8 y9 y10 : Option Value), 4 - m < n → m ≤ 4 → zR G l (zMJ G hMod_digest 4 Qn Qx mc ms) bc bs h 178 [some (.ref (ma 0)), some (zl d), none, some (zi (m : Int)), y4, y5, y6, y7, y8, y9, y10] [] := by
  intro n
  induction n with
  | zero => intro m d y4 y5 y6 y7 y8 y9 y10 x1 x2; omega
  | succ n ih =>
  intro m d y4 y5 y6 y7 y8 y9 y10 x1 x2
  have oc1 := H.2.1
  refine z_iload_n dMod_digest_178 rfl ?_
  refine z_iconst dMod_digest_179 ?_
  refine z_icmp_ge (tgt := 200) dMod_digest_180 (by decide) (by omega) (by omega) (fun c180 => ?_) (fun c180 => ?_)
  · exact K _ _ _ _ _ _ _ _ _
  · refine z_lload_n dMod_digest_183 rfl ?_
    refine z_aload_n dMod_digest_184 rfl ?_
    refine z_iload_n dMod_digest_185 rfl ?_
    refine z_callV MV_Mod_askedNow lk_Mod_190 dMod_digest_186 (k_Mod_askedNow H (by omega) hO) rfl rfl (Nat.le_of_ble_eq_true rfl) rfl (by assumption) (Nat.le_of_ble_eq_true rfl) (Nat.le_of_ble_eq_true rfl) (Nat.le_of_eq (Nat.zero_add _)) (Nat.le_of_eq (Nat.zero_add _)) (fun _ _ q => q.elim) ?_
    rintro _ _ ⟨rfl, rfl⟩
    rw [zwd_i (zAkV S (m : Int))]
    have hw9 := zwd_r (zAkV S (m : Int))
    refine z_i2l (by first | omega | omega) dMod_digest_189 ?_
    refine z_callS MS_Mod_add lk_Mod_210 dMod_digest_190 k_Mod_add rfl rfl (Nat.le_of_ble_eq_true rfl)  (Nat.le_of_ble_eq_true rfl) (Nat.le_of_ble_eq_true rfl) (Nat.le_of_eq (Nat.zero_add _)) (Nat.le_of_eq (Nat.zero_add _)) (fun _ _ q => q.elim) ?_
    rintro _ _ ⟨rfl, rfl⟩
    refine z_lstore_n dMod_digest_193 (Nat.le_of_ble_eq_true rfl) ?_
    refine z_iinc dMod_digest_194 rfl (Nat.le_of_ble_eq_true rfl) ?_
    refine z_goto (tgt := 178) dMod_digest_197 (by decide) ?_
    exact ih (m + 1) _ _ _ _ _ _ _ _ (by omega) (by omega)
theorem l_Mod_digE {mc ms bc bs : Nat} {Qn : Option Value → zHp → Prop} {Qx : String → zHp → Prop} {a : Nat} {L : List Int} (hr : zAr G h a L)
    (K : ∀ d y3 y4 y5 y6 y7 y8 y9 y10, zR G l (zMJ G hMod_digest 4 Qn Qx mc ms) bc bs h 239 [some (.ref (ma 0)), some (zl d), none, y3, y4, y5, y6, y7, y8, y9, y10] []) :
    ∀ (n m : Nat) (d : Int) (y6 y7 y8 y9 y10 : Option Value), L.length - m < n → m ≤ L.length → zR G l (zMJ G hMod_digest 4 Qn Qx mc ms) bc bs h 212 [some (.ref (ma 0)), some (zl d), none, some (.ref a), some (zi (L.length : Int)), some (zi (m : Int)), y6, y7, y8, y9, y10] [] := by
  intro n
  induction n with
  | zero => intro m d y6 y7 y8 y9 y10 x1 x2; omega
  | succ n ih =>
  intro m d y6 y7 y8 y9 y10 x1 x2
  obtain ⟨f, d1, d2, d3, d4⟩ := id hr
  refine z_iload dMod_digest_212 rfl ?_
  refine z_iload dMod_digest_214 rfl ?_
  refine z_icmp_ge (tgt := 239) dMod_digest_216 (by decide) (by omega) (by omega) (fun c216 => ?_) (fun c216 => ?_)
  · exact K _ _ _ _ _ _ _ _ _
  · have d4m := d4 m (by omega)
    refine z_aload_n dMod_digest_219 rfl ?_
    refine z_iload dMod_digest_220 rfl ?_
    refine z_iald dMod_digest_222 (by assumption) (by refine ⟨?_, ?_, ?_⟩ <;> omega) ?_
    rw [Int.toNat_natCast, d3 m (by omega)]
    refine z_istore dMod_digest_223 (Nat.le_of_ble_eq_true rfl) ?_
    refine z_lload_n dMod_digest_225 rfl ?_
    refine z_iload dMod_digest_226 rfl ?_
    refine z_i2l (by first | omega | omega) dMod_digest_228 ?_
    refine z_callS MS_Mod_add lk_Mod_210 dMod_digest_229 k_Mod_add rfl rfl (Nat.le_of_ble_eq_true rfl)  (Nat.le_of_ble_eq_true rfl) (Nat.le_of_ble_eq_true rfl) (Nat.le_of_eq (Nat.zero_add _)) (Nat.le_of_eq (Nat.zero_add _)) (fun _ _ q => q.elim) ?_
    rintro _ _ ⟨rfl, rfl⟩
    refine z_lstore_n dMod_digest_232 (Nat.le_of_ble_eq_true rfl) ?_
    refine z_iinc dMod_digest_233 rfl (Nat.le_of_ble_eq_true rfl) ?_
    refine z_goto (tgt := 212) dMod_digest_236 (by decide) ?_
    exact ih (m + 1) _ _ _ _ _ _ (by omega) (by omega)
theorem l_Mod_digF2 {mc ms bc bs : Nat} {Qn : Option Value → zHp → Prop} {Qx : String → zHp → Prop} {y8 y9 y10 : Option Value} {c a : Nat} {L : List Int} (H : zMod G h ma S 0) (hO : zOk S) (hA : zOkA S) (hr : zAr G h a L)
    (K : ∀ d y7, zR G l (zMJ G hMod_digest 4 Qn Qx mc ms) bc bs h 319 [some (.ref (ma 0)), some (zl d), none, some (.ref (ma 1)), some (zi (4 : Int)), some (zi (c : Int)), some (.ref a), y7, y8, y9, y10] []) :
    ∀ (n m : Nat) (d : Int), 3 - m < n → m ≤ 3 → zR G l (zMJ G hMod_digest 4 Qn Qx mc ms) bc bs h 285 [some (.ref (ma 0)), some (zl d), none, some (.ref (ma 1)), some (zi (4 : Int)), some (zi (c : Int)), some (.ref a), some (zi (m : Int)), y8, y9, y10] [] := by
  intro n
  induction n with
  | zero => intro m d x1 x2; omega
  | succ n ih =>
  intro m d x1 x2
  have oc1 := H.2.1
  refine z_aload dMod_digest_285 rfl ?_
  refine z_callS MS_Mod_isOrder lk_Mod_193 dMod_digest_287 (k_Mod_isOrder hr) rfl rfl (Nat.le_of_ble_eq_true rfl)  (Nat.le_of_ble_eq_true rfl) (Nat.le_of_ble_eq_true rfl) (Nat.le_of_eq (Nat.zero_add _)) (Nat.le_of_eq (Nat.zero_add _)) (fun _ _ q => q.elim) ?_
  rintro _ _ ⟨b7, rfl, hb7, rfl⟩
  refine z_if_eq (tgt := 319) dMod_digest_290 (by decide) (by omega) (fun c290 => ?_) (fun c290 => ?_)
  · exact K _ _
  · refine z_iload dMod_digest_293 rfl ?_
    refine z_iconst dMod_digest_295 ?_
    refine z_icmp_ge (tgt := 319) dMod_digest_296 (by decide) (by omega) (by omega) (fun c296 => ?_) (fun c296 => ?_)
    · exact K _ _
    · refine z_lload_n dMod_digest_299 rfl ?_
      refine z_aload_n dMod_digest_300 rfl ?_
      refine z_aload dMod_digest_301 rfl ?_
      refine z_iload dMod_digest_303 rfl ?_
      refine z_callV MV_Mod_byOrderNow lk_Mod_197 dMod_digest_305 (k_Mod_byOrderNow H hr (by omega) hO.2.2.2.1 (fun j hj => by have := hA j hj; omega)) rfl rfl (Nat.le_of_ble_eq_true rfl) rfl (by assumption) (Nat.le_of_ble_eq_true rfl) (Nat.le_of_ble_eq_true rfl) (Nat.le_of_eq (Nat.zero_add _)) (Nat.le_of_eq (Nat.zero_add _)) (fun _ _ q => q.elim) ?_
      rintro _ _ ⟨rfl, rfl⟩
      rw [zwd_i (zBo S L (m : Int))]
      have hw9 := zwd_r (zBo S L (m : Int))
      refine z_i2l (by first | omega | omega) dMod_digest_308 ?_
      refine z_callS MS_Mod_add lk_Mod_210 dMod_digest_309 k_Mod_add rfl rfl (Nat.le_of_ble_eq_true rfl)  (Nat.le_of_ble_eq_true rfl) (Nat.le_of_ble_eq_true rfl) (Nat.le_of_eq (Nat.zero_add _)) (Nat.le_of_eq (Nat.zero_add _)) (fun _ _ q => q.elim) ?_
      rintro _ _ ⟨rfl, rfl⟩
      refine z_lstore_n dMod_digest_312 (Nat.le_of_ble_eq_true rfl) ?_
      refine z_iinc dMod_digest_313 rfl (Nat.le_of_ble_eq_true rfl) ?_
      refine z_goto (tgt := 285) dMod_digest_316 (by decide) ?_
      exact ih (m + 1) _ (by omega) (by omega)
theorem l_Mod_digF {mc ms bc bs : Nat} {Qn : Option Value → zHp → Prop} {Qx : String → zHp → Prop} (H : zMod G h ma S 0) (hO : zOk S) (hA : zOkA S)
    (K : ∀ d y3 y4 y5 y6 y7 y8 y9 y10, zR G l (zMJ G hMod_digest 4 Qn Qx mc ms) bc bs h 325 [some (.ref (ma 0)), some (zl d), none, y3, y4, y5, y6, y7, y8, y9, y10] []) :
    ∀ (n m : Nat) (d : Int) (y6 y7 y8 y9 y10 : Option Value), 4 - m < n → m ≤ 4 → zR G l (zMJ G hMod_digest 4 Qn Qx mc ms) bc bs h 251 [some (.ref (ma 0)), some (zl d), none, some (.ref (ma 1)), some (zi (4 : Int)), some (zi (m : Int)), y6, y7, y8, y9, y10] [] := by
  intro n
  induction n with
  | zero => intro m d y6 y7 y8 y9 y10 x1 x2; omega
  | succ n ih =>
  intro m d y6 y7 y8 y9 y10 x1 x2
  obtain ⟨m1, m2, ⟨g, m3, m3a⟩, m4, ⟨f6, m5, m5a⟩, m6, m7⟩ := id H
  unfold zMfs at m2
  refine z_iload dMod_digest_251 rfl ?_
  refine z_iload dMod_digest_253 rfl ?_
  refine z_icmp_ge (tgt := 325) dMod_digest_255 (by decide) (by omega) (by omega) (fun c255 => ?_) (fun c255 => ?_)
  · exact K _ _ _ _ _ _ _ _ _
  · refine z_aload_n dMod_digest_258 rfl ?_
    refine z_iload dMod_digest_259 rfl ?_
    refine z_aald (t := 4) (ty := .array .int) rfl rfl dMod_digest_261 m3 (by refine ⟨?_, ?_, ?_⟩ <;> omega) ?_
    rw [Int.toNat_natCast, m3a m (by omega)]
    obtain ⟨fr, r1, r2, r3, r4⟩ := id (m6 m (by omega))
    refine z_astore dMod_digest_262 (Nat.le_of_ble_eq_true rfl) ?_
    refine z_lload_n dMod_digest_264 rfl ?_
    refine z_aload dMod_digest_265 rfl ?_
    refine z_callS MS_Mod_isOrder lk_Mod_193 dMod_digest_267 (k_Mod_isOrder (m6 m (by omega))) rfl rfl (Nat.le_of_ble_eq_true rfl)  (Nat.le_of_ble_eq_true rfl) (Nat.le_of_ble_eq_true rfl) (Nat.le_of_eq (Nat.zero_add _)) (Nat.le_of_eq (Nat.zero_add _)) (fun _ _ q => q.elim) ?_
    rintro _ _ ⟨b7, rfl, hb7, rfl⟩
    refine z_if_eq (tgt := 277) dMod_digest_270 (by decide) (by omega) (fun c270 => ?_) (fun c270 => ?_)
    · refine z_lconst dMod_digest_277 0 rfl ?_
      refine z_callS MS_Mod_add lk_Mod_210 dMod_digest_278 k_Mod_add rfl rfl (Nat.le_of_ble_eq_true rfl)  (Nat.le_of_ble_eq_true rfl) (Nat.le_of_ble_eq_true rfl) (Nat.le_of_eq (Nat.zero_add _)) (Nat.le_of_eq (Nat.zero_add _)) (fun _ _ q => q.elim) ?_
      rintro _ _ ⟨rfl, rfl⟩
      refine z_lstore_n dMod_digest_281 (Nat.le_of_ble_eq_true rfl) ?_
      refine z_iconst dMod_digest_282 ?_
      refine z_istore dMod_digest_283 (Nat.le_of_ble_eq_true rfl) ?_
      refine l_Mod_digF2 (c := m) H hO hA (m6 m (by omega)) (fun d2 y7 => ?_) 4 0 _ (by omega) (by omega)
      refine z_iinc dMod_digest_319 rfl (Nat.le_of_ble_eq_true rfl) ?_
      refine z_goto (tgt := 251) dMod_digest_322 (by decide) ?_
      exact ih (m + 1) _ _ _ _ _ _ (by omega) (by omega)
    · refine z_lconst dMod_digest_273 1 rfl ?_
      refine z_goto (tgt := 278) dMod_digest_274 (by decide) ?_
      refine z_callS MS_Mod_add lk_Mod_210 dMod_digest_278 k_Mod_add rfl rfl (Nat.le_of_ble_eq_true rfl)  (Nat.le_of_ble_eq_true rfl) (Nat.le_of_ble_eq_true rfl) (Nat.le_of_eq (Nat.zero_add _)) (Nat.le_of_eq (Nat.zero_add _)) (fun _ _ q => q.elim) ?_
      rintro _ _ ⟨rfl, rfl⟩
      refine z_lstore_n dMod_digest_281 (Nat.le_of_ble_eq_true rfl) ?_
      refine z_iconst dMod_digest_282 ?_
      refine z_istore dMod_digest_283 (Nat.le_of_ble_eq_true rfl) ?_
      refine l_Mod_digF2 (c := m) H hO hA (m6 m (by omega)) (fun d2 y7 => ?_) 4 0 _ (by omega) (by omega)
      refine z_iinc dMod_digest_319 rfl (Nat.le_of_ble_eq_true rfl) ?_
      refine z_goto (tgt := 251) dMod_digest_322 (by decide) ?_
      exact ih (m + 1) _ _ _ _ _ _ (by omega) (by omega)
end MOD23
