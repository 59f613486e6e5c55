section
/-! ===== the model: its arrays ===== -/
section MOD1
variable {G : zG} {l : Launch} {h h' : zHp}
theorem z_alenI {J : zJ} {bc bs pc a n : Nat} {f : Nat → Int} {ls : List (Option Value)} {st : List Value} (hd : decode J.1.2.1 pc = .ok (.arraylength, 1)) (hh : h a = some (zInts G n f)) (kk : zR G l J bc bs h (pc + 1) ls (zi (n : Int) :: st)) : zR G l J bc bs h pc ls (.ref a :: st) := z_alen (i := 0) rfl hd hh kk
theorem z_newI {J : zJ} {bc bs pc : Nat} {n : Nat} {ls : List (Option Value)} {st : List Value} {bc' bs' : Nat} {m : Int} (hm : m = n) (hd : decode J.1.2.1 pc = .ok (.newarray .int, 2)) (hn : n ≤ 1000) (hb1 : bc' + 1 ≤ bc) (hb2 : bs' + n ≤ bs)
    (kk : ∀ (q : Nat) (h1 : zHp), zDm h q → G.2.2 ≤ q → h1 q = some (zInts G n (fun _ => 0)) → (∀ x, x ≠ q → h1 x = h x) → zR G l J bc' bs' h1 (pc + 2) ls (.ref q :: st)) : zR G l J bc bs h pc ls (zi m :: st) := by
  subst hm
  refine z_newa (at9 := .int) (ty := .int) (t := 0) (x := .inl (fun _ => zI 0)) rfl trivial rfl ac_int (fun cA => by rw [vp_cell_i]; rfl) ⟨by omega, by rw [Int.toNat_natCast]; show n * 4 ≤ 536870912; omega, by omega⟩ hd hb1 (by rw [Int.toNat_natCast]; exact hb2) (fun q hq hg => ?_)
  rw [Int.toNat_natCast]
  exact kk q _ hq hg (zup_same _ _ _) (fun x hx => zup_ne hx)
/-- an int array holds the list L -/
def zAr (G : zG) (h : zHp) (a : Nat) (L : List Int) : Prop := ∃ f : Nat → Int, h a = some (zInts G L.length f) ∧ L.length ≤ 99 ∧ (∀ j, j < L.length → f j = L.getD j 0) ∧ ∀ j, j < L.length → zIn (L.getD j 0)
theorem zAr.kept {a : Nat} {L : List Int} (H : zAr G h a L) (e : h' a = h a) : zAr G h' a L := by
  obtain ⟨f, e1, e2⟩ := H
  exact ⟨f, e.trans e1, e2⟩
theorem zAr.item {a : Nat} {L : List Int} (H : zAr G h a L) {j : Nat} (hj : j < L.length) : zIn (L.getD j 0) := by
  obtain ⟨f, e1, e2, e3, e4⟩ := H
  exact e4 j hj
theorem k_Mod_isOut {p lo hi : Int} (hp : zI32 p) (h1 : zI32 lo) (h2 : zI32 hi) : zM G l hMod_isOut yMod_isOut 1 [zi p, zi lo, zi hi] h (fun v h' => ∃ b9 : Int, v = some (zi b9) ∧ ((b9 = 1 ∧ (p < lo ∨ hi < p)) ∨ (b9 = 0 ∧ ¬ (p < lo ∨ hi < p))) ∧ h = h') zNo 0 0 := by
  refine zM.of [some (zi p), some (zi lo), some (zi hi)] (by decide +kernel) rfl (by decide) rfl (Nat.le_of_ble_eq_true rfl) rfl ?_
  refine z_iload_n dMod_isOut_0 rfl ?_
  refine z_iload_n dMod_isOut_1 rfl ?_
  refine z_icmp_lt (tgt := 10) dMod_isOut_2 (by decide) (by omega) (by omega) (fun c2 => ?_) (fun c2 => ?_)
  · refine z_iconst dMod_isOut_10 ?_
    refine z_goto (tgt := 15) dMod_isOut_11 (by decide) ?_
    refine z_iret rfl rfl dMod_isOut_15 ?_
    exact ⟨_, rfl, by omega, rfl⟩
  · refine z_iload_n dMod_isOut_5 rfl ?_
    refine z_iload_n dMod_isOut_6 rfl ?_
    refine z_icmp_le (tgt := 14) dMod_isOut_7 (by decide) (by omega) (by omega) (fun c7 => ?_) (fun c7 => ?_)
    · refine z_iconst dMod_isOut_14 ?_
      refine z_iret rfl rfl dMod_isOut_15 ?_
      exact ⟨_, rfl, by omega, rfl⟩
    · refine z_iconst dMod_isOut_10 ?_
      refine z_goto (tgt := 15) dMod_isOut_11 (by decide) ?_
      refine z_iret rfl rfl dMod_isOut_15 ?_
      exact ⟨_, rfl, by omega, rfl⟩
theorem k_Mod_isNo {p : Int} (hp : zI32 p) : zM G l hMod_isNo yMod_isNo 2 [zi p] h (fun v h' => ∃ b9 : Int, v = some (zi b9) ∧ ((b9 = 1 ∧ (¬ (0 ≤ p ∧ p ≤ 3))) ∨ (b9 = 0 ∧ ¬ (¬ (0 ≤ p ∧ p ≤ 3)))) ∧ h = h') zNo 0 0 := by
  refine zM.of [some (zi p)] (by decide +kernel) rfl (by decide) rfl (Nat.le_of_ble_eq_true rfl) rfl ?_
  refine z_iload_n dMod_isNo_0 rfl ?_
  refine z_iconst dMod_isNo_1 ?_
  refine z_iconst dMod_isNo_2 ?_
  refine z_callS MS_Mod_isOut lk_Mod_41 dMod_isNo_3 (k_Mod_isOut hp (by omega) (by omega)) rfl rfl (Nat.le_of_ble_eq_true rfl)  (Nat.le_of_ble_eq_true rfl) (Nat.le_of_ble_eq_true rfl) (Nat.le_of_eq (Nat.zero_add _)) (Nat.le_of_eq (Nat.zero_add _)) (fun _ _ q => q.elim) ?_
  rintro _ _ ⟨b9, rfl, hb9, rfl⟩
  refine z_iret rfl (by rcases hb9 with ⟨rfl, -⟩ | ⟨rfl, -⟩ <;> rfl) dMod_isNo_6 ?_
  exact ⟨_, rfl, by omega, rfl⟩
theorem k_Mod_isNoCursor {p : Int} (hp : zI32 p) : zM G l hMod_isNoCursor yMod_isNoCursor 2 [zi p] h (fun v h' => ∃ b9 : Int, v = some (zi b9) ∧ ((b9 = 1 ∧ (¬ (0 ≤ p ∧ p ≤ 2))) ∨ (b9 = 0 ∧ ¬ (¬ (0 ≤ p ∧ p ≤ 2)))) ∧ h = h') zNo 0 0 := by
  refine zM.of [some (zi p)] (by decide +kernel) rfl (by decide) rfl (Nat.le_of_ble_eq_true rfl) rfl ?_
  refine z_iload_n dMod_isNoCursor_0 rfl ?_
  refine z_iconst dMod_isNoCursor_1 ?_
  refine z_iconst dMod_isNoCursor_2 ?_
  refine z_callS MS_Mod_isOut lk_Mod_41 dMod_isNoCursor_3 (k_Mod_isOut hp (by omega) (by omega)) rfl rfl (Nat.le_of_ble_eq_true rfl)  (Nat.le_of_ble_eq_true rfl) (Nat.le_of_ble_eq_true rfl) (Nat.le_of_eq (Nat.zero_add _)) (Nat.le_of_eq (Nat.zero_add _)) (fun _ _ q => q.elim) ?_
  rintro _ _ ⟨b9, rfl, hb9, rfl⟩
  refine z_iret rfl (by rcases hb9 with ⟨rfl, -⟩ | ⟨rfl, -⟩ <;> rfl) dMod_isNoCursor_6 ?_
  exact ⟨_, rfl, by omega, rfl⟩
theorem k_Mod_isNoItem {p : Int} (hp : zI32 p) : zM G l hMod_isNoItem yMod_isNoItem 2 [zi p] h (fun v h' => ∃ b9 : Int, v = some (zi b9) ∧ ((b9 = 1 ∧ (¬ (-9999 ≤ p ∧ p ≤ 9999))) ∨ (b9 = 0 ∧ ¬ (¬ (-9999 ≤ p ∧ p ≤ 9999)))) ∧ h = h') zNo 0 0 := by
  refine zM.of [some (zi p)] (by decide +kernel) rfl (by decide) rfl (Nat.le_of_ble_eq_true rfl) rfl ?_
  refine z_iload_n dMod_isNoItem_0 rfl ?_
  refine z_sipush dMod_isNoItem_1 rfl ?_
  refine z_sipush dMod_isNoItem_4 rfl ?_
  refine z_callS MS_Mod_isOut lk_Mod_41 dMod_isNoItem_7 (k_Mod_isOut hp (by omega) (by omega)) rfl rfl (Nat.le_of_ble_eq_true rfl)  (Nat.le_of_ble_eq_true rfl) (Nat.le_of_ble_eq_true rfl) (Nat.le_of_eq (Nat.zero_add _)) (Nat.le_of_eq (Nat.zero_add _)) (fun _ _ q => q.elim) ?_
  rintro _ _ ⟨b9, rfl, hb9, rfl⟩
  refine z_iret rfl (by rcases hb9 with ⟨rfl, -⟩ | ⟨rfl, -⟩ <;> rfl) dMod_isNoItem_10 ?_
  exact ⟨_, rfl, by omega, rfl⟩
theorem l_Mod_with {d mc ms bc bs : Nat} {Qn : Option Value → zHp → Prop} {Qx : String → zHp → Prop} {a q : Nat} {L : List Int} {p x : Int} (hr : zAr G h a L) (hp : 0 ≤ p ∧ p ≤ L.length) (hx : zIn x) (hL : L.length ≤ 60) (haq : a ≠ q)
    (K : ∀ (h1 : zHp) y, zAr G h1 q (zIns L p x) → (∀ z, z ≠ q → h1 z = h z) → zR G l (zMJ G hMod_with d Qn Qx mc ms) bc bs h1 56 [some (.ref a), some (zi p), some (zi x), some (.ref q), y] []) :
    ∀ (n : Nat) (m : Nat) (h1 : zHp) (g : Nat → Int), L.length + 1 - m < n → m ≤ L.length + 1 → h1 q = some (zInts G (L.length + 1) g) → (∀ j, j < m → g j = (zIns L p x).getD j 0) → (∀ z, z ≠ q → h1 z = h z) → zR G l (zMJ G hMod_with d Qn Qx mc ms) bc bs h1 10 [some (.ref a), some (zi p), some (zi x), some (.ref q), some (zi (m : Int))] [] := by
  intro n
  induction n with
  | zero => intro m h1 g q1 q2 e1 e2 hf; omega
  | succ n ih =>
  intro m h1 g q1 q2 e1 e2 hf
  obtain ⟨f, d1, d2, d3, d4⟩ := id hr
  have b1 := (hf a haq).trans d1
  have hln := zIns_len L p x
  refine z_iload dMod_with_10 rfl ?_
  refine z_aload_n dMod_with_12 rfl ?_
  refine z_alenI dMod_with_13 (by assumption) ?_
  refine z_icmp_ge (tgt := 56) dMod_with_14 (by decide) (by omega) (by omega) (fun c14 => ?_) (fun c14 => ?_)
  · have em : m = L.length + 1 := by omega
    subst em
    refine K h1 _ ⟨g, by rw [hln]; exact e1, by omega, fun j hj => e2 j (by omega), fun j hj => ?_⟩ hf
    rw [zIns_at (by omega)]
    split
    · exact d4 j (by omega)
    · split
      · exact hx
      · exact d4 _ (by omega)
  · refine z_aload_n dMod_with_17 rfl ?_
    refine z_iload dMod_with_18 rfl ?_
    refine z_iload dMod_with_20 rfl ?_
    refine z_iload_n dMod_with_22 rfl ?_
    refine z_icmp_ge (tgt := 33) dMod_with_23 (by decide) (by omega) (by omega) (fun c23 => ?_) (fun c23 => ?_)
    · refine z_iload dMod_with_33 rfl ?_
      refine z_iload_n dMod_with_35 rfl ?_
      refine z_icmp_ne (tgt := 43) dMod_with_36 (by decide) (by omega) (by omega) (fun c36 => ?_) (fun c36 => ?_)
      · refine z_aload_n dMod_with_43 rfl ?_
        refine z_iload dMod_with_44 rfl ?_
        refine z_iconst dMod_with_46 ?_
        refine z_isub dMod_with_47 ?_
        refine z_iald dMod_with_48 (by assumption) (by refine ⟨?_, ?_, ?_⟩ <;> omega) ?_
        refine z_iast dMod_with_49 (by assumption) (by refine ⟨?_, ?_, ?_⟩ <;> omega) ?_
        refine z_hx (fun h2 p2 f2 => ?_)
        refine z_iinc dMod_with_50 rfl (Nat.le_of_ble_eq_true rfl) ?_
        refine z_goto (tgt := 10) dMod_with_53 (by decide) ?_
        refine ih (m + 1) h2 _ (by omega) (by omega) p2 (fun j hj => ?_) (fun z hz => (f2 z hz).trans (hf z hz))
        by_cases e9 : j = m
        · subst e9
          rw [zIns_at (by omega), Int.toNat_natCast, zup_same]
          first
            | (rw [if_pos (by omega)]; exact d3 j (by omega))
            | (rw [if_neg (by omega), if_pos (by omega)])
            | (rw [if_neg (by omega), if_neg (by omega), show ((j : Int) - 1).toNat = j - 1 by omega]; exact d3 _ (by omega))
        · rw [Int.toNat_natCast, zup_ne e9]
          exact e2 j (by omega)
      · refine z_iload_n dMod_with_39 rfl ?_
        refine z_goto (tgt := 49) dMod_with_40 (by decide) ?_
        refine z_iast dMod_with_49 (by assumption) (by refine ⟨?_, ?_, ?_⟩ <;> omega) ?_
        refine z_hx (fun h2 p2 f2 => ?_)
        refine z_iinc dMod_with_50 rfl (Nat.le_of_ble_eq_true rfl) ?_
        refine z_goto (tgt := 10) dMod_with_53 (by decide) ?_
        refine ih (m + 1) h2 _ (by omega) (by omega) p2 (fun j hj => ?_) (fun z hz => (f2 z hz).trans (hf z hz))
        by_cases e9 : j = m
        · subst e9
          rw [zIns_at (by omega), Int.toNat_natCast, zup_same]
          first
            | (rw [if_pos (by omega)]; exact d3 j (by omega))
            | (rw [if_neg (by omega), if_pos (by omega)])
            | (rw [if_neg (by omega), if_neg (by omega), show ((j : Int) - 1).toNat = j - 1 by omega]; exact d3 _ (by omega))
        · rw [Int.toNat_natCast, zup_ne e9]
          exact e2 j (by omega)
    · refine z_aload_n dMod_with_26 rfl ?_
      refine z_iload dMod_with_27 rfl ?_
      refine z_iald dMod_with_29 (by assumption) (by refine ⟨?_, ?_, ?_⟩ <;> omega) ?_
      refine z_goto (tgt := 49) dMod_with_30 (by decide) ?_
      refine z_iast dMod_with_49 (by assumption) (by refine ⟨?_, ?_, ?_⟩ <;> omega) ?_
      refine z_hx (fun h2 p2 f2 => ?_)
      refine z_iinc dMod_with_50 rfl (Nat.le_of_ble_eq_true rfl) ?_
      refine z_goto (tgt := 10) dMod_with_53 (by decide) ?_
      refine ih (m + 1) h2 _ (by omega) (by omega) p2 (fun j hj => ?_) (fun z hz => (f2 z hz).trans (hf z hz))
      by_cases e9 : j = m
      · subst e9
        rw [zIns_at (by omega), Int.toNat_natCast, zup_same]
        first
          | (rw [if_pos (by omega)]; exact d3 j (by omega))
          | (rw [if_neg (by omega), if_pos (by omega)])
          | (rw [if_neg (by omega), if_neg (by omega), show ((j : Int) - 1).toNat = j - 1 by omega]; exact d3 _ (by omega))
      · rw [Int.toNat_natCast, zup_ne e9]
        exact e2 j (by omega)
theorem k_Mod_with {a : Nat} {L : List Int} {p x : Int} (hr : zAr G h a L) (hp : 0 ≤ p ∧ p ≤ L.length) (hx : zIn x) (hL : L.length ≤ 60) : zM G l hMod_with yMod_with 1 [.ref a, zi p, zi x] h (fun v h' => ∃ q, v = some (.ref q) ∧ zDm h q ∧ G.2.2 ≤ q ∧ zAr G h' q (zIns L p x) ∧ ∀ z, z ≠ q → h' z = h z) zNo 1 61 := by
  obtain ⟨f, d1, d2, d3, d4⟩ := id hr
  refine zM.of [some (.ref a), some (zi p), some (zi x), none, none] (by decide +kernel) rfl (by decide) rfl (Nat.le_of_ble_eq_true rfl) rfl ?_
  refine z_aload_n dMod_with_0 rfl ?_
  refine z_alenI dMod_with_1 (by assumption) ?_
  refine z_iconst dMod_with_2 ?_
  refine z_iadd dMod_with_3 ?_
  refine z_newI (n := L.length + 1) (bc' := 0) (bs' := 0) (by omega) dMod_with_4 (by omega) (by decide) (by omega) (fun q h1 hq gq e1 f1 => ?_)
  have haq : a ≠ q := Nat.ne_of_lt (hq a _ d1)
  refine z_astore_n dMod_with_6 (Nat.le_of_ble_eq_true rfl) ?_
  refine z_iconst dMod_with_7 ?_
  refine z_istore dMod_with_8 (Nat.le_of_ble_eq_true rfl) ?_
  refine l_Mod_with hr hp hx hL haq (fun h2 y r2 f2 => ?_) (L.length + 2) 0 h1 _ (by omega) (by omega) e1 (fun j hj => absurd hj (by omega)) f1
  refine z_aload_n dMod_with_56 rfl ?_
  refine z_aret rfl (Or.inr ⟨_, rfl⟩) (Or.inr ⟨_, rfl⟩) dMod_with_57 ?_
  exact ⟨q, rfl, hq, gq, r2, f2⟩
theorem l_Mod_without {d mc ms bc bs : Nat} {Qn : Option Value → zHp → Prop} {Qx : String → zHp → Prop} {a q : Nat} {L : List Int} {p : Int} (hr : zAr G h a L) (hp : 0 ≤ p ∧ p < L.length) (haq : a ≠ q)
    (K : ∀ (h1 : zHp) y, zAr G h1 q (zDel L p) → (∀ z, z ≠ q → h1 z = h z) → zR G l (zMJ G hMod_without d Qn Qx mc ms) bc bs h1 38 [some (.ref a), some (zi p), some (.ref q), y] []) :
    ∀ (n : Nat) (m : Nat) (h1 : zHp) (g : Nat → Int), L.length - 1 - m < n → m ≤ L.length - 1 → h1 q = some (zInts G (L.length - 1) g) → (∀ j, j < m → g j = (zDel L p).getD j 0) → (∀ z, z ≠ q → h1 z = h z) → zR G l (zMJ G hMod_without d Qn Qx mc ms) bc bs h1 9 [some (.ref a), some (zi p), some (.ref q), some (zi (m : Int))] [] := by
  intro n
  induction n with
  | zero => intro m h1 g q1 q2 e1 e2 hf; omega
  | succ n ih =>
  intro m h1 g q1 q2 e1 e2 hf
  obtain ⟨f, d1, d2, d3, d4⟩ := id hr
  have b1 := (hf a haq).trans d1
  have hln := zDel_len L p
  refine z_iload_n dMod_without_9 rfl ?_
  refine z_aload_n dMod_without_10 rfl ?_
  refine z_alenI dMod_without_11 (by assumption) ?_
  refine z_icmp_ge (tgt := 38) dMod_without_12 (by decide) (by omega) (by omega) (fun c12 => ?_) (fun c12 => ?_)
  · have em : m = L.length - 1 := by omega
    subst em
    refine K h1 _ ⟨g, by rw [hln]; exact e1, by omega, fun j hj => e2 j (by omega), fun j hj => ?_⟩ hf
    rw [zDel_at (by omega)]
    split
    · exact d4 j (by omega)
    · exact d4 _ (by omega)
  · refine z_aload_n dMod_without_15 rfl ?_
    refine z_iload_n dMod_without_16 rfl ?_
    refine z_aload_n dMod_without_17 rfl ?_
    refine z_iload_n dMod_without_18 rfl ?_
    refine z_iload_n dMod_without_19 rfl ?_
    refine z_icmp_ge (tgt := 27) dMod_without_20 (by decide) (by omega) (by omega) (fun c20 => ?_) (fun c20 => ?_)
    · refine z_iload_n dMod_without_27 rfl ?_
      refine z_iconst dMod_without_28 ?_
      refine z_iadd dMod_without_29 ?_
      refine z_iald dMod_without_30 (by assumption) (by refine ⟨?_, ?_, ?_⟩ <;> omega) ?_
      refine z_iast dMod_without_31 (by assumption) (by refine ⟨?_, ?_, ?_⟩ <;> omega) ?_
      refine z_hx (fun h2 p2 f2 => ?_)
      refine z_iinc dMod_without_32 rfl (Nat.le_of_ble_eq_true rfl) ?_
      refine z_goto (tgt := 9) dMod_without_35 (by decide) ?_
      refine ih (m + 1) h2 _ (by omega) (by omega) p2 (fun j hj => ?_) (fun z hz => (f2 z hz).trans (hf z hz))
      by_cases e9 : j = m
      · subst e9
        rw [zDel_at (by omega), Int.toNat_natCast, zup_same]
        first
          | (rw [if_pos (by omega)]; exact d3 j (by omega))
          | (rw [if_neg (by omega), show ((j : Int) + 1).toNat = j + 1 by omega]; exact d3 _ (by omega))
      · rw [Int.toNat_natCast, zup_ne e9]
        exact e2 j (by omega)
    · refine z_iload_n dMod_without_23 rfl ?_
      refine z_goto (tgt := 30) dMod_without_24 (by decide) ?_
      refine z_iald dMod_without_30 (by assumption) (by refine ⟨?_, ?_, ?_⟩ <;> omega) ?_
      refine z_iast dMod_without_31 (by assumption) (by refine ⟨?_, ?_, ?_⟩ <;> omega) ?_
      refine z_hx (fun h2 p2 f2 => ?_)
      refine z_iinc dMod_without_32 rfl (Nat.le_of_ble_eq_true rfl) ?_
      refine z_goto (tgt := 9) dMod_without_35 (by decide) ?_
      refine ih (m + 1) h2 _ (by omega) (by omega) p2 (fun j hj => ?_) (fun z hz => (f2 z hz).trans (hf z hz))
      by_cases e9 : j = m
      · subst e9
        rw [zDel_at (by omega), Int.toNat_natCast, zup_same]
        first
          | (rw [if_pos (by omega)]; exact d3 j (by omega))
          | (rw [if_neg (by omega), show ((j : Int) + 1).toNat = j + 1 by omega]; exact d3 _ (by omega))
      · rw [Int.toNat_natCast, zup_ne e9]
        exact e2 j (by omega)
theorem k_Mod_without {a : Nat} {L : List Int} {p : Int} (hr : zAr G h a L) (hp : 0 ≤ p ∧ p < L.length) (hL : L.length ≤ 61) : zM G l hMod_without yMod_without 1 [.ref a, zi p] h (fun v h' => ∃ q, v = some (.ref q) ∧ zDm h q ∧ G.2.2 ≤ q ∧ zAr G h' q (zDel L p) ∧ ∀ z, z ≠ q → h' z = h z) zNo 1 60 := by
  obtain ⟨f, d1, d2, d3, d4⟩ := id hr
  refine zM.of [some (.ref a), some (zi p), none, none] (by decide +kernel) rfl (by decide) rfl (Nat.le_of_ble_eq_true rfl) rfl ?_
  refine z_aload_n dMod_without_0 rfl ?_
  refine z_alenI dMod_without_1 (by assumption) ?_
  refine z_iconst dMod_without_2 ?_
  refine z_isub dMod_without_3 ?_
  refine z_newI (n := L.length - 1) (bc' := 0) (bs' := 0) (by omega) dMod_without_4 (by omega) (by decide) (by omega) (fun q h1 hq gq e1 f1 => ?_)
  have haq : a ≠ q := Nat.ne_of_lt (hq a _ d1)
  refine z_astore_n dMod_without_6 (Nat.le_of_ble_eq_true rfl) ?_
  refine z_iconst dMod_without_7 ?_
  refine z_istore_n dMod_without_8 (Nat.le_of_ble_eq_true rfl) ?_
  refine l_Mod_without hr hp haq (fun h2 y r2 f2 => ?_) (L.length + 2) 0 h1 _ (by omega) (by omega) e1 (fun j hj => absurd hj (by omega)) f1
  refine z_aload_n dMod_without_38 rfl ?_
  refine z_aret rfl (Or.inr ⟨_, rfl⟩) (Or.inr ⟨_, rfl⟩) dMod_without_39 ?_
  exact ⟨q, rfl, hq, gq, r2, f2⟩
theorem l_Mod_turned {d mc ms bc bs : Nat} {Qn : Option Value → zHp → Prop} {Qx : String → zHp → Prop} {a q : Nat} {L : List Int} (hr : zAr G h a L) (haq : a ≠ q)
    (K : ∀ (h1 : zHp) y, zAr G h1 q (zRev L) → (∀ z, z ≠ q → h1 z = h z) → zR G l (zMJ G hMod_turned d Qn Qx mc ms) bc bs h1 30 [some (.ref a), some (.ref q), y] []) :
    ∀ (n : Nat) (m : Nat) (h1 : zHp) (g : Nat → Int), L.length - m < n → m ≤ L.length → h1 q = some (zInts G L.length g) → (∀ j, j < m → g j = (zRev L).getD j 0) → (∀ z, z ≠ q → h1 z = h z) → zR G l (zMJ G hMod_turned d Qn Qx mc ms) bc bs h1 7 [some (.ref a), some (.ref q), some (zi (m : Int))] [] := by
  intro n
  induction n with
  | zero => intro m h1 g q1 q2 e1 e2 hf; omega
  | succ n ih =>
  intro m h1 g q1 q2 e1 e2 hf
  obtain ⟨f, d1, d2, d3, d4⟩ := id hr
  have b1 := (hf a haq).trans d1
  have hln : (zRev L).length = L.length := zmk_len _ _
  refine z_iload_n dMod_turned_7 rfl ?_
  refine z_aload_n dMod_turned_8 rfl ?_
  refine z_alenI dMod_turned_9 (by assumption) ?_
  refine z_icmp_ge (tgt := 30) dMod_turned_10 (by decide) (by omega) (by omega) (fun c10 => ?_) (fun c10 => ?_)
  · have em : m = L.length := by omega
    subst em
    refine K h1 _ ⟨g, by rw [hln]; exact e1, by omega, fun j hj => e2 j (by omega), fun j hj => ?_⟩ hf
    rw [show (zRev L).getD j 0 = L.getD (L.length - 1 - j) 0 from zmk_at _ (by omega)]
    exact d4 _ (by omega)
  · refine z_aload_n dMod_turned_13 rfl ?_
    refine z_iload_n dMod_turned_14 rfl ?_
    refine z_aload_n dMod_turned_15 rfl ?_
    refine z_aload_n dMod_turned_16 rfl ?_
    refine z_alenI dMod_turned_17 (by assumption) ?_
    refine z_iconst dMod_turned_18 ?_
    refine z_isub dMod_turned_19 ?_
    refine z_iload_n dMod_turned_20 rfl ?_
    refine z_isub dMod_turned_21 ?_
    refine z_iald dMod_turned_22 (by assumption) (by refine ⟨?_, ?_, ?_⟩ <;> omega) ?_
    refine z_iast dMod_turned_23 (by assumption) (by refine ⟨?_, ?_, ?_⟩ <;> omega) ?_
    refine z_hx (fun h2 p2 f2 => ?_)
    refine z_iinc dMod_turned_24 rfl (Nat.le_of_ble_eq_true rfl) ?_
    refine z_goto (tgt := 7) dMod_turned_27 (by decide) ?_
    refine ih (m + 1) h2 _ (by omega) (by omega) p2 (fun j hj => ?_) (fun z hz => (f2 z hz).trans (hf z hz))
    by_cases e9 : j = m
    · subst e9
      rw [show (zRev L).getD j 0 = L.getD (L.length - 1 - j) 0 from zmk_at _ (by omega), Int.toNat_natCast, zup_same, show ((L.length : Int) - 1 - j).toNat = L.length - 1 - j by omega]
      exact d3 _ (by omega)
    · rw [Int.toNat_natCast, zup_ne e9]
      exact e2 j (by omega)
theorem k_Mod_turned {a : Nat} {L : List Int} (hr : zAr G h a L) (hL : L.length ≤ 61) : zM G l hMod_turned yMod_turned 1 [.ref a] h (fun v h' => ∃ q, v = some (.ref q) ∧ zDm h q ∧ G.2.2 ≤ q ∧ zAr G h' q (zRev L) ∧ ∀ z, z ≠ q → h' z = h z) zNo 1 61 := by
  obtain ⟨f, d1, d2, d3, d4⟩ := id hr
  refine zM.of [some (.ref a), none, none] (by decide +kernel) rfl (by decide) rfl (Nat.le_of_ble_eq_true rfl) rfl ?_
  refine z_aload_n dMod_turned_0 rfl ?_
  refine z_alenI dMod_turned_1 (by assumption) ?_
  refine z_newI (n := L.length) (bc' := 0) (bs' := 0) rfl dMod_turned_2 (by omega) (by decide) (by omega) (fun q h1 hq gq e1 f1 => ?_)
  have haq : a ≠ q := Nat.ne_of_lt (hq a _ d1)
  refine z_astore_n dMod_turned_4 (Nat.le_of_ble_eq_true rfl) ?_
  refine z_iconst dMod_turned_5 ?_
  refine z_istore_n dMod_turned_6 (Nat.le_of_ble_eq_true rfl) ?_
  refine l_Mod_turned hr haq (fun h2 y r2 f2 => ?_) (L.length + 2) 0 h1 _ (by omega) (by omega) e1 (fun j hj => absurd hj (by omega)) f1
  refine z_aload_n dMod_turned_30 rfl ?_
  refine z_aret rfl (Or.inr ⟨_, rfl⟩) (Or.inr ⟨_, rfl⟩) dMod_turned_31 ?_
  exact ⟨q, rfl, hq, gq, r2, f2⟩
theorem k_Mod_refused {o : Nat} {fs : List Value} {r : Int} (e : h o = some (.inr (zkMod, fs))) (hl : fs.length = 13) (hr : fs[10]? = some (zi r)) : zM G l hMod_refused yMod_refused 1 [.ref o] h (fun v h' => v = some (zi (-1000009)) ∧ h' o = some (.inr (zkMod, fs.set 10 (zi (r + 1)))) ∧ ∀ z, z ≠ o → h' z = h z) zNo 0 0 := by
  refine zM.of [some (.ref o)] (by decide +kernel) rfl (by decide) rfl (Nat.le_of_ble_eq_true rfl) rfl ?_
  refine z_aload_n dMod_refused_0 rfl ?_
  refine z_dup rfl dMod_refused_1 ?_
  refine z_get (k := 10) fd_Mod (by decide) fl_Mod_45 dMod_refused_2 e hr ?_
  refine z_iconst dMod_refused_5 ?_
  refine z_iadd dMod_refused_6 ?_
  refine z_put (k := 10) fd_Mod (by decide) fl_Mod_45 rfl dMod_refused_7 e (by omega) rfl rfl ?_
  refine z_hx (fun h1 p1 f1 => ?_)
  refine z_ldc (v := (-1000009 : Int32)) dMod_refused_10 (-1000009) (by decide) ct_Mod_48 ?_
  refine z_iret rfl rfl dMod_refused_12 ?_
  exact ⟨rfl, p1, f1⟩
theorem k_Mod_fails {o : Nat} {fs : List Value} {x y z : Int} (e : h o = some (.inr (zkMod, fs))) (hl : fs.length = 13) (hx : x = 0 ∨ x = 1) (hy : y = 0 ∨ y = 1) (hz : z = 0 ∨ z = 1) : zM G l hMod_fails yMod_fails 1 [.ref o, zi x, zi y, zi z] h (fun v h' => ∃ t b : Int, v = some (zi b) ∧ ((b = 0 ∧ t = 0 ∧ x = 0 ∧ y = 0 ∧ z = 0) ∨ (b = 1 ∧ ((t = 1 ∧ x = 1) ∨ (t = 2 ∧ x = 0 ∧ y = 1) ∨ (t = 3 ∧ x = 0 ∧ y = 0 ∧ z = 1)))) ∧ h' o = some (.inr (zkMod, fs.set 12 (zi t))) ∧ ∀ q, q ≠ o → h' q = h q) zNo 0 0 := by
  refine zM.of [some (.ref o), some (zi x), some (zi y), some (zi z)] (by decide +kernel) rfl (by decide) rfl (Nat.le_of_ble_eq_true rfl) rfl ?_
  refine z_aload_n dMod_fails_0 rfl ?_
  refine z_iload_n dMod_fails_1 rfl ?_
  refine z_if_eq (tgt := 9) dMod_fails_2 (by decide) (by omega) (fun c2 => ?_) (fun c2 => ?_)
  · refine z_iload_n dMod_fails_9 rfl ?_
    refine z_if_eq (tgt := 17) dMod_fails_10 (by decide) (by omega) (fun c10 => ?_) (fun c10 => ?_)
    · refine z_iload_n dMod_fails_17 rfl ?_
      refine z_if_eq (tgt := 25) dMod_fails_18 (by decide) (by omega) (fun c18 => ?_) (fun c18 => ?_)
      · refine z_iconst dMod_fails_25 ?_
        refine z_put (k := 12) fd_Mod (by decide) fl_Mod_37 rfl dMod_fails_26 e (by omega) rfl rfl ?_
        refine z_hx (fun h1 p1 f1 => ?_)
        refine z_aload_n dMod_fails_29 rfl ?_
        refine z_get (k := 12) fd_Mod (by decide) fl_Mod_37 dMod_fails_30 p1 (by rw [List.getElem?_set_self (by omega)]) ?_
        refine z_if_le (tgt := 40) dMod_fails_33 (by decide) (by omega) (fun c33 => ?_) (fun c33 => ?_)
        · refine z_iconst dMod_fails_40 ?_
          refine z_iret rfl rfl dMod_fails_41 ?_
          first
            | (exfalso; omega)
            | exact ⟨_, _, rfl, by omega, p1, f1⟩
        · refine z_iconst dMod_fails_36 ?_
          refine z_goto (tgt := 41) dMod_fails_37 (by decide) ?_
          refine z_iret rfl rfl dMod_fails_41 ?_
          first
            | (exfalso; omega)
            | exact ⟨_, _, rfl, by omega, p1, f1⟩
      · refine z_iconst dMod_fails_21 ?_
        refine z_goto (tgt := 26) dMod_fails_22 (by decide) ?_
        refine z_put (k := 12) fd_Mod (by decide) fl_Mod_37 rfl dMod_fails_26 e (by omega) rfl rfl ?_
        refine z_hx (fun h1 p1 f1 => ?_)
        refine z_aload_n dMod_fails_29 rfl ?_
        refine z_get (k := 12) fd_Mod (by decide) fl_Mod_37 dMod_fails_30 p1 (by rw [List.getElem?_set_self (by omega)]) ?_
        refine z_if_le (tgt := 40) dMod_fails_33 (by decide) (by omega) (fun c33 => ?_) (fun c33 => ?_)
        · refine z_iconst dMod_fails_40 ?_
          refine z_iret rfl rfl dMod_fails_41 ?_
          first
            | (exfalso; omega)
            | exact ⟨_, _, rfl, by omega, p1, f1⟩
        · refine z_iconst dMod_fails_36 ?_
          refine z_goto (tgt := 41) dMod_fails_37 (by decide) ?_
          refine z_iret rfl rfl dMod_fails_41 ?_
          first
            | (exfalso; omega)
            | exact ⟨_, _, rfl, by omega, p1, f1⟩
    · refine z_iconst dMod_fails_13 ?_
      refine z_goto (tgt := 26) dMod_fails_14 (by decide) ?_
      refine z_put (k := 12) fd_Mod (by decide) fl_Mod_37 rfl dMod_fails_26 e (by omega) rfl rfl ?_
      refine z_hx (fun h1 p1 f1 => ?_)
      refine z_aload_n dMod_fails_29 rfl ?_
      refine z_get (k := 12) fd_Mod (by decide) fl_Mod_37 dMod_fails_30 p1 (by rw [List.getElem?_set_self (by omega)]) ?_
      refine z_if_le (tgt := 40) dMod_fails_33 (by decide) (by omega) (fun c33 => ?_) (fun c33 => ?_)
      · refine z_iconst dMod_fails_40 ?_
        refine z_iret rfl rfl dMod_fails_41 ?_
        first
          | (exfalso; omega)
          | exact ⟨_, _, rfl, by omega, p1, f1⟩
      · refine z_iconst dMod_fails_36 ?_
        refine z_goto (tgt := 41) dMod_fails_37 (by decide) ?_
        refine z_iret rfl rfl dMod_fails_41 ?_
        first
          | (exfalso; omega)
          | exact ⟨_, _, rfl, by omega, p1, f1⟩
  · refine z_iconst dMod_fails_5 ?_
    refine z_goto (tgt := 26) dMod_fails_6 (by decide) ?_
    refine z_put (k := 12) fd_Mod (by decide) fl_Mod_37 rfl dMod_fails_26 e (by omega) rfl rfl ?_
    refine z_hx (fun h1 p1 f1 => ?_)
    refine z_aload_n dMod_fails_29 rfl ?_
    refine z_get (k := 12) fd_Mod (by decide) fl_Mod_37 dMod_fails_30 p1 (by rw [List.getElem?_set_self (by omega)]) ?_
    refine z_if_le (tgt := 40) dMod_fails_33 (by decide) (by omega) (fun c33 => ?_) (fun c33 => ?_)
    · refine z_iconst dMod_fails_40 ?_
      refine z_iret rfl rfl dMod_fails_41 ?_
      first
        | (exfalso; omega)
        | exact ⟨_, _, rfl, by omega, p1, f1⟩
    · refine z_iconst dMod_fails_36 ?_
      refine z_goto (tgt := 41) dMod_fails_37 (by decide) ?_
      refine z_iret rfl rfl dMod_fails_41 ?_
      first
        | (exfalso; omega)
        | exact ⟨_, _, rfl, by omega, p1, f1⟩
end MOD1
end
section
section MOD2
variable {G : zG} {l : Launch} {h h' : zHp}
theorem l_Mod_find {d mc ms bc bs : Nat} {Qn : Option Value → zHp → Prop} {Qx : String → zHp → Prop} {a : Nat} {L : List Int} {x t : Int} (hr : zAr G h a L) (hx : zI32 x) (ht : zI32 t)
    (K : ∀ y, zR G l (zMJ G hMod_find d Qn Qx mc ms) bc bs h 38 [some (.ref a), some (zi x), some (zi t), some (zi (zFind L x t)), y] []) :
    ∀ (n : Nat) (m : Nat), L.length - m < n → m ≤ L.length → zR G l (zMJ G hMod_find d Qn Qx mc ms) bc bs h 5 [some (.ref a), some (zi x), some (zi t), some (zi (zFd9 L x t m)), some (zi (m : Int))] [] := by
  intro n
  induction n with
  | zero => intro m q1 q2; omega
  | succ n ih =>
  intro m q1 q2
  obtain ⟨f, d1, d2, d3, d4⟩ := id hr
  have hin := zFd9_in L x t m
  refine z_iload dMod_find_5 rfl ?_
  refine z_aload_n dMod_find_7 rfl ?_
  refine z_alenI dMod_find_8 (by assumption) ?_
  refine z_icmp_ge (tgt := 38) dMod_find_9 (by decide) (by omega) (by omega) (fun c9 => ?_) (fun c9 => ?_)
  · have em : m = L.length := by omega
    rw [em]
    exact K _
  · have d3m := d3 m (by omega)
    have d4m := d4 m (by omega)
    refine z_aload_n dMod_find_12 rfl ?_
    refine z_iload dMod_find_13 rfl ?_
    refine z_iald dMod_find_15 (by assumption) (by refine ⟨?_, ?_, ?_⟩ <;> omega) ?_
    rw [Int.toNat_natCast, d3m]
    refine z_iload_n dMod_find_16 rfl ?_
    refine z_icmp_ne (tgt := 32) dMod_find_17 (by decide) (by omega) (by omega) (fun c17 => ?_) (fun c17 => ?_)
    · refine z_iinc dMod_find_32 rfl (Nat.le_of_ble_eq_true rfl) ?_
      refine z_goto (tgt := 5) dMod_find_35 (by decide) ?_
      have ih := ih (m + 1) (by omega) (by omega)
      first
        | (rw [show zFd9 L x t (m + 1) = zFd9 L x t m from if_neg (by omega)] at ih
           exact ih)
        | (rw [show zFd9 L x t (m + 1) = (m : Int) from if_pos (by omega)] at ih
           exact ih)
    · refine z_iload_n dMod_find_20 rfl ?_
      refine z_if_ne (tgt := 29) dMod_find_21 (by decide) (by omega) (fun c21 => ?_) (fun c21 => ?_)
      · refine z_iload dMod_find_29 rfl ?_
        refine z_istore_n dMod_find_31 (Nat.le_of_ble_eq_true rfl) ?_
        refine z_iinc dMod_find_32 rfl (Nat.le_of_ble_eq_true rfl) ?_
        refine z_goto (tgt := 5) dMod_find_35 (by decide) ?_
        have ih := ih (m + 1) (by omega) (by omega)
        first
          | (rw [show zFd9 L x t (m + 1) = zFd9 L x t m from if_neg (by omega)] at ih
             exact ih)
          | (rw [show zFd9 L x t (m + 1) = (m : Int) from if_pos (by omega)] at ih
             exact ih)
      · refine z_iload_n dMod_find_24 rfl ?_
        refine z_iconst dMod_find_25 ?_
        refine z_icmp_ne (tgt := 32) dMod_find_26 (by decide) (by omega) (by omega) (fun c26 => ?_) (fun c26 => ?_)
        · refine z_iinc dMod_find_32 rfl (Nat.le_of_ble_eq_true rfl) ?_
          refine z_goto (tgt := 5) dMod_find_35 (by decide) ?_
          have ih := ih (m + 1) (by omega) (by omega)
          first
            | (rw [show zFd9 L x t (m + 1) = zFd9 L x t m from if_neg (by omega)] at ih
               exact ih)
            | (rw [show zFd9 L x t (m + 1) = (m : Int) from if_pos (by omega)] at ih
               exact ih)
        · refine z_iload dMod_find_29 rfl ?_
          refine z_istore_n dMod_find_31 (Nat.le_of_ble_eq_true rfl) ?_
          refine z_iinc dMod_find_32 rfl (Nat.le_of_ble_eq_true rfl) ?_
          refine z_goto (tgt := 5) dMod_find_35 (by decide) ?_
          have ih := ih (m + 1) (by omega) (by omega)
          first
            | (rw [show zFd9 L x t (m + 1) = zFd9 L x t m from if_neg (by omega)] at ih
               exact ih)
            | (rw [show zFd9 L x t (m + 1) = (m : Int) from if_pos (by omega)] at ih
               exact ih)
theorem k_Mod_find {a : Nat} {L : List Int} {x t : Int} (hr : zAr G h a L) (hx : zI32 x) (ht : zI32 t) : zM G l hMod_find yMod_find 1 [.ref a, zi x, zi t] h (fun v h' => v = some (zi (zFind L x t)) ∧ h = h') zNo 0 0 := by
  refine zM.of [some (.ref a), some (zi x), some (zi t), none, none] (by decide +kernel) rfl (by decide) rfl (Nat.le_of_ble_eq_true rfl) rfl ?_
  refine z_iconst dMod_find_0 ?_
  refine z_istore_n dMod_find_1 (Nat.le_of_ble_eq_true rfl) ?_
  refine z_iconst dMod_find_2 ?_
  refine z_istore dMod_find_3 (Nat.le_of_ble_eq_true rfl) ?_
  refine l_Mod_find hr hx ht (fun y => ?_) (L.length + 1) 0 (by omega) (by omega)
  refine z_iload_n dMod_find_38 rfl ?_
  refine z_iret rfl rfl dMod_find_39 ?_
  exact ⟨rfl, rfl⟩
theorem l_Mod_degreeOf {d mc ms bc bs : Nat} {Qn : Option Value → zHp → Prop} {Qx : String → zHp → Prop} {a : Nat} {L : List Int} (hr : zAr G h a L)
    (K : ∀ y, zR G l (zMJ G hMod_degreeOf d Qn Qx mc ms) bc bs h 28 [some (.ref a), some (zi (zLnz L)), y] []) :
    ∀ (n : Nat) (m : Nat), L.length - m < n → m ≤ L.length → zR G l (zMJ G hMod_degreeOf d Qn Qx mc ms) bc bs h 4 [some (.ref a), some (zi (zLn9 L m)), some (zi (m : Int))] [] := by
  intro n
  induction n with
  | zero => intro m q1 q2; omega
  | succ n ih =>
  intro m q1 q2
  obtain ⟨f, d1, d2, d3, d4⟩ := id hr
  refine z_iload_n dMod_degreeOf_4 rfl ?_
  refine z_aload_n dMod_degreeOf_5 rfl ?_
  refine z_alenI dMod_degreeOf_6 (by assumption) ?_
  refine z_icmp_ge (tgt := 28) dMod_degreeOf_7 (by decide) (by omega) (by omega) (fun c7 => ?_) (fun c7 => ?_)
  · have em : m = L.length := by omega
    rw [em]
    exact K _
  · have d3m := d3 m (by omega)
    have d4m := d4 m (by omega)
    refine z_aload_n dMod_degreeOf_10 rfl ?_
    refine z_iload_n dMod_degreeOf_11 rfl ?_
    refine z_iald dMod_degreeOf_12 (by assumption) (by refine ⟨?_, ?_, ?_⟩ <;> omega) ?_
    rw [Int.toNat_natCast, d3m]
    refine z_if_eq (tgt := 20) dMod_degreeOf_13 (by decide) (by omega) (fun c13 => ?_) (fun c13 => ?_)
    · refine z_iload_n dMod_degreeOf_20 rfl ?_
      refine z_istore_n dMod_degreeOf_21 (Nat.le_of_ble_eq_true rfl) ?_
      refine z_iinc dMod_degreeOf_22 rfl (Nat.le_of_ble_eq_true rfl) ?_
      refine z_goto (tgt := 4) dMod_degreeOf_25 (by decide) ?_
      have ih := ih (m + 1) (by omega) (by omega)
      first
        | (rw [show zLn9 L (m + 1) = zLn9 L m from if_pos (by omega)] at ih
           exact ih)
        | (rw [show zLn9 L (m + 1) = (m : Int) from if_neg (by omega)] at ih
           exact ih)
    · refine z_iload_n dMod_degreeOf_16 rfl ?_
      refine z_goto (tgt := 21) dMod_degreeOf_17 (by decide) ?_
      refine z_istore_n dMod_degreeOf_21 (Nat.le_of_ble_eq_true rfl) ?_
      refine z_iinc dMod_degreeOf_22 rfl (Nat.le_of_ble_eq_true rfl) ?_
      refine z_goto (tgt := 4) dMod_degreeOf_25 (by decide) ?_
      have ih := ih (m + 1) (by omega) (by omega)
      first
        | (rw [show zLn9 L (m + 1) = zLn9 L m from if_pos (by omega)] at ih
           exact ih)
        | (rw [show zLn9 L (m + 1) = (m : Int) from if_neg (by omega)] at ih
           exact ih)
theorem k_Mod_degreeOf {a : Nat} {L : List Int} (hr : zAr G h a L) : zM G l hMod_degreeOf yMod_degreeOf 1 [.ref a] h (fun v h' => v = some (zi (zLnz L)) ∧ h = h') zNo 0 0 := by
  refine zM.of [some (.ref a), none, none] (by decide +kernel) rfl (by decide) rfl (Nat.le_of_ble_eq_true rfl) rfl ?_
  refine z_iconst dMod_degreeOf_0 ?_
  refine z_istore_n dMod_degreeOf_1 (Nat.le_of_ble_eq_true rfl) ?_
  refine z_iconst dMod_degreeOf_2 ?_
  refine z_istore_n dMod_degreeOf_3 (Nat.le_of_ble_eq_true rfl) ?_
  refine l_Mod_degreeOf hr (fun y => ?_) (L.length + 1) 0 (by omega) (by omega)
  refine z_iload_n dMod_degreeOf_28 rfl ?_
  refine z_iret rfl rfl dMod_degreeOf_29 ?_
  exact ⟨rfl, rfl⟩
theorem k_Mod_isAtEnd {p : Int} (hp : zI32 p) : zM G l hMod_isAtEnd yMod_isAtEnd 1 [zi p] h (fun v h' => ∃ b9 : Int, v = some (zi b9) ∧ ((b9 = 1 ∧ (p = 1 ∨ p = 3)) ∨ (b9 = 0 ∧ ¬ (p = 1 ∨ p = 3))) ∧ h = h') zNo 0 0 := by
  refine zM.of [some (zi p)] (by decide +kernel) rfl (by decide) rfl (Nat.le_of_ble_eq_true rfl) rfl ?_
  refine z_iload_n dMod_isAtEnd_0 rfl ?_
  refine z_iconst dMod_isAtEnd_1 ?_
  refine z_icmp_eq (tgt := 10) dMod_isAtEnd_2 (by decide) (by omega) (by omega) (fun c2 => ?_) (fun c2 => ?_)
  · refine z_iconst dMod_isAtEnd_10 ?_
    refine z_goto (tgt := 15) dMod_isAtEnd_11 (by decide) ?_
    refine z_iret rfl rfl dMod_isAtEnd_15 ?_
    exact ⟨_, rfl, by omega, rfl⟩
  · refine z_iload_n dMod_isAtEnd_5 rfl ?_
    refine z_iconst dMod_isAtEnd_6 ?_
    refine z_icmp_ne (tgt := 14) dMod_isAtEnd_7 (by decide) (by omega) (by omega) (fun c7 => ?_) (fun c7 => ?_)
    · refine z_iconst dMod_isAtEnd_14 ?_
      refine z_iret rfl rfl dMod_isAtEnd_15 ?_
      exact ⟨_, rfl, by omega, rfl⟩
    · refine z_iconst dMod_isAtEnd_10 ?_
      refine z_goto (tgt := 15) dMod_isAtEnd_11 (by decide) ?_
      refine z_iret rfl rfl dMod_isAtEnd_15 ?_
      exact ⟨_, rfl, by omega, rfl⟩
theorem l_Mod_areLike0 {a b : Nat} {L M : List Int} (hne : ¬ L = M) {y : Option Value} : zR G l (zMJ G hMod_areLike 1 (fun v h' => ∃ b9 : Int, v = some (zi b9) ∧ ((b9 = 1 ∧ L = M) ∨ (b9 = 0 ∧ ¬ L = M)) ∧ h = h') zNo 0 0) 0 0 h 15 [some (.ref a), some (.ref b), some (zi 0), y] [] := by
  refine z_iload_n dMod_areLike_15 rfl ?_
  refine z_if_eq (tgt := 46) dMod_areLike_16 (by decide) (by omega) (fun c16 => ?_) (fun c16 => ?_)
  · refine z_iload_n dMod_areLike_46 rfl ?_
    refine z_iret rfl rfl dMod_areLike_47 ?_
    exact ⟨0, rfl, Or.inr ⟨rfl, hne⟩, rfl⟩
  · exact absurd rfl c16
theorem l_Mod_areLike {a b : Nat} {L M : List Int} (hr : zAr G h a L) (hm : zAr G h b M) (hl : L.length = M.length) : ∀ (n : Nat) (m : Nat), L.length - m < n → m ≤ L.length → (∀ j, j < m → L.getD j 0 = M.getD j 0) → zR G l (zMJ G hMod_areLike 1 (fun v h' => ∃ b9 : Int, v = some (zi b9) ∧ ((b9 = 1 ∧ L = M) ∨ (b9 = 0 ∧ ¬ L = M)) ∧ h = h') zNo 0 0) 0 0 h 15 [some (.ref a), some (.ref b), some (zi 1), some (zi (m : Int))] [] := by
  intro n
  induction n with
  | zero => intro m q1 q2 q3; omega
  | succ n ih =>
  intro m q1 q2 q3
  obtain ⟨f, d1, d2, d3, d4⟩ := id hr
  obtain ⟨f2, b1, b2, b3, b4⟩ := id hm
  refine z_iload_n dMod_areLike_15 rfl ?_
  refine z_if_eq (tgt := 46) dMod_areLike_16 (by decide) (by omega) (fun c16 => ?_) (fun c16 => ?_)
  · exact absurd c16 (by decide)
  refine z_iload_n dMod_areLike_19 rfl ?_
  refine z_aload_n dMod_areLike_20 rfl ?_
  refine z_alenI dMod_areLike_21 (by assumption) ?_
  refine z_icmp_ge (tgt := 46) dMod_areLike_22 (by decide) (by omega) (by omega) (fun c22 => ?_) (fun c22 => ?_)
  · refine z_iload_n dMod_areLike_46 rfl ?_
    refine z_iret rfl rfl dMod_areLike_47 ?_
    exact ⟨1, rfl, Or.inl ⟨rfl, zl_ext hl (fun j hj => q3 j (by omega))⟩, rfl⟩
  · have d3m := d3 m (by omega)
    have d4m := d4 m (by omega)
    have b3m := b3 m (by omega)
    have b4m := b4 m (by omega)
    refine z_aload_n dMod_areLike_25 rfl ?_
    refine z_iload_n dMod_areLike_26 rfl ?_
    refine z_iald dMod_areLike_27 (by assumption) (by refine ⟨?_, ?_, ?_⟩ <;> omega) ?_
    rw [Int.toNat_natCast, d3m]
    refine z_aload_n dMod_areLike_28 rfl ?_
    refine z_iload_n dMod_areLike_29 rfl ?_
    refine z_iald dMod_areLike_30 (by assumption) (by refine ⟨?_, ?_, ?_⟩ <;> omega) ?_
    rw [Int.toNat_natCast, b3m]
    refine z_icmp_ne (tgt := 38) dMod_areLike_31 (by decide) (by omega) (by omega) (fun c31 => ?_) (fun c31 => ?_)
    · refine z_iconst dMod_areLike_38 ?_
      refine z_istore_n dMod_areLike_39 (Nat.le_of_ble_eq_true rfl) ?_
      refine z_iinc dMod_areLike_40 rfl (Nat.le_of_ble_eq_true rfl) ?_
      refine z_goto (tgt := 15) dMod_areLike_43 (by decide) ?_
      exact l_Mod_areLike0 (fun e => c31 (by rw [e]))
    · refine z_iconst dMod_areLike_34 ?_
      refine z_goto (tgt := 39) dMod_areLike_35 (by decide) ?_
      refine z_istore_n dMod_areLike_39 (Nat.le_of_ble_eq_true rfl) ?_
      refine z_iinc dMod_areLike_40 rfl (Nat.le_of_ble_eq_true rfl) ?_
      refine z_goto (tgt := 15) dMod_areLike_43 (by decide) ?_
      exact ih (m + 1) (by omega) (by omega) (fun j hj => by
        by_cases e9 : j = m
        · rw [e9]; exact c31
        · exact q3 j (by omega))
theorem k_Mod_areLike {a b : Nat} {L M : List Int} (hr : zAr G h a L) (hm : zAr G h b M) : zM G l hMod_areLike yMod_areLike 1 [.ref a, .ref b] h (fun v h' => ∃ b9 : Int, v = some (zi b9) ∧ ((b9 = 1 ∧ L = M) ∨ (b9 = 0 ∧ ¬ L = M)) ∧ h = h') zNo 0 0 := by
  obtain ⟨f, d1, d2, d3, d4⟩ := id hr
  obtain ⟨f2, b1, b2, b3, b4⟩ := id hm
  refine zM.of [some (.ref a), some (.ref b), none, none] (by decide +kernel) rfl (by decide) rfl (Nat.le_of_ble_eq_true rfl) rfl ?_
  refine z_aload_n dMod_areLike_0 rfl ?_
  refine z_alenI dMod_areLike_1 (by assumption) ?_
  refine z_aload_n dMod_areLike_2 rfl ?_
  refine z_alenI dMod_areLike_3 (by assumption) ?_
  refine z_icmp_ne (tgt := 11) dMod_areLike_4 (by decide) (by omega) (by omega) (fun c4 => ?_) (fun c4 => ?_)
  · refine z_iconst dMod_areLike_11 ?_
    refine z_istore_n dMod_areLike_12 (Nat.le_of_ble_eq_true rfl) ?_
    refine z_iconst dMod_areLike_13 ?_
    refine z_istore_n dMod_areLike_14 (Nat.le_of_ble_eq_true rfl) ?_
    first
      | exact l_Mod_areLike hr hm (by omega) (L.length + 1) 0 (by omega) (by omega) (fun j hj => absurd hj (by omega))
      | exact l_Mod_areLike0 (fun e => by have := congrArg List.length e; omega)
  · refine z_iconst dMod_areLike_7 ?_
    refine z_goto (tgt := 12) dMod_areLike_8 (by decide) ?_
    refine z_istore_n dMod_areLike_12 (Nat.le_of_ble_eq_true rfl) ?_
    refine z_iconst dMod_areLike_13 ?_
    refine z_istore_n dMod_areLike_14 (Nat.le_of_ble_eq_true rfl) ?_
    first
      | exact l_Mod_areLike hr hm (by omega) (L.length + 1) 0 (by omega) (by omega) (fun j hj => absurd hj (by omega))
      | exact l_Mod_areLike0 (fun e => by have := congrArg List.length e; omega)
theorem l_Mod_isOrder0 {a : Nat} {L : List Int} (hne : ¬ zOrd L) {y : Option Value} : zR G l (zMJ G hMod_isOrder 2 (fun v h' => ∃ b9 : Int, v = some (zi b9) ∧ ((b9 = 1 ∧ zOrd L) ∨ (b9 = 0 ∧ ¬ zOrd L)) ∧ h = h') zNo 0 0) 0 0 h 15 [some (.ref a), some (zi 0), y] [] := by
  refine z_iload_n dMod_isOrder_15 rfl ?_
  refine z_if_eq (tgt := 47) dMod_isOrder_16 (by decide) (by omega) (fun c16 => ?_) (fun c16 => ?_)
  · refine z_iload_n dMod_isOrder_47 rfl ?_
    refine z_iret rfl rfl dMod_isOrder_48 ?_
    exact ⟨0, rfl, Or.inr ⟨rfl, hne⟩, rfl⟩
  · exact absurd rfl c16
theorem l_Mod_isOrder {a : Nat} {L : List Int} (hr : zAr G h a L) (hl : L.length = 8) : ∀ (n : Nat) (m : Nat), 8 - m < n → m ≤ 8 → (∀ j : Nat, j < m → zFind L j 0 ≠ -1) → zR G l (zMJ G hMod_isOrder 2 (fun v h' => ∃ b9 : Int, v = some (zi b9) ∧ ((b9 = 1 ∧ zOrd L) ∨ (b9 = 0 ∧ ¬ zOrd L)) ∧ h = h') zNo 0 0) 0 0 h 15 [some (.ref a), some (zi 1), some (zi (m : Int))] [] := by
  intro n
  induction n with
  | zero => intro m q1 q2 q3; omega
  | succ n ih =>
  intro m q1 q2 q3
  have hz := zFind_in L m 0
  refine z_iload_n dMod_isOrder_15 rfl ?_
  refine z_if_eq (tgt := 47) dMod_isOrder_16 (by decide) (by omega) (fun c16 => ?_) (fun c16 => ?_)
  · exact absurd c16 (by decide)
  refine z_iload_n dMod_isOrder_19 rfl ?_
  refine z_bipush dMod_isOrder_20 rfl ?_
  refine z_icmp_ge (tgt := 47) dMod_isOrder_22 (by decide) (by omega) (by omega) (fun c22 => ?_) (fun c22 => ?_)
  · refine z_iload_n dMod_isOrder_47 rfl ?_
    refine z_iret rfl rfl dMod_isOrder_48 ?_
    exact ⟨1, rfl, Or.inl ⟨rfl, hl, fun k hk => q3 k (by omega)⟩, rfl⟩
  · refine z_aload_n dMod_isOrder_25 rfl ?_
    refine z_iload_n dMod_isOrder_26 rfl ?_
    refine z_iconst dMod_isOrder_27 ?_
    refine z_callS MS_Mod_find lk_Mod_110 dMod_isOrder_28 (k_Mod_find hr (by omega) (by omega)) rfl rfl (Nat.le_of_ble_eq_true rfl)  (Nat.le_of_ble_eq_true rfl) (Nat.le_of_ble_eq_true rfl) (Nat.le_of_eq (Nat.zero_add _)) (Nat.le_of_eq (Nat.zero_add _)) (fun _ _ q => q.elim) ?_
    rintro _ _ ⟨rfl, rfl⟩
    refine z_iconst dMod_isOrder_31 ?_
    refine z_icmp_eq (tgt := 39) dMod_isOrder_32 (by decide) (by omega) (by omega) (fun c32 => ?_) (fun c32 => ?_)
    · refine z_iconst dMod_isOrder_39 ?_
      refine z_istore_n dMod_isOrder_40 (Nat.le_of_ble_eq_true rfl) ?_
      refine z_iinc dMod_isOrder_41 rfl (Nat.le_of_ble_eq_true rfl) ?_
      refine z_goto (tgt := 15) dMod_isOrder_44 (by decide) ?_
      exact l_Mod_isOrder0 (fun e => e.2 m (by omega) c32)
    · refine z_iconst dMod_isOrder_35 ?_
      refine z_goto (tgt := 40) dMod_isOrder_36 (by decide) ?_
      refine z_istore_n dMod_isOrder_40 (Nat.le_of_ble_eq_true rfl) ?_
      refine z_iinc dMod_isOrder_41 rfl (Nat.le_of_ble_eq_true rfl) ?_
      refine z_goto (tgt := 15) dMod_isOrder_44 (by decide) ?_
      exact ih (m + 1) (by omega) (by omega) (fun j hj => by
        by_cases e9 : j = m
        · rw [e9]; exact c32
        · exact q3 j (by omega))
theorem k_Mod_isOrder {a : Nat} {L : List Int} (hr : zAr G h a L) : zM G l hMod_isOrder yMod_isOrder 2 [.ref a] h (fun v h' => ∃ b9 : Int, v = some (zi b9) ∧ ((b9 = 1 ∧ zOrd L) ∨ (b9 = 0 ∧ ¬ zOrd L)) ∧ h = h') zNo 0 0 := by
  obtain ⟨f, d1, d2, d3, d4⟩ := id hr
  refine zM.of [some (.ref a), none, none] (by decide +kernel) rfl (by decide) rfl (Nat.le_of_ble_eq_true rfl) rfl ?_
  refine z_aload_n dMod_isOrder_0 rfl ?_
  refine z_alenI dMod_isOrder_1 (by assumption) ?_
  refine z_bipush dMod_isOrder_2 rfl ?_
  refine z_icmp_ne (tgt := 11) dMod_isOrder_4 (by decide) (by omega) (by omega) (fun c4 => ?_) (fun c4 => ?_)
  · refine z_iconst dMod_isOrder_11 ?_
    refine z_istore_n dMod_isOrder_12 (Nat.le_of_ble_eq_true rfl) ?_
    refine z_iconst dMod_isOrder_13 ?_
    refine z_istore_n dMod_isOrder_14 (Nat.le_of_ble_eq_true rfl) ?_
    first
      | exact l_Mod_isOrder hr (by omega) 9 0 (by omega) (by omega) (fun j hj => absurd hj (by omega))
      | exact l_Mod_isOrder0 (fun e => by have := e.1; omega)
  · refine z_iconst dMod_isOrder_7 ?_
    refine z_goto (tgt := 12) dMod_isOrder_8 (by decide) ?_
    refine z_istore_n dMod_isOrder_12 (Nat.le_of_ble_eq_true rfl) ?_
    refine z_iconst dMod_isOrder_13 ?_
    refine z_istore_n dMod_isOrder_14 (Nat.le_of_ble_eq_true rfl) ?_
    first
      | exact l_Mod_isOrder hr (by omega) 9 0 (by omega) (by omega) (fun j hj => absurd hj (by omega))
      | exact l_Mod_isOrder0 (fun e => by have := e.1; omega)
end MOD2
end
section
/-! ===== the model's state ===== -/
section MOD3
variable {G : zG} {l : Launch} {h h' : zHp} {ma : Nat → Nat} {S : zSt} {th : Int}
def zMfs (ma : Nat → Nat) (S : zSt) (th : Int) : List Value := [.ref (ma 1), .ref (ma 2), .ref (ma 3), .ref (ma 4), .ref (ma 5), .ref (ma 6), .ref (ma 12), .ref (ma 7), zi (S.2.2.2.1.length : Int), zi (S.2.2.2.2 0), zi (S.2.2.2.2 1), zi (S.2.2.2.2 2), zi th]
/-- the cursors' arrays: 2 there, 3 stale, 4 list, 5 index, 6 last -/
def zMcu (G : zG) (h : zHp) (ma : Nat → Nat) (cu : Nat → Nat → Int) : Prop :=
  (∃ f, h (ma 2) = some (zBools G 3 f) ∧ ∀ c, c < 3 → f c = cu c 0 ∧ (cu c 0 = 0 ∨ cu c 0 = 1)) ∧
  (∃ f, h (ma 3) = some (zBools G 3 f) ∧ ∀ c, c < 3 → (f c = 0 ∨ f c = 1) ∧ (cu c 0 = 1 → f c = cu c 1)) ∧
  (∃ f, h (ma 4) = some (zInts G 3 f) ∧ ∀ c, c < 3 → zI32 (f c) ∧ (cu c 0 = 1 → f c = cu c 2)) ∧
  (∃ f, h (ma 5) = some (zInts G 3 f) ∧ ∀ c, c < 3 → zI32 (f c) ∧ (cu c 0 = 1 → f c = cu c 3)) ∧
  (∃ f, h (ma 6) = some (zInts G 3 f) ∧ ∀ c, c < 3 → zI32 (f c) ∧ (cu c 0 = 1 → f c = cu c 4))
def zMod (G : zG) (h : zHp) (ma : Nat → Nat) (S : zSt) (th : Int) : Prop :=
  (∀ i j, i < 13 → j < 13 → ma i = ma j → i = j) ∧
  h (ma 0) = some (.inr (zkMod, zMfs ma S th)) ∧
  (∃ g, h (ma 1) = some (zRefs G 4 4 g) ∧ ∀ k, k < 4 → g k = some (ma (8 + k))) ∧
  zMcu G h ma S.2.1 ∧
  (∃ f, h (ma 7) = some (zInts G 60 f) ∧ ∀ j, j < S.2.2.2.1.length → f j = S.2.2.2.1.getD j 0) ∧
  (∀ k, k < 4 → zAr G h (ma (8 + k)) (S.1 k)) ∧ zAr G h (ma 12) S.2.2.1
theorem zMod.inj (H : zMod G h ma S th) {i j : Nat} (hi : i < 13) (hj : j < 13) (hne : i ≠ j) : ma i ≠ ma j := fun e => hne (H.1 i j hi hj e)
theorem zMod.row (H : zMod G h ma S th) {k : Nat} (hk : k < 4) : zAr G h (ma (8 + k)) (S.1 k) := H.2.2.2.2.2.1 k hk
/-- only the object's own cell changes -/
theorem zMod.obj {th' : Int} {nu : Nat → Int} (H : zMod G h ma S th) (e : h' (ma 0) = some (.inr (zkMod, zMfs ma (S.1, S.2.1, S.2.2.1, S.2.2.2.1, nu) th'))) (hf : ∀ q, q ≠ ma 0 → h' q = h q) : zMod G h' ma (S.1, S.2.1, S.2.2.1, S.2.2.2.1, nu) th' := by
  obtain ⟨m1, m2, ⟨g, m3, m3'⟩, ⟨⟨f1, a1, b1⟩, ⟨f2, a2, b2⟩, ⟨f3, a3, b3⟩, ⟨f4, a4, b4⟩, ⟨f5, a5, b5⟩⟩, ⟨f6, m5, m5'⟩, m6, m7⟩ := id H
  have kp : ∀ i, i < 13 → i ≠ 0 → h' (ma i) = h (ma i) := fun i hi h1 => hf _ (H.inj hi (by omega) h1)
  exact ⟨m1, e, ⟨g, (kp 1 (by omega) (by omega)).trans m3, m3'⟩, ⟨⟨f1, (kp 2 (by omega) (by omega)).trans a1, b1⟩, ⟨f2, (kp 3 (by omega) (by omega)).trans a2, b2⟩, ⟨f3, (kp 4 (by omega) (by omega)).trans a3, b3⟩, ⟨f4, (kp 5 (by omega) (by omega)).trans a4, b4⟩, ⟨f5, (kp 6 (by omega) (by omega)).trans a5, b5⟩⟩, ⟨f6, (kp 7 (by omega) (by omega)).trans m5, m5'⟩, fun k hk => (m6 k hk).kept (kp _ (by omega) (by omega)), m7.kept (kp 12 (by omega) (by omega))⟩
/-- the frame of the model's methods: cells that aren't its own stay -/
def zMfr (ma : Nat → Nat) (h h' : zHp) : Prop := ∀ q e, h q = some e → (∀ i, i < 13 → q ≠ ma i) → h' q = some e
theorem zMfr.rf : zMfr ma h h := fun _ _ e _ => e
theorem zMfr.of0 (hf : ∀ q, q ≠ ma 0 → h' q = h q) : zMfr ma h h' := fun q e he hq => (hf q (hq 0 (by omega))).trans he
theorem k_Mod_thrown (H : zMod G h ma S th) : zM G l hMod_thrown yMod_thrown 1 [.ref (ma 0)] h (fun v h' => v = some (zi th) ∧ h = h') zNo 0 0 := by
  obtain ⟨m1, m2, ⟨g, m3, m3a⟩, m4, ⟨f6, m5, m5a⟩, m6, m7⟩ := id H
  unfold zMfs at m2
  refine zM.of [some (.ref (ma 0))] (by decide +kernel) rfl (by decide) rfl (Nat.le_of_ble_eq_true rfl) rfl ?_
  refine z_aload_n dMod_thrown_0 rfl ?_
  refine z_get (k := 12) fd_Mod (by decide) fl_Mod_37 dMod_thrown_1 (by assumption) (by rfl) ?_
  refine z_iret rfl rfl dMod_thrown_4 ?_
  exact ⟨rfl, rfl⟩
theorem k_Mod_knock (H : zMod G h ma S th) : zM G l hMod_knock yMod_knock 1 [.ref (ma 0)] h (fun v h' => v = some (zi (S.2.2.2.2 2 + 1)) ∧ zMod G h' ma (sp_knock S).2 0 ∧ zMfr ma h h') zNo 0 0 := by
  obtain ⟨m1, m2, ⟨g, m3, m3a⟩, m4, ⟨f6, m5, m5a⟩, m6, m7⟩ := id H
  unfold zMfs at m2
  refine zM.of [some (.ref (ma 0))] (by decide +kernel) rfl (by decide) rfl (Nat.le_of_ble_eq_true rfl) rfl ?_
  refine z_aload_n dMod_knock_0 rfl ?_
  refine z_iconst dMod_knock_1 ?_
  refine z_put (k := 12) fd_Mod (by decide) fl_Mod_37 rfl dMod_knock_2 (by assumption) (by simp) rfl rfl ?_
  refine z_hx (fun h1 p1 f1 => ?_)
  refine z_aload_n dMod_knock_5 rfl ?_
  refine z_dup rfl dMod_knock_6 ?_
  refine z_get (k := 11) fd_Mod (by decide) fl_Mod_200 dMod_knock_7 (by assumption) (by rfl) ?_
  refine z_iconst dMod_knock_10 ?_
  refine z_iadd dMod_knock_11 ?_
  refine z_put (k := 11) fd_Mod (by decide) fl_Mod_200 rfl dMod_knock_12 (by assumption) (by simp) rfl rfl ?_
  refine z_hx (fun h2 p2 f2 => ?_)
  refine z_aload_n dMod_knock_15 rfl ?_
  refine z_get (k := 11) fd_Mod (by decide) fl_Mod_200 dMod_knock_16 (by assumption) (by rfl) ?_
  refine z_iret rfl rfl dMod_knock_19 ?_
  exact ⟨rfl, H.obj (nu := zup S.2.2.2.2 2 (S.2.2.2.2 2 + 1)) p2 (fun q hq => (f2 q hq).trans (f1 q hq)), zMfr.of0 (fun q hq => (f2 q hq).trans (f1 q hq))⟩
theorem k_Mod_isSound (H : zMod G h ma S th) : zM G l hMod_isSound yMod_isSound 1 [.ref (ma 0)] h (fun v h' => v = some (zi 1) ∧ zMod G h' ma S 0 ∧ zMfr ma h h') zNo 0 0 := by
  obtain ⟨m1, m2, ⟨g, m3, m3a⟩, m4, ⟨f6, m5, m5a⟩, m6, m7⟩ := id H
  unfold zMfs at m2
  refine zM.of [some (.ref (ma 0))] (by decide +kernel) rfl (by decide) rfl (Nat.le_of_ble_eq_true rfl) rfl ?_
  refine z_aload_n dMod_isSound_0 rfl ?_
  refine z_iconst dMod_isSound_1 ?_
  refine z_put (k := 12) fd_Mod (by decide) fl_Mod_37 rfl dMod_isSound_2 (by assumption) (by simp) rfl rfl ?_
  refine z_hx (fun h1 p1 f1 => ?_)
  refine z_iconst dMod_isSound_5 ?_
  refine z_iret rfl rfl dMod_isSound_6 ?_
  exact ⟨rfl, H.obj (nu := S.2.2.2.2) p1 f1, zMfr.of0 f1⟩
theorem k_Mod_isNoPlace {k : Nat} {p : Int} (H : zMod G h ma S th) (hk : k < 4) (hp : zI32 p) : zM G l hMod_isNoPlace yMod_isNoPlace 2 [.ref (ma 0), zi (k : Int), zi p] h (fun v h' => ∃ b9 : Int, v = some (zi b9) ∧ ((b9 = 1 ∧ (¬ (0 ≤ p ∧ p < ((S.1 k).length : Int)))) ∨ (b9 = 0 ∧ ¬ (¬ (0 ≤ p ∧ p < ((S.1 k).length : Int))))) ∧ h = h') zNo 0 0 := by
  obtain ⟨m1, m2, ⟨g, m3, m3a⟩, m4, ⟨f6, m5, m5a⟩, m6, m7⟩ := id H
  unfold zMfs at m2
  obtain ⟨fr, r1, r2, r3, r4⟩ := id (H.row hk)
  refine zM.of [some (.ref (ma 0)), some (zi (k : Int)), some (zi p)] (by decide +kernel) rfl (by decide) rfl (Nat.le_of_ble_eq_true rfl) rfl ?_
  refine z_iload_n dMod_isNoPlace_0 rfl ?_
  refine z_iconst dMod_isNoPlace_1 ?_
  refine z_aload_n dMod_isNoPlace_2 rfl ?_
  refine z_get (k := 0) fd_Mod (by decide) fl_Mod_11 dMod_isNoPlace_3 (by assumption) (by rfl) ?_
  refine z_iload_n dMod_isNoPlace_6 rfl ?_
  refine z_aald (t := 4) (ty := .array .int) rfl rfl dMod_isNoPlace_7 m3 (by refine ⟨?_, ?_, ?_⟩ <;> omega) ?_
  rw [show (k : Int).toNat = k from rfl, m3a k (by omega)]
  refine z_alenI dMod_isNoPlace_8 (by assumption) ?_
  refine z_iconst dMod_isNoPlace_9 ?_
  refine z_isub dMod_isNoPlace_10 ?_
  refine z_callS MS_Mod_isOut lk_Mod_41 dMod_isNoPlace_11 (k_Mod_isOut hp (by omega) (by omega)) rfl rfl (Nat.le_of_ble_eq_true rfl)  (Nat.le_of_ble_eq_true rfl) (Nat.le_of_ble_eq_true rfl) (Nat.le_of_eq (Nat.zero_add _)) (Nat.le_of_eq (Nat.zero_add _)) (fun _ _ q => q.elim) ?_
  rintro _ _ ⟨b9, rfl, hb9, rfl⟩
  refine z_iret rfl (by rcases hb9 with ⟨rfl, -⟩ | ⟨rfl, -⟩ <;> rfl) dMod_isNoPlace_14 ?_
  exact ⟨_, rfl, by omega, rfl⟩
theorem k_Mod_first {k : Nat} (H : zMod G h ma S th) (hk : k < 4) : zM G l hMod_first yMod_first 1 [.ref (ma 0), zi (k : Int)] h (fun v h' => v = some (zi (zFst (S.1 k))) ∧ h = h') zNo 0 0 := by
  obtain ⟨m1, m2, ⟨g, m3, m3a⟩, m4, ⟨f6, m5, m5a⟩, m6, m7⟩ := id H
  unfold zMfs at m2
  obtain ⟨fr, r1, r2, r3, r4⟩ := id (H.row hk)
  refine zM.of [some (.ref (ma 0)), some (zi (k : Int))] (by decide +kernel) rfl (by decide) rfl (Nat.le_of_ble_eq_true rfl) rfl ?_
  refine z_aload_n dMod_first_0 rfl ?_
  refine z_get (k := 0) fd_Mod (by decide) fl_Mod_11 dMod_first_1 (by assumption) (by rfl) ?_
  refine z_iload_n dMod_first_4 rfl ?_
  refine z_aald (t := 4) (ty := .array .int) rfl rfl dMod_first_5 m3 (by refine ⟨?_, ?_, ?_⟩ <;> omega) ?_
  rw [show (k : Int).toNat = k from rfl, m3a k (by omega)]
  refine z_alenI dMod_first_6 (by assumption) ?_
  refine z_if_ne (tgt := 16) dMod_first_7 (by decide) (by omega) (fun c7 => ?_) (fun c7 => ?_)
  · refine z_aload_n dMod_first_16 rfl ?_
    refine z_get (k := 0) fd_Mod (by decide) fl_Mod_11 dMod_first_17 (by assumption) (by rfl) ?_
    refine z_iload_n dMod_first_20 rfl ?_
    refine z_aald (t := 4) (ty := .array .int) rfl rfl dMod_first_21 m3 (by refine ⟨?_, ?_, ?_⟩ <;> omega) ?_
    rw [show (k : Int).toNat = k from rfl, m3a k (by omega)]
    refine z_iconst dMod_first_22 ?_
    refine z_iald dMod_first_23 (by assumption) (by refine ⟨?_, ?_, ?_⟩ <;> omega) ?_
    rw [show ((0 : Int)).toNat = 0 from rfl, r3 0 (by omega)]
    refine z_iret rfl rfl dMod_first_24 ?_
    unfold zFst
    first
      | (rw [if_pos (by omega)]; exact ⟨rfl, rfl⟩)
      | (rw [if_neg (by omega)]; exact ⟨rfl, rfl⟩)
  · refine z_sipush dMod_first_10 rfl ?_
    refine z_goto (tgt := 24) dMod_first_13 (by decide) ?_
    refine z_iret rfl rfl dMod_first_24 ?_
    unfold zFst
    first
      | (rw [if_pos (by omega)]; exact ⟨rfl, rfl⟩)
      | (rw [if_neg (by omega)]; exact ⟨rfl, rfl⟩)
end MOD3
end
section
section MOD4
variable {G : zG} {l : Launch} {h h' : zHp} {ma : Nat → Nat} {S : zSt} {th : Int}
/-- the model's answer is r's, and what it says it threw is c1, c2, c3 for the three classes -/
def zQm (G : zG) (ma : Nat → Nat) (h : zHp) (c1 c2 c3 : Int) (r : zRes) : Option Value → zHp → Prop := fun v h' => ∃ (ma' : Nat → Nat) (th z : Int), v = some (zi z) ∧ ma' 0 = ma 0 ∧ zMod G h' ma' r.2 th ∧ zMfr ma h h' ∧ (∀ i, i < 13 → ma' i = ma i ∨ (zDm h (ma' i) ∧ G.2.2 ≤ ma' i)) ∧ ((r.1 = .inl z ∧ th = 0) ∨ (r.1 = .inr zE1 ∧ th = c1) ∨ (r.1 = .inr zE2 ∧ th = c2) ∨ (r.1 = .inr zE3 ∧ th = c3))
theorem zQm.ok {c1 c2 c3 z : Int} {S' : zSt} {r : zRes} (H : zMod G h' ma S' th) (t0 : th = 0) (hf : zMfr ma h h') (e : r = (.inl z, S')) : zQm G ma h c1 c2 c3 r (some (zi z)) h' := by
  subst e
  exact ⟨ma, th, z, rfl, rfl, H, hf, fun _ _ => Or.inl rfl, Or.inl ⟨rfl, t0⟩⟩
theorem zQm.b1 {c1 c2 c3 z : Int} {S' : zSt} {r : zRes} (H : zMod G h' ma S' th) (t0 : th = c1) (hf : zMfr ma h h') (e : r = (.inr zE1, S')) : zQm G ma h c1 c2 c3 r (some (zi z)) h' := by
  subst e
  exact ⟨ma, th, z, rfl, rfl, H, hf, fun _ _ => Or.inl rfl, Or.inr (Or.inl ⟨rfl, t0⟩)⟩
theorem zQm.b2 {c1 c2 c3 z : Int} {S' : zSt} {r : zRes} (H : zMod G h' ma S' th) (t0 : th = c2) (hf : zMfr ma h h') (e : r = (.inr zE2, S')) : zQm G ma h c1 c2 c3 r (some (zi z)) h' := by
  subst e
  exact ⟨ma, th, z, rfl, rfl, H, hf, fun _ _ => Or.inl rfl, Or.inr (Or.inr (Or.inl ⟨rfl, t0⟩))⟩
theorem zQm.b3 {c1 c2 c3 z : Int} {S' : zSt} {r : zRes} (H : zMod G h' ma S' th) (t0 : th = c3) (hf : zMfr ma h h') (e : r = (.inr zE3, S')) : zQm G ma h c1 c2 c3 r (some (zi z)) h' := by
  subst e
  exact ⟨ma, th, z, rfl, rfl, H, hf, fun _ _ => Or.inl rfl, Or.inr (Or.inr (Or.inr ⟨rfl, t0⟩))⟩
theorem k_Mod_size {p : Int} (H : zMod G h ma S th) (z_p : zI32 p)  : zM G l hMod_size yMod_size 3 [.ref (ma 0), zi p] h (zQm G ma h (1) (2) (3) (sp_size S p)) zNo 0 0 := by
  obtain ⟨m1, m2, ⟨g, m3, m3a⟩, m4, ⟨f6, m5, m5a⟩, m6, m7⟩ := id H
  unfold zMfs at m2
  refine zM.of [some (.ref (ma 0)), some (zi p)] (by decide +kernel) rfl (by decide) rfl (Nat.le_of_ble_eq_true rfl) rfl ?_
  refine z_aload_n dMod_size_0 rfl ?_
  refine z_iload_n dMod_size_1 rfl ?_
  refine z_callS MS_Mod_isNo lk_Mod_81 dMod_size_2 (k_Mod_isNo (by omega)) rfl rfl (Nat.le_of_ble_eq_true rfl)  (Nat.le_of_ble_eq_true rfl) (Nat.le_of_ble_eq_true rfl) (Nat.le_of_eq (Nat.zero_add _)) (Nat.le_of_eq (Nat.zero_add _)) (fun _ _ q => q.elim) ?_
  rintro _ _ ⟨n9, rfl, hn9, rfl⟩
  refine z_iconst dMod_size_5 ?_
  refine z_iconst dMod_size_6 ?_
  refine z_callV MV_Mod_fails lk_Mod_88 dMod_size_7 (k_Mod_fails (by assumption) rfl (by omega) (by omega) (by omega)) rfl rfl (Nat.le_of_ble_eq_true rfl) rfl (by assumption) (Nat.le_of_ble_eq_true rfl) (Nat.le_of_ble_eq_true rfl) (Nat.le_of_eq (Nat.zero_add _)) (Nat.le_of_eq (Nat.zero_add _)) (fun _ _ q => q.elim) ?_
  rintro _ h1 ⟨t9, b8, rfl, ht, p1, g1⟩
  have H1 : zMod G h1 ma S t9 := H.obj (nu := S.2.2.2.2) (th' := t9) p1 g1
  have fz1 : zMfr ma h h1 := zMfr.of0 g1
  obtain ⟨-, n2, ⟨gg, n3, n3a⟩, n4, ⟨f61, n5, n5a⟩, n6, n7⟩ := id H1
  unfold zMfs at n2
  refine z_if_eq (tgt := 17) dMod_size_10 (by decide) (by omega) (fun c10 => ?_) (fun c10 => ?_)
  · obtain ⟨k, rfl⟩ := Int.eq_ofNat_of_zero_le (show 0 ≤ p by omega)
    obtain ⟨frk, rk1, rk2, rk3, rk4⟩ := id (n6 k (by omega))
    refine z_aload_n dMod_size_17 rfl ?_
    refine z_get (k := 0) fd_Mod (by decide) fl_Mod_11 dMod_size_18 (by assumption) (by rfl) ?_
    refine z_iload_n dMod_size_21 rfl ?_
    refine z_aald (t := 4) (ty := .array .int) rfl rfl dMod_size_22 n3 (by refine ⟨?_, ?_, ?_⟩ <;> omega) ?_
    rw [show (k : Int).toNat = k from rfl, n3a k (by omega)]
    refine z_alenI dMod_size_23 (by assumption) ?_
    refine z_iret rfl rfl dMod_size_24 ?_
    first
      | (exfalso; omega)
      | exact zQm.ok H1 (by omega) (by assumption) (by unfold sp_size; (try unfold spPut); (try simp only [Int.toNat_natCast]); (repeat (first | rw [if_pos (by omega)] | rw [if_neg (by omega)] | rw [if_pos (by assumption)] | rw [if_neg (by assumption)] | rw [if_pos (True.intro : True)])); (try (first | rfl | (congr 2; omega) | (congr 1; congr 1; omega))); done)
      | exact zQm.b1 H1 (by omega) (by assumption) (by unfold sp_size; (try unfold spPut); (try simp only [Int.toNat_natCast]); (repeat (first | rw [if_pos (by omega)] | rw [if_neg (by omega)] | rw [if_pos (by assumption)] | rw [if_neg (by assumption)] | rw [if_pos (True.intro : True)])); (try (first | rfl | (congr 2; omega) | (congr 1; congr 1; omega))); done)
      | exact zQm.b2 H1 (by omega) (by assumption) (by unfold sp_size; (try unfold spPut); (try simp only [Int.toNat_natCast]); (repeat (first | rw [if_pos (by omega)] | rw [if_neg (by omega)] | rw [if_pos (by assumption)] | rw [if_neg (by assumption)] | rw [if_pos (True.intro : True)])); (try (first | rfl | (congr 2; omega) | (congr 1; congr 1; omega))); done)
      | exact zQm.b3 H1 (by omega) (by assumption) (by unfold sp_size; (try unfold spPut); (try simp only [Int.toNat_natCast]); (repeat (first | rw [if_pos (by omega)] | rw [if_neg (by omega)] | rw [if_pos (by assumption)] | rw [if_neg (by assumption)] | rw [if_pos (True.intro : True)])); (try (first | rfl | (congr 2; omega) | (congr 1; congr 1; omega))); done)
  · refine z_iconst dMod_size_13 ?_
    refine z_goto (tgt := 24) dMod_size_14 (by decide) ?_
    refine z_iret rfl rfl dMod_size_24 ?_
    first
      | (exfalso; omega)
      | exact zQm.ok H1 (by omega) (by assumption) (by unfold sp_size; (try unfold spPut); (try simp only [Int.toNat_natCast]); (repeat (first | rw [if_pos (by omega)] | rw [if_neg (by omega)] | rw [if_pos (by assumption)] | rw [if_neg (by assumption)] | rw [if_pos (True.intro : True)])); (try (first | rfl | (congr 2; omega) | (congr 1; congr 1; omega))); done)
      | exact zQm.b1 H1 (by omega) (by assumption) (by unfold sp_size; (try unfold spPut); (try simp only [Int.toNat_natCast]); (repeat (first | rw [if_pos (by omega)] | rw [if_neg (by omega)] | rw [if_pos (by assumption)] | rw [if_neg (by assumption)] | rw [if_pos (True.intro : True)])); (try (first | rfl | (congr 2; omega) | (congr 1; congr 1; omega))); done)
      | exact zQm.b2 H1 (by omega) (by assumption) (by unfold sp_size; (try unfold spPut); (try simp only [Int.toNat_natCast]); (repeat (first | rw [if_pos (by omega)] | rw [if_neg (by omega)] | rw [if_pos (by assumption)] | rw [if_neg (by assumption)] | rw [if_pos (True.intro : True)])); (try (first | rfl | (congr 2; omega) | (congr 1; congr 1; omega))); done)
      | exact zQm.b3 H1 (by omega) (by assumption) (by unfold sp_size; (try unfold spPut); (try simp only [Int.toNat_natCast]); (repeat (first | rw [if_pos (by omega)] | rw [if_neg (by omega)] | rw [if_pos (by assumption)] | rw [if_neg (by assumption)] | rw [if_pos (True.intro : True)])); (try (first | rfl | (congr 2; omega) | (congr 1; congr 1; omega))); done)
theorem k_Mod_indexOf {p x b : Int} (H : zMod G h ma S th) (z_p : zI32 p) (z_x : zI32 x) (z_b : zI32 b) (hb : b = 0 ∨ b = 1) : zM G l hMod_indexOf yMod_indexOf 3 [.ref (ma 0), zi p, zi x, zi b] h (zQm G ma h (1) (2) (3) (sp_indexOf S p x b)) zNo 0 0 := by
  obtain ⟨m1, m2, ⟨g, m3, m3a⟩, m4, ⟨f6, m5, m5a⟩, m6, m7⟩ := id H
  unfold zMfs at m2
  refine zM.of [some (.ref (ma 0)), some (zi p), some (zi x), some (zi b)] (by decide +kernel) rfl (by decide) rfl (Nat.le_of_ble_eq_true rfl) rfl ?_
  refine z_aload_n dMod_indexOf_0 rfl ?_
  refine z_iload_n dMod_indexOf_1 rfl ?_
  refine z_callS MS_Mod_isNo lk_Mod_81 dMod_indexOf_2 (k_Mod_isNo (by omega)) rfl rfl (Nat.le_of_ble_eq_true rfl)  (Nat.le_of_ble_eq_true rfl) (Nat.le_of_ble_eq_true rfl) (Nat.le_of_eq (Nat.zero_add _)) (Nat.le_of_eq (Nat.zero_add _)) (fun _ _ q => q.elim) ?_
  rintro _ _ ⟨n9, rfl, hn9, rfl⟩
  refine z_iconst dMod_indexOf_5 ?_
  refine z_iconst dMod_indexOf_6 ?_
  refine z_callV MV_Mod_fails lk_Mod_88 dMod_indexOf_7 (k_Mod_fails (by assumption) rfl (by omega) (by omega) (by omega)) rfl rfl (Nat.le_of_ble_eq_true rfl) rfl (by assumption) (Nat.le_of_ble_eq_true rfl) (Nat.le_of_ble_eq_true rfl) (Nat.le_of_eq (Nat.zero_add _)) (Nat.le_of_eq (Nat.zero_add _)) (fun _ _ q => q.elim) ?_
  rintro _ h1 ⟨t9, b8, rfl, ht, p1, g1⟩
  have H1 : zMod G h1 ma S t9 := H.obj (nu := S.2.2.2.2) (th' := t9) p1 g1
  have fz1 : zMfr ma h h1 := zMfr.of0 g1
  obtain ⟨-, n2, ⟨gg, n3, n3a⟩, n4, ⟨f61, n5, n5a⟩, n6, n7⟩ := id H1
  unfold zMfs at n2
  refine z_if_eq (tgt := 17) dMod_indexOf_10 (by decide) (by omega) (fun c10 => ?_) (fun c10 => ?_)
  · obtain ⟨k, rfl⟩ := Int.eq_ofNat_of_zero_le (show 0 ≤ p by omega)
    obtain ⟨frk, rk1, rk2, rk3, rk4⟩ := id (n6 k (by omega))
    refine z_aload_n dMod_indexOf_17 rfl ?_
    refine z_get (k := 0) fd_Mod (by decide) fl_Mod_11 dMod_indexOf_18 (by assumption) (by rfl) ?_
    refine z_iload_n dMod_indexOf_21 rfl ?_
    refine z_aald (t := 4) (ty := .array .int) rfl rfl dMod_indexOf_22 n3 (by refine ⟨?_, ?_, ?_⟩ <;> omega) ?_
    rw [show (k : Int).toNat = k from rfl, n3a k (by omega)]
    refine z_iload_n dMod_indexOf_23 rfl ?_
    refine z_iload_n dMod_indexOf_24 rfl ?_
    refine z_callS MS_Mod_find lk_Mod_110 dMod_indexOf_25 (k_Mod_find (n6 k (by omega)) (by omega) (by omega)) rfl rfl (Nat.le_of_ble_eq_true rfl)  (Nat.le_of_ble_eq_true rfl) (Nat.le_of_ble_eq_true rfl) (Nat.le_of_eq (Nat.zero_add _)) (Nat.le_of_eq (Nat.zero_add _)) (fun _ _ q => q.elim) ?_
    rintro _ _ ⟨rfl, rfl⟩
    refine z_iret rfl rfl dMod_indexOf_28 ?_
    first
      | (exfalso; omega)
      | exact zQm.ok H1 (by omega) (by assumption) (by unfold sp_indexOf; (try unfold spPut); (try simp only [Int.toNat_natCast]); (repeat (first | rw [if_pos (by omega)] | rw [if_neg (by omega)] | rw [if_pos (by assumption)] | rw [if_neg (by assumption)] | rw [if_pos (True.intro : True)])); (try (first | rfl | (congr 2; omega) | (congr 1; congr 1; omega))); done)
      | exact zQm.b1 H1 (by omega) (by assumption) (by unfold sp_indexOf; (try unfold spPut); (try simp only [Int.toNat_natCast]); (repeat (first | rw [if_pos (by omega)] | rw [if_neg (by omega)] | rw [if_pos (by assumption)] | rw [if_neg (by assumption)] | rw [if_pos (True.intro : True)])); (try (first | rfl | (congr 2; omega) | (congr 1; congr 1; omega))); done)
      | exact zQm.b2 H1 (by omega) (by assumption) (by unfold sp_indexOf; (try unfold spPut); (try simp only [Int.toNat_natCast]); (repeat (first | rw [if_pos (by omega)] | rw [if_neg (by omega)] | rw [if_pos (by assumption)] | rw [if_neg (by assumption)] | rw [if_pos (True.intro : True)])); (try (first | rfl | (congr 2; omega) | (congr 1; congr 1; omega))); done)
      | exact zQm.b3 H1 (by omega) (by assumption) (by unfold sp_indexOf; (try unfold spPut); (try simp only [Int.toNat_natCast]); (repeat (first | rw [if_pos (by omega)] | rw [if_neg (by omega)] | rw [if_pos (by assumption)] | rw [if_neg (by assumption)] | rw [if_pos (True.intro : True)])); (try (first | rfl | (congr 2; omega) | (congr 1; congr 1; omega))); done)
  · refine z_iconst dMod_indexOf_13 ?_
    refine z_goto (tgt := 28) dMod_indexOf_14 (by decide) ?_
    refine z_iret rfl rfl dMod_indexOf_28 ?_
    first
      | (exfalso; omega)
      | exact zQm.ok H1 (by omega) (by assumption) (by unfold sp_indexOf; (try unfold spPut); (try simp only [Int.toNat_natCast]); (repeat (first | rw [if_pos (by omega)] | rw [if_neg (by omega)] | rw [if_pos (by assumption)] | rw [if_neg (by assumption)] | rw [if_pos (True.intro : True)])); (try (first | rfl | (congr 2; omega) | (congr 1; congr 1; omega))); done)
      | exact zQm.b1 H1 (by omega) (by assumption) (by unfold sp_indexOf; (try unfold spPut); (try simp only [Int.toNat_natCast]); (repeat (first | rw [if_pos (by omega)] | rw [if_neg (by omega)] | rw [if_pos (by assumption)] | rw [if_neg (by assumption)] | rw [if_pos (True.intro : True)])); (try (first | rfl | (congr 2; omega) | (congr 1; congr 1; omega))); done)
      | exact zQm.b2 H1 (by omega) (by assumption) (by unfold sp_indexOf; (try unfold spPut); (try simp only [Int.toNat_natCast]); (repeat (first | rw [if_pos (by omega)] | rw [if_neg (by omega)] | rw [if_pos (by assumption)] | rw [if_neg (by assumption)] | rw [if_pos (True.intro : True)])); (try (first | rfl | (congr 2; omega) | (congr 1; congr 1; omega))); done)
      | exact zQm.b3 H1 (by omega) (by assumption) (by unfold sp_indexOf; (try unfold spPut); (try simp only [Int.toNat_natCast]); (repeat (first | rw [if_pos (by omega)] | rw [if_neg (by omega)] | rw [if_pos (by assumption)] | rw [if_neg (by assumption)] | rw [if_pos (True.intro : True)])); (try (first | rfl | (congr 2; omega) | (congr 1; congr 1; omega))); done)
end MOD4
end
section
section MOD5
variable {G : zG} {l : Launch} {h h' : zHp} {ma : Nat → Nat} {S : zSt} {th : Int}
theorem k_Mod_get {p q : Int} (H : zMod G h ma S th) (z_p : zI32 p) (z_q : zI32 q)  : zM G l hMod_get yMod_get 3 [.ref (ma 0), zi p, zi q] h (zQm G ma h (1) (2) (3) (sp_get S p q)) zNo 0 0 := by
  obtain ⟨m1, m2, ⟨g, m3, m3a⟩, m4, ⟨f6, m5, m5a⟩, m6, m7⟩ := id H
  unfold zMfs at m2
  refine zM.of [some (.ref (ma 0)), some (zi p), some (zi q)] (by decide +kernel) rfl (by decide) rfl (Nat.le_of_ble_eq_true rfl) rfl ?_
  refine z_aload_n dMod_get_0 rfl ?_
  refine z_iload_n dMod_get_1 rfl ?_
  refine z_callS MS_Mod_isNo lk_Mod_81 dMod_get_2 (k_Mod_isNo (by omega)) rfl rfl (Nat.le_of_ble_eq_true rfl)  (Nat.le_of_ble_eq_true rfl) (Nat.le_of_ble_eq_true rfl) (Nat.le_of_eq (Nat.zero_add _)) (Nat.le_of_eq (Nat.zero_add _)) (fun _ _ q => q.elim) ?_
  rintro _ _ ⟨n9k, rfl, (⟨rfl, hn9k⟩ | ⟨rfl, hn9k⟩), rfl⟩
  · refine z_if_ne (tgt := 17) dMod_get_5 (by decide) (by omega) (fun c5 => ?_) (fun c5 => ?_)
    · refine z_iconst dMod_get_17 ?_
      refine z_goto (tgt := 22) dMod_get_18 (by decide) ?_
      refine z_iconst dMod_get_22 ?_
      refine z_iconst dMod_get_23 ?_
      refine z_callV MV_Mod_fails lk_Mod_88 dMod_get_24 (k_Mod_fails (by assumption) rfl (by omega) (by omega) (by omega)) rfl rfl (Nat.le_of_ble_eq_true rfl) rfl (by assumption) (Nat.le_of_ble_eq_true rfl) (Nat.le_of_ble_eq_true rfl) (Nat.le_of_eq (Nat.zero_add _)) (Nat.le_of_eq (Nat.zero_add _)) (fun _ _ q => q.elim) ?_
      rintro _ h1 ⟨t9, b8, rfl, ht, p1, g1⟩
      have H1 : zMod G h1 ma S t9 := H.obj (nu := S.2.2.2.2) (th' := t9) p1 g1
      have fz1 : zMfr ma h h1 := zMfr.of0 g1
      obtain ⟨-, n2, ⟨gg, n3, n3a⟩, n4, ⟨f61, n5, n5a⟩, n6, n7⟩ := id H1
      unfold zMfs at n2
      refine z_if_eq (tgt := 34) dMod_get_27 (by decide) (by omega) (fun c27 => ?_) (fun c27 => ?_)
      · exfalso; omega
      · refine z_iconst dMod_get_30 ?_
        refine z_goto (tgt := 42) dMod_get_31 (by decide) ?_
        refine z_iret rfl rfl dMod_get_42 ?_
        first
          | (exfalso; omega)
          | exact zQm.ok H1 (by omega) (by assumption) (by unfold sp_get; (try unfold spPut); (try simp only [Int.toNat_natCast]); (repeat (first | rw [if_pos (by omega)] | rw [if_neg (by omega)] | rw [if_pos (by assumption)] | rw [if_neg (by assumption)] | rw [if_pos (True.intro : True)])); (try (first | rfl | (congr 2; omega) | (congr 1; congr 1; omega))); done)
          | exact zQm.b1 H1 (by omega) (by assumption) (by unfold sp_get; (try unfold spPut); (try simp only [Int.toNat_natCast]); (repeat (first | rw [if_pos (by omega)] | rw [if_neg (by omega)] | rw [if_pos (by assumption)] | rw [if_neg (by assumption)] | rw [if_pos (True.intro : True)])); (try (first | rfl | (congr 2; omega) | (congr 1; congr 1; omega))); done)
          | exact zQm.b2 H1 (by omega) (by assumption) (by unfold sp_get; (try unfold spPut); (try simp only [Int.toNat_natCast]); (repeat (first | rw [if_pos (by omega)] | rw [if_neg (by omega)] | rw [if_pos (by assumption)] | rw [if_neg (by assumption)] | rw [if_pos (True.intro : True)])); (try (first | rfl | (congr 2; omega) | (congr 1; congr 1; omega))); done)
          | exact zQm.b3 H1 (by omega) (by assumption) (by unfold sp_get; (try unfold spPut); (try simp only [Int.toNat_natCast]); (repeat (first | rw [if_pos (by omega)] | rw [if_neg (by omega)] | rw [if_pos (by assumption)] | rw [if_neg (by assumption)] | rw [if_pos (True.intro : True)])); (try (first | rfl | (congr 2; omega) | (congr 1; congr 1; omega))); done)
    · exfalso; omega
  · obtain ⟨k, rfl⟩ := Int.eq_ofNat_of_zero_le (show 0 ≤ p by omega)
    have hkk : k < 4 := by omega
    refine z_if_ne (tgt := 17) dMod_get_5 (by decide) (by omega) (fun c5 => ?_) (fun c5 => ?_)
    · refine z_iconst dMod_get_17 ?_
      refine z_goto (tgt := 22) dMod_get_18 (by decide) ?_
      refine z_iconst dMod_get_22 ?_
      refine z_iconst dMod_get_23 ?_
      refine z_callV MV_Mod_fails lk_Mod_88 dMod_get_24 (k_Mod_fails (by assumption) rfl (by omega) (by omega) (by omega)) rfl rfl (Nat.le_of_ble_eq_true rfl) rfl (by assumption) (Nat.le_of_ble_eq_true rfl) (Nat.le_of_ble_eq_true rfl) (Nat.le_of_eq (Nat.zero_add _)) (Nat.le_of_eq (Nat.zero_add _)) (fun _ _ q => q.elim) ?_
      rintro _ h1 ⟨t9, b8, rfl, ht, p1, g1⟩
      have H1 : zMod G h1 ma S t9 := H.obj (nu := S.2.2.2.2) (th' := t9) p1 g1
      have fz1 : zMfr ma h h1 := zMfr.of0 g1
      obtain ⟨-, n2, ⟨gg, n3, n3a⟩, n4, ⟨f61, n5, n5a⟩, n6, n7⟩ := id H1
      unfold zMfs at n2
      refine z_if_eq (tgt := 34) dMod_get_27 (by decide) (by omega) (fun c27 => ?_) (fun c27 => ?_)
      · obtain ⟨frk, rk1, rk2, rk3, rk4⟩ := id (n6 k (by omega))
        obtain ⟨j, rfl⟩ := Int.eq_ofNat_of_zero_le (show 0 ≤ q by omega)
        have ez : zAt (S.1 k) j = (S.1 k).getD j 0 := zAt_nat (by omega)
        refine z_aload_n dMod_get_34 rfl ?_
        refine z_get (k := 0) fd_Mod (by decide) fl_Mod_11 dMod_get_35 (by assumption) (by rfl) ?_
        refine z_iload_n dMod_get_38 rfl ?_
        refine z_aald (t := 4) (ty := .array .int) rfl rfl dMod_get_39 n3 (by refine ⟨?_, ?_, ?_⟩ <;> omega) ?_
        rw [show (k : Int).toNat = k from rfl, n3a k (by omega)]
        refine z_iload_n dMod_get_40 rfl ?_
        refine z_iald dMod_get_41 (by assumption) (by refine ⟨?_, ?_, ?_⟩ <;> omega) ?_
        rw [Int.toNat_natCast, rk3 j (by omega), ← ez]
        refine z_iret rfl rfl dMod_get_42 ?_
        first
          | (exfalso; omega)
          | exact zQm.ok H1 (by omega) (by assumption) (by unfold sp_get; (try unfold spPut); (try simp only [Int.toNat_natCast]); (repeat (first | rw [if_pos (by omega)] | rw [if_neg (by omega)] | rw [if_pos (by assumption)] | rw [if_neg (by assumption)] | rw [if_pos (True.intro : True)])); (try (first | rfl | (congr 2; omega) | (congr 1; congr 1; omega))); done)
          | exact zQm.b1 H1 (by omega) (by assumption) (by unfold sp_get; (try unfold spPut); (try simp only [Int.toNat_natCast]); (repeat (first | rw [if_pos (by omega)] | rw [if_neg (by omega)] | rw [if_pos (by assumption)] | rw [if_neg (by assumption)] | rw [if_pos (True.intro : True)])); (try (first | rfl | (congr 2; omega) | (congr 1; congr 1; omega))); done)
          | exact zQm.b2 H1 (by omega) (by assumption) (by unfold sp_get; (try unfold spPut); (try simp only [Int.toNat_natCast]); (repeat (first | rw [if_pos (by omega)] | rw [if_neg (by omega)] | rw [if_pos (by assumption)] | rw [if_neg (by assumption)] | rw [if_pos (True.intro : True)])); (try (first | rfl | (congr 2; omega) | (congr 1; congr 1; omega))); done)
          | exact zQm.b3 H1 (by omega) (by assumption) (by unfold sp_get; (try unfold spPut); (try simp only [Int.toNat_natCast]); (repeat (first | rw [if_pos (by omega)] | rw [if_neg (by omega)] | rw [if_pos (by assumption)] | rw [if_neg (by assumption)] | rw [if_pos (True.intro : True)])); (try (first | rfl | (congr 2; omega) | (congr 1; congr 1; omega))); done)
      · refine z_iconst dMod_get_30 ?_
        refine z_goto (tgt := 42) dMod_get_31 (by decide) ?_
        refine z_iret rfl rfl dMod_get_42 ?_
        first
          | (exfalso; omega)
          | exact zQm.ok H1 (by omega) (by assumption) (by unfold sp_get; (try unfold spPut); (try simp only [Int.toNat_natCast]); (repeat (first | rw [if_pos (by omega)] | rw [if_neg (by omega)] | rw [if_pos (by assumption)] | rw [if_neg (by assumption)] | rw [if_pos (True.intro : True)])); (try (first | rfl | (congr 2; omega) | (congr 1; congr 1; omega))); done)
          | exact zQm.b1 H1 (by omega) (by assumption) (by unfold sp_get; (try unfold spPut); (try simp only [Int.toNat_natCast]); (repeat (first | rw [if_pos (by omega)] | rw [if_neg (by omega)] | rw [if_pos (by assumption)] | rw [if_neg (by assumption)] | rw [if_pos (True.intro : True)])); (try (first | rfl | (congr 2; omega) | (congr 1; congr 1; omega))); done)
          | exact zQm.b2 H1 (by omega) (by assumption) (by unfold sp_get; (try unfold spPut); (try simp only [Int.toNat_natCast]); (repeat (first | rw [if_pos (by omega)] | rw [if_neg (by omega)] | rw [if_pos (by assumption)] | rw [if_neg (by assumption)] | rw [if_pos (True.intro : True)])); (try (first | rfl | (congr 2; omega) | (congr 1; congr 1; omega))); done)
          | exact zQm.b3 H1 (by omega) (by assumption) (by unfold sp_get; (try unfold spPut); (try simp only [Int.toNat_natCast]); (repeat (first | rw [if_pos (by omega)] | rw [if_neg (by omega)] | rw [if_pos (by assumption)] | rw [if_neg (by assumption)] | rw [if_pos (True.intro : True)])); (try (first | rfl | (congr 2; omega) | (congr 1; congr 1; omega))); done)
    · refine z_aload_n dMod_get_8 rfl ?_
      refine z_iload_n dMod_get_9 rfl ?_
      refine z_iload_n dMod_get_10 rfl ?_
      refine z_callV MV_Mod_isNoPlace lk_Mod_106 dMod_get_11 (k_Mod_isNoPlace H hkk (by omega)) rfl rfl (Nat.le_of_ble_eq_true rfl) rfl (by assumption) (Nat.le_of_ble_eq_true rfl) (Nat.le_of_ble_eq_true rfl) (Nat.le_of_eq (Nat.zero_add _)) (Nat.le_of_eq (Nat.zero_add _)) (fun _ _ q => q.elim) ?_
      rintro _ _ ⟨np9, rfl, (⟨rfl, hnp9⟩ | ⟨rfl, hnp9⟩), rfl⟩
      · refine z_if_eq (tgt := 21) dMod_get_14 (by decide) (by omega) (fun c14 => ?_) (fun c14 => ?_)
        · refine z_iconst dMod_get_21 ?_
          refine z_iconst dMod_get_22 ?_
          refine z_iconst dMod_get_23 ?_
          refine z_callV MV_Mod_fails lk_Mod_88 dMod_get_24 (k_Mod_fails (by assumption) rfl (by omega) (by omega) (by omega)) rfl rfl (Nat.le_of_ble_eq_true rfl) rfl (by assumption) (Nat.le_of_ble_eq_true rfl) (Nat.le_of_ble_eq_true rfl) (Nat.le_of_eq (Nat.zero_add _)) (Nat.le_of_eq (Nat.zero_add _)) (fun _ _ q => q.elim) ?_
          rintro _ h1 ⟨t9, b8, rfl, ht, p1, g1⟩
          have H1 : zMod G h1 ma S t9 := H.obj (nu := S.2.2.2.2) (th' := t9) p1 g1
          have fz1 : zMfr ma h h1 := zMfr.of0 g1
          obtain ⟨-, n2, ⟨gg, n3, n3a⟩, n4, ⟨f61, n5, n5a⟩, n6, n7⟩ := id H1
          unfold zMfs at n2
          refine z_if_eq (tgt := 34) dMod_get_27 (by decide) (by omega) (fun c27 => ?_) (fun c27 => ?_)
          · exfalso; omega
          · refine z_iconst dMod_get_30 ?_
            refine z_goto (tgt := 42) dMod_get_31 (by decide) ?_
            refine z_iret rfl rfl dMod_get_42 ?_
            first
              | (exfalso; omega)
              | exact zQm.ok H1 (by omega) (by assumption) (by unfold sp_get; (try unfold spPut); (try simp only [Int.toNat_natCast]); (repeat (first | rw [if_pos (by omega)] | rw [if_neg (by omega)] | rw [if_pos (by assumption)] | rw [if_neg (by assumption)] | rw [if_pos (True.intro : True)])); (try (first | rfl | (congr 2; omega) | (congr 1; congr 1; omega))); done)
              | exact zQm.b1 H1 (by omega) (by assumption) (by unfold sp_get; (try unfold spPut); (try simp only [Int.toNat_natCast]); (repeat (first | rw [if_pos (by omega)] | rw [if_neg (by omega)] | rw [if_pos (by assumption)] | rw [if_neg (by assumption)] | rw [if_pos (True.intro : True)])); (try (first | rfl | (congr 2; omega) | (congr 1; congr 1; omega))); done)
              | exact zQm.b2 H1 (by omega) (by assumption) (by unfold sp_get; (try unfold spPut); (try simp only [Int.toNat_natCast]); (repeat (first | rw [if_pos (by omega)] | rw [if_neg (by omega)] | rw [if_pos (by assumption)] | rw [if_neg (by assumption)] | rw [if_pos (True.intro : True)])); (try (first | rfl | (congr 2; omega) | (congr 1; congr 1; omega))); done)
              | exact zQm.b3 H1 (by omega) (by assumption) (by unfold sp_get; (try unfold spPut); (try simp only [Int.toNat_natCast]); (repeat (first | rw [if_pos (by omega)] | rw [if_neg (by omega)] | rw [if_pos (by assumption)] | rw [if_neg (by assumption)] | rw [if_pos (True.intro : True)])); (try (first | rfl | (congr 2; omega) | (congr 1; congr 1; omega))); done)
        · refine z_iconst dMod_get_17 ?_
          refine z_goto (tgt := 22) dMod_get_18 (by decide) ?_
          refine z_iconst dMod_get_22 ?_
          refine z_iconst dMod_get_23 ?_
          refine z_callV MV_Mod_fails lk_Mod_88 dMod_get_24 (k_Mod_fails (by assumption) rfl (by omega) (by omega) (by omega)) rfl rfl (Nat.le_of_ble_eq_true rfl) rfl (by assumption) (Nat.le_of_ble_eq_true rfl) (Nat.le_of_ble_eq_true rfl) (Nat.le_of_eq (Nat.zero_add _)) (Nat.le_of_eq (Nat.zero_add _)) (fun _ _ q => q.elim) ?_
          rintro _ h1 ⟨t9, b8, rfl, ht, p1, g1⟩
          have H1 : zMod G h1 ma S t9 := H.obj (nu := S.2.2.2.2) (th' := t9) p1 g1
          have fz1 : zMfr ma h h1 := zMfr.of0 g1
          obtain ⟨-, n2, ⟨gg, n3, n3a⟩, n4, ⟨f61, n5, n5a⟩, n6, n7⟩ := id H1
          unfold zMfs at n2
          refine z_if_eq (tgt := 34) dMod_get_27 (by decide) (by omega) (fun c27 => ?_) (fun c27 => ?_)
          · exfalso; omega
          · refine z_iconst dMod_get_30 ?_
            refine z_goto (tgt := 42) dMod_get_31 (by decide) ?_
            refine z_iret rfl rfl dMod_get_42 ?_
            first
              | (exfalso; omega)
              | exact zQm.ok H1 (by omega) (by assumption) (by unfold sp_get; (try unfold spPut); (try simp only [Int.toNat_natCast]); (repeat (first | rw [if_pos (by omega)] | rw [if_neg (by omega)] | rw [if_pos (by assumption)] | rw [if_neg (by assumption)] | rw [if_pos (True.intro : True)])); (try (first | rfl | (congr 2; omega) | (congr 1; congr 1; omega))); done)
              | exact zQm.b1 H1 (by omega) (by assumption) (by unfold sp_get; (try unfold spPut); (try simp only [Int.toNat_natCast]); (repeat (first | rw [if_pos (by omega)] | rw [if_neg (by omega)] | rw [if_pos (by assumption)] | rw [if_neg (by assumption)] | rw [if_pos (True.intro : True)])); (try (first | rfl | (congr 2; omega) | (congr 1; congr 1; omega))); done)
              | exact zQm.b2 H1 (by omega) (by assumption) (by unfold sp_get; (try unfold spPut); (try simp only [Int.toNat_natCast]); (repeat (first | rw [if_pos (by omega)] | rw [if_neg (by omega)] | rw [if_pos (by assumption)] | rw [if_neg (by assumption)] | rw [if_pos (True.intro : True)])); (try (first | rfl | (congr 2; omega) | (congr 1; congr 1; omega))); done)
              | exact zQm.b3 H1 (by omega) (by assumption) (by unfold sp_get; (try unfold spPut); (try simp only [Int.toNat_natCast]); (repeat (first | rw [if_pos (by omega)] | rw [if_neg (by omega)] | rw [if_pos (by assumption)] | rw [if_neg (by assumption)] | rw [if_pos (True.intro : True)])); (try (first | rfl | (congr 2; omega) | (congr 1; congr 1; omega))); done)
      · refine z_if_eq (tgt := 21) dMod_get_14 (by decide) (by omega) (fun c14 => ?_) (fun c14 => ?_)
        · refine z_iconst dMod_get_21 ?_
          refine z_iconst dMod_get_22 ?_
          refine z_iconst dMod_get_23 ?_
          refine z_callV MV_Mod_fails lk_Mod_88 dMod_get_24 (k_Mod_fails (by assumption) rfl (by omega) (by omega) (by omega)) rfl rfl (Nat.le_of_ble_eq_true rfl) rfl (by assumption) (Nat.le_of_ble_eq_true rfl) (Nat.le_of_ble_eq_true rfl) (Nat.le_of_eq (Nat.zero_add _)) (Nat.le_of_eq (Nat.zero_add _)) (fun _ _ q => q.elim) ?_
          rintro _ h1 ⟨t9, b8, rfl, ht, p1, g1⟩
          have H1 : zMod G h1 ma S t9 := H.obj (nu := S.2.2.2.2) (th' := t9) p1 g1
          have fz1 : zMfr ma h h1 := zMfr.of0 g1
          obtain ⟨-, n2, ⟨gg, n3, n3a⟩, n4, ⟨f61, n5, n5a⟩, n6, n7⟩ := id H1
          unfold zMfs at n2
          refine z_if_eq (tgt := 34) dMod_get_27 (by decide) (by omega) (fun c27 => ?_) (fun c27 => ?_)
          · obtain ⟨frk, rk1, rk2, rk3, rk4⟩ := id (n6 k (by omega))
            obtain ⟨j, rfl⟩ := Int.eq_ofNat_of_zero_le (show 0 ≤ q by omega)
            have ez : zAt (S.1 k) j = (S.1 k).getD j 0 := zAt_nat (by omega)
            refine z_aload_n dMod_get_34 rfl ?_
            refine z_get (k := 0) fd_Mod (by decide) fl_Mod_11 dMod_get_35 (by assumption) (by rfl) ?_
            refine z_iload_n dMod_get_38 rfl ?_
            refine z_aald (t := 4) (ty := .array .int) rfl rfl dMod_get_39 n3 (by refine ⟨?_, ?_, ?_⟩ <;> omega) ?_
            rw [show (k : Int).toNat = k from rfl, n3a k (by omega)]
            refine z_iload_n dMod_get_40 rfl ?_
            refine z_iald dMod_get_41 (by assumption) (by refine ⟨?_, ?_, ?_⟩ <;> omega) ?_
            rw [Int.toNat_natCast, rk3 j (by omega), ← ez]
            refine z_iret rfl rfl dMod_get_42 ?_
            first
              | (exfalso; omega)
              | exact zQm.ok H1 (by omega) (by assumption) (by unfold sp_get; (try unfold spPut); (try simp only [Int.toNat_natCast]); (repeat (first | rw [if_pos (by omega)] | rw [if_neg (by omega)] | rw [if_pos (by assumption)] | rw [if_neg (by assumption)] | rw [if_pos (True.intro : True)])); (try (first | rfl | (congr 2; omega) | (congr 1; congr 1; omega))); done)
              | exact zQm.b1 H1 (by omega) (by assumption) (by unfold sp_get; (try unfold spPut); (try simp only [Int.toNat_natCast]); (repeat (first | rw [if_pos (by omega)] | rw [if_neg (by omega)] | rw [if_pos (by assumption)] | rw [if_neg (by assumption)] | rw [if_pos (True.intro : True)])); (try (first | rfl | (congr 2; omega) | (congr 1; congr 1; omega))); done)
              | exact zQm.b2 H1 (by omega) (by assumption) (by unfold sp_get; (try unfold spPut); (try simp only [Int.toNat_natCast]); (repeat (first | rw [if_pos (by omega)] | rw [if_neg (by omega)] | rw [if_pos (by assumption)] | rw [if_neg (by assumption)] | rw [if_pos (True.intro : True)])); (try (first | rfl | (congr 2; omega) | (congr 1; congr 1; omega))); done)
              | exact zQm.b3 H1 (by omega) (by assumption) (by unfold sp_get; (try unfold spPut); (try simp only [Int.toNat_natCast]); (repeat (first | rw [if_pos (by omega)] | rw [if_neg (by omega)] | rw [if_pos (by assumption)] | rw [if_neg (by assumption)] | rw [if_pos (True.intro : True)])); (try (first | rfl | (congr 2; omega) | (congr 1; congr 1; omega))); done)
          · refine z_iconst dMod_get_30 ?_
            refine z_goto (tgt := 42) dMod_get_31 (by decide) ?_
            refine z_iret rfl rfl dMod_get_42 ?_
            first
              | (exfalso; omega)
              | exact zQm.ok H1 (by omega) (by assumption) (by unfold sp_get; (try unfold spPut); (try simp only [Int.toNat_natCast]); (repeat (first | rw [if_pos (by omega)] | rw [if_neg (by omega)] | rw [if_pos (by assumption)] | rw [if_neg (by assumption)] | rw [if_pos (True.intro : True)])); (try (first | rfl | (congr 2; omega) | (congr 1; congr 1; omega))); done)
              | exact zQm.b1 H1 (by omega) (by assumption) (by unfold sp_get; (try unfold spPut); (try simp only [Int.toNat_natCast]); (repeat (first | rw [if_pos (by omega)] | rw [if_neg (by omega)] | rw [if_pos (by assumption)] | rw [if_neg (by assumption)] | rw [if_pos (True.intro : True)])); (try (first | rfl | (congr 2; omega) | (congr 1; congr 1; omega))); done)
              | exact zQm.b2 H1 (by omega) (by assumption) (by unfold sp_get; (try unfold spPut); (try simp only [Int.toNat_natCast]); (repeat (first | rw [if_pos (by omega)] | rw [if_neg (by omega)] | rw [if_pos (by assumption)] | rw [if_neg (by assumption)] | rw [if_pos (True.intro : True)])); (try (first | rfl | (congr 2; omega) | (congr 1; congr 1; omega))); done)
              | exact zQm.b3 H1 (by omega) (by assumption) (by unfold sp_get; (try unfold spPut); (try simp only [Int.toNat_natCast]); (repeat (first | rw [if_pos (by omega)] | rw [if_neg (by omega)] | rw [if_pos (by assumption)] | rw [if_neg (by assumption)] | rw [if_pos (True.intro : True)])); (try (first | rfl | (congr 2; omega) | (congr 1; congr 1; omega))); done)
        · refine z_iconst dMod_get_17 ?_
          refine z_goto (tgt := 22) dMod_get_18 (by decide) ?_
          refine z_iconst dMod_get_22 ?_
          refine z_iconst dMod_get_23 ?_
          refine z_callV MV_Mod_fails lk_Mod_88 dMod_get_24 (k_Mod_fails (by assumption) rfl (by omega) (by omega) (by omega)) rfl rfl (Nat.le_of_ble_eq_true rfl) rfl (by assumption) (Nat.le_of_ble_eq_true rfl) (Nat.le_of_ble_eq_true rfl) (Nat.le_of_eq (Nat.zero_add _)) (Nat.le_of_eq (Nat.zero_add _)) (fun _ _ q => q.elim) ?_
          rintro _ h1 ⟨t9, b8, rfl, ht, p1, g1⟩
          have H1 : zMod G h1 ma S t9 := H.obj (nu := S.2.2.2.2) (th' := t9) p1 g1
          have fz1 : zMfr ma h h1 := zMfr.of0 g1
          obtain ⟨-, n2, ⟨gg, n3, n3a⟩, n4, ⟨f61, n5, n5a⟩, n6, n7⟩ := id H1
          unfold zMfs at n2
          refine z_if_eq (tgt := 34) dMod_get_27 (by decide) (by omega) (fun c27 => ?_) (fun c27 => ?_)
          · obtain ⟨frk, rk1, rk2, rk3, rk4⟩ := id (n6 k (by omega))
            obtain ⟨j, rfl⟩ := Int.eq_ofNat_of_zero_le (show 0 ≤ q by omega)
            have ez : zAt (S.1 k) j = (S.1 k).getD j 0 := zAt_nat (by omega)
            refine z_aload_n dMod_get_34 rfl ?_
            refine z_get (k := 0) fd_Mod (by decide) fl_Mod_11 dMod_get_35 (by assumption) (by rfl) ?_
            refine z_iload_n dMod_get_38 rfl ?_
            refine z_aald (t := 4) (ty := .array .int) rfl rfl dMod_get_39 n3 (by refine ⟨?_, ?_, ?_⟩ <;> omega) ?_
            rw [show (k : Int).toNat = k from rfl, n3a k (by omega)]
            refine z_iload_n dMod_get_40 rfl ?_
            refine z_iald dMod_get_41 (by assumption) (by refine ⟨?_, ?_, ?_⟩ <;> omega) ?_
            rw [Int.toNat_natCast, rk3 j (by omega), ← ez]
            refine z_iret rfl rfl dMod_get_42 ?_
            first
              | (exfalso; omega)
              | exact zQm.ok H1 (by omega) (by assumption) (by unfold sp_get; (try unfold spPut); (try simp only [Int.toNat_natCast]); (repeat (first | rw [if_pos (by omega)] | rw [if_neg (by omega)] | rw [if_pos (by assumption)] | rw [if_neg (by assumption)] | rw [if_pos (True.intro : True)])); (try (first | rfl | (congr 2; omega) | (congr 1; congr 1; omega))); done)
              | exact zQm.b1 H1 (by omega) (by assumption) (by unfold sp_get; (try unfold spPut); (try simp only [Int.toNat_natCast]); (repeat (first | rw [if_pos (by omega)] | rw [if_neg (by omega)] | rw [if_pos (by assumption)] | rw [if_neg (by assumption)] | rw [if_pos (True.intro : True)])); (try (first | rfl | (congr 2; omega) | (congr 1; congr 1; omega))); done)
              | exact zQm.b2 H1 (by omega) (by assumption) (by unfold sp_get; (try unfold spPut); (try simp only [Int.toNat_natCast]); (repeat (first | rw [if_pos (by omega)] | rw [if_neg (by omega)] | rw [if_pos (by assumption)] | rw [if_neg (by assumption)] | rw [if_pos (True.intro : True)])); (try (first | rfl | (congr 2; omega) | (congr 1; congr 1; omega))); done)
              | exact zQm.b3 H1 (by omega) (by assumption) (by unfold sp_get; (try unfold spPut); (try simp only [Int.toNat_natCast]); (repeat (first | rw [if_pos (by omega)] | rw [if_neg (by omega)] | rw [if_pos (by assumption)] | rw [if_neg (by assumption)] | rw [if_pos (True.intro : True)])); (try (first | rfl | (congr 2; omega) | (congr 1; congr 1; omega))); done)
          · refine z_iconst dMod_get_30 ?_
            refine z_goto (tgt := 42) dMod_get_31 (by decide) ?_
            refine z_iret rfl rfl dMod_get_42 ?_
            first
              | (exfalso; omega)
              | exact zQm.ok H1 (by omega) (by assumption) (by unfold sp_get; (try unfold spPut); (try simp only [Int.toNat_natCast]); (repeat (first | rw [if_pos (by omega)] | rw [if_neg (by omega)] | rw [if_pos (by assumption)] | rw [if_neg (by assumption)] | rw [if_pos (True.intro : True)])); (try (first | rfl | (congr 2; omega) | (congr 1; congr 1; omega))); done)
              | exact zQm.b1 H1 (by omega) (by assumption) (by unfold sp_get; (try unfold spPut); (try simp only [Int.toNat_natCast]); (repeat (first | rw [if_pos (by omega)] | rw [if_neg (by omega)] | rw [if_pos (by assumption)] | rw [if_neg (by assumption)] | rw [if_pos (True.intro : True)])); (try (first | rfl | (congr 2; omega) | (congr 1; congr 1; omega))); done)
              | exact zQm.b2 H1 (by omega) (by assumption) (by unfold sp_get; (try unfold spPut); (try simp only [Int.toNat_natCast]); (repeat (first | rw [if_pos (by omega)] | rw [if_neg (by omega)] | rw [if_pos (by assumption)] | rw [if_neg (by assumption)] | rw [if_pos (True.intro : True)])); (try (first | rfl | (congr 2; omega) | (congr 1; congr 1; omega))); done)
              | exact zQm.b3 H1 (by omega) (by assumption) (by unfold sp_get; (try unfold spPut); (try simp only [Int.toNat_natCast]); (repeat (first | rw [if_pos (by omega)] | rw [if_neg (by omega)] | rw [if_pos (by assumption)] | rw [if_neg (by assumption)] | rw [if_pos (True.intro : True)])); (try (first | rfl | (congr 2; omega) | (congr 1; congr 1; omega))); done)
theorem k_Mod_has {p x : Int} (H : zMod G h ma S th) (z_p : zI32 p) (z_x : zI32 x)  : zM G l hMod_has yMod_has 3 [.ref (ma 0), zi p, zi x] h (zQm G ma h (1) (2) (3) (sp_has S p x)) zNo 0 0 := by
  obtain ⟨m1, m2, ⟨g, m3, m3a⟩, m4, ⟨f6, m5, m5a⟩, m6, m7⟩ := id H
  unfold zMfs at m2
  refine zM.of [some (.ref (ma 0)), some (zi p), some (zi x)] (by decide +kernel) rfl (by decide) rfl (Nat.le_of_ble_eq_true rfl) rfl ?_
  refine z_aload_n dMod_has_0 rfl ?_
  refine z_iload_n dMod_has_1 rfl ?_
  refine z_callS MS_Mod_isNo lk_Mod_81 dMod_has_2 (k_Mod_isNo (by omega)) rfl rfl (Nat.le_of_ble_eq_true rfl)  (Nat.le_of_ble_eq_true rfl) (Nat.le_of_ble_eq_true rfl) (Nat.le_of_eq (Nat.zero_add _)) (Nat.le_of_eq (Nat.zero_add _)) (fun _ _ q => q.elim) ?_
  rintro _ _ ⟨n9, rfl, hn9, rfl⟩
  refine z_iconst dMod_has_5 ?_
  refine z_iconst dMod_has_6 ?_
  refine z_callV MV_Mod_fails lk_Mod_88 dMod_has_7 (k_Mod_fails (by assumption) rfl (by omega) (by omega) (by omega)) rfl rfl (Nat.le_of_ble_eq_true rfl) rfl (by assumption) (Nat.le_of_ble_eq_true rfl) (Nat.le_of_ble_eq_true rfl) (Nat.le_of_eq (Nat.zero_add _)) (Nat.le_of_eq (Nat.zero_add _)) (fun _ _ q => q.elim) ?_
  rintro _ h1 ⟨t9, b8, rfl, ht, p1, g1⟩
  have H1 : zMod G h1 ma S t9 := H.obj (nu := S.2.2.2.2) (th' := t9) p1 g1
  have fz1 : zMfr ma h h1 := zMfr.of0 g1
  obtain ⟨-, n2, ⟨gg, n3, n3a⟩, n4, ⟨f61, n5, n5a⟩, n6, n7⟩ := id H1
  unfold zMfs at n2
  refine z_if_ne (tgt := 32) dMod_has_10 (by decide) (by omega) (fun c10 => ?_) (fun c10 => ?_)
  · refine z_iconst dMod_has_32 ?_
    refine z_iret rfl rfl dMod_has_33 ?_
    first
      | (exfalso; omega)
      | exact zQm.ok H1 (by omega) (by assumption) (by unfold sp_has; (try unfold spPut); (try simp only [Int.toNat_natCast]); (repeat (first | rw [if_pos (by omega)] | rw [if_neg (by omega)] | rw [if_pos (by assumption)] | rw [if_neg (by assumption)] | rw [if_pos (True.intro : True)])); (try (first | rfl | (congr 2; omega) | (congr 1; congr 1; omega))); done)
      | exact zQm.b1 H1 (by omega) (by assumption) (by unfold sp_has; (try unfold spPut); (try simp only [Int.toNat_natCast]); (repeat (first | rw [if_pos (by omega)] | rw [if_neg (by omega)] | rw [if_pos (by assumption)] | rw [if_neg (by assumption)] | rw [if_pos (True.intro : True)])); (try (first | rfl | (congr 2; omega) | (congr 1; congr 1; omega))); done)
      | exact zQm.b2 H1 (by omega) (by assumption) (by unfold sp_has; (try unfold spPut); (try simp only [Int.toNat_natCast]); (repeat (first | rw [if_pos (by omega)] | rw [if_neg (by omega)] | rw [if_pos (by assumption)] | rw [if_neg (by assumption)] | rw [if_pos (True.intro : True)])); (try (first | rfl | (congr 2; omega) | (congr 1; congr 1; omega))); done)
      | exact zQm.b3 H1 (by omega) (by assumption) (by unfold sp_has; (try unfold spPut); (try simp only [Int.toNat_natCast]); (repeat (first | rw [if_pos (by omega)] | rw [if_neg (by omega)] | rw [if_pos (by assumption)] | rw [if_neg (by assumption)] | rw [if_pos (True.intro : True)])); (try (first | rfl | (congr 2; omega) | (congr 1; congr 1; omega))); done)
  · obtain ⟨k, rfl⟩ := Int.eq_ofNat_of_zero_le (show 0 ≤ p by omega)
    obtain ⟨frk, rk1, rk2, rk3, rk4⟩ := id (n6 k (by omega))
    refine z_aload_n dMod_has_13 rfl ?_
    refine z_get (k := 0) fd_Mod (by decide) fl_Mod_11 dMod_has_14 (by assumption) (by rfl) ?_
    refine z_iload_n dMod_has_17 rfl ?_
    refine z_aald (t := 4) (ty := .array .int) rfl rfl dMod_has_18 n3 (by refine ⟨?_, ?_, ?_⟩ <;> omega) ?_
    rw [show (k : Int).toNat = k from rfl, n3a k (by omega)]
    refine z_iload_n dMod_has_19 rfl ?_
    refine z_iconst dMod_has_20 ?_
    refine z_callS MS_Mod_find lk_Mod_110 dMod_has_21 (k_Mod_find (n6 k (by omega)) (by omega) (by omega)) rfl rfl (Nat.le_of_ble_eq_true rfl)  (Nat.le_of_ble_eq_true rfl) (Nat.le_of_ble_eq_true rfl) (Nat.le_of_eq (Nat.zero_add _)) (Nat.le_of_eq (Nat.zero_add _)) (fun _ _ q => q.elim) ?_
    rintro _ _ ⟨rfl, rfl⟩
    have hfi := zFind_in (S.1 k) x 0
    refine z_iconst dMod_has_24 ?_
    refine z_icmp_eq (tgt := 32) dMod_has_25 (by decide) (by omega) (by omega) (fun c25 => ?_) (fun c25 => ?_)
    · refine z_iconst dMod_has_32 ?_
      refine z_iret rfl rfl dMod_has_33 ?_
      first
        | (exfalso; omega)
        | exact zQm.ok H1 (by omega) (by assumption) (by unfold sp_has; (try unfold spPut); (try simp only [Int.toNat_natCast]); (repeat (first | rw [if_pos (by omega)] | rw [if_neg (by omega)] | rw [if_pos (by assumption)] | rw [if_neg (by assumption)] | rw [if_pos (True.intro : True)])); (try (first | rfl | (congr 2; omega) | (congr 1; congr 1; omega))); done)
        | exact zQm.b1 H1 (by omega) (by assumption) (by unfold sp_has; (try unfold spPut); (try simp only [Int.toNat_natCast]); (repeat (first | rw [if_pos (by omega)] | rw [if_neg (by omega)] | rw [if_pos (by assumption)] | rw [if_neg (by assumption)] | rw [if_pos (True.intro : True)])); (try (first | rfl | (congr 2; omega) | (congr 1; congr 1; omega))); done)
        | exact zQm.b2 H1 (by omega) (by assumption) (by unfold sp_has; (try unfold spPut); (try simp only [Int.toNat_natCast]); (repeat (first | rw [if_pos (by omega)] | rw [if_neg (by omega)] | rw [if_pos (by assumption)] | rw [if_neg (by assumption)] | rw [if_pos (True.intro : True)])); (try (first | rfl | (congr 2; omega) | (congr 1; congr 1; omega))); done)
        | exact zQm.b3 H1 (by omega) (by assumption) (by unfold sp_has; (try unfold spPut); (try simp only [Int.toNat_natCast]); (repeat (first | rw [if_pos (by omega)] | rw [if_neg (by omega)] | rw [if_pos (by assumption)] | rw [if_neg (by assumption)] | rw [if_pos (True.intro : True)])); (try (first | rfl | (congr 2; omega) | (congr 1; congr 1; omega))); done)
    · refine z_iconst dMod_has_28 ?_
      refine z_goto (tgt := 33) dMod_has_29 (by decide) ?_
      refine z_iret rfl rfl dMod_has_33 ?_
      first
        | (exfalso; omega)
        | exact zQm.ok H1 (by omega) (by assumption) (by unfold sp_has; (try unfold spPut); (try simp only [Int.toNat_natCast]); (repeat (first | rw [if_pos (by omega)] | rw [if_neg (by omega)] | rw [if_pos (by assumption)] | rw [if_neg (by assumption)] | rw [if_pos (True.intro : True)])); (try (first | rfl | (congr 2; omega) | (congr 1; congr 1; omega))); done)
        | exact zQm.b1 H1 (by omega) (by assumption) (by unfold sp_has; (try unfold spPut); (try simp only [Int.toNat_natCast]); (repeat (first | rw [if_pos (by omega)] | rw [if_neg (by omega)] | rw [if_pos (by assumption)] | rw [if_neg (by assumption)] | rw [if_pos (True.intro : True)])); (try (first | rfl | (congr 2; omega) | (congr 1; congr 1; omega))); done)
        | exact zQm.b2 H1 (by omega) (by assumption) (by unfold sp_has; (try unfold spPut); (try simp only [Int.toNat_natCast]); (repeat (first | rw [if_pos (by omega)] | rw [if_neg (by omega)] | rw [if_pos (by assumption)] | rw [if_neg (by assumption)] | rw [if_pos (True.intro : True)])); (try (first | rfl | (congr 2; omega) | (congr 1; congr 1; omega))); done)
        | exact zQm.b3 H1 (by omega) (by assumption) (by unfold sp_has; (try unfold spPut); (try simp only [Int.toNat_natCast]); (repeat (first | rw [if_pos (by omega)] | rw [if_neg (by omega)] | rw [if_pos (by assumption)] | rw [if_neg (by assumption)] | rw [if_pos (True.intro : True)])); (try (first | rfl | (congr 2; omega) | (congr 1; congr 1; omega))); done)
theorem k_Mod_degree {p : Int} (H : zMod G h ma S th) (z_p : zI32 p)  : zM G l hMod_degree yMod_degree 3 [.ref (ma 0), zi p] h (zQm G ma h (1) (2) (3) (sp_degree S p)) zNo 0 0 := by
  obtain ⟨m1, m2, ⟨g, m3, m3a⟩, m4, ⟨f6, m5, m5a⟩, m6, m7⟩ := id H
  unfold zMfs at m2
  refine zM.of [some (.ref (ma 0)), some (zi p)] (by decide +kernel) rfl (by decide) rfl (Nat.le_of_ble_eq_true rfl) rfl ?_
  refine z_aload_n dMod_degree_0 rfl ?_
  refine z_iload_n dMod_degree_1 rfl ?_
  refine z_callS MS_Mod_isNo lk_Mod_81 dMod_degree_2 (k_Mod_isNo (by omega)) rfl rfl (Nat.le_of_ble_eq_true rfl)  (Nat.le_of_ble_eq_true rfl) (Nat.le_of_ble_eq_true rfl) (Nat.le_of_eq (Nat.zero_add _)) (Nat.le_of_eq (Nat.zero_add _)) (fun _ _ q => q.elim) ?_
  rintro _ _ ⟨n9, rfl, hn9, rfl⟩
  refine z_iconst dMod_degree_5 ?_
  refine z_iconst dMod_degree_6 ?_
  refine z_callV MV_Mod_fails lk_Mod_88 dMod_degree_7 (k_Mod_fails (by assumption) rfl (by omega) (by omega) (by omega)) rfl rfl (Nat.le_of_ble_eq_true rfl) rfl (by assumption) (Nat.le_of_ble_eq_true rfl) (Nat.le_of_ble_eq_true rfl) (Nat.le_of_eq (Nat.zero_add _)) (Nat.le_of_eq (Nat.zero_add _)) (fun _ _ q => q.elim) ?_
  rintro _ h1 ⟨t9, b8, rfl, ht, p1, g1⟩
  have H1 : zMod G h1 ma S t9 := H.obj (nu := S.2.2.2.2) (th' := t9) p1 g1
  have fz1 : zMfr ma h h1 := zMfr.of0 g1
  obtain ⟨-, n2, ⟨gg, n3, n3a⟩, n4, ⟨f61, n5, n5a⟩, n6, n7⟩ := id H1
  unfold zMfs at n2
  refine z_if_eq (tgt := 17) dMod_degree_10 (by decide) (by omega) (fun c10 => ?_) (fun c10 => ?_)
  · obtain ⟨k, rfl⟩ := Int.eq_ofNat_of_zero_le (show 0 ≤ p by omega)
    obtain ⟨frk, rk1, rk2, rk3, rk4⟩ := id (n6 k (by omega))
    refine z_aload_n dMod_degree_17 rfl ?_
    refine z_get (k := 0) fd_Mod (by decide) fl_Mod_11 dMod_degree_18 (by assumption) (by rfl) ?_
    refine z_iload_n dMod_degree_21 rfl ?_
    refine z_aald (t := 4) (ty := .array .int) rfl rfl dMod_degree_22 n3 (by refine ⟨?_, ?_, ?_⟩ <;> omega) ?_
    rw [show (k : Int).toNat = k from rfl, n3a k (by omega)]
    refine z_callS MS_Mod_degreeOf lk_Mod_180 dMod_degree_23 (k_Mod_degreeOf (n6 k (by omega))) rfl rfl (Nat.le_of_ble_eq_true rfl)  (Nat.le_of_ble_eq_true rfl) (Nat.le_of_ble_eq_true rfl) (Nat.le_of_eq (Nat.zero_add _)) (Nat.le_of_eq (Nat.zero_add _)) (fun _ _ q => q.elim) ?_
    rintro _ _ ⟨rfl, rfl⟩
    refine z_iret rfl rfl dMod_degree_26 ?_
    first
      | (exfalso; omega)
      | exact zQm.ok H1 (by omega) (by assumption) (by unfold sp_degree; (try unfold spPut); (try simp only [Int.toNat_natCast]); (repeat (first | rw [if_pos (by omega)] | rw [if_neg (by omega)] | rw [if_pos (by assumption)] | rw [if_neg (by assumption)] | rw [if_pos (True.intro : True)])); (try (first | rfl | (congr 2; omega) | (congr 1; congr 1; omega))); done)
      | exact zQm.b1 H1 (by omega) (by assumption) (by unfold sp_degree; (try unfold spPut); (try simp only [Int.toNat_natCast]); (repeat (first | rw [if_pos (by omega)] | rw [if_neg (by omega)] | rw [if_pos (by assumption)] | rw [if_neg (by assumption)] | rw [if_pos (True.intro : True)])); (try (first | rfl | (congr 2; omega) | (congr 1; congr 1; omega))); done)
      | exact zQm.b2 H1 (by omega) (by assumption) (by unfold sp_degree; (try unfold spPut); (try simp only [Int.toNat_natCast]); (repeat (first | rw [if_pos (by omega)] | rw [if_neg (by omega)] | rw [if_pos (by assumption)] | rw [if_neg (by assumption)] | rw [if_pos (True.intro : True)])); (try (first | rfl | (congr 2; omega) | (congr 1; congr 1; omega))); done)
      | exact zQm.b3 H1 (by omega) (by assumption) (by unfold sp_degree; (try unfold spPut); (try simp only [Int.toNat_natCast]); (repeat (first | rw [if_pos (by omega)] | rw [if_neg (by omega)] | rw [if_pos (by assumption)] | rw [if_neg (by assumption)] | rw [if_pos (True.intro : True)])); (try (first | rfl | (congr 2; omega) | (congr 1; congr 1; omega))); done)
  · refine z_iconst dMod_degree_13 ?_
    refine z_goto (tgt := 26) dMod_degree_14 (by decide) ?_
    refine z_iret rfl rfl dMod_degree_26 ?_
    first
      | (exfalso; omega)
      | exact zQm.ok H1 (by omega) (by assumption) (by unfold sp_degree; (try unfold spPut); (try simp only [Int.toNat_natCast]); (repeat (first | rw [if_pos (by omega)] | rw [if_neg (by omega)] | rw [if_pos (by assumption)] | rw [if_neg (by assumption)] | rw [if_pos (True.intro : True)])); (try (first | rfl | (congr 2; omega) | (congr 1; congr 1; omega))); done)
      | exact zQm.b1 H1 (by omega) (by assumption) (by unfold sp_degree; (try unfold spPut); (try simp only [Int.toNat_natCast]); (repeat (first | rw [if_pos (by omega)] | rw [if_neg (by omega)] | rw [if_pos (by assumption)] | rw [if_neg (by assumption)] | rw [if_pos (True.intro : True)])); (try (first | rfl | (congr 2; omega) | (congr 1; congr 1; omega))); done)
      | exact zQm.b2 H1 (by omega) (by assumption) (by unfold sp_degree; (try unfold spPut); (try simp only [Int.toNat_natCast]); (repeat (first | rw [if_pos (by omega)] | rw [if_neg (by omega)] | rw [if_pos (by assumption)] | rw [if_neg (by assumption)] | rw [if_pos (True.intro : True)])); (try (first | rfl | (congr 2; omega) | (congr 1; congr 1; omega))); done)
      | exact zQm.b3 H1 (by omega) (by assumption) (by unfold sp_degree; (try unfold spPut); (try simp only [Int.toNat_natCast]); (repeat (first | rw [if_pos (by omega)] | rw [if_neg (by omega)] | rw [if_pos (by assumption)] | rw [if_neg (by assumption)] | rw [if_pos (True.intro : True)])); (try (first | rfl | (congr 2; omega) | (congr 1; congr 1; omega))); done)
end MOD5
end
section
section MOD6
variable {G : zG} {l : Launch} {h h' : zHp} {ma : Nat → Nat} {S : zSt} {th : Int}
theorem zMod.row1 {k : Nat} {L : List Int} (H : zMod G h ma S th) (hk : k < 4) (hr : zAr G h' (ma (8 + k)) L) (hf : ∀ q, q ≠ ma (8 + k) → h' q = h q) : zMod G h' ma (zsL S k L) th := by
  obtain ⟨m1, m2, ⟨g, m3, m3'⟩, ⟨⟨f1, a1, b1⟩, ⟨f2, a2, b2⟩, ⟨f3, a3, b3⟩, ⟨f4, a4, b4⟩, ⟨f5, a5, b5⟩⟩, ⟨f6, m5, m5'⟩, m6, m7⟩ := id H
  have kp : ∀ i, i < 13 → i ≠ 8 + k → h' (ma i) = h (ma i) := fun i hi h1 => hf _ (H.inj hi (by omega) h1)
  refine ⟨m1, (kp 0 (by omega) (by omega)).trans m2, ⟨g, (kp 1 (by omega) (by omega)).trans m3, m3'⟩, ⟨⟨f1, (kp 2 (by omega) (by omega)).trans a1, b1⟩, ⟨f2, (kp 3 (by omega) (by omega)).trans a2, b2⟩, ⟨f3, (kp 4 (by omega) (by omega)).trans a3, b3⟩, ⟨f4, (kp 5 (by omega) (by omega)).trans a4, b4⟩, ⟨f5, (kp 6 (by omega) (by omega)).trans a5, b5⟩⟩, ⟨f6, (kp 7 (by omega) (by omega)).trans m5, m5'⟩, fun j hj => ?_, m7.kept (kp 12 (by omega) (by omega))⟩
  show zAr G h' (ma (8 + j)) (zup S.1 k L j)
  by_cases e : j = k
  · subst e
    rw [zup_same]
    exact hr
  · rw [zup_ne e]
    exact (m6 j hj).kept (kp _ (by omega) (by omega))
theorem zMfr.of1 {i : Nat} (hi : i < 13) (hf : ∀ q, q ≠ ma i → h' q = h q) : zMfr ma h h' := fun q e he hq => (hf q (hq i hi)).trans he
theorem zMfr.tr {h'' : zHp} (a : zMfr ma h h') (b : zMfr ma h' h'') : zMfr ma h h'' := fun q e he hq => b q e (a q e he hq) hq
theorem zAt_eq {L : List Int} {i : Int} (h1 : 0 ≤ i) (h2 : i < L.length) : zAt L i = L.getD i.toNat 0 := by
  unfold zAt
  rw [if_pos ⟨h1, h2⟩]
theorem k_Mod_areSame {p o : Int} (H : zMod G h ma S th) (z_p : zI32 p) (z_o : zI32 o)  : zM G l hMod_areSame yMod_areSame 3 [.ref (ma 0), zi p, zi o] h (zQm G ma h (1) (2) (3) (sp_areSame S p o)) zNo 0 0 := by
  obtain ⟨m1, m2, ⟨g, m3, m3a⟩, m4, ⟨f6, m5, m5a⟩, m6, m7⟩ := id H
  unfold zMfs at m2
  refine zM.of [some (.ref (ma 0)), some (zi p), some (zi o)] (by decide +kernel) rfl (by decide) rfl (Nat.le_of_ble_eq_true rfl) rfl ?_
  refine z_aload_n dMod_areSame_0 rfl ?_
  refine z_iload_n dMod_areSame_1 rfl ?_
  refine z_callS MS_Mod_isNo lk_Mod_81 dMod_areSame_2 (k_Mod_isNo (by omega)) rfl rfl (Nat.le_of_ble_eq_true rfl)  (Nat.le_of_ble_eq_true rfl) (Nat.le_of_ble_eq_true rfl) (Nat.le_of_eq (Nat.zero_add _)) (Nat.le_of_eq (Nat.zero_add _)) (fun _ _ q => q.elim) ?_
  rintro _ _ ⟨n9k, rfl, (⟨rfl, hn9k⟩ | ⟨rfl, hn9k⟩), rfl⟩
  · refine z_if_ne (tgt := 15) dMod_areSame_5 (by decide) (by omega) (fun c5 => ?_) (fun c5 => ?_)
    · refine z_iconst dMod_areSame_15 ?_
      refine z_goto (tgt := 20) dMod_areSame_16 (by decide) ?_
      refine z_iconst dMod_areSame_20 ?_
      refine z_iconst dMod_areSame_21 ?_
      refine z_callV MV_Mod_fails lk_Mod_88 dMod_areSame_22 (k_Mod_fails (by assumption) rfl (by omega) (by omega) (by omega)) rfl rfl (Nat.le_of_ble_eq_true rfl) rfl (by assumption) (Nat.le_of_ble_eq_true rfl) (Nat.le_of_ble_eq_true rfl) (Nat.le_of_eq (Nat.zero_add _)) (Nat.le_of_eq (Nat.zero_add _)) (fun _ _ q => q.elim) ?_
      rintro _ h1 ⟨t9, b8, rfl, ht, p1, g1⟩
      have H1 : zMod G h1 ma S t9 := H.obj (nu := S.2.2.2.2) (th' := t9) p1 g1
      have fz1 : zMfr ma h h1 := zMfr.of0 g1
      obtain ⟨-, n2, ⟨gg, n3, n3a⟩, n4, ⟨f61, n5, n5a⟩, n6, n7⟩ := id H1
      unfold zMfs at n2
      refine z_if_ne (tgt := 50) dMod_areSame_25 (by decide) (by omega) (fun c25 => ?_) (fun c25 => ?_)
      · refine z_iconst dMod_areSame_50 ?_
        refine z_iret rfl rfl dMod_areSame_51 ?_
        first
          | (exfalso; omega)
          | exact zQm.ok H1 (by omega) (by assumption) (by unfold sp_areSame; (try unfold spPut); (try simp only [Int.toNat_natCast]); (repeat (first | rw [if_pos (by omega)] | rw [if_neg (by omega)] | rw [if_pos (by assumption)] | rw [if_neg (by assumption)] | rw [if_pos (True.intro : True)])); (try (first | rfl | (congr 2; omega) | (congr 1; congr 1; omega))); done)
          | exact zQm.b1 H1 (by omega) (by assumption) (by unfold sp_areSame; (try unfold spPut); (try simp only [Int.toNat_natCast]); (repeat (first | rw [if_pos (by omega)] | rw [if_neg (by omega)] | rw [if_pos (by assumption)] | rw [if_neg (by assumption)] | rw [if_pos (True.intro : True)])); (try (first | rfl | (congr 2; omega) | (congr 1; congr 1; omega))); done)
          | exact zQm.b2 H1 (by omega) (by assumption) (by unfold sp_areSame; (try unfold spPut); (try simp only [Int.toNat_natCast]); (repeat (first | rw [if_pos (by omega)] | rw [if_neg (by omega)] | rw [if_pos (by assumption)] | rw [if_neg (by assumption)] | rw [if_pos (True.intro : True)])); (try (first | rfl | (congr 2; omega) | (congr 1; congr 1; omega))); done)
          | exact zQm.b3 H1 (by omega) (by assumption) (by unfold sp_areSame; (try unfold spPut); (try simp only [Int.toNat_natCast]); (repeat (first | rw [if_pos (by omega)] | rw [if_neg (by omega)] | rw [if_pos (by assumption)] | rw [if_neg (by assumption)] | rw [if_pos (True.intro : True)])); (try (first | rfl | (congr 2; omega) | (congr 1; congr 1; omega))); done)
      · exfalso; omega
    · exfalso; omega
  · obtain ⟨k, rfl⟩ := Int.eq_ofNat_of_zero_le (show 0 ≤ p by omega)
    have hkk : k < 4 := by omega
    refine z_if_ne (tgt := 15) dMod_areSame_5 (by decide) (by omega) (fun c5 => ?_) (fun c5 => ?_)
    · exfalso; omega
    · refine z_iload_n dMod_areSame_8 rfl ?_
      refine z_callS MS_Mod_isNo lk_Mod_81 dMod_areSame_9 (k_Mod_isNo (by omega)) rfl rfl (Nat.le_of_ble_eq_true rfl)  (Nat.le_of_ble_eq_true rfl) (Nat.le_of_ble_eq_true rfl) (Nat.le_of_eq (Nat.zero_add _)) (Nat.le_of_eq (Nat.zero_add _)) (fun _ _ q => q.elim) ?_
      rintro _ _ ⟨n9j, rfl, (⟨rfl, hn9j⟩ | ⟨rfl, hn9j⟩), rfl⟩
      · refine z_if_eq (tgt := 19) dMod_areSame_12 (by decide) (by omega) (fun c12 => ?_) (fun c12 => ?_)
        · refine z_iconst dMod_areSame_19 ?_
          refine z_iconst dMod_areSame_20 ?_
          refine z_iconst dMod_areSame_21 ?_
          refine z_callV MV_Mod_fails lk_Mod_88 dMod_areSame_22 (k_Mod_fails (by assumption) rfl (by omega) (by omega) (by omega)) rfl rfl (Nat.le_of_ble_eq_true rfl) rfl (by assumption) (Nat.le_of_ble_eq_true rfl) (Nat.le_of_ble_eq_true rfl) (Nat.le_of_eq (Nat.zero_add _)) (Nat.le_of_eq (Nat.zero_add _)) (fun _ _ q => q.elim) ?_
          rintro _ h1 ⟨t9, b8, rfl, ht, p1, g1⟩
          have H1 : zMod G h1 ma S t9 := H.obj (nu := S.2.2.2.2) (th' := t9) p1 g1
          have fz1 : zMfr ma h h1 := zMfr.of0 g1
          obtain ⟨-, n2, ⟨gg, n3, n3a⟩, n4, ⟨f61, n5, n5a⟩, n6, n7⟩ := id H1
          unfold zMfs at n2
          refine z_if_ne (tgt := 50) dMod_areSame_25 (by decide) (by omega) (fun c25 => ?_) (fun c25 => ?_)
          · refine z_iconst dMod_areSame_50 ?_
            refine z_iret rfl rfl dMod_areSame_51 ?_
            first
              | (exfalso; omega)
              | exact zQm.ok H1 (by omega) (by assumption) (by unfold sp_areSame; (try unfold spPut); (try simp only [Int.toNat_natCast]); (repeat (first | rw [if_pos (by omega)] | rw [if_neg (by omega)] | rw [if_pos (by assumption)] | rw [if_neg (by assumption)] | rw [if_pos (True.intro : True)])); (try (first | rfl | (congr 2; omega) | (congr 1; congr 1; omega))); done)
              | exact zQm.b1 H1 (by omega) (by assumption) (by unfold sp_areSame; (try unfold spPut); (try simp only [Int.toNat_natCast]); (repeat (first | rw [if_pos (by omega)] | rw [if_neg (by omega)] | rw [if_pos (by assumption)] | rw [if_neg (by assumption)] | rw [if_pos (True.intro : True)])); (try (first | rfl | (congr 2; omega) | (congr 1; congr 1; omega))); done)
              | exact zQm.b2 H1 (by omega) (by assumption) (by unfold sp_areSame; (try unfold spPut); (try simp only [Int.toNat_natCast]); (repeat (first | rw [if_pos (by omega)] | rw [if_neg (by omega)] | rw [if_pos (by assumption)] | rw [if_neg (by assumption)] | rw [if_pos (True.intro : True)])); (try (first | rfl | (congr 2; omega) | (congr 1; congr 1; omega))); done)
              | exact zQm.b3 H1 (by omega) (by assumption) (by unfold sp_areSame; (try unfold spPut); (try simp only [Int.toNat_natCast]); (repeat (first | rw [if_pos (by omega)] | rw [if_neg (by omega)] | rw [if_pos (by assumption)] | rw [if_neg (by assumption)] | rw [if_pos (True.intro : True)])); (try (first | rfl | (congr 2; omega) | (congr 1; congr 1; omega))); done)
          · exfalso; omega
        · refine z_iconst dMod_areSame_15 ?_
          refine z_goto (tgt := 20) dMod_areSame_16 (by decide) ?_
          refine z_iconst dMod_areSame_20 ?_
          refine z_iconst dMod_areSame_21 ?_
          refine z_callV MV_Mod_fails lk_Mod_88 dMod_areSame_22 (k_Mod_fails (by assumption) rfl (by omega) (by omega) (by omega)) rfl rfl (Nat.le_of_ble_eq_true rfl) rfl (by assumption) (Nat.le_of_ble_eq_true rfl) (Nat.le_of_ble_eq_true rfl) (Nat.le_of_eq (Nat.zero_add _)) (Nat.le_of_eq (Nat.zero_add _)) (fun _ _ q => q.elim) ?_
          rintro _ h1 ⟨t9, b8, rfl, ht, p1, g1⟩
          have H1 : zMod G h1 ma S t9 := H.obj (nu := S.2.2.2.2) (th' := t9) p1 g1
          have fz1 : zMfr ma h h1 := zMfr.of0 g1
          obtain ⟨-, n2, ⟨gg, n3, n3a⟩, n4, ⟨f61, n5, n5a⟩, n6, n7⟩ := id H1
          unfold zMfs at n2
          refine z_if_ne (tgt := 50) dMod_areSame_25 (by decide) (by omega) (fun c25 => ?_) (fun c25 => ?_)
          · refine z_iconst dMod_areSame_50 ?_
            refine z_iret rfl rfl dMod_areSame_51 ?_
            first
              | (exfalso; omega)
              | exact zQm.ok H1 (by omega) (by assumption) (by unfold sp_areSame; (try unfold spPut); (try simp only [Int.toNat_natCast]); (repeat (first | rw [if_pos (by omega)] | rw [if_neg (by omega)] | rw [if_pos (by assumption)] | rw [if_neg (by assumption)] | rw [if_pos (True.intro : True)])); (try (first | rfl | (congr 2; omega) | (congr 1; congr 1; omega))); done)
              | exact zQm.b1 H1 (by omega) (by assumption) (by unfold sp_areSame; (try unfold spPut); (try simp only [Int.toNat_natCast]); (repeat (first | rw [if_pos (by omega)] | rw [if_neg (by omega)] | rw [if_pos (by assumption)] | rw [if_neg (by assumption)] | rw [if_pos (True.intro : True)])); (try (first | rfl | (congr 2; omega) | (congr 1; congr 1; omega))); done)
              | exact zQm.b2 H1 (by omega) (by assumption) (by unfold sp_areSame; (try unfold spPut); (try simp only [Int.toNat_natCast]); (repeat (first | rw [if_pos (by omega)] | rw [if_neg (by omega)] | rw [if_pos (by assumption)] | rw [if_neg (by assumption)] | rw [if_pos (True.intro : True)])); (try (first | rfl | (congr 2; omega) | (congr 1; congr 1; omega))); done)
              | exact zQm.b3 H1 (by omega) (by assumption) (by unfold sp_areSame; (try unfold spPut); (try simp only [Int.toNat_natCast]); (repeat (first | rw [if_pos (by omega)] | rw [if_neg (by omega)] | rw [if_pos (by assumption)] | rw [if_neg (by assumption)] | rw [if_pos (True.intro : True)])); (try (first | rfl | (congr 2; omega) | (congr 1; congr 1; omega))); done)
          · exfalso; omega
      · obtain ⟨j, rfl⟩ := Int.eq_ofNat_of_zero_le (show 0 ≤ o by omega)
        have hkj : j < 4 := by omega
        refine z_if_eq (tgt := 19) dMod_areSame_12 (by decide) (by omega) (fun c12 => ?_) (fun c12 => ?_)
        · refine z_iconst dMod_areSame_19 ?_
          refine z_iconst dMod_areSame_20 ?_
          refine z_iconst dMod_areSame_21 ?_
          refine z_callV MV_Mod_fails lk_Mod_88 dMod_areSame_22 (k_Mod_fails (by assumption) rfl (by omega) (by omega) (by omega)) rfl rfl (Nat.le_of_ble_eq_true rfl) rfl (by assumption) (Nat.le_of_ble_eq_true rfl) (Nat.le_of_ble_eq_true rfl) (Nat.le_of_eq (Nat.zero_add _)) (Nat.le_of_eq (Nat.zero_add _)) (fun _ _ q => q.elim) ?_
          rintro _ h1 ⟨t9, b8, rfl, ht, p1, g1⟩
          have H1 : zMod G h1 ma S t9 := H.obj (nu := S.2.2.2.2) (th' := t9) p1 g1
          have fz1 : zMfr ma h h1 := zMfr.of0 g1
          obtain ⟨-, n2, ⟨gg, n3, n3a⟩, n4, ⟨f61, n5, n5a⟩, n6, n7⟩ := id H1
          unfold zMfs at n2
          refine z_if_ne (tgt := 50) dMod_areSame_25 (by decide) (by omega) (fun c25 => ?_) (fun c25 => ?_)
          · refine z_iconst dMod_areSame_50 ?_
            refine z_iret rfl rfl dMod_areSame_51 ?_
            first
              | (exfalso; omega)
              | exact zQm.ok H1 (by omega) (by assumption) (by unfold sp_areSame; (try unfold spPut); (try simp only [Int.toNat_natCast]); (repeat (first | rw [if_pos (by omega)] | rw [if_neg (by omega)] | rw [if_pos (by assumption)] | rw [if_neg (by assumption)] | rw [if_pos (True.intro : True)])); (try (first | rfl | (congr 2; omega) | (congr 1; congr 1; omega))); done)
              | exact zQm.b1 H1 (by omega) (by assumption) (by unfold sp_areSame; (try unfold spPut); (try simp only [Int.toNat_natCast]); (repeat (first | rw [if_pos (by omega)] | rw [if_neg (by omega)] | rw [if_pos (by assumption)] | rw [if_neg (by assumption)] | rw [if_pos (True.intro : True)])); (try (first | rfl | (congr 2; omega) | (congr 1; congr 1; omega))); done)
              | exact zQm.b2 H1 (by omega) (by assumption) (by unfold sp_areSame; (try unfold spPut); (try simp only [Int.toNat_natCast]); (repeat (first | rw [if_pos (by omega)] | rw [if_neg (by omega)] | rw [if_pos (by assumption)] | rw [if_neg (by assumption)] | rw [if_pos (True.intro : True)])); (try (first | rfl | (congr 2; omega) | (congr 1; congr 1; omega))); done)
              | exact zQm.b3 H1 (by omega) (by assumption) (by unfold sp_areSame; (try unfold spPut); (try simp only [Int.toNat_natCast]); (repeat (first | rw [if_pos (by omega)] | rw [if_neg (by omega)] | rw [if_pos (by assumption)] | rw [if_neg (by assumption)] | rw [if_pos (True.intro : True)])); (try (first | rfl | (congr 2; omega) | (congr 1; congr 1; omega))); done)
          · obtain ⟨frk, rk1, rk2, rk3, rk4⟩ := id (n6 k (by omega))
            obtain ⟨frj, rj1, rj2, rj3, rj4⟩ := id (n6 j (by omega))
            refine z_aload_n dMod_areSame_28 rfl ?_
            refine z_get (k := 0) fd_Mod (by decide) fl_Mod_11 dMod_areSame_29 (by assumption) (by rfl) ?_
            refine z_iload_n dMod_areSame_32 rfl ?_
            refine z_aald (t := 4) (ty := .array .int) rfl rfl dMod_areSame_33 n3 (by refine ⟨?_, ?_, ?_⟩ <;> omega) ?_
            rw [show (k : Int).toNat = k from rfl, n3a k (by omega)]
            refine z_aload_n dMod_areSame_34 rfl ?_
            refine z_get (k := 0) fd_Mod (by decide) fl_Mod_11 dMod_areSame_35 (by assumption) (by rfl) ?_
            refine z_iload_n dMod_areSame_38 rfl ?_
            refine z_aald (t := 4) (ty := .array .int) rfl rfl dMod_areSame_39 n3 (by refine ⟨?_, ?_, ?_⟩ <;> omega) ?_
            rw [show (j : Int).toNat = j from rfl, n3a j (by omega)]
            refine z_callS MS_Mod_areLike lk_Mod_137 dMod_areSame_40 (k_Mod_areLike (n6 k (by omega)) (n6 j (by omega))) rfl rfl (Nat.le_of_ble_eq_true rfl)  (Nat.le_of_ble_eq_true rfl) (Nat.le_of_ble_eq_true rfl) (Nat.le_of_eq (Nat.zero_add _)) (Nat.le_of_eq (Nat.zero_add _)) (fun _ _ q => q.elim) ?_
            rintro _ _ ⟨b7, rfl, (⟨rfl, m9⟩ | ⟨rfl, m9⟩), rfl⟩
            · refine z_if_eq (tgt := 50) dMod_areSame_43 (by decide) (by omega) (fun c43 => ?_) (fun c43 => ?_)
              · refine z_iconst dMod_areSame_50 ?_
                refine z_iret rfl rfl dMod_areSame_51 ?_
                first
                  | (exfalso; omega)
                  | exact zQm.ok H1 (by omega) (by assumption) (by unfold sp_areSame; (try unfold spPut); (try simp only [Int.toNat_natCast]); (repeat (first | rw [if_pos (by omega)] | rw [if_neg (by omega)] | rw [if_pos (by assumption)] | rw [if_neg (by assumption)] | rw [if_pos (True.intro : True)])); (try (first | rfl | (congr 2; omega) | (congr 1; congr 1; omega))); done)
                  | exact zQm.b1 H1 (by omega) (by assumption) (by unfold sp_areSame; (try unfold spPut); (try simp only [Int.toNat_natCast]); (repeat (first | rw [if_pos (by omega)] | rw [if_neg (by omega)] | rw [if_pos (by assumption)] | rw [if_neg (by assumption)] | rw [if_pos (True.intro : True)])); (try (first | rfl | (congr 2; omega) | (congr 1; congr 1; omega))); done)
                  | exact zQm.b2 H1 (by omega) (by assumption) (by unfold sp_areSame; (try unfold spPut); (try simp only [Int.toNat_natCast]); (repeat (first | rw [if_pos (by omega)] | rw [if_neg (by omega)] | rw [if_pos (by assumption)] | rw [if_neg (by assumption)] | rw [if_pos (True.intro : True)])); (try (first | rfl | (congr 2; omega) | (congr 1; congr 1; omega))); done)
                  | exact zQm.b3 H1 (by omega) (by assumption) (by unfold sp_areSame; (try unfold spPut); (try simp only [Int.toNat_natCast]); (repeat (first | rw [if_pos (by omega)] | rw [if_neg (by omega)] | rw [if_pos (by assumption)] | rw [if_neg (by assumption)] | rw [if_pos (True.intro : True)])); (try (first | rfl | (congr 2; omega) | (congr 1; congr 1; omega))); done)
              · refine z_iconst dMod_areSame_46 ?_
                refine z_goto (tgt := 51) dMod_areSame_47 (by decide) ?_
                refine z_iret rfl rfl dMod_areSame_51 ?_
                first
                  | (exfalso; omega)
                  | exact zQm.ok H1 (by omega) (by assumption) (by unfold sp_areSame; (try unfold spPut); (try simp only [Int.toNat_natCast]); (repeat (first | rw [if_pos (by omega)] | rw [if_neg (by omega)] | rw [if_pos (by assumption)] | rw [if_neg (by assumption)] | rw [if_pos (True.intro : True)])); (try (first | rfl | (congr 2; omega) | (congr 1; congr 1; omega))); done)
                  | exact zQm.b1 H1 (by omega) (by assumption) (by unfold sp_areSame; (try unfold spPut); (try simp only [Int.toNat_natCast]); (repeat (first | rw [if_pos (by omega)] | rw [if_neg (by omega)] | rw [if_pos (by assumption)] | rw [if_neg (by assumption)] | rw [if_pos (True.intro : True)])); (try (first | rfl | (congr 2; omega) | (congr 1; congr 1; omega))); done)
                  | exact zQm.b2 H1 (by omega) (by assumption) (by unfold sp_areSame; (try unfold spPut); (try simp only [Int.toNat_natCast]); (repeat (first | rw [if_pos (by omega)] | rw [if_neg (by omega)] | rw [if_pos (by assumption)] | rw [if_neg (by assumption)] | rw [if_pos (True.intro : True)])); (try (first | rfl | (congr 2; omega) | (congr 1; congr 1; omega))); done)
                  | exact zQm.b3 H1 (by omega) (by assumption) (by unfold sp_areSame; (try unfold spPut); (try simp only [Int.toNat_natCast]); (repeat (first | rw [if_pos (by omega)] | rw [if_neg (by omega)] | rw [if_pos (by assumption)] | rw [if_neg (by assumption)] | rw [if_pos (True.intro : True)])); (try (first | rfl | (congr 2; omega) | (congr 1; congr 1; omega))); done)
            · refine z_if_eq (tgt := 50) dMod_areSame_43 (by decide) (by omega) (fun c43 => ?_) (fun c43 => ?_)
              · refine z_iconst dMod_areSame_50 ?_
                refine z_iret rfl rfl dMod_areSame_51 ?_
                first
                  | (exfalso; omega)
                  | exact zQm.ok H1 (by omega) (by assumption) (by unfold sp_areSame; (try unfold spPut); (try simp only [Int.toNat_natCast]); (repeat (first | rw [if_pos (by omega)] | rw [if_neg (by omega)] | rw [if_pos (by assumption)] | rw [if_neg (by assumption)] | rw [if_pos (True.intro : True)])); (try (first | rfl | (congr 2; omega) | (congr 1; congr 1; omega))); done)
                  | exact zQm.b1 H1 (by omega) (by assumption) (by unfold sp_areSame; (try unfold spPut); (try simp only [Int.toNat_natCast]); (repeat (first | rw [if_pos (by omega)] | rw [if_neg (by omega)] | rw [if_pos (by assumption)] | rw [if_neg (by assumption)] | rw [if_pos (True.intro : True)])); (try (first | rfl | (congr 2; omega) | (congr 1; congr 1; omega))); done)
                  | exact zQm.b2 H1 (by omega) (by assumption) (by unfold sp_areSame; (try unfold spPut); (try simp only [Int.toNat_natCast]); (repeat (first | rw [if_pos (by omega)] | rw [if_neg (by omega)] | rw [if_pos (by assumption)] | rw [if_neg (by assumption)] | rw [if_pos (True.intro : True)])); (try (first | rfl | (congr 2; omega) | (congr 1; congr 1; omega))); done)
                  | exact zQm.b3 H1 (by omega) (by assumption) (by unfold sp_areSame; (try unfold spPut); (try simp only [Int.toNat_natCast]); (repeat (first | rw [if_pos (by omega)] | rw [if_neg (by omega)] | rw [if_pos (by assumption)] | rw [if_neg (by assumption)] | rw [if_pos (True.intro : True)])); (try (first | rfl | (congr 2; omega) | (congr 1; congr 1; omega))); done)
              · refine z_iconst dMod_areSame_46 ?_
                refine z_goto (tgt := 51) dMod_areSame_47 (by decide) ?_
                refine z_iret rfl rfl dMod_areSame_51 ?_
                first
                  | (exfalso; omega)
                  | exact zQm.ok H1 (by omega) (by assumption) (by unfold sp_areSame; (try unfold spPut); (try simp only [Int.toNat_natCast]); (repeat (first | rw [if_pos (by omega)] | rw [if_neg (by omega)] | rw [if_pos (by assumption)] | rw [if_neg (by assumption)] | rw [if_pos (True.intro : True)])); (try (first | rfl | (congr 2; omega) | (congr 1; congr 1; omega))); done)
                  | exact zQm.b1 H1 (by omega) (by assumption) (by unfold sp_areSame; (try unfold spPut); (try simp only [Int.toNat_natCast]); (repeat (first | rw [if_pos (by omega)] | rw [if_neg (by omega)] | rw [if_pos (by assumption)] | rw [if_neg (by assumption)] | rw [if_pos (True.intro : True)])); (try (first | rfl | (congr 2; omega) | (congr 1; congr 1; omega))); done)
                  | exact zQm.b2 H1 (by omega) (by assumption) (by unfold sp_areSame; (try unfold spPut); (try simp only [Int.toNat_natCast]); (repeat (first | rw [if_pos (by omega)] | rw [if_neg (by omega)] | rw [if_pos (by assumption)] | rw [if_neg (by assumption)] | rw [if_pos (True.intro : True)])); (try (first | rfl | (congr 2; omega) | (congr 1; congr 1; omega))); done)
                  | exact zQm.b3 H1 (by omega) (by assumption) (by unfold sp_areSame; (try unfold spPut); (try simp only [Int.toNat_natCast]); (repeat (first | rw [if_pos (by omega)] | rw [if_neg (by omega)] | rw [if_pos (by assumption)] | rw [if_neg (by assumption)] | rw [if_pos (True.intro : True)])); (try (first | rfl | (congr 2; omega) | (congr 1; congr 1; omega))); done)
        · refine z_iconst dMod_areSame_15 ?_
          refine z_goto (tgt := 20) dMod_areSame_16 (by decide) ?_
          refine z_iconst dMod_areSame_20 ?_
          refine z_iconst dMod_areSame_21 ?_
          refine z_callV MV_Mod_fails lk_Mod_88 dMod_areSame_22 (k_Mod_fails (by assumption) rfl (by omega) (by omega) (by omega)) rfl rfl (Nat.le_of_ble_eq_true rfl) rfl (by assumption) (Nat.le_of_ble_eq_true rfl) (Nat.le_of_ble_eq_true rfl) (Nat.le_of_eq (Nat.zero_add _)) (Nat.le_of_eq (Nat.zero_add _)) (fun _ _ q => q.elim) ?_
          rintro _ h1 ⟨t9, b8, rfl, ht, p1, g1⟩
          have H1 : zMod G h1 ma S t9 := H.obj (nu := S.2.2.2.2) (th' := t9) p1 g1
          have fz1 : zMfr ma h h1 := zMfr.of0 g1
          obtain ⟨-, n2, ⟨gg, n3, n3a⟩, n4, ⟨f61, n5, n5a⟩, n6, n7⟩ := id H1
          unfold zMfs at n2
          refine z_if_ne (tgt := 50) dMod_areSame_25 (by decide) (by omega) (fun c25 => ?_) (fun c25 => ?_)
          · refine z_iconst dMod_areSame_50 ?_
            refine z_iret rfl rfl dMod_areSame_51 ?_
            first
              | (exfalso; omega)
              | exact zQm.ok H1 (by omega) (by assumption) (by unfold sp_areSame; (try unfold spPut); (try simp only [Int.toNat_natCast]); (repeat (first | rw [if_pos (by omega)] | rw [if_neg (by omega)] | rw [if_pos (by assumption)] | rw [if_neg (by assumption)] | rw [if_pos (True.intro : True)])); (try (first | rfl | (congr 2; omega) | (congr 1; congr 1; omega))); done)
              | exact zQm.b1 H1 (by omega) (by assumption) (by unfold sp_areSame; (try unfold spPut); (try simp only [Int.toNat_natCast]); (repeat (first | rw [if_pos (by omega)] | rw [if_neg (by omega)] | rw [if_pos (by assumption)] | rw [if_neg (by assumption)] | rw [if_pos (True.intro : True)])); (try (first | rfl | (congr 2; omega) | (congr 1; congr 1; omega))); done)
              | exact zQm.b2 H1 (by omega) (by assumption) (by unfold sp_areSame; (try unfold spPut); (try simp only [Int.toNat_natCast]); (repeat (first | rw [if_pos (by omega)] | rw [if_neg (by omega)] | rw [if_pos (by assumption)] | rw [if_neg (by assumption)] | rw [if_pos (True.intro : True)])); (try (first | rfl | (congr 2; omega) | (congr 1; congr 1; omega))); done)
              | exact zQm.b3 H1 (by omega) (by assumption) (by unfold sp_areSame; (try unfold spPut); (try simp only [Int.toNat_natCast]); (repeat (first | rw [if_pos (by omega)] | rw [if_neg (by omega)] | rw [if_pos (by assumption)] | rw [if_neg (by assumption)] | rw [if_pos (True.intro : True)])); (try (first | rfl | (congr 2; omega) | (congr 1; congr 1; omega))); done)
          · obtain ⟨frk, rk1, rk2, rk3, rk4⟩ := id (n6 k (by omega))
            obtain ⟨frj, rj1, rj2, rj3, rj4⟩ := id (n6 j (by omega))
            refine z_aload_n dMod_areSame_28 rfl ?_
            refine z_get (k := 0) fd_Mod (by decide) fl_Mod_11 dMod_areSame_29 (by assumption) (by rfl) ?_
            refine z_iload_n dMod_areSame_32 rfl ?_
            refine z_aald (t := 4) (ty := .array .int) rfl rfl dMod_areSame_33 n3 (by refine ⟨?_, ?_, ?_⟩ <;> omega) ?_
            rw [show (k : Int).toNat = k from rfl, n3a k (by omega)]
            refine z_aload_n dMod_areSame_34 rfl ?_
            refine z_get (k := 0) fd_Mod (by decide) fl_Mod_11 dMod_areSame_35 (by assumption) (by rfl) ?_
            refine z_iload_n dMod_areSame_38 rfl ?_
            refine z_aald (t := 4) (ty := .array .int) rfl rfl dMod_areSame_39 n3 (by refine ⟨?_, ?_, ?_⟩ <;> omega) ?_
            rw [show (j : Int).toNat = j from rfl, n3a j (by omega)]
            refine z_callS MS_Mod_areLike lk_Mod_137 dMod_areSame_40 (k_Mod_areLike (n6 k (by omega)) (n6 j (by omega))) rfl rfl (Nat.le_of_ble_eq_true rfl)  (Nat.le_of_ble_eq_true rfl) (Nat.le_of_ble_eq_true rfl) (Nat.le_of_eq (Nat.zero_add _)) (Nat.le_of_eq (Nat.zero_add _)) (fun _ _ q => q.elim) ?_
            rintro _ _ ⟨b7, rfl, (⟨rfl, m9⟩ | ⟨rfl, m9⟩), rfl⟩
            · refine z_if_eq (tgt := 50) dMod_areSame_43 (by decide) (by omega) (fun c43 => ?_) (fun c43 => ?_)
              · refine z_iconst dMod_areSame_50 ?_
                refine z_iret rfl rfl dMod_areSame_51 ?_
                first
                  | (exfalso; omega)
                  | exact zQm.ok H1 (by omega) (by assumption) (by unfold sp_areSame; (try unfold spPut); (try simp only [Int.toNat_natCast]); (repeat (first | rw [if_pos (by omega)] | rw [if_neg (by omega)] | rw [if_pos (by assumption)] | rw [if_neg (by assumption)] | rw [if_pos (True.intro : True)])); (try (first | rfl | (congr 2; omega) | (congr 1; congr 1; omega))); done)
                  | exact zQm.b1 H1 (by omega) (by assumption) (by unfold sp_areSame; (try unfold spPut); (try simp only [Int.toNat_natCast]); (repeat (first | rw [if_pos (by omega)] | rw [if_neg (by omega)] | rw [if_pos (by assumption)] | rw [if_neg (by assumption)] | rw [if_pos (True.intro : True)])); (try (first | rfl | (congr 2; omega) | (congr 1; congr 1; omega))); done)
                  | exact zQm.b2 H1 (by omega) (by assumption) (by unfold sp_areSame; (try unfold spPut); (try simp only [Int.toNat_natCast]); (repeat (first | rw [if_pos (by omega)] | rw [if_neg (by omega)] | rw [if_pos (by assumption)] | rw [if_neg (by assumption)] | rw [if_pos (True.intro : True)])); (try (first | rfl | (congr 2; omega) | (congr 1; congr 1; omega))); done)
                  | exact zQm.b3 H1 (by omega) (by assumption) (by unfold sp_areSame; (try unfold spPut); (try simp only [Int.toNat_natCast]); (repeat (first | rw [if_pos (by omega)] | rw [if_neg (by omega)] | rw [if_pos (by assumption)] | rw [if_neg (by assumption)] | rw [if_pos (True.intro : True)])); (try (first | rfl | (congr 2; omega) | (congr 1; congr 1; omega))); done)
              · refine z_iconst dMod_areSame_46 ?_
                refine z_goto (tgt := 51) dMod_areSame_47 (by decide) ?_
                refine z_iret rfl rfl dMod_areSame_51 ?_
                first
                  | (exfalso; omega)
                  | exact zQm.ok H1 (by omega) (by assumption) (by unfold sp_areSame; (try unfold spPut); (try simp only [Int.toNat_natCast]); (repeat (first | rw [if_pos (by omega)] | rw [if_neg (by omega)] | rw [if_pos (by assumption)] | rw [if_neg (by assumption)] | rw [if_pos (True.intro : True)])); (try (first | rfl | (congr 2; omega) | (congr 1; congr 1; omega))); done)
                  | exact zQm.b1 H1 (by omega) (by assumption) (by unfold sp_areSame; (try unfold spPut); (try simp only [Int.toNat_natCast]); (repeat (first | rw [if_pos (by omega)] | rw [if_neg (by omega)] | rw [if_pos (by assumption)] | rw [if_neg (by assumption)] | rw [if_pos (True.intro : True)])); (try (first | rfl | (congr 2; omega) | (congr 1; congr 1; omega))); done)
                  | exact zQm.b2 H1 (by omega) (by assumption) (by unfold sp_areSame; (try unfold spPut); (try simp only [Int.toNat_natCast]); (repeat (first | rw [if_pos (by omega)] | rw [if_neg (by omega)] | rw [if_pos (by assumption)] | rw [if_neg (by assumption)] | rw [if_pos (True.intro : True)])); (try (first | rfl | (congr 2; omega) | (congr 1; congr 1; omega))); done)
                  | exact zQm.b3 H1 (by omega) (by assumption) (by unfold sp_areSame; (try unfold spPut); (try simp only [Int.toNat_natCast]); (repeat (first | rw [if_pos (by omega)] | rw [if_neg (by omega)] | rw [if_pos (by assumption)] | rw [if_neg (by assumption)] | rw [if_pos (True.intro : True)])); (try (first | rfl | (congr 2; omega) | (congr 1; congr 1; omega))); done)
            · refine z_if_eq (tgt := 50) dMod_areSame_43 (by decide) (by omega) (fun c43 => ?_) (fun c43 => ?_)
              · refine z_iconst dMod_areSame_50 ?_
                refine z_iret rfl rfl dMod_areSame_51 ?_
                first
                  | (exfalso; omega)
                  | exact zQm.ok H1 (by omega) (by assumption) (by unfold sp_areSame; (try unfold spPut); (try simp only [Int.toNat_natCast]); (repeat (first | rw [if_pos (by omega)] | rw [if_neg (by omega)] | rw [if_pos (by assumption)] | rw [if_neg (by assumption)] | rw [if_pos (True.intro : True)])); (try (first | rfl | (congr 2; omega) | (congr 1; congr 1; omega))); done)
                  | exact zQm.b1 H1 (by omega) (by assumption) (by unfold sp_areSame; (try unfold spPut); (try simp only [Int.toNat_natCast]); (repeat (first | rw [if_pos (by omega)] | rw [if_neg (by omega)] | rw [if_pos (by assumption)] | rw [if_neg (by assumption)] | rw [if_pos (True.intro : True)])); (try (first | rfl | (congr 2; omega) | (congr 1; congr 1; omega))); done)
                  | exact zQm.b2 H1 (by omega) (by assumption) (by unfold sp_areSame; (try unfold spPut); (try simp only [Int.toNat_natCast]); (repeat (first | rw [if_pos (by omega)] | rw [if_neg (by omega)] | rw [if_pos (by assumption)] | rw [if_neg (by assumption)] | rw [if_pos (True.intro : True)])); (try (first | rfl | (congr 2; omega) | (congr 1; congr 1; omega))); done)
                  | exact zQm.b3 H1 (by omega) (by assumption) (by unfold sp_areSame; (try unfold spPut); (try simp only [Int.toNat_natCast]); (repeat (first | rw [if_pos (by omega)] | rw [if_neg (by omega)] | rw [if_pos (by assumption)] | rw [if_neg (by assumption)] | rw [if_pos (True.intro : True)])); (try (first | rfl | (congr 2; omega) | (congr 1; congr 1; omega))); done)
              · refine z_iconst dMod_areSame_46 ?_
                refine z_goto (tgt := 51) dMod_areSame_47 (by decide) ?_
                refine z_iret rfl rfl dMod_areSame_51 ?_
                first
                  | (exfalso; omega)
                  | exact zQm.ok H1 (by omega) (by assumption) (by unfold sp_areSame; (try unfold spPut); (try simp only [Int.toNat_natCast]); (repeat (first | rw [if_pos (by omega)] | rw [if_neg (by omega)] | rw [if_pos (by assumption)] | rw [if_neg (by assumption)] | rw [if_pos (True.intro : True)])); (try (first | rfl | (congr 2; omega) | (congr 1; congr 1; omega))); done)
                  | exact zQm.b1 H1 (by omega) (by assumption) (by unfold sp_areSame; (try unfold spPut); (try simp only [Int.toNat_natCast]); (repeat (first | rw [if_pos (by omega)] | rw [if_neg (by omega)] | rw [if_pos (by assumption)] | rw [if_neg (by assumption)] | rw [if_pos (True.intro : True)])); (try (first | rfl | (congr 2; omega) | (congr 1; congr 1; omega))); done)
                  | exact zQm.b2 H1 (by omega) (by assumption) (by unfold sp_areSame; (try unfold spPut); (try simp only [Int.toNat_natCast]); (repeat (first | rw [if_pos (by omega)] | rw [if_neg (by omega)] | rw [if_pos (by assumption)] | rw [if_neg (by assumption)] | rw [if_pos (True.intro : True)])); (try (first | rfl | (congr 2; omega) | (congr 1; congr 1; omega))); done)
                  | exact zQm.b3 H1 (by omega) (by assumption) (by unfold sp_areSame; (try unfold spPut); (try simp only [Int.toNat_natCast]); (repeat (first | rw [if_pos (by omega)] | rw [if_neg (by omega)] | rw [if_pos (by assumption)] | rw [if_neg (by assumption)] | rw [if_pos (True.intro : True)])); (try (first | rfl | (congr 2; omega) | (congr 1; congr 1; omega))); done)
theorem k_Mod_look {p w : Int} (H : zMod G h ma S th) (z_p : zI32 p) (z_w : zI32 w)  : zM G l hMod_look yMod_look 3 [.ref (ma 0), zi p, zi w] h (zQm G ma h (1) (2) (3) (sp_look S p w)) zNo 0 0 := by
  obtain ⟨m1, m2, ⟨g, m3, m3a⟩, m4, ⟨f6, m5, m5a⟩, m6, m7⟩ := id H
  unfold zMfs at m2
  refine zM.of [some (.ref (ma 0)), some (zi p), some (zi w), none] (by decide +kernel) rfl (by decide) rfl (Nat.le_of_ble_eq_true rfl) rfl ?_
  refine z_aload_n dMod_look_0 rfl ?_
  refine z_iload_n dMod_look_1 rfl ?_
  refine z_callS MS_Mod_isNo lk_Mod_81 dMod_look_2 (k_Mod_isNo (by omega)) rfl rfl (Nat.le_of_ble_eq_true rfl)  (Nat.le_of_ble_eq_true rfl) (Nat.le_of_ble_eq_true rfl) (Nat.le_of_eq (Nat.zero_add _)) (Nat.le_of_eq (Nat.zero_add _)) (fun _ _ q => q.elim) ?_
  rintro _ _ ⟨n9, rfl, hn9, rfl⟩
  refine z_iload_n dMod_look_5 rfl ?_
  refine z_iconst dMod_look_6 ?_
  refine z_iconst dMod_look_7 ?_
  refine z_callS MS_Mod_isOut lk_Mod_41 dMod_look_8 (k_Mod_isOut (by omega) (by omega) (by omega)) rfl rfl (Nat.le_of_ble_eq_true rfl)  (Nat.le_of_ble_eq_true rfl) (Nat.le_of_ble_eq_true rfl) (Nat.le_of_eq (Nat.zero_add _)) (Nat.le_of_eq (Nat.zero_add _)) (fun _ _ q => q.elim) ?_
  rintro _ _ ⟨o9, rfl, ho9, rfl⟩
  refine z_iconst dMod_look_11 ?_
  refine z_callV MV_Mod_fails lk_Mod_88 dMod_look_12 (k_Mod_fails (by assumption) rfl (by omega) (by omega) (by omega)) rfl rfl (Nat.le_of_ble_eq_true rfl) rfl (by assumption) (Nat.le_of_ble_eq_true rfl) (Nat.le_of_ble_eq_true rfl) (Nat.le_of_eq (Nat.zero_add _)) (Nat.le_of_eq (Nat.zero_add _)) (fun _ _ q => q.elim) ?_
  rintro _ h1 ⟨t9, b8, rfl, ht, p1, g1⟩
  have H1 : zMod G h1 ma S t9 := H.obj (nu := S.2.2.2.2) (th' := t9) p1 g1
  have fz1 : zMfr ma h h1 := zMfr.of0 g1
  obtain ⟨-, n2, ⟨gg, n3, n3a⟩, n4, ⟨f61, n5, n5a⟩, n6, n7⟩ := id H1
  unfold zMfs at n2
  refine z_if_eq (tgt := 20) dMod_look_15 (by decide) (by omega) (fun c15 => ?_) (fun c15 => ?_)
  · obtain ⟨k, rfl⟩ := Int.eq_ofNat_of_zero_le (show 0 ≤ p by omega)
    obtain ⟨frk, rk1, rk2, rk3, rk4⟩ := id (n6 k (by omega))
    have ezk : ∀ i : Int, 0 ≤ i → i < ((S.1 k).length : Int) → frk i.toNat = zAt (S.1 k) i := fun i x1 x2 => by rw [rk3 _ (by omega), zAt_eq x1 x2]
    refine z_aload_n dMod_look_20 rfl ?_
    refine z_get (k := 0) fd_Mod (by decide) fl_Mod_11 dMod_look_21 (by assumption) (by rfl) ?_
    refine z_iload_n dMod_look_24 rfl ?_
    refine z_aald (t := 4) (ty := .array .int) rfl rfl dMod_look_25 n3 (by refine ⟨?_, ?_, ?_⟩ <;> omega) ?_
    rw [show (k : Int).toNat = k from rfl, n3a k (by omega)]
    refine z_astore_n dMod_look_26 (Nat.le_of_ble_eq_true rfl) ?_
    refine z_aload_n dMod_look_27 rfl ?_
    refine z_alenI dMod_look_28 (by assumption) ?_
    refine z_if_ne (tgt := 58) dMod_look_29 (by decide) (by omega) (fun c29 => ?_) (fun c29 => ?_)
    · refine z_aload_n dMod_look_58 rfl ?_
      refine z_iload_n dMod_look_59 rfl ?_
      refine z_callS MS_Mod_isAtEnd lk_Mod_99 dMod_look_60 (k_Mod_isAtEnd (by omega)) rfl rfl (Nat.le_of_ble_eq_true rfl)  (Nat.le_of_ble_eq_true rfl) (Nat.le_of_ble_eq_true rfl) (Nat.le_of_eq (Nat.zero_add _)) (Nat.le_of_eq (Nat.zero_add _)) (fun _ _ q => q.elim) ?_
      rintro _ _ ⟨b7, rfl, hb7, rfl⟩
      refine z_if_eq (tgt := 73) dMod_look_63 (by decide) (by omega) (fun c63 => ?_) (fun c63 => ?_)
      · refine z_iconst dMod_look_73 ?_
        refine z_iald dMod_look_74 (by assumption) (by refine ⟨?_, ?_, ?_⟩ <;> omega) ?_
        rw [ezk _ (by omega) (by omega)]
        refine z_iret rfl rfl dMod_look_75 ?_
        rcases (show t9 = 0 ∨ t9 = 1 ∨ t9 = 2 ∨ t9 = 3 by omega) with t0 | t0 | t0 | t0
        all_goals first
          | (exfalso; omega)
          | exact zQm.ok H2 (by omega) (by assumption) (by unfold sp_look; (try unfold spPut); (try simp only [Int.toNat_natCast]); (repeat (first | rw [if_pos (by omega)] | rw [if_neg (by omega)] | rw [if_pos (by assumption)] | rw [if_neg (by assumption)] | rw [if_pos (True.intro : True)])); (try (first | rfl | (congr 2; omega) | (congr 1; congr 1; omega))); done)
          | exact zQm.b1 H2 (by omega) (by assumption) (by unfold sp_look; (try unfold spPut); (try simp only [Int.toNat_natCast]); (repeat (first | rw [if_pos (by omega)] | rw [if_neg (by omega)] | rw [if_pos (by assumption)] | rw [if_neg (by assumption)] | rw [if_pos (True.intro : True)])); (try (first | rfl | (congr 2; omega) | (congr 1; congr 1; omega))); done)
          | exact zQm.b2 H2 (by omega) (by assumption) (by unfold sp_look; (try unfold spPut); (try simp only [Int.toNat_natCast]); (repeat (first | rw [if_pos (by omega)] | rw [if_neg (by omega)] | rw [if_pos (by assumption)] | rw [if_neg (by assumption)] | rw [if_pos (True.intro : True)])); (try (first | rfl | (congr 2; omega) | (congr 1; congr 1; omega))); done)
          | exact zQm.b3 H2 (by omega) (by assumption) (by unfold sp_look; (try unfold spPut); (try simp only [Int.toNat_natCast]); (repeat (first | rw [if_pos (by omega)] | rw [if_neg (by omega)] | rw [if_pos (by assumption)] | rw [if_neg (by assumption)] | rw [if_pos (True.intro : True)])); (try (first | rfl | (congr 2; omega) | (congr 1; congr 1; omega))); done)
          | exact zQm.ok H1 (by omega) (by assumption) (by unfold sp_look; (try unfold spPut); (try simp only [Int.toNat_natCast]); (repeat (first | rw [if_pos (by omega)] | rw [if_neg (by omega)] | rw [if_pos (by assumption)] | rw [if_neg (by assumption)] | rw [if_pos (True.intro : True)])); (try (first | rfl | (congr 2; omega) | (congr 1; congr 1; omega))); done)
          | exact zQm.b1 H1 (by omega) (by assumption) (by unfold sp_look; (try unfold spPut); (try simp only [Int.toNat_natCast]); (repeat (first | rw [if_pos (by omega)] | rw [if_neg (by omega)] | rw [if_pos (by assumption)] | rw [if_neg (by assumption)] | rw [if_pos (True.intro : True)])); (try (first | rfl | (congr 2; omega) | (congr 1; congr 1; omega))); done)
          | exact zQm.b2 H1 (by omega) (by assumption) (by unfold sp_look; (try unfold spPut); (try simp only [Int.toNat_natCast]); (repeat (first | rw [if_pos (by omega)] | rw [if_neg (by omega)] | rw [if_pos (by assumption)] | rw [if_neg (by assumption)] | rw [if_pos (True.intro : True)])); (try (first | rfl | (congr 2; omega) | (congr 1; congr 1; omega))); done)
          | exact zQm.b3 H1 (by omega) (by assumption) (by unfold sp_look; (try unfold spPut); (try simp only [Int.toNat_natCast]); (repeat (first | rw [if_pos (by omega)] | rw [if_neg (by omega)] | rw [if_pos (by assumption)] | rw [if_neg (by assumption)] | rw [if_pos (True.intro : True)])); (try (first | rfl | (congr 2; omega) | (congr 1; congr 1; omega))); done)
      · refine z_aload_n dMod_look_66 rfl ?_
        refine z_alenI dMod_look_67 (by assumption) ?_
        refine z_iconst dMod_look_68 ?_
        refine z_isub dMod_look_69 ?_
        refine z_goto (tgt := 74) dMod_look_70 (by decide) ?_
        refine z_iald dMod_look_74 (by assumption) (by refine ⟨?_, ?_, ?_⟩ <;> omega) ?_
        rw [ezk _ (by omega) (by omega)]
        refine z_iret rfl rfl dMod_look_75 ?_
        rcases (show t9 = 0 ∨ t9 = 1 ∨ t9 = 2 ∨ t9 = 3 by omega) with t0 | t0 | t0 | t0
        all_goals first
          | (exfalso; omega)
          | exact zQm.ok H2 (by omega) (by assumption) (by unfold sp_look; (try unfold spPut); (try simp only [Int.toNat_natCast]); (repeat (first | rw [if_pos (by omega)] | rw [if_neg (by omega)] | rw [if_pos (by assumption)] | rw [if_neg (by assumption)] | rw [if_pos (True.intro : True)])); (try (first | rfl | (congr 2; omega) | (congr 1; congr 1; omega))); done)
          | exact zQm.b1 H2 (by omega) (by assumption) (by unfold sp_look; (try unfold spPut); (try simp only [Int.toNat_natCast]); (repeat (first | rw [if_pos (by omega)] | rw [if_neg (by omega)] | rw [if_pos (by assumption)] | rw [if_neg (by assumption)] | rw [if_pos (True.intro : True)])); (try (first | rfl | (congr 2; omega) | (congr 1; congr 1; omega))); done)
          | exact zQm.b2 H2 (by omega) (by assumption) (by unfold sp_look; (try unfold spPut); (try simp only [Int.toNat_natCast]); (repeat (first | rw [if_pos (by omega)] | rw [if_neg (by omega)] | rw [if_pos (by assumption)] | rw [if_neg (by assumption)] | rw [if_pos (True.intro : True)])); (try (first | rfl | (congr 2; omega) | (congr 1; congr 1; omega))); done)
          | exact zQm.b3 H2 (by omega) (by assumption) (by unfold sp_look; (try unfold spPut); (try simp only [Int.toNat_natCast]); (repeat (first | rw [if_pos (by omega)] | rw [if_neg (by omega)] | rw [if_pos (by assumption)] | rw [if_neg (by assumption)] | rw [if_pos (True.intro : True)])); (try (first | rfl | (congr 2; omega) | (congr 1; congr 1; omega))); done)
          | exact zQm.ok H1 (by omega) (by assumption) (by unfold sp_look; (try unfold spPut); (try simp only [Int.toNat_natCast]); (repeat (first | rw [if_pos (by omega)] | rw [if_neg (by omega)] | rw [if_pos (by assumption)] | rw [if_neg (by assumption)] | rw [if_pos (True.intro : True)])); (try (first | rfl | (congr 2; omega) | (congr 1; congr 1; omega))); done)
          | exact zQm.b1 H1 (by omega) (by assumption) (by unfold sp_look; (try unfold spPut); (try simp only [Int.toNat_natCast]); (repeat (first | rw [if_pos (by omega)] | rw [if_neg (by omega)] | rw [if_pos (by assumption)] | rw [if_neg (by assumption)] | rw [if_pos (True.intro : True)])); (try (first | rfl | (congr 2; omega) | (congr 1; congr 1; omega))); done)
          | exact zQm.b2 H1 (by omega) (by assumption) (by unfold sp_look; (try unfold spPut); (try simp only [Int.toNat_natCast]); (repeat (first | rw [if_pos (by omega)] | rw [if_neg (by omega)] | rw [if_pos (by assumption)] | rw [if_neg (by assumption)] | rw [if_pos (True.intro : True)])); (try (first | rfl | (congr 2; omega) | (congr 1; congr 1; omega))); done)
          | exact zQm.b3 H1 (by omega) (by assumption) (by unfold sp_look; (try unfold spPut); (try simp only [Int.toNat_natCast]); (repeat (first | rw [if_pos (by omega)] | rw [if_neg (by omega)] | rw [if_pos (by assumption)] | rw [if_neg (by assumption)] | rw [if_pos (True.intro : True)])); (try (first | rfl | (congr 2; omega) | (congr 1; congr 1; omega))); done)
    · refine z_iload_n dMod_look_32 rfl ?_
      refine z_iconst dMod_look_33 ?_
      refine z_icmp_eq (tgt := 47) dMod_look_34 (by decide) (by omega) (by omega) (fun c34 => ?_) (fun c34 => ?_)
      · refine z_sipush dMod_look_47 rfl ?_
        refine z_goto (tgt := 57) dMod_look_50 (by decide) ?_
        refine z_iret rfl rfl dMod_look_57 ?_
        rcases (show t9 = 0 ∨ t9 = 1 ∨ t9 = 2 ∨ t9 = 3 by omega) with t0 | t0 | t0 | t0
        all_goals first
          | (exfalso; omega)
          | exact zQm.ok H2 (by omega) (by assumption) (by unfold sp_look; (try unfold spPut); (try simp only [Int.toNat_natCast]); (repeat (first | rw [if_pos (by omega)] | rw [if_neg (by omega)] | rw [if_pos (by assumption)] | rw [if_neg (by assumption)] | rw [if_pos (True.intro : True)])); (try (first | rfl | (congr 2; omega) | (congr 1; congr 1; omega))); done)
          | exact zQm.b1 H2 (by omega) (by assumption) (by unfold sp_look; (try unfold spPut); (try simp only [Int.toNat_natCast]); (repeat (first | rw [if_pos (by omega)] | rw [if_neg (by omega)] | rw [if_pos (by assumption)] | rw [if_neg (by assumption)] | rw [if_pos (True.intro : True)])); (try (first | rfl | (congr 2; omega) | (congr 1; congr 1; omega))); done)
          | exact zQm.b2 H2 (by omega) (by assumption) (by unfold sp_look; (try unfold spPut); (try simp only [Int.toNat_natCast]); (repeat (first | rw [if_pos (by omega)] | rw [if_neg (by omega)] | rw [if_pos (by assumption)] | rw [if_neg (by assumption)] | rw [if_pos (True.intro : True)])); (try (first | rfl | (congr 2; omega) | (congr 1; congr 1; omega))); done)
          | exact zQm.b3 H2 (by omega) (by assumption) (by unfold sp_look; (try unfold spPut); (try simp only [Int.toNat_natCast]); (repeat (first | rw [if_pos (by omega)] | rw [if_neg (by omega)] | rw [if_pos (by assumption)] | rw [if_neg (by assumption)] | rw [if_pos (True.intro : True)])); (try (first | rfl | (congr 2; omega) | (congr 1; congr 1; omega))); done)
          | exact zQm.ok H1 (by omega) (by assumption) (by unfold sp_look; (try unfold spPut); (try simp only [Int.toNat_natCast]); (repeat (first | rw [if_pos (by omega)] | rw [if_neg (by omega)] | rw [if_pos (by assumption)] | rw [if_neg (by assumption)] | rw [if_pos (True.intro : True)])); (try (first | rfl | (congr 2; omega) | (congr 1; congr 1; omega))); done)
          | exact zQm.b1 H1 (by omega) (by assumption) (by unfold sp_look; (try unfold spPut); (try simp only [Int.toNat_natCast]); (repeat (first | rw [if_pos (by omega)] | rw [if_neg (by omega)] | rw [if_pos (by assumption)] | rw [if_neg (by assumption)] | rw [if_pos (True.intro : True)])); (try (first | rfl | (congr 2; omega) | (congr 1; congr 1; omega))); done)
          | exact zQm.b2 H1 (by omega) (by assumption) (by unfold sp_look; (try unfold spPut); (try simp only [Int.toNat_natCast]); (repeat (first | rw [if_pos (by omega)] | rw [if_neg (by omega)] | rw [if_pos (by assumption)] | rw [if_neg (by assumption)] | rw [if_pos (True.intro : True)])); (try (first | rfl | (congr 2; omega) | (congr 1; congr 1; omega))); done)
          | exact zQm.b3 H1 (by omega) (by assumption) (by unfold sp_look; (try unfold spPut); (try simp only [Int.toNat_natCast]); (repeat (first | rw [if_pos (by omega)] | rw [if_neg (by omega)] | rw [if_pos (by assumption)] | rw [if_neg (by assumption)] | rw [if_pos (True.intro : True)])); (try (first | rfl | (congr 2; omega) | (congr 1; congr 1; omega))); done)
      · refine z_iload_n dMod_look_37 rfl ?_
        refine z_iconst dMod_look_38 ?_
        refine z_icmp_eq (tgt := 47) dMod_look_39 (by decide) (by omega) (by omega) (fun c39 => ?_) (fun c39 => ?_)
        · refine z_sipush dMod_look_47 rfl ?_
          refine z_goto (tgt := 57) dMod_look_50 (by decide) ?_
          refine z_iret rfl rfl dMod_look_57 ?_
          rcases (show t9 = 0 ∨ t9 = 1 ∨ t9 = 2 ∨ t9 = 3 by omega) with t0 | t0 | t0 | t0
          all_goals first
            | (exfalso; omega)
            | exact zQm.ok H2 (by omega) (by assumption) (by unfold sp_look; (try unfold spPut); (try simp only [Int.toNat_natCast]); (repeat (first | rw [if_pos (by omega)] | rw [if_neg (by omega)] | rw [if_pos (by assumption)] | rw [if_neg (by assumption)] | rw [if_pos (True.intro : True)])); (try (first | rfl | (congr 2; omega) | (congr 1; congr 1; omega))); done)
            | exact zQm.b1 H2 (by omega) (by assumption) (by unfold sp_look; (try unfold spPut); (try simp only [Int.toNat_natCast]); (repeat (first | rw [if_pos (by omega)] | rw [if_neg (by omega)] | rw [if_pos (by assumption)] | rw [if_neg (by assumption)] | rw [if_pos (True.intro : True)])); (try (first | rfl | (congr 2; omega) | (congr 1; congr 1; omega))); done)
            | exact zQm.b2 H2 (by omega) (by assumption) (by unfold sp_look; (try unfold spPut); (try simp only [Int.toNat_natCast]); (repeat (first | rw [if_pos (by omega)] | rw [if_neg (by omega)] | rw [if_pos (by assumption)] | rw [if_neg (by assumption)] | rw [if_pos (True.intro : True)])); (try (first | rfl | (congr 2; omega) | (congr 1; congr 1; omega))); done)
            | exact zQm.b3 H2 (by omega) (by assumption) (by unfold sp_look; (try unfold spPut); (try simp only [Int.toNat_natCast]); (repeat (first | rw [if_pos (by omega)] | rw [if_neg (by omega)] | rw [if_pos (by assumption)] | rw [if_neg (by assumption)] | rw [if_pos (True.intro : True)])); (try (first | rfl | (congr 2; omega) | (congr 1; congr 1; omega))); done)
            | exact zQm.ok H1 (by omega) (by assumption) (by unfold sp_look; (try unfold spPut); (try simp only [Int.toNat_natCast]); (repeat (first | rw [if_pos (by omega)] | rw [if_neg (by omega)] | rw [if_pos (by assumption)] | rw [if_neg (by assumption)] | rw [if_pos (True.intro : True)])); (try (first | rfl | (congr 2; omega) | (congr 1; congr 1; omega))); done)
            | exact zQm.b1 H1 (by omega) (by assumption) (by unfold sp_look; (try unfold spPut); (try simp only [Int.toNat_natCast]); (repeat (first | rw [if_pos (by omega)] | rw [if_neg (by omega)] | rw [if_pos (by assumption)] | rw [if_neg (by assumption)] | rw [if_pos (True.intro : True)])); (try (first | rfl | (congr 2; omega) | (congr 1; congr 1; omega))); done)
            | exact zQm.b2 H1 (by omega) (by assumption) (by unfold sp_look; (try unfold spPut); (try simp only [Int.toNat_natCast]); (repeat (first | rw [if_pos (by omega)] | rw [if_neg (by omega)] | rw [if_pos (by assumption)] | rw [if_neg (by assumption)] | rw [if_pos (True.intro : True)])); (try (first | rfl | (congr 2; omega) | (congr 1; congr 1; omega))); done)
            | exact zQm.b3 H1 (by omega) (by assumption) (by unfold sp_look; (try unfold spPut); (try simp only [Int.toNat_natCast]); (repeat (first | rw [if_pos (by omega)] | rw [if_neg (by omega)] | rw [if_pos (by assumption)] | rw [if_neg (by assumption)] | rw [if_pos (True.intro : True)])); (try (first | rfl | (congr 2; omega) | (congr 1; congr 1; omega))); done)
        · refine z_iload_n dMod_look_42 rfl ?_
          refine z_iconst dMod_look_43 ?_
          refine z_icmp_ne (tgt := 53) dMod_look_44 (by decide) (by omega) (by omega) (fun c44 => ?_) (fun c44 => ?_)
          · refine z_aload_n dMod_look_53 rfl ?_
            refine z_callV MV_Mod_refused lk_Mod_92 dMod_look_54 (k_Mod_refused n2 rfl rfl) rfl rfl (Nat.le_of_ble_eq_true rfl) rfl (by assumption) (Nat.le_of_ble_eq_true rfl) (Nat.le_of_ble_eq_true rfl) (Nat.le_of_eq (Nat.zero_add _)) (Nat.le_of_eq (Nat.zero_add _)) (fun _ _ q => q.elim) ?_
            rintro _ h2 ⟨rfl, p2, g2⟩
            have H2 : zMod G h2 ma (zsRef S) t9 := H1.obj (nu := zup S.2.2.2.2 1 (S.2.2.2.2 1 + 1)) p2 g2
            have fz2 : zMfr ma h h2 := zMfr.of0 (fun q hq => (g2 q hq).trans (g1 q hq))
            refine z_iret rfl rfl dMod_look_57 ?_
            rcases (show t9 = 0 ∨ t9 = 1 ∨ t9 = 2 ∨ t9 = 3 by omega) with t0 | t0 | t0 | t0
            all_goals first
              | (exfalso; omega)
              | exact zQm.ok H2 (by omega) (by assumption) (by unfold sp_look; (try unfold spPut); (try simp only [Int.toNat_natCast]); (repeat (first | rw [if_pos (by omega)] | rw [if_neg (by omega)] | rw [if_pos (by assumption)] | rw [if_neg (by assumption)] | rw [if_pos (True.intro : True)])); (try (first | rfl | (congr 2; omega) | (congr 1; congr 1; omega))); done)
              | exact zQm.b1 H2 (by omega) (by assumption) (by unfold sp_look; (try unfold spPut); (try simp only [Int.toNat_natCast]); (repeat (first | rw [if_pos (by omega)] | rw [if_neg (by omega)] | rw [if_pos (by assumption)] | rw [if_neg (by assumption)] | rw [if_pos (True.intro : True)])); (try (first | rfl | (congr 2; omega) | (congr 1; congr 1; omega))); done)
              | exact zQm.b2 H2 (by omega) (by assumption) (by unfold sp_look; (try unfold spPut); (try simp only [Int.toNat_natCast]); (repeat (first | rw [if_pos (by omega)] | rw [if_neg (by omega)] | rw [if_pos (by assumption)] | rw [if_neg (by assumption)] | rw [if_pos (True.intro : True)])); (try (first | rfl | (congr 2; omega) | (congr 1; congr 1; omega))); done)
              | exact zQm.b3 H2 (by omega) (by assumption) (by unfold sp_look; (try unfold spPut); (try simp only [Int.toNat_natCast]); (repeat (first | rw [if_pos (by omega)] | rw [if_neg (by omega)] | rw [if_pos (by assumption)] | rw [if_neg (by assumption)] | rw [if_pos (True.intro : True)])); (try (first | rfl | (congr 2; omega) | (congr 1; congr 1; omega))); done)
              | exact zQm.ok H1 (by omega) (by assumption) (by unfold sp_look; (try unfold spPut); (try simp only [Int.toNat_natCast]); (repeat (first | rw [if_pos (by omega)] | rw [if_neg (by omega)] | rw [if_pos (by assumption)] | rw [if_neg (by assumption)] | rw [if_pos (True.intro : True)])); (try (first | rfl | (congr 2; omega) | (congr 1; congr 1; omega))); done)
              | exact zQm.b1 H1 (by omega) (by assumption) (by unfold sp_look; (try unfold spPut); (try simp only [Int.toNat_natCast]); (repeat (first | rw [if_pos (by omega)] | rw [if_neg (by omega)] | rw [if_pos (by assumption)] | rw [if_neg (by assumption)] | rw [if_pos (True.intro : True)])); (try (first | rfl | (congr 2; omega) | (congr 1; congr 1; omega))); done)
              | exact zQm.b2 H1 (by omega) (by assumption) (by unfold sp_look; (try unfold spPut); (try simp only [Int.toNat_natCast]); (repeat (first | rw [if_pos (by omega)] | rw [if_neg (by omega)] | rw [if_pos (by assumption)] | rw [if_neg (by assumption)] | rw [if_pos (True.intro : True)])); (try (first | rfl | (congr 2; omega) | (congr 1; congr 1; omega))); done)
              | exact zQm.b3 H1 (by omega) (by assumption) (by unfold sp_look; (try unfold spPut); (try simp only [Int.toNat_natCast]); (repeat (first | rw [if_pos (by omega)] | rw [if_neg (by omega)] | rw [if_pos (by assumption)] | rw [if_neg (by assumption)] | rw [if_pos (True.intro : True)])); (try (first | rfl | (congr 2; omega) | (congr 1; congr 1; omega))); done)
          · refine z_sipush dMod_look_47 rfl ?_
            refine z_goto (tgt := 57) dMod_look_50 (by decide) ?_
            refine z_iret rfl rfl dMod_look_57 ?_
            rcases (show t9 = 0 ∨ t9 = 1 ∨ t9 = 2 ∨ t9 = 3 by omega) with t0 | t0 | t0 | t0
            all_goals first
              | (exfalso; omega)
              | exact zQm.ok H2 (by omega) (by assumption) (by unfold sp_look; (try unfold spPut); (try simp only [Int.toNat_natCast]); (repeat (first | rw [if_pos (by omega)] | rw [if_neg (by omega)] | rw [if_pos (by assumption)] | rw [if_neg (by assumption)] | rw [if_pos (True.intro : True)])); (try (first | rfl | (congr 2; omega) | (congr 1; congr 1; omega))); done)
              | exact zQm.b1 H2 (by omega) (by assumption) (by unfold sp_look; (try unfold spPut); (try simp only [Int.toNat_natCast]); (repeat (first | rw [if_pos (by omega)] | rw [if_neg (by omega)] | rw [if_pos (by assumption)] | rw [if_neg (by assumption)] | rw [if_pos (True.intro : True)])); (try (first | rfl | (congr 2; omega) | (congr 1; congr 1; omega))); done)
              | exact zQm.b2 H2 (by omega) (by assumption) (by unfold sp_look; (try unfold spPut); (try simp only [Int.toNat_natCast]); (repeat (first | rw [if_pos (by omega)] | rw [if_neg (by omega)] | rw [if_pos (by assumption)] | rw [if_neg (by assumption)] | rw [if_pos (True.intro : True)])); (try (first | rfl | (congr 2; omega) | (congr 1; congr 1; omega))); done)
              | exact zQm.b3 H2 (by omega) (by assumption) (by unfold sp_look; (try unfold spPut); (try simp only [Int.toNat_natCast]); (repeat (first | rw [if_pos (by omega)] | rw [if_neg (by omega)] | rw [if_pos (by assumption)] | rw [if_neg (by assumption)] | rw [if_pos (True.intro : True)])); (try (first | rfl | (congr 2; omega) | (congr 1; congr 1; omega))); done)
              | exact zQm.ok H1 (by omega) (by assumption) (by unfold sp_look; (try unfold spPut); (try simp only [Int.toNat_natCast]); (repeat (first | rw [if_pos (by omega)] | rw [if_neg (by omega)] | rw [if_pos (by assumption)] | rw [if_neg (by assumption)] | rw [if_pos (True.intro : True)])); (try (first | rfl | (congr 2; omega) | (congr 1; congr 1; omega))); done)
              | exact zQm.b1 H1 (by omega) (by assumption) (by unfold sp_look; (try unfold spPut); (try simp only [Int.toNat_natCast]); (repeat (first | rw [if_pos (by omega)] | rw [if_neg (by omega)] | rw [if_pos (by assumption)] | rw [if_neg (by assumption)] | rw [if_pos (True.intro : True)])); (try (first | rfl | (congr 2; omega) | (congr 1; congr 1; omega))); done)
              | exact zQm.b2 H1 (by omega) (by assumption) (by unfold sp_look; (try unfold spPut); (try simp only [Int.toNat_natCast]); (repeat (first | rw [if_pos (by omega)] | rw [if_neg (by omega)] | rw [if_pos (by assumption)] | rw [if_neg (by assumption)] | rw [if_pos (True.intro : True)])); (try (first | rfl | (congr 2; omega) | (congr 1; congr 1; omega))); done)
              | exact zQm.b3 H1 (by omega) (by assumption) (by unfold sp_look; (try unfold spPut); (try simp only [Int.toNat_natCast]); (repeat (first | rw [if_pos (by omega)] | rw [if_neg (by omega)] | rw [if_pos (by assumption)] | rw [if_neg (by assumption)] | rw [if_pos (True.intro : True)])); (try (first | rfl | (congr 2; omega) | (congr 1; congr 1; omega))); done)
  · refine z_iconst dMod_look_18 ?_
    refine z_iret rfl rfl dMod_look_19 ?_
    rcases (show t9 = 0 ∨ t9 = 1 ∨ t9 = 2 ∨ t9 = 3 by omega) with t0 | t0 | t0 | t0
    all_goals first
      | (exfalso; omega)
      | exact zQm.ok H2 (by omega) (by assumption) (by unfold sp_look; (try unfold spPut); (try simp only [Int.toNat_natCast]); (repeat (first | rw [if_pos (by omega)] | rw [if_neg (by omega)] | rw [if_pos (by assumption)] | rw [if_neg (by assumption)] | rw [if_pos (True.intro : True)])); (try (first | rfl | (congr 2; omega) | (congr 1; congr 1; omega))); done)
      | exact zQm.b1 H2 (by omega) (by assumption) (by unfold sp_look; (try unfold spPut); (try simp only [Int.toNat_natCast]); (repeat (first | rw [if_pos (by omega)] | rw [if_neg (by omega)] | rw [if_pos (by assumption)] | rw [if_neg (by assumption)] | rw [if_pos (True.intro : True)])); (try (first | rfl | (congr 2; omega) | (congr 1; congr 1; omega))); done)
      | exact zQm.b2 H2 (by omega) (by assumption) (by unfold sp_look; (try unfold spPut); (try simp only [Int.toNat_natCast]); (repeat (first | rw [if_pos (by omega)] | rw [if_neg (by omega)] | rw [if_pos (by assumption)] | rw [if_neg (by assumption)] | rw [if_pos (True.intro : True)])); (try (first | rfl | (congr 2; omega) | (congr 1; congr 1; omega))); done)
      | exact zQm.b3 H2 (by omega) (by assumption) (by unfold sp_look; (try unfold spPut); (try simp only [Int.toNat_natCast]); (repeat (first | rw [if_pos (by omega)] | rw [if_neg (by omega)] | rw [if_pos (by assumption)] | rw [if_neg (by assumption)] | rw [if_pos (True.intro : True)])); (try (first | rfl | (congr 2; omega) | (congr 1; congr 1; omega))); done)
      | exact zQm.ok H1 (by omega) (by assumption) (by unfold sp_look; (try unfold spPut); (try simp only [Int.toNat_natCast]); (repeat (first | rw [if_pos (by omega)] | rw [if_neg (by omega)] | rw [if_pos (by assumption)] | rw [if_neg (by assumption)] | rw [if_pos (True.intro : True)])); (try (first | rfl | (congr 2; omega) | (congr 1; congr 1; omega))); done)
      | exact zQm.b1 H1 (by omega) (by assumption) (by unfold sp_look; (try unfold spPut); (try simp only [Int.toNat_natCast]); (repeat (first | rw [if_pos (by omega)] | rw [if_neg (by omega)] | rw [if_pos (by assumption)] | rw [if_neg (by assumption)] | rw [if_pos (True.intro : True)])); (try (first | rfl | (congr 2; omega) | (congr 1; congr 1; omega))); done)
      | exact zQm.b2 H1 (by omega) (by assumption) (by unfold sp_look; (try unfold spPut); (try simp only [Int.toNat_natCast]); (repeat (first | rw [if_pos (by omega)] | rw [if_neg (by omega)] | rw [if_pos (by assumption)] | rw [if_neg (by assumption)] | rw [if_pos (True.intro : True)])); (try (first | rfl | (congr 2; omega) | (congr 1; congr 1; omega))); done)
      | exact zQm.b3 H1 (by omega) (by assumption) (by unfold sp_look; (try unfold spPut); (try simp only [Int.toNat_natCast]); (repeat (first | rw [if_pos (by omega)] | rw [if_neg (by omega)] | rw [if_pos (by assumption)] | rw [if_neg (by assumption)] | rw [if_pos (True.intro : True)])); (try (first | rfl | (congr 2; omega) | (congr 1; congr 1; omega))); done)
theorem k_Mod_set {p q x : Int} (H : zMod G h ma S th) (z_p : zI32 p) (z_q : zI32 q) (z_x : zI32 x)  : zM G l hMod_set yMod_set 3 [.ref (ma 0), zi p, zi q, zi x] h (zQm G ma h (1) (2) (3) (sp_set S p q x)) zNo 0 0 := by
  obtain ⟨m1, m2, ⟨g, m3, m3a⟩, m4, ⟨f6, m5, m5a⟩, m6, m7⟩ := id H
  unfold zMfs at m2
  refine zM.of [some (.ref (ma 0)), some (zi p), some (zi q), some (zi x), none] (by decide +kernel) rfl (by decide) rfl (Nat.le_of_ble_eq_true rfl) rfl ?_
  refine z_aload_n dMod_set_0 rfl ?_
  refine z_iload_n dMod_set_1 rfl ?_
  refine z_callS MS_Mod_isNo lk_Mod_81 dMod_set_2 (k_Mod_isNo (by omega)) rfl rfl (Nat.le_of_ble_eq_true rfl)  (Nat.le_of_ble_eq_true rfl) (Nat.le_of_ble_eq_true rfl) (Nat.le_of_eq (Nat.zero_add _)) (Nat.le_of_eq (Nat.zero_add _)) (fun _ _ q => q.elim) ?_
  rintro _ _ ⟨n9k, rfl, (⟨rfl, hn9k⟩ | ⟨rfl, hn9k⟩), rfl⟩
  · refine z_if_ne (tgt := 17) dMod_set_5 (by decide) (by omega) (fun c5 => ?_) (fun c5 => ?_)
    · refine z_iconst dMod_set_17 ?_
      refine z_goto (tgt := 22) dMod_set_18 (by decide) ?_
      refine z_iload_n dMod_set_22 rfl ?_
      refine z_callS MS_Mod_isNoItem lk_Mod_85 dMod_set_23 (k_Mod_isNoItem (by omega)) rfl rfl (Nat.le_of_ble_eq_true rfl)  (Nat.le_of_ble_eq_true rfl) (Nat.le_of_ble_eq_true rfl) (Nat.le_of_eq (Nat.zero_add _)) (Nat.le_of_eq (Nat.zero_add _)) (fun _ _ q => q.elim) ?_
      rintro _ _ ⟨i9, rfl, hi9, rfl⟩
      refine z_iconst dMod_set_26 ?_
      refine z_callV MV_Mod_fails lk_Mod_88 dMod_set_27 (k_Mod_fails (by assumption) rfl (by omega) (by omega) (by omega)) rfl rfl (Nat.le_of_ble_eq_true rfl) rfl (by assumption) (Nat.le_of_ble_eq_true rfl) (Nat.le_of_ble_eq_true rfl) (Nat.le_of_eq (Nat.zero_add _)) (Nat.le_of_eq (Nat.zero_add _)) (fun _ _ q => q.elim) ?_
      rintro _ h1 ⟨t9, b8, rfl, ht, p1, g1⟩
      have H1 : zMod G h1 ma S t9 := H.obj (nu := S.2.2.2.2) (th' := t9) p1 g1
      have fz1 : zMfr ma h h1 := zMfr.of0 g1
      obtain ⟨-, n2, ⟨gg, n3, n3a⟩, n4, ⟨f61, n5, n5a⟩, n6, n7⟩ := id H1
      unfold zMfs at n2
      refine z_if_eq (tgt := 35) dMod_set_30 (by decide) (by omega) (fun c30 => ?_) (fun c30 => ?_)
      · exfalso; omega
      · refine z_iconst dMod_set_33 ?_
        refine z_iret rfl rfl dMod_set_34 ?_
        rcases (show t9 = 0 ∨ t9 = 1 ∨ t9 = 2 ∨ t9 = 3 by omega) with t0 | t0 | t0 | t0
        all_goals first
          | (exfalso; omega)
          | exact zQm.ok H2 (by omega) (by assumption) (by unfold sp_set; (try unfold spPut); (try simp only [Int.toNat_natCast]); (repeat (first | rw [if_pos (by omega)] | rw [if_neg (by omega)] | rw [if_pos (by assumption)] | rw [if_neg (by assumption)] | rw [if_pos (True.intro : True)])); (try (first | rfl | (congr 2; omega) | (congr 1; congr 1; omega))); done)
          | exact zQm.b1 H2 (by omega) (by assumption) (by unfold sp_set; (try unfold spPut); (try simp only [Int.toNat_natCast]); (repeat (first | rw [if_pos (by omega)] | rw [if_neg (by omega)] | rw [if_pos (by assumption)] | rw [if_neg (by assumption)] | rw [if_pos (True.intro : True)])); (try (first | rfl | (congr 2; omega) | (congr 1; congr 1; omega))); done)
          | exact zQm.b2 H2 (by omega) (by assumption) (by unfold sp_set; (try unfold spPut); (try simp only [Int.toNat_natCast]); (repeat (first | rw [if_pos (by omega)] | rw [if_neg (by omega)] | rw [if_pos (by assumption)] | rw [if_neg (by assumption)] | rw [if_pos (True.intro : True)])); (try (first | rfl | (congr 2; omega) | (congr 1; congr 1; omega))); done)
          | exact zQm.b3 H2 (by omega) (by assumption) (by unfold sp_set; (try unfold spPut); (try simp only [Int.toNat_natCast]); (repeat (first | rw [if_pos (by omega)] | rw [if_neg (by omega)] | rw [if_pos (by assumption)] | rw [if_neg (by assumption)] | rw [if_pos (True.intro : True)])); (try (first | rfl | (congr 2; omega) | (congr 1; congr 1; omega))); done)
          | exact zQm.ok H1 (by omega) (by assumption) (by unfold sp_set; (try unfold spPut); (try simp only [Int.toNat_natCast]); (repeat (first | rw [if_pos (by omega)] | rw [if_neg (by omega)] | rw [if_pos (by assumption)] | rw [if_neg (by assumption)] | rw [if_pos (True.intro : True)])); (try (first | rfl | (congr 2; omega) | (congr 1; congr 1; omega))); done)
          | exact zQm.b1 H1 (by omega) (by assumption) (by unfold sp_set; (try unfold spPut); (try simp only [Int.toNat_natCast]); (repeat (first | rw [if_pos (by omega)] | rw [if_neg (by omega)] | rw [if_pos (by assumption)] | rw [if_neg (by assumption)] | rw [if_pos (True.intro : True)])); (try (first | rfl | (congr 2; omega) | (congr 1; congr 1; omega))); done)
          | exact zQm.b2 H1 (by omega) (by assumption) (by unfold sp_set; (try unfold spPut); (try simp only [Int.toNat_natCast]); (repeat (first | rw [if_pos (by omega)] | rw [if_neg (by omega)] | rw [if_pos (by assumption)] | rw [if_neg (by assumption)] | rw [if_pos (True.intro : True)])); (try (first | rfl | (congr 2; omega) | (congr 1; congr 1; omega))); done)
          | exact zQm.b3 H1 (by omega) (by assumption) (by unfold sp_set; (try unfold spPut); (try simp only [Int.toNat_natCast]); (repeat (first | rw [if_pos (by omega)] | rw [if_neg (by omega)] | rw [if_pos (by assumption)] | rw [if_neg (by assumption)] | rw [if_pos (True.intro : True)])); (try (first | rfl | (congr 2; omega) | (congr 1; congr 1; omega))); done)
    · exfalso; omega
  · obtain ⟨k, rfl⟩ := Int.eq_ofNat_of_zero_le (show 0 ≤ p by omega)
    have hkk : k < 4 := by omega
    refine z_if_ne (tgt := 17) dMod_set_5 (by decide) (by omega) (fun c5 => ?_) (fun c5 => ?_)
    · refine z_iconst dMod_set_17 ?_
      refine z_goto (tgt := 22) dMod_set_18 (by decide) ?_
      refine z_iload_n dMod_set_22 rfl ?_
      refine z_callS MS_Mod_isNoItem lk_Mod_85 dMod_set_23 (k_Mod_isNoItem (by omega)) rfl rfl (Nat.le_of_ble_eq_true rfl)  (Nat.le_of_ble_eq_true rfl) (Nat.le_of_ble_eq_true rfl) (Nat.le_of_eq (Nat.zero_add _)) (Nat.le_of_eq (Nat.zero_add _)) (fun _ _ q => q.elim) ?_
      rintro _ _ ⟨i9, rfl, hi9, rfl⟩
      refine z_iconst dMod_set_26 ?_
      refine z_callV MV_Mod_fails lk_Mod_88 dMod_set_27 (k_Mod_fails (by assumption) rfl (by omega) (by omega) (by omega)) rfl rfl (Nat.le_of_ble_eq_true rfl) rfl (by assumption) (Nat.le_of_ble_eq_true rfl) (Nat.le_of_ble_eq_true rfl) (Nat.le_of_eq (Nat.zero_add _)) (Nat.le_of_eq (Nat.zero_add _)) (fun _ _ q => q.elim) ?_
      rintro _ h1 ⟨t9, b8, rfl, ht, p1, g1⟩
      have H1 : zMod G h1 ma S t9 := H.obj (nu := S.2.2.2.2) (th' := t9) p1 g1
      have fz1 : zMfr ma h h1 := zMfr.of0 g1
      obtain ⟨-, n2, ⟨gg, n3, n3a⟩, n4, ⟨f61, n5, n5a⟩, n6, n7⟩ := id H1
      unfold zMfs at n2
      refine z_if_eq (tgt := 35) dMod_set_30 (by decide) (by omega) (fun c30 => ?_) (fun c30 => ?_)
      · obtain ⟨frk, rk1, rk2, rk3, rk4⟩ := id (n6 k (by omega))
        have ezk : ∀ i : Int, 0 ≤ i → i < ((S.1 k).length : Int) → frk i.toNat = zAt (S.1 k) i := fun i x1 x2 => by rw [rk3 _ (by omega), zAt_eq x1 x2]
        refine z_aload_n dMod_set_35 rfl ?_
        refine z_get (k := 0) fd_Mod (by decide) fl_Mod_11 dMod_set_36 (by assumption) (by rfl) ?_
        refine z_iload_n dMod_set_39 rfl ?_
        refine z_aald (t := 4) (ty := .array .int) rfl rfl dMod_set_40 n3 (by refine ⟨?_, ?_, ?_⟩ <;> omega) ?_
        rw [show (k : Int).toNat = k from rfl, n3a k (by omega)]
        refine z_iload_n dMod_set_41 rfl ?_
        refine z_iald dMod_set_42 (by assumption) (by refine ⟨?_, ?_, ?_⟩ <;> omega) ?_
        rw [ezk _ (by omega) (by omega)]
        refine z_istore dMod_set_43 (Nat.le_of_ble_eq_true rfl) ?_
        refine z_aload_n dMod_set_45 rfl ?_
        refine z_get (k := 0) fd_Mod (by decide) fl_Mod_11 dMod_set_46 (by assumption) (by rfl) ?_
        refine z_iload_n dMod_set_49 rfl ?_
        refine z_aald (t := 4) (ty := .array .int) rfl rfl dMod_set_50 n3 (by refine ⟨?_, ?_, ?_⟩ <;> omega) ?_
        rw [show (k : Int).toNat = k from rfl, n3a k (by omega)]
        refine z_iload_n dMod_set_51 rfl ?_
        refine z_iload_n dMod_set_52 rfl ?_
        refine z_iast dMod_set_53 (by assumption) (by refine ⟨?_, ?_, ?_⟩ <;> omega) ?_
        refine z_hx (fun h2 p2 g2 => ?_)
        have hs : zSet (S.1 k) q x = (S.1 k).set q.toNat x := if_pos (by omega)
        have hr2 : zAr G h2 (ma (8 + k)) (zSet (S.1 k) q x) := by
          refine ⟨_, by rw [zSet_len]; exact p2, by rw [zSet_len]; exact rk2, fun j hj => ?_, fun j hj => ?_⟩
          · rw [zSet_len] at hj
            rw [zSet_at _ _ _ hj]
            by_cases e9 : (j : Int) = q
            · rw [if_pos e9, show j = q.toNat by omega, zup_same]
            · rw [if_neg e9, zup_ne (by omega)]
              exact rk3 j hj
          · rw [zSet_len] at hj
            rw [zSet_at _ _ _ hj]
            split
            · omega
            · exact rk4 j hj
        have H2 : zMod G h2 ma (zsL S k (zSet (S.1 k) q x)) t9 := H1.row1 (by omega) hr2 g2
        have fz2 : zMfr ma h h2 := fz1.tr (zMfr.of1 (i := 8 + k) (by omega) g2)
        refine z_iload dMod_set_54 rfl ?_
        refine z_iret rfl rfl dMod_set_56 ?_
        rcases (show t9 = 0 ∨ t9 = 1 ∨ t9 = 2 ∨ t9 = 3 by omega) with t0 | t0 | t0 | t0
        all_goals first
          | (exfalso; omega)
          | exact zQm.ok H2 (by omega) (by assumption) (by unfold sp_set; (try unfold spPut); (try simp only [Int.toNat_natCast]); (repeat (first | rw [if_pos (by omega)] | rw [if_neg (by omega)] | rw [if_pos (by assumption)] | rw [if_neg (by assumption)] | rw [if_pos (True.intro : True)])); (try (first | rfl | (congr 2; omega) | (congr 1; congr 1; omega))); done)
          | exact zQm.b1 H2 (by omega) (by assumption) (by unfold sp_set; (try unfold spPut); (try simp only [Int.toNat_natCast]); (repeat (first | rw [if_pos (by omega)] | rw [if_neg (by omega)] | rw [if_pos (by assumption)] | rw [if_neg (by assumption)] | rw [if_pos (True.intro : True)])); (try (first | rfl | (congr 2; omega) | (congr 1; congr 1; omega))); done)
          | exact zQm.b2 H2 (by omega) (by assumption) (by unfold sp_set; (try unfold spPut); (try simp only [Int.toNat_natCast]); (repeat (first | rw [if_pos (by omega)] | rw [if_neg (by omega)] | rw [if_pos (by assumption)] | rw [if_neg (by assumption)] | rw [if_pos (True.intro : True)])); (try (first | rfl | (congr 2; omega) | (congr 1; congr 1; omega))); done)
          | exact zQm.b3 H2 (by omega) (by assumption) (by unfold sp_set; (try unfold spPut); (try simp only [Int.toNat_natCast]); (repeat (first | rw [if_pos (by omega)] | rw [if_neg (by omega)] | rw [if_pos (by assumption)] | rw [if_neg (by assumption)] | rw [if_pos (True.intro : True)])); (try (first | rfl | (congr 2; omega) | (congr 1; congr 1; omega))); done)
          | exact zQm.ok H1 (by omega) (by assumption) (by unfold sp_set; (try unfold spPut); (try simp only [Int.toNat_natCast]); (repeat (first | rw [if_pos (by omega)] | rw [if_neg (by omega)] | rw [if_pos (by assumption)] | rw [if_neg (by assumption)] | rw [if_pos (True.intro : True)])); (try (first | rfl | (congr 2; omega) | (congr 1; congr 1; omega))); done)
          | exact zQm.b1 H1 (by omega) (by assumption) (by unfold sp_set; (try unfold spPut); (try simp only [Int.toNat_natCast]); (repeat (first | rw [if_pos (by omega)] | rw [if_neg (by omega)] | rw [if_pos (by assumption)] | rw [if_neg (by assumption)] | rw [if_pos (True.intro : True)])); (try (first | rfl | (congr 2; omega) | (congr 1; congr 1; omega))); done)
          | exact zQm.b2 H1 (by omega) (by assumption) (by unfold sp_set; (try unfold spPut); (try simp only [Int.toNat_natCast]); (repeat (first | rw [if_pos (by omega)] | rw [if_neg (by omega)] | rw [if_pos (by assumption)] | rw [if_neg (by assumption)] | rw [if_pos (True.intro : True)])); (try (first | rfl | (congr 2; omega) | (congr 1; congr 1; omega))); done)
          | exact zQm.b3 H1 (by omega) (by assumption) (by unfold sp_set; (try unfold spPut); (try simp only [Int.toNat_natCast]); (repeat (first | rw [if_pos (by omega)] | rw [if_neg (by omega)] | rw [if_pos (by assumption)] | rw [if_neg (by assumption)] | rw [if_pos (True.intro : True)])); (try (first | rfl | (congr 2; omega) | (congr 1; congr 1; omega))); done)
      · refine z_iconst dMod_set_33 ?_
        refine z_iret rfl rfl dMod_set_34 ?_
        rcases (show t9 = 0 ∨ t9 = 1 ∨ t9 = 2 ∨ t9 = 3 by omega) with t0 | t0 | t0 | t0
        all_goals first
          | (exfalso; omega)
          | exact zQm.ok H2 (by omega) (by assumption) (by unfold sp_set; (try unfold spPut); (try simp only [Int.toNat_natCast]); (repeat (first | rw [if_pos (by omega)] | rw [if_neg (by omega)] | rw [if_pos (by assumption)] | rw [if_neg (by assumption)] | rw [if_pos (True.intro : True)])); (try (first | rfl | (congr 2; omega) | (congr 1; congr 1; omega))); done)
          | exact zQm.b1 H2 (by omega) (by assumption) (by unfold sp_set; (try unfold spPut); (try simp only [Int.toNat_natCast]); (repeat (first | rw [if_pos (by omega)] | rw [if_neg (by omega)] | rw [if_pos (by assumption)] | rw [if_neg (by assumption)] | rw [if_pos (True.intro : True)])); (try (first | rfl | (congr 2; omega) | (congr 1; congr 1; omega))); done)
          | exact zQm.b2 H2 (by omega) (by assumption) (by unfold sp_set; (try unfold spPut); (try simp only [Int.toNat_natCast]); (repeat (first | rw [if_pos (by omega)] | rw [if_neg (by omega)] | rw [if_pos (by assumption)] | rw [if_neg (by assumption)] | rw [if_pos (True.intro : True)])); (try (first | rfl | (congr 2; omega) | (congr 1; congr 1; omega))); done)
          | exact zQm.b3 H2 (by omega) (by assumption) (by unfold sp_set; (try unfold spPut); (try simp only [Int.toNat_natCast]); (repeat (first | rw [if_pos (by omega)] | rw [if_neg (by omega)] | rw [if_pos (by assumption)] | rw [if_neg (by assumption)] | rw [if_pos (True.intro : True)])); (try (first | rfl | (congr 2; omega) | (congr 1; congr 1; omega))); done)
          | exact zQm.ok H1 (by omega) (by assumption) (by unfold sp_set; (try unfold spPut); (try simp only [Int.toNat_natCast]); (repeat (first | rw [if_pos (by omega)] | rw [if_neg (by omega)] | rw [if_pos (by assumption)] | rw [if_neg (by assumption)] | rw [if_pos (True.intro : True)])); (try (first | rfl | (congr 2; omega) | (congr 1; congr 1; omega))); done)
          | exact zQm.b1 H1 (by omega) (by assumption) (by unfold sp_set; (try unfold spPut); (try simp only [Int.toNat_natCast]); (repeat (first | rw [if_pos (by omega)] | rw [if_neg (by omega)] | rw [if_pos (by assumption)] | rw [if_neg (by assumption)] | rw [if_pos (True.intro : True)])); (try (first | rfl | (congr 2; omega) | (congr 1; congr 1; omega))); done)
          | exact zQm.b2 H1 (by omega) (by assumption) (by unfold sp_set; (try unfold spPut); (try simp only [Int.toNat_natCast]); (repeat (first | rw [if_pos (by omega)] | rw [if_neg (by omega)] | rw [if_pos (by assumption)] | rw [if_neg (by assumption)] | rw [if_pos (True.intro : True)])); (try (first | rfl | (congr 2; omega) | (congr 1; congr 1; omega))); done)
          | exact zQm.b3 H1 (by omega) (by assumption) (by unfold sp_set; (try unfold spPut); (try simp only [Int.toNat_natCast]); (repeat (first | rw [if_pos (by omega)] | rw [if_neg (by omega)] | rw [if_pos (by assumption)] | rw [if_neg (by assumption)] | rw [if_pos (True.intro : True)])); (try (first | rfl | (congr 2; omega) | (congr 1; congr 1; omega))); done)
    · refine z_aload_n dMod_set_8 rfl ?_
      refine z_iload_n dMod_set_9 rfl ?_
      refine z_iload_n dMod_set_10 rfl ?_
      refine z_callV MV_Mod_isNoPlace lk_Mod_106 dMod_set_11 (k_Mod_isNoPlace H hkk (by omega)) rfl rfl (Nat.le_of_ble_eq_true rfl) rfl (by assumption) (Nat.le_of_ble_eq_true rfl) (Nat.le_of_ble_eq_true rfl) (Nat.le_of_eq (Nat.zero_add _)) (Nat.le_of_eq (Nat.zero_add _)) (fun _ _ q => q.elim) ?_
      rintro _ _ ⟨np9, rfl, (⟨rfl, hnp9⟩ | ⟨rfl, hnp9⟩), rfl⟩
      · refine z_if_eq (tgt := 21) dMod_set_14 (by decide) (by omega) (fun c14 => ?_) (fun c14 => ?_)
        · refine z_iconst dMod_set_21 ?_
          refine z_iload_n dMod_set_22 rfl ?_
          refine z_callS MS_Mod_isNoItem lk_Mod_85 dMod_set_23 (k_Mod_isNoItem (by omega)) rfl rfl (Nat.le_of_ble_eq_true rfl)  (Nat.le_of_ble_eq_true rfl) (Nat.le_of_ble_eq_true rfl) (Nat.le_of_eq (Nat.zero_add _)) (Nat.le_of_eq (Nat.zero_add _)) (fun _ _ q => q.elim) ?_
          rintro _ _ ⟨i9, rfl, hi9, rfl⟩
          refine z_iconst dMod_set_26 ?_
          refine z_callV MV_Mod_fails lk_Mod_88 dMod_set_27 (k_Mod_fails (by assumption) rfl (by omega) (by omega) (by omega)) rfl rfl (Nat.le_of_ble_eq_true rfl) rfl (by assumption) (Nat.le_of_ble_eq_true rfl) (Nat.le_of_ble_eq_true rfl) (Nat.le_of_eq (Nat.zero_add _)) (Nat.le_of_eq (Nat.zero_add _)) (fun _ _ q => q.elim) ?_
          rintro _ h1 ⟨t9, b8, rfl, ht, p1, g1⟩
          have H1 : zMod G h1 ma S t9 := H.obj (nu := S.2.2.2.2) (th' := t9) p1 g1
          have fz1 : zMfr ma h h1 := zMfr.of0 g1
          obtain ⟨-, n2, ⟨gg, n3, n3a⟩, n4, ⟨f61, n5, n5a⟩, n6, n7⟩ := id H1
          unfold zMfs at n2
          refine z_if_eq (tgt := 35) dMod_set_30 (by decide) (by omega) (fun c30 => ?_) (fun c30 => ?_)
          · exfalso; omega
          · refine z_iconst dMod_set_33 ?_
            refine z_iret rfl rfl dMod_set_34 ?_
            rcases (show t9 = 0 ∨ t9 = 1 ∨ t9 = 2 ∨ t9 = 3 by omega) with t0 | t0 | t0 | t0
            all_goals first
              | (exfalso; omega)
              | exact zQm.ok H2 (by omega) (by assumption) (by unfold sp_set; (try unfold spPut); (try simp only [Int.toNat_natCast]); (repeat (first | rw [if_pos (by omega)] | rw [if_neg (by omega)] | rw [if_pos (by assumption)] | rw [if_neg (by assumption)] | rw [if_pos (True.intro : True)])); (try (first | rfl | (congr 2; omega) | (congr 1; congr 1; omega))); done)
              | exact zQm.b1 H2 (by omega) (by assumption) (by unfold sp_set; (try unfold spPut); (try simp only [Int.toNat_natCast]); (repeat (first | rw [if_pos (by omega)] | rw [if_neg (by omega)] | rw [if_pos (by assumption)] | rw [if_neg (by assumption)] | rw [if_pos (True.intro : True)])); (try (first | rfl | (congr 2; omega) | (congr 1; congr 1; omega))); done)
              | exact zQm.b2 H2 (by omega) (by assumption) (by unfold sp_set; (try unfold spPut); (try simp only [Int.toNat_natCast]); (repeat (first | rw [if_pos (by omega)] | rw [if_neg (by omega)] | rw [if_pos (by assumption)] | rw [if_neg (by assumption)] | rw [if_pos (True.intro : True)])); (try (first | rfl | (congr 2; omega) | (congr 1; congr 1; omega))); done)
              | exact zQm.b3 H2 (by omega) (by assumption) (by unfold sp_set; (try unfold spPut); (try simp only [Int.toNat_natCast]); (repeat (first | rw [if_pos (by omega)] | rw [if_neg (by omega)] | rw [if_pos (by assumption)] | rw [if_neg (by assumption)] | rw [if_pos (True.intro : True)])); (try (first | rfl | (congr 2; omega) | (congr 1; congr 1; omega))); done)
              | exact zQm.ok H1 (by omega) (by assumption) (by unfold sp_set; (try unfold spPut); (try simp only [Int.toNat_natCast]); (repeat (first | rw [if_pos (by omega)] | rw [if_neg (by omega)] | rw [if_pos (by assumption)] | rw [if_neg (by assumption)] | rw [if_pos (True.intro : True)])); (try (first | rfl | (congr 2; omega) | (congr 1; congr 1; omega))); done)
              | exact zQm.b1 H1 (by omega) (by assumption) (by unfold sp_set; (try unfold spPut); (try simp only [Int.toNat_natCast]); (repeat (first | rw [if_pos (by omega)] | rw [if_neg (by omega)] | rw [if_pos (by assumption)] | rw [if_neg (by assumption)] | rw [if_pos (True.intro : True)])); (try (first | rfl | (congr 2; omega) | (congr 1; congr 1; omega))); done)
              | exact zQm.b2 H1 (by omega) (by assumption) (by unfold sp_set; (try unfold spPut); (try simp only [Int.toNat_natCast]); (repeat (first | rw [if_pos (by omega)] | rw [if_neg (by omega)] | rw [if_pos (by assumption)] | rw [if_neg (by assumption)] | rw [if_pos (True.intro : True)])); (try (first | rfl | (congr 2; omega) | (congr 1; congr 1; omega))); done)
              | exact zQm.b3 H1 (by omega) (by assumption) (by unfold sp_set; (try unfold spPut); (try simp only [Int.toNat_natCast]); (repeat (first | rw [if_pos (by omega)] | rw [if_neg (by omega)] | rw [if_pos (by assumption)] | rw [if_neg (by assumption)] | rw [if_pos (True.intro : True)])); (try (first | rfl | (congr 2; omega) | (congr 1; congr 1; omega))); done)
        · refine z_iconst dMod_set_17 ?_
          refine z_goto (tgt := 22) dMod_set_18 (by decide) ?_
          refine z_iload_n dMod_set_22 rfl ?_
          refine z_callS MS_Mod_isNoItem lk_Mod_85 dMod_set_23 (k_Mod_isNoItem (by omega)) rfl rfl (Nat.le_of_ble_eq_true rfl)  (Nat.le_of_ble_eq_true rfl) (Nat.le_of_ble_eq_true rfl) (Nat.le_of_eq (Nat.zero_add _)) (Nat.le_of_eq (Nat.zero_add _)) (fun _ _ q => q.elim) ?_
          rintro _ _ ⟨i9, rfl, hi9, rfl⟩
          refine z_iconst dMod_set_26 ?_
          refine z_callV MV_Mod_fails lk_Mod_88 dMod_set_27 (k_Mod_fails (by assumption) rfl (by omega) (by omega) (by omega)) rfl rfl (Nat.le_of_ble_eq_true rfl) rfl (by assumption) (Nat.le_of_ble_eq_true rfl) (Nat.le_of_ble_eq_true rfl) (Nat.le_of_eq (Nat.zero_add _)) (Nat.le_of_eq (Nat.zero_add _)) (fun _ _ q => q.elim) ?_
          rintro _ h1 ⟨t9, b8, rfl, ht, p1, g1⟩
          have H1 : zMod G h1 ma S t9 := H.obj (nu := S.2.2.2.2) (th' := t9) p1 g1
          have fz1 : zMfr ma h h1 := zMfr.of0 g1
          obtain ⟨-, n2, ⟨gg, n3, n3a⟩, n4, ⟨f61, n5, n5a⟩, n6, n7⟩ := id H1
          unfold zMfs at n2
          refine z_if_eq (tgt := 35) dMod_set_30 (by decide) (by omega) (fun c30 => ?_) (fun c30 => ?_)
          · exfalso; omega
          · refine z_iconst dMod_set_33 ?_
            refine z_iret rfl rfl dMod_set_34 ?_
            rcases (show t9 = 0 ∨ t9 = 1 ∨ t9 = 2 ∨ t9 = 3 by omega) with t0 | t0 | t0 | t0
            all_goals first
              | (exfalso; omega)
              | exact zQm.ok H2 (by omega) (by assumption) (by unfold sp_set; (try unfold spPut); (try simp only [Int.toNat_natCast]); (repeat (first | rw [if_pos (by omega)] | rw [if_neg (by omega)] | rw [if_pos (by assumption)] | rw [if_neg (by assumption)] | rw [if_pos (True.intro : True)])); (try (first | rfl | (congr 2; omega) | (congr 1; congr 1; omega))); done)
              | exact zQm.b1 H2 (by omega) (by assumption) (by unfold sp_set; (try unfold spPut); (try simp only [Int.toNat_natCast]); (repeat (first | rw [if_pos (by omega)] | rw [if_neg (by omega)] | rw [if_pos (by assumption)] | rw [if_neg (by assumption)] | rw [if_pos (True.intro : True)])); (try (first | rfl | (congr 2; omega) | (congr 1; congr 1; omega))); done)
              | exact zQm.b2 H2 (by omega) (by assumption) (by unfold sp_set; (try unfold spPut); (try simp only [Int.toNat_natCast]); (repeat (first | rw [if_pos (by omega)] | rw [if_neg (by omega)] | rw [if_pos (by assumption)] | rw [if_neg (by assumption)] | rw [if_pos (True.intro : True)])); (try (first | rfl | (congr 2; omega) | (congr 1; congr 1; omega))); done)
              | exact zQm.b3 H2 (by omega) (by assumption) (by unfold sp_set; (try unfold spPut); (try simp only [Int.toNat_natCast]); (repeat (first | rw [if_pos (by omega)] | rw [if_neg (by omega)] | rw [if_pos (by assumption)] | rw [if_neg (by assumption)] | rw [if_pos (True.intro : True)])); (try (first | rfl | (congr 2; omega) | (congr 1; congr 1; omega))); done)
              | exact zQm.ok H1 (by omega) (by assumption) (by unfold sp_set; (try unfold spPut); (try simp only [Int.toNat_natCast]); (repeat (first | rw [if_pos (by omega)] | rw [if_neg (by omega)] | rw [if_pos (by assumption)] | rw [if_neg (by assumption)] | rw [if_pos (True.intro : True)])); (try (first | rfl | (congr 2; omega) | (congr 1; congr 1; omega))); done)
              | exact zQm.b1 H1 (by omega) (by assumption) (by unfold sp_set; (try unfold spPut); (try simp only [Int.toNat_natCast]); (repeat (first | rw [if_pos (by omega)] | rw [if_neg (by omega)] | rw [if_pos (by assumption)] | rw [if_neg (by assumption)] | rw [if_pos (True.intro : True)])); (try (first | rfl | (congr 2; omega) | (congr 1; congr 1; omega))); done)
              | exact zQm.b2 H1 (by omega) (by assumption) (by unfold sp_set; (try unfold spPut); (try simp only [Int.toNat_natCast]); (repeat (first | rw [if_pos (by omega)] | rw [if_neg (by omega)] | rw [if_pos (by assumption)] | rw [if_neg (by assumption)] | rw [if_pos (True.intro : True)])); (try (first | rfl | (congr 2; omega) | (congr 1; congr 1; omega))); done)
              | exact zQm.b3 H1 (by omega) (by assumption) (by unfold sp_set; (try unfold spPut); (try simp only [Int.toNat_natCast]); (repeat (first | rw [if_pos (by omega)] | rw [if_neg (by omega)] | rw [if_pos (by assumption)] | rw [if_neg (by assumption)] | rw [if_pos (True.intro : True)])); (try (first | rfl | (congr 2; omega) | (congr 1; congr 1; omega))); done)
      · refine z_if_eq (tgt := 21) dMod_set_14 (by decide) (by omega) (fun c14 => ?_) (fun c14 => ?_)
        · refine z_iconst dMod_set_21 ?_
          refine z_iload_n dMod_set_22 rfl ?_
          refine z_callS MS_Mod_isNoItem lk_Mod_85 dMod_set_23 (k_Mod_isNoItem (by omega)) rfl rfl (Nat.le_of_ble_eq_true rfl)  (Nat.le_of_ble_eq_true rfl) (Nat.le_of_ble_eq_true rfl) (Nat.le_of_eq (Nat.zero_add _)) (Nat.le_of_eq (Nat.zero_add _)) (fun _ _ q => q.elim) ?_
          rintro _ _ ⟨i9, rfl, hi9, rfl⟩
          refine z_iconst dMod_set_26 ?_
          refine z_callV MV_Mod_fails lk_Mod_88 dMod_set_27 (k_Mod_fails (by assumption) rfl (by omega) (by omega) (by omega)) rfl rfl (Nat.le_of_ble_eq_true rfl) rfl (by assumption) (Nat.le_of_ble_eq_true rfl) (Nat.le_of_ble_eq_true rfl) (Nat.le_of_eq (Nat.zero_add _)) (Nat.le_of_eq (Nat.zero_add _)) (fun _ _ q => q.elim) ?_
          rintro _ h1 ⟨t9, b8, rfl, ht, p1, g1⟩
          have H1 : zMod G h1 ma S t9 := H.obj (nu := S.2.2.2.2) (th' := t9) p1 g1
          have fz1 : zMfr ma h h1 := zMfr.of0 g1
          obtain ⟨-, n2, ⟨gg, n3, n3a⟩, n4, ⟨f61, n5, n5a⟩, n6, n7⟩ := id H1
          unfold zMfs at n2
          refine z_if_eq (tgt := 35) dMod_set_30 (by decide) (by omega) (fun c30 => ?_) (fun c30 => ?_)
          · obtain ⟨frk, rk1, rk2, rk3, rk4⟩ := id (n6 k (by omega))
            have ezk : ∀ i : Int, 0 ≤ i → i < ((S.1 k).length : Int) → frk i.toNat = zAt (S.1 k) i := fun i x1 x2 => by rw [rk3 _ (by omega), zAt_eq x1 x2]
            refine z_aload_n dMod_set_35 rfl ?_
            refine z_get (k := 0) fd_Mod (by decide) fl_Mod_11 dMod_set_36 (by assumption) (by rfl) ?_
            refine z_iload_n dMod_set_39 rfl ?_
            refine z_aald (t := 4) (ty := .array .int) rfl rfl dMod_set_40 n3 (by refine ⟨?_, ?_, ?_⟩ <;> omega) ?_
            rw [show (k : Int).toNat = k from rfl, n3a k (by omega)]
            refine z_iload_n dMod_set_41 rfl ?_
            refine z_iald dMod_set_42 (by assumption) (by refine ⟨?_, ?_, ?_⟩ <;> omega) ?_
            rw [ezk _ (by omega) (by omega)]
            refine z_istore dMod_set_43 (Nat.le_of_ble_eq_true rfl) ?_
            refine z_aload_n dMod_set_45 rfl ?_
            refine z_get (k := 0) fd_Mod (by decide) fl_Mod_11 dMod_set_46 (by assumption) (by rfl) ?_
            refine z_iload_n dMod_set_49 rfl ?_
            refine z_aald (t := 4) (ty := .array .int) rfl rfl dMod_set_50 n3 (by refine ⟨?_, ?_, ?_⟩ <;> omega) ?_
            rw [show (k : Int).toNat = k from rfl, n3a k (by omega)]
            refine z_iload_n dMod_set_51 rfl ?_
            refine z_iload_n dMod_set_52 rfl ?_
            refine z_iast dMod_set_53 (by assumption) (by refine ⟨?_, ?_, ?_⟩ <;> omega) ?_
            refine z_hx (fun h2 p2 g2 => ?_)
            have hs : zSet (S.1 k) q x = (S.1 k).set q.toNat x := if_pos (by omega)
            have hr2 : zAr G h2 (ma (8 + k)) (zSet (S.1 k) q x) := by
              refine ⟨_, by rw [zSet_len]; exact p2, by rw [zSet_len]; exact rk2, fun j hj => ?_, fun j hj => ?_⟩
              · rw [zSet_len] at hj
                rw [zSet_at _ _ _ hj]
                by_cases e9 : (j : Int) = q
                · rw [if_pos e9, show j = q.toNat by omega, zup_same]
                · rw [if_neg e9, zup_ne (by omega)]
                  exact rk3 j hj
              · rw [zSet_len] at hj
                rw [zSet_at _ _ _ hj]
                split
                · omega
                · exact rk4 j hj
            have H2 : zMod G h2 ma (zsL S k (zSet (S.1 k) q x)) t9 := H1.row1 (by omega) hr2 g2
            have fz2 : zMfr ma h h2 := fz1.tr (zMfr.of1 (i := 8 + k) (by omega) g2)
            refine z_iload dMod_set_54 rfl ?_
            refine z_iret rfl rfl dMod_set_56 ?_
            rcases (show t9 = 0 ∨ t9 = 1 ∨ t9 = 2 ∨ t9 = 3 by omega) with t0 | t0 | t0 | t0
            all_goals first
              | (exfalso; omega)
              | exact zQm.ok H2 (by omega) (by assumption) (by unfold sp_set; (try unfold spPut); (try simp only [Int.toNat_natCast]); (repeat (first | rw [if_pos (by omega)] | rw [if_neg (by omega)] | rw [if_pos (by assumption)] | rw [if_neg (by assumption)] | rw [if_pos (True.intro : True)])); (try (first | rfl | (congr 2; omega) | (congr 1; congr 1; omega))); done)
              | exact zQm.b1 H2 (by omega) (by assumption) (by unfold sp_set; (try unfold spPut); (try simp only [Int.toNat_natCast]); (repeat (first | rw [if_pos (by omega)] | rw [if_neg (by omega)] | rw [if_pos (by assumption)] | rw [if_neg (by assumption)] | rw [if_pos (True.intro : True)])); (try (first | rfl | (congr 2; omega) | (congr 1; congr 1; omega))); done)
              | exact zQm.b2 H2 (by omega) (by assumption) (by unfold sp_set; (try unfold spPut); (try simp only [Int.toNat_natCast]); (repeat (first | rw [if_pos (by omega)] | rw [if_neg (by omega)] | rw [if_pos (by assumption)] | rw [if_neg (by assumption)] | rw [if_pos (True.intro : True)])); (try (first | rfl | (congr 2; omega) | (congr 1; congr 1; omega))); done)
              | exact zQm.b3 H2 (by omega) (by assumption) (by unfold sp_set; (try unfold spPut); (try simp only [Int.toNat_natCast]); (repeat (first | rw [if_pos (by omega)] | rw [if_neg (by omega)] | rw [if_pos (by assumption)] | rw [if_neg (by assumption)] | rw [if_pos (True.intro : True)])); (try (first | rfl | (congr 2; omega) | (congr 1; congr 1; omega))); done)
              | exact zQm.ok H1 (by omega) (by assumption) (by unfold sp_set; (try unfold spPut); (try simp only [Int.toNat_natCast]); (repeat (first | rw [if_pos (by omega)] | rw [if_neg (by omega)] | rw [if_pos (by assumption)] | rw [if_neg (by assumption)] | rw [if_pos (True.intro : True)])); (try (first | rfl | (congr 2; omega) | (congr 1; congr 1; omega))); done)
              | exact zQm.b1 H1 (by omega) (by assumption) (by unfold sp_set; (try unfold spPut); (try simp only [Int.toNat_natCast]); (repeat (first | rw [if_pos (by omega)] | rw [if_neg (by omega)] | rw [if_pos (by assumption)] | rw [if_neg (by assumption)] | rw [if_pos (True.intro : True)])); (try (first | rfl | (congr 2; omega) | (congr 1; congr 1; omega))); done)
              | exact zQm.b2 H1 (by omega) (by assumption) (by unfold sp_set; (try unfold spPut); (try simp only [Int.toNat_natCast]); (repeat (first | rw [if_pos (by omega)] | rw [if_neg (by omega)] | rw [if_pos (by assumption)] | rw [if_neg (by assumption)] | rw [if_pos (True.intro : True)])); (try (first | rfl | (congr 2; omega) | (congr 1; congr 1; omega))); done)
              | exact zQm.b3 H1 (by omega) (by assumption) (by unfold sp_set; (try unfold spPut); (try simp only [Int.toNat_natCast]); (repeat (first | rw [if_pos (by omega)] | rw [if_neg (by omega)] | rw [if_pos (by assumption)] | rw [if_neg (by assumption)] | rw [if_pos (True.intro : True)])); (try (first | rfl | (congr 2; omega) | (congr 1; congr 1; omega))); done)
          · refine z_iconst dMod_set_33 ?_
            refine z_iret rfl rfl dMod_set_34 ?_
            rcases (show t9 = 0 ∨ t9 = 1 ∨ t9 = 2 ∨ t9 = 3 by omega) with t0 | t0 | t0 | t0
            all_goals first
              | (exfalso; omega)
              | exact zQm.ok H2 (by omega) (by assumption) (by unfold sp_set; (try unfold spPut); (try simp only [Int.toNat_natCast]); (repeat (first | rw [if_pos (by omega)] | rw [if_neg (by omega)] | rw [if_pos (by assumption)] | rw [if_neg (by assumption)] | rw [if_pos (True.intro : True)])); (try (first | rfl | (congr 2; omega) | (congr 1; congr 1; omega))); done)
              | exact zQm.b1 H2 (by omega) (by assumption) (by unfold sp_set; (try unfold spPut); (try simp only [Int.toNat_natCast]); (repeat (first | rw [if_pos (by omega)] | rw [if_neg (by omega)] | rw [if_pos (by assumption)] | rw [if_neg (by assumption)] | rw [if_pos (True.intro : True)])); (try (first | rfl | (congr 2; omega) | (congr 1; congr 1; omega))); done)
              | exact zQm.b2 H2 (by omega) (by assumption) (by unfold sp_set; (try unfold spPut); (try simp only [Int.toNat_natCast]); (repeat (first | rw [if_pos (by omega)] | rw [if_neg (by omega)] | rw [if_pos (by assumption)] | rw [if_neg (by assumption)] | rw [if_pos (True.intro : True)])); (try (first | rfl | (congr 2; omega) | (congr 1; congr 1; omega))); done)
              | exact zQm.b3 H2 (by omega) (by assumption) (by unfold sp_set; (try unfold spPut); (try simp only [Int.toNat_natCast]); (repeat (first | rw [if_pos (by omega)] | rw [if_neg (by omega)] | rw [if_pos (by assumption)] | rw [if_neg (by assumption)] | rw [if_pos (True.intro : True)])); (try (first | rfl | (congr 2; omega) | (congr 1; congr 1; omega))); done)
              | exact zQm.ok H1 (by omega) (by assumption) (by unfold sp_set; (try unfold spPut); (try simp only [Int.toNat_natCast]); (repeat (first | rw [if_pos (by omega)] | rw [if_neg (by omega)] | rw [if_pos (by assumption)] | rw [if_neg (by assumption)] | rw [if_pos (True.intro : True)])); (try (first | rfl | (congr 2; omega) | (congr 1; congr 1; omega))); done)
              | exact zQm.b1 H1 (by omega) (by assumption) (by unfold sp_set; (try unfold spPut); (try simp only [Int.toNat_natCast]); (repeat (first | rw [if_pos (by omega)] | rw [if_neg (by omega)] | rw [if_pos (by assumption)] | rw [if_neg (by assumption)] | rw [if_pos (True.intro : True)])); (try (first | rfl | (congr 2; omega) | (congr 1; congr 1; omega))); done)
              | exact zQm.b2 H1 (by omega) (by assumption) (by unfold sp_set; (try unfold spPut); (try simp only [Int.toNat_natCast]); (repeat (first | rw [if_pos (by omega)] | rw [if_neg (by omega)] | rw [if_pos (by assumption)] | rw [if_neg (by assumption)] | rw [if_pos (True.intro : True)])); (try (first | rfl | (congr 2; omega) | (congr 1; congr 1; omega))); done)
              | exact zQm.b3 H1 (by omega) (by assumption) (by unfold sp_set; (try unfold spPut); (try simp only [Int.toNat_natCast]); (repeat (first | rw [if_pos (by omega)] | rw [if_neg (by omega)] | rw [if_pos (by assumption)] | rw [if_neg (by assumption)] | rw [if_pos (True.intro : True)])); (try (first | rfl | (congr 2; omega) | (congr 1; congr 1; omega))); done)
        · refine z_iconst dMod_set_17 ?_
          refine z_goto (tgt := 22) dMod_set_18 (by decide) ?_
          refine z_iload_n dMod_set_22 rfl ?_
          refine z_callS MS_Mod_isNoItem lk_Mod_85 dMod_set_23 (k_Mod_isNoItem (by omega)) rfl rfl (Nat.le_of_ble_eq_true rfl)  (Nat.le_of_ble_eq_true rfl) (Nat.le_of_ble_eq_true rfl) (Nat.le_of_eq (Nat.zero_add _)) (Nat.le_of_eq (Nat.zero_add _)) (fun _ _ q => q.elim) ?_
          rintro _ _ ⟨i9, rfl, hi9, rfl⟩
          refine z_iconst dMod_set_26 ?_
          refine z_callV MV_Mod_fails lk_Mod_88 dMod_set_27 (k_Mod_fails (by assumption) rfl (by omega) (by omega) (by omega)) rfl rfl (Nat.le_of_ble_eq_true rfl) rfl (by assumption) (Nat.le_of_ble_eq_true rfl) (Nat.le_of_ble_eq_true rfl) (Nat.le_of_eq (Nat.zero_add _)) (Nat.le_of_eq (Nat.zero_add _)) (fun _ _ q => q.elim) ?_
          rintro _ h1 ⟨t9, b8, rfl, ht, p1, g1⟩
          have H1 : zMod G h1 ma S t9 := H.obj (nu := S.2.2.2.2) (th' := t9) p1 g1
          have fz1 : zMfr ma h h1 := zMfr.of0 g1
          obtain ⟨-, n2, ⟨gg, n3, n3a⟩, n4, ⟨f61, n5, n5a⟩, n6, n7⟩ := id H1
          unfold zMfs at n2
          refine z_if_eq (tgt := 35) dMod_set_30 (by decide) (by omega) (fun c30 => ?_) (fun c30 => ?_)
          · obtain ⟨frk, rk1, rk2, rk3, rk4⟩ := id (n6 k (by omega))
            have ezk : ∀ i : Int, 0 ≤ i → i < ((S.1 k).length : Int) → frk i.toNat = zAt (S.1 k) i := fun i x1 x2 => by rw [rk3 _ (by omega), zAt_eq x1 x2]
            refine z_aload_n dMod_set_35 rfl ?_
            refine z_get (k := 0) fd_Mod (by decide) fl_Mod_11 dMod_set_36 (by assumption) (by rfl) ?_
            refine z_iload_n dMod_set_39 rfl ?_
            refine z_aald (t := 4) (ty := .array .int) rfl rfl dMod_set_40 n3 (by refine ⟨?_, ?_, ?_⟩ <;> omega) ?_
            rw [show (k : Int).toNat = k from rfl, n3a k (by omega)]
            refine z_iload_n dMod_set_41 rfl ?_
            refine z_iald dMod_set_42 (by assumption) (by refine ⟨?_, ?_, ?_⟩ <;> omega) ?_
            rw [ezk _ (by omega) (by omega)]
            refine z_istore dMod_set_43 (Nat.le_of_ble_eq_true rfl) ?_
            refine z_aload_n dMod_set_45 rfl ?_
            refine z_get (k := 0) fd_Mod (by decide) fl_Mod_11 dMod_set_46 (by assumption) (by rfl) ?_
            refine z_iload_n dMod_set_49 rfl ?_
            refine z_aald (t := 4) (ty := .array .int) rfl rfl dMod_set_50 n3 (by refine ⟨?_, ?_, ?_⟩ <;> omega) ?_
            rw [show (k : Int).toNat = k from rfl, n3a k (by omega)]
            refine z_iload_n dMod_set_51 rfl ?_
            refine z_iload_n dMod_set_52 rfl ?_
            refine z_iast dMod_set_53 (by assumption) (by refine ⟨?_, ?_, ?_⟩ <;> omega) ?_
            refine z_hx (fun h2 p2 g2 => ?_)
            have hs : zSet (S.1 k) q x = (S.1 k).set q.toNat x := if_pos (by omega)
            have hr2 : zAr G h2 (ma (8 + k)) (zSet (S.1 k) q x) := by
              refine ⟨_, by rw [zSet_len]; exact p2, by rw [zSet_len]; exact rk2, fun j hj => ?_, fun j hj => ?_⟩
              · rw [zSet_len] at hj
                rw [zSet_at _ _ _ hj]
                by_cases e9 : (j : Int) = q
                · rw [if_pos e9, show j = q.toNat by omega, zup_same]
                · rw [if_neg e9, zup_ne (by omega)]
                  exact rk3 j hj
              · rw [zSet_len] at hj
                rw [zSet_at _ _ _ hj]
                split
                · omega
                · exact rk4 j hj
            have H2 : zMod G h2 ma (zsL S k (zSet (S.1 k) q x)) t9 := H1.row1 (by omega) hr2 g2
            have fz2 : zMfr ma h h2 := fz1.tr (zMfr.of1 (i := 8 + k) (by omega) g2)
            refine z_iload dMod_set_54 rfl ?_
            refine z_iret rfl rfl dMod_set_56 ?_
            rcases (show t9 = 0 ∨ t9 = 1 ∨ t9 = 2 ∨ t9 = 3 by omega) with t0 | t0 | t0 | t0
            all_goals first
              | (exfalso; omega)
              | exact zQm.ok H2 (by omega) (by assumption) (by unfold sp_set; (try unfold spPut); (try simp only [Int.toNat_natCast]); (repeat (first | rw [if_pos (by omega)] | rw [if_neg (by omega)] | rw [if_pos (by assumption)] | rw [if_neg (by assumption)] | rw [if_pos (True.intro : True)])); (try (first | rfl | (congr 2; omega) | (congr 1; congr 1; omega))); done)
              | exact zQm.b1 H2 (by omega) (by assumption) (by unfold sp_set; (try unfold spPut); (try simp only [Int.toNat_natCast]); (repeat (first | rw [if_pos (by omega)] | rw [if_neg (by omega)] | rw [if_pos (by assumption)] | rw [if_neg (by assumption)] | rw [if_pos (True.intro : True)])); (try (first | rfl | (congr 2; omega) | (congr 1; congr 1; omega))); done)
              | exact zQm.b2 H2 (by omega) (by assumption) (by unfold sp_set; (try unfold spPut); (try simp only [Int.toNat_natCast]); (repeat (first | rw [if_pos (by omega)] | rw [if_neg (by omega)] | rw [if_pos (by assumption)] | rw [if_neg (by assumption)] | rw [if_pos (True.intro : True)])); (try (first | rfl | (congr 2; omega) | (congr 1; congr 1; omega))); done)
              | exact zQm.b3 H2 (by omega) (by assumption) (by unfold sp_set; (try unfold spPut); (try simp only [Int.toNat_natCast]); (repeat (first | rw [if_pos (by omega)] | rw [if_neg (by omega)] | rw [if_pos (by assumption)] | rw [if_neg (by assumption)] | rw [if_pos (True.intro : True)])); (try (first | rfl | (congr 2; omega) | (congr 1; congr 1; omega))); done)
              | exact zQm.ok H1 (by omega) (by assumption) (by unfold sp_set; (try unfold spPut); (try simp only [Int.toNat_natCast]); (repeat (first | rw [if_pos (by omega)] | rw [if_neg (by omega)] | rw [if_pos (by assumption)] | rw [if_neg (by assumption)] | rw [if_pos (True.intro : True)])); (try (first | rfl | (congr 2; omega) | (congr 1; congr 1; omega))); done)
              | exact zQm.b1 H1 (by omega) (by assumption) (by unfold sp_set; (try unfold spPut); (try simp only [Int.toNat_natCast]); (repeat (first | rw [if_pos (by omega)] | rw [if_neg (by omega)] | rw [if_pos (by assumption)] | rw [if_neg (by assumption)] | rw [if_pos (True.intro : True)])); (try (first | rfl | (congr 2; omega) | (congr 1; congr 1; omega))); done)
              | exact zQm.b2 H1 (by omega) (by assumption) (by unfold sp_set; (try unfold spPut); (try simp only [Int.toNat_natCast]); (repeat (first | rw [if_pos (by omega)] | rw [if_neg (by omega)] | rw [if_pos (by assumption)] | rw [if_neg (by assumption)] | rw [if_pos (True.intro : True)])); (try (first | rfl | (congr 2; omega) | (congr 1; congr 1; omega))); done)
              | exact zQm.b3 H1 (by omega) (by assumption) (by unfold sp_set; (try unfold spPut); (try simp only [Int.toNat_natCast]); (repeat (first | rw [if_pos (by omega)] | rw [if_neg (by omega)] | rw [if_pos (by assumption)] | rw [if_neg (by assumption)] | rw [if_pos (True.intro : True)])); (try (first | rfl | (congr 2; omega) | (congr 1; congr 1; omega))); done)
          · refine z_iconst dMod_set_33 ?_
            refine z_iret rfl rfl dMod_set_34 ?_
            rcases (show t9 = 0 ∨ t9 = 1 ∨ t9 = 2 ∨ t9 = 3 by omega) with t0 | t0 | t0 | t0
            all_goals first
              | (exfalso; omega)
              | exact zQm.ok H2 (by omega) (by assumption) (by unfold sp_set; (try unfold spPut); (try simp only [Int.toNat_natCast]); (repeat (first | rw [if_pos (by omega)] | rw [if_neg (by omega)] | rw [if_pos (by assumption)] | rw [if_neg (by assumption)] | rw [if_pos (True.intro : True)])); (try (first | rfl | (congr 2; omega) | (congr 1; congr 1; omega))); done)
              | exact zQm.b1 H2 (by omega) (by assumption) (by unfold sp_set; (try unfold spPut); (try simp only [Int.toNat_natCast]); (repeat (first | rw [if_pos (by omega)] | rw [if_neg (by omega)] | rw [if_pos (by assumption)] | rw [if_neg (by assumption)] | rw [if_pos (True.intro : True)])); (try (first | rfl | (congr 2; omega) | (congr 1; congr 1; omega))); done)
              | exact zQm.b2 H2 (by omega) (by assumption) (by unfold sp_set; (try unfold spPut); (try simp only [Int.toNat_natCast]); (repeat (first | rw [if_pos (by omega)] | rw [if_neg (by omega)] | rw [if_pos (by assumption)] | rw [if_neg (by assumption)] | rw [if_pos (True.intro : True)])); (try (first | rfl | (congr 2; omega) | (congr 1; congr 1; omega))); done)
              | exact zQm.b3 H2 (by omega) (by assumption) (by unfold sp_set; (try unfold spPut); (try simp only [Int.toNat_natCast]); (repeat (first | rw [if_pos (by omega)] | rw [if_neg (by omega)] | rw [if_pos (by assumption)] | rw [if_neg (by assumption)] | rw [if_pos (True.intro : True)])); (try (first | rfl | (congr 2; omega) | (congr 1; congr 1; omega))); done)
              | exact zQm.ok H1 (by omega) (by assumption) (by unfold sp_set; (try unfold spPut); (try simp only [Int.toNat_natCast]); (repeat (first | rw [if_pos (by omega)] | rw [if_neg (by omega)] | rw [if_pos (by assumption)] | rw [if_neg (by assumption)] | rw [if_pos (True.intro : True)])); (try (first | rfl | (congr 2; omega) | (congr 1; congr 1; omega))); done)
              | exact zQm.b1 H1 (by omega) (by assumption) (by unfold sp_set; (try unfold spPut); (try simp only [Int.toNat_natCast]); (repeat (first | rw [if_pos (by omega)] | rw [if_neg (by omega)] | rw [if_pos (by assumption)] | rw [if_neg (by assumption)] | rw [if_pos (True.intro : True)])); (try (first | rfl | (congr 2; omega) | (congr 1; congr 1; omega))); done)
              | exact zQm.b2 H1 (by omega) (by assumption) (by unfold sp_set; (try unfold spPut); (try simp only [Int.toNat_natCast]); (repeat (first | rw [if_pos (by omega)] | rw [if_neg (by omega)] | rw [if_pos (by assumption)] | rw [if_neg (by assumption)] | rw [if_pos (True.intro : True)])); (try (first | rfl | (congr 2; omega) | (congr 1; congr 1; omega))); done)
              | exact zQm.b3 H1 (by omega) (by assumption) (by unfold sp_set; (try unfold spPut); (try simp only [Int.toNat_natCast]); (repeat (first | rw [if_pos (by omega)] | rw [if_neg (by omega)] | rw [if_pos (by assumption)] | rw [if_neg (by assumption)] | rw [if_pos (True.intro : True)])); (try (first | rfl | (congr 2; omega) | (congr 1; congr 1; omega))); done)
end MOD6
end
section
section MOD7
variable {G : zG} {l : Launch} {h h' : zHp} {ma : Nat → Nat} {S : zSt} {th : Int}
theorem zior1 {x : Int} (hx : x = 0 ∨ x = 1) : zI x ||| zI 1 = zI 1 := by rcases hx with rfl | rfl <;> decide
theorem zior0 {x : Int} (hx : x = 0 ∨ x = 1) : zI x ||| zI 0 = zI x := by rcases hx with rfl | rfl <;> decide
theorem znar {x : Int} (hx : x = 0 ∨ x = 1) : vp_nar .boolean (zI x) = zI x := by rcases hx with rfl | rfl <;> rfl
def zSv (cu : Nat → Nat → Int) (k but : Int) (m c : Nat) : Int := if c < m ∧ cu c 0 = 1 ∧ cu c 2 = k ∧ (c : Int) ≠ but then 1 else cu c 1
theorem l_Mod_become {d mc ms bc bs : Nat} {Qn : Option Value → zHp → Prop} {Qx : String → zHp → Prop} {q k : Nat} {but : Int} {g : Nat → Option Nat} {f1 f3 : Nat → Int} {fs : List Value} {cu : Nat → Nat → Int} (hfs : fs = zMfs ma S th) (hb : zI32 but) (hk : k < 4) (n1 : ma 0 ≠ ma 3) (n2 : ma 2 ≠ ma 3) (n3 : ma 4 ≠ ma 3) (m2 : h (ma 0) = some (.inr (zkMod, zMfs ma S th))) (a1 : h (ma 2) = some (zBools G 3 f1)) (b1 : ∀ c, c < 3 → f1 c = cu c 0 ∧ (cu c 0 = 0 ∨ cu c 0 = 1)) (a3 : h (ma 4) = some (zInts G 3 f3)) (b3 : ∀ c, c < 3 → zI32 (f3 c) ∧ (cu c 0 = 1 → f3 c = cu c 2))
    (K : ∀ (h1 : zHp) (f : Nat → Int) y, h1 (ma 3) = some (zBools G 3 f) → (∀ c, c < 3 → (f c = 0 ∨ f c = 1) ∧ (cu c 0 = 1 → f c = zSv cu k but 3 c)) → (∀ z, z ≠ ma 3 → h1 z = h z) → zR G l (zMJ G hMod_become d Qn Qx mc ms) bc bs h1 64 [some (.ref (ma 0)), some (zi (k : Int)), some (.ref q), some (zi but), y] []) :
    ∀ (n : Nat) (m : Nat) (h1 : zHp) (f : Nat → Int), 3 - m < n → m ≤ 3 → h1 (ma 3) = some (zBools G 3 f) → (∀ c, c < 3 → (f c = 0 ∨ f c = 1) ∧ (cu c 0 = 1 → f c = zSv cu k but m c)) → (∀ z, z ≠ ma 3 → h1 z = h z) → zR G l (zMJ G hMod_become d Qn Qx mc ms) bc bs h1 10 [some (.ref (ma 0)), some (zi (k : Int)), some (.ref q), some (zi but), some (zi (m : Int))] [] := by
  intro n
  induction n with
  | zero => intro m h1 f q1 q2 e1 e2 hf; omega
  | succ n ih =>
  intro m h1 f q1 q2 e1 e2 hf
  have m21 := (hf _ n1).trans m2
  have a11 := (hf _ n2).trans a1
  have a31 := (hf _ n3).trans a3
  unfold zMfs at m21
  refine z_iload dMod_become_10 rfl ?_
  refine z_iconst dMod_become_12 ?_
  refine z_icmp_ge (tgt := 64) dMod_become_13 (by decide) (by omega) (by omega) (fun c13 => ?_) (fun c13 => ?_)
  · have em : m = 3 := by omega
    subst em
    exact K h1 f _ e1 e2 hf
  · have b1m := b1 m (by omega)
    have b3m := b3 m (by omega)
    have e2m := e2 m (by omega)
    refine z_aload_n dMod_become_16 rfl ?_
    refine z_get (k := 2) fd_Mod (by decide) fl_Mod_18 dMod_become_17 (by assumption) (by rfl) ?_
    refine z_iload dMod_become_20 rfl ?_
    refine z_dup2 rfl rfl dMod_become_22 ?_
    refine z_zald dMod_become_23 (by assumption) (by refine ⟨?_, ?_, ?_⟩ <;> omega) ?_
    rw [Int.toNat_natCast]
    refine z_aload_n dMod_become_24 rfl ?_
    refine z_get (k := 1) fd_Mod (by decide) fl_Mod_14 dMod_become_25 (by assumption) (by rfl) ?_
    refine z_iload dMod_become_28 rfl ?_
    refine z_zald dMod_become_30 (by assumption) (by refine ⟨?_, ?_, ?_⟩ <;> omega) ?_
    rw [Int.toNat_natCast]
    refine z_if_eq (tgt := 55) dMod_become_31 (by decide) (by omega) (fun c31 => ?_) (fun c31 => ?_)
    · refine z_iconst dMod_become_55 ?_
      first
        | refine z_ior 1 (zior1 (by omega)) dMod_become_56 ?_
        | refine z_ior _ (zior0 (by omega)) dMod_become_56 ?_
      refine z_zast (by first | rfl | exact znar (by omega)) dMod_become_57 (by assumption) (by refine ⟨?_, ?_, ?_⟩ <;> omega) ?_
      refine z_hx (fun h2 p2 g2 => ?_)
      rw [Int.toNat_natCast] at p2
      refine z_iinc dMod_become_58 rfl (Nat.le_of_ble_eq_true rfl) ?_
      refine z_goto (tgt := 10) dMod_become_61 (by decide) ?_
      refine ih (m + 1) h2 _ (by omega) (by omega) p2 (fun c hc => ?_) (fun z hz => (g2 z hz).trans (hf z hz))
      have e2c := e2 c hc
      unfold zSv at e2c e2m ⊢
      by_cases e9 : c = m
      · subst e9
        rw [zup_same]
        refine ⟨by omega, fun ht => ?_⟩
        have e2c2 := e2c.2 ht
        rw [if_neg (by omega)] at e2c2
        first
          | (exfalso; omega)
          | (rw [if_pos (by omega)])
          | (rw [if_neg (by omega)]; exact e2c2)
      · rw [zup_ne e9]
        refine ⟨e2c.1, fun ht => (e2c.2 ht).trans ?_⟩
        by_cases c9 : c < m ∧ cu c 0 = 1 ∧ cu c 2 = k ∧ (c : Int) ≠ but
        · rw [if_pos c9, if_pos (by omega)]
        · rw [if_neg c9, if_neg (by omega)]
    · refine z_aload_n dMod_become_34 rfl ?_
      refine z_get (k := 3) fd_Mod (by decide) fl_Mod_21 dMod_become_35 (by assumption) (by rfl) ?_
      refine z_iload dMod_become_38 rfl ?_
      refine z_iald dMod_become_40 (by assumption) (by refine ⟨?_, ?_, ?_⟩ <;> omega) ?_
      rw [Int.toNat_natCast]
      refine z_iload_n dMod_become_41 rfl ?_
      refine z_icmp_ne (tgt := 55) dMod_become_42 (by decide) (by omega) (by omega) (fun c42 => ?_) (fun c42 => ?_)
      · refine z_iconst dMod_become_55 ?_
        first
          | refine z_ior 1 (zior1 (by omega)) dMod_become_56 ?_
          | refine z_ior _ (zior0 (by omega)) dMod_become_56 ?_
        refine z_zast (by first | rfl | exact znar (by omega)) dMod_become_57 (by assumption) (by refine ⟨?_, ?_, ?_⟩ <;> omega) ?_
        refine z_hx (fun h2 p2 g2 => ?_)
        rw [Int.toNat_natCast] at p2
        refine z_iinc dMod_become_58 rfl (Nat.le_of_ble_eq_true rfl) ?_
        refine z_goto (tgt := 10) dMod_become_61 (by decide) ?_
        refine ih (m + 1) h2 _ (by omega) (by omega) p2 (fun c hc => ?_) (fun z hz => (g2 z hz).trans (hf z hz))
        have e2c := e2 c hc
        unfold zSv at e2c e2m ⊢
        by_cases e9 : c = m
        · subst e9
          rw [zup_same]
          refine ⟨by omega, fun ht => ?_⟩
          have e2c2 := e2c.2 ht
          rw [if_neg (by omega)] at e2c2
          first
            | (exfalso; omega)
            | (rw [if_pos (by omega)])
            | (rw [if_neg (by omega)]; exact e2c2)
        · rw [zup_ne e9]
          refine ⟨e2c.1, fun ht => (e2c.2 ht).trans ?_⟩
          by_cases c9 : c < m ∧ cu c 0 = 1 ∧ cu c 2 = k ∧ (c : Int) ≠ but
          · rw [if_pos c9, if_pos (by omega)]
          · rw [if_neg c9, if_neg (by omega)]
      · refine z_iload dMod_become_45 rfl ?_
        refine z_iload_n dMod_become_47 rfl ?_
        refine z_icmp_eq (tgt := 55) dMod_become_48 (by decide) (by omega) (by omega) (fun c48 => ?_) (fun c48 => ?_)
        · refine z_iconst dMod_become_55 ?_
          first
            | refine z_ior 1 (zior1 (by omega)) dMod_become_56 ?_
            | refine z_ior _ (zior0 (by omega)) dMod_become_56 ?_
          refine z_zast (by first | rfl | exact znar (by omega)) dMod_become_57 (by assumption) (by refine ⟨?_, ?_, ?_⟩ <;> omega) ?_
          refine z_hx (fun h2 p2 g2 => ?_)
          rw [Int.toNat_natCast] at p2
          refine z_iinc dMod_become_58 rfl (Nat.le_of_ble_eq_true rfl) ?_
          refine z_goto (tgt := 10) dMod_become_61 (by decide) ?_
          refine ih (m + 1) h2 _ (by omega) (by omega) p2 (fun c hc => ?_) (fun z hz => (g2 z hz).trans (hf z hz))
          have e2c := e2 c hc
          unfold zSv at e2c e2m ⊢
          by_cases e9 : c = m
          · subst e9
            rw [zup_same]
            refine ⟨by omega, fun ht => ?_⟩
            have e2c2 := e2c.2 ht
            rw [if_neg (by omega)] at e2c2
            first
              | (exfalso; omega)
              | (rw [if_pos (by omega)])
              | (rw [if_neg (by omega)]; exact e2c2)
          · rw [zup_ne e9]
            refine ⟨e2c.1, fun ht => (e2c.2 ht).trans ?_⟩
            by_cases c9 : c < m ∧ cu c 0 = 1 ∧ cu c 2 = k ∧ (c : Int) ≠ but
            · rw [if_pos c9, if_pos (by omega)]
            · rw [if_neg c9, if_neg (by omega)]
        · refine z_iconst dMod_become_51 ?_
          refine z_goto (tgt := 56) dMod_become_52 (by decide) ?_
          first
            | refine z_ior 1 (zior1 (by omega)) dMod_become_56 ?_
            | refine z_ior _ (zior0 (by omega)) dMod_become_56 ?_
          refine z_zast (by first | rfl | exact znar (by omega)) dMod_become_57 (by assumption) (by refine ⟨?_, ?_, ?_⟩ <;> omega) ?_
          refine z_hx (fun h2 p2 g2 => ?_)
          rw [Int.toNat_natCast] at p2
          refine z_iinc dMod_become_58 rfl (Nat.le_of_ble_eq_true rfl) ?_
          refine z_goto (tgt := 10) dMod_become_61 (by decide) ?_
          refine ih (m + 1) h2 _ (by omega) (by omega) p2 (fun c hc => ?_) (fun z hz => (g2 z hz).trans (hf z hz))
          have e2c := e2 c hc
          unfold zSv at e2c e2m ⊢
          by_cases e9 : c = m
          · subst e9
            rw [zup_same]
            refine ⟨by omega, fun ht => ?_⟩
            have e2c2 := e2c.2 ht
            rw [if_neg (by omega)] at e2c2
            first
              | (exfalso; omega)
              | (rw [if_pos (by omega)])
              | (rw [if_neg (by omega)]; exact e2c2)
          · rw [zup_ne e9]
            refine ⟨e2c.1, fun ht => (e2c.2 ht).trans ?_⟩
            by_cases c9 : c < m ∧ cu c 0 = 1 ∧ cu c 2 = k ∧ (c : Int) ≠ but
            · rw [if_pos c9, if_pos (by omega)]
            · rw [if_neg c9, if_neg (by omega)]
theorem zMod.newrow {k q : Nat} {L : List Int} {but : Int} {f : Nat → Int} (H : zMod G h ma S th) (hk : k < 4) (hq : zAr G h' q L) (nq : ∀ i, i < 13 → i ≠ 8 + k → q ≠ ma i) {g : Nat → Option Nat} (e1 : h' (ma 1) = some (zRefs G 4 4 (zup g k (some q)))) (gg : ∀ j, j < 4 → g j = some (ma (8 + j))) (e3 : h' (ma 3) = some (zBools G 3 f)) (ef : ∀ c, c < 3 → (f c = 0 ∨ f c = 1) ∧ (S.2.1 c 0 = 1 → f c = zSv S.2.1 k but 3 c)) (hf : ∀ z, z ≠ ma 1 → z ≠ ma 3 → z ≠ q → h' z = h z) : zMod G h' (zup ma (8 + k) q) (zsStale (zsL S k L) k but) th := by
  obtain ⟨m1, m2, -, ⟨⟨f1, a1, b1⟩, -, ⟨f3, a3, b3⟩, ⟨f4, a4, b4⟩, ⟨f5, a5, b5⟩⟩, ⟨f6, m5, m5'⟩, m6, m7⟩ := id H
  have kp : ∀ i, i < 13 → i ≠ 1 → i ≠ 3 → i ≠ 8 + k → h' (ma i) = h (ma i) := fun i hi x1 x3 x4 => hf _ (H.inj hi (by omega) x1) (H.inj hi (by omega) x3) (fun e => nq i hi x4 e.symm)
  have zn : ∀ i, i ≠ 8 + k → zup ma (8 + k) q i = ma i := fun i hi => zup_ne hi
  have en : ∀ c f9, f9 ≠ 1 → (zsStale (zsL S k L) k but).2.1 c f9 = S.2.1 c f9 := fun c f9 h9 => if_neg (fun z => h9 z.2.1)
  refine ⟨fun i j hi hj e => ?_, ?_, ⟨zup g k (some q), ?_, fun j hj => ?_⟩, ⟨⟨f1, ?_, fun c hc => ?_⟩, ⟨f, ?_, fun c hc => ?_⟩, ⟨f3, ?_, fun c hc => ?_⟩, ⟨f4, ?_, fun c hc => ?_⟩, ⟨f5, ?_, fun c hc => ?_⟩⟩, ⟨f6, ?_, m5'⟩, fun j hj => ?_, ?_⟩
  · by_cases c1 : i = 8 + k
    · by_cases c2 : j = 8 + k
      · omega
      · rw [c1, zup_same, zn j c2] at e
        exact absurd e (nq j hj c2)
    · by_cases c2 : j = 8 + k
      · rw [c2, zup_same, zn i c1] at e
        exact absurd e.symm (nq i hi c1)
      · rw [zn i c1, zn j c2] at e
        exact m1 i j hi hj e
  · rw [zn 0 (by omega)]
    refine ((kp 0 (by omega) (by omega) (by omega) (by omega)).trans m2).trans ?_
    unfold zMfs
    rw [zn 1 (by omega), zn 2 (by omega), zn 3 (by omega), zn 4 (by omega), zn 5 (by omega), zn 6 (by omega), zn 12 (by omega), zn 7 (by omega)]
    rfl
  · rw [zn 1 (by omega)]; exact e1
  · by_cases c1 : j = k
    · rw [c1, zup_same, zup_same]
    · rw [zup_ne c1, zn _ (by omega)]; exact gg j hj
  · rw [zn 2 (by omega)]; exact (kp 2 (by omega) (by omega) (by omega) (by omega)).trans a1
  · rw [en c 0 (by omega)]; exact b1 c hc
  · rw [zn 3 (by omega)]; exact e3
  · rw [en c 0 (by omega)]
    refine ⟨(ef c hc).1, fun ht => ((ef c hc).2 ht).trans ?_⟩
    unfold zSv
    by_cases z : c < 3 ∧ S.2.1 c 0 = 1 ∧ S.2.1 c 2 = k ∧ (c : Int) ≠ but
    · rw [if_pos z]
      exact (if_pos ⟨z.1, rfl, z.2⟩).symm
    · rw [if_neg z]
      exact (if_neg (fun y => z ⟨y.1, y.2.2⟩)).symm
  · rw [zn 4 (by omega)]; exact (kp 4 (by omega) (by omega) (by omega) (by omega)).trans a3
  · rw [en c 0 (by omega), en c 2 (by omega)]; exact b3 c hc
  · rw [zn 5 (by omega)]; exact (kp 5 (by omega) (by omega) (by omega) (by omega)).trans a4
  · rw [en c 0 (by omega), en c 3 (by omega)]; exact b4 c hc
  · rw [zn 6 (by omega)]; exact (kp 6 (by omega) (by omega) (by omega) (by omega)).trans a5
  · rw [en c 0 (by omega), en c 4 (by omega)]; exact b5 c hc
  · rw [zn 7 (by omega)]; exact (kp 7 (by omega) (by omega) (by omega) (by omega)).trans m5
  · by_cases c1 : j = k
    · rw [c1, zup_same]
      show zAr G h' q (zup S.1 k L k)
      rw [zup_same]; exact hq
    · rw [zn _ (by omega)]
      show zAr G h' _ (zup S.1 k L j)
      rw [zup_ne c1]
      exact (m6 j hj).kept (kp _ (by omega) (by omega) (by omega) (by omega))
  · rw [zn 12 (by omega)]; exact m7.kept (kp 12 (by omega) (by omega) (by omega) (by omega))
theorem k_Mod_become {k q : Nat} {L : List Int} {but : Int} (H : zMod G h ma S th) (hk : k < 4) (hq : zAr G h q L) (nq : ∀ i, i < 13 → i ≠ 8 + k → q ≠ ma i) (hb : zI32 but) : zM G l hMod_become yMod_become 1 [.ref (ma 0), zi (k : Int), .ref q, zi but] h (fun v h' => v = none ∧ zMod G h' (zup ma (8 + k) q) (zsStale (zsL S k L) k but) th ∧ ∀ z, z ≠ ma 1 → z ≠ ma 3 → h' z = h z) zNo 0 0 := by
  obtain ⟨m1, m2, ⟨g, m3, m3a⟩, m4, ⟨f6, m5, m5a⟩, m6, m7⟩ := id H
  have m2b := m2
  unfold zMfs at m2
  obtain ⟨⟨f1, a1, b1⟩, ⟨f2, a2, b2⟩, ⟨f3, a3, b3⟩, -⟩ := id m4
  obtain ⟨fq, q1, q2, q3, q4⟩ := id hq
  refine zM.of [some (.ref (ma 0)), some (zi (k : Int)), some (.ref q), some (zi but), none] (by decide +kernel) rfl (by decide) rfl (Nat.le_of_ble_eq_true rfl) rfl ?_
  refine z_aload_n dMod_become_0 rfl ?_
  refine z_get (k := 0) fd_Mod (by decide) fl_Mod_11 dMod_become_1 (by assumption) (by rfl) ?_
  refine z_iload_n dMod_become_4 rfl ?_
  refine z_aload_n dMod_become_5 rfl ?_
  refine z_aastI dMod_become_6 m3 q1 (by refine ⟨?_, ?_, ?_⟩ <;> omega) ?_
  refine z_hx (fun h1 p1 g1 => ?_)
  rw [Int.toNat_natCast] at p1
  refine z_iconst dMod_become_7 ?_
  refine z_istore dMod_become_8 (Nat.le_of_ble_eq_true rfl) ?_
  have nn : ∀ i, i < 13 → i ≠ 1 → ma i ≠ ma 1 := fun i hi h1 => H.inj hi (by omega) h1
  refine l_Mod_become (fs := zMfs ma S th) (cu := S.2.1) (g := g) rfl hb hk (H.inj (by omega) (by omega) (by omega)) (H.inj (by omega) (by omega) (by omega)) (H.inj (by omega) (by omega) (by omega)) ((g1 _ (nn 0 (by omega) (by omega))).trans m2b) ((g1 _ (nn 2 (by omega) (by omega))).trans a1) b1 ((g1 _ (nn 4 (by omega) (by omega))).trans a3) b3 (fun h2 f y e3 ef f2 => ?_) 4 0 h1 f2 (by omega) (by omega) ((g1 _ (nn 3 (by omega) (by omega))).trans a2) (fun c hc => ⟨(b2 c hc).1, fun ht => by unfold zSv; rw [if_neg (by omega)]; exact (b2 c hc).2 ht⟩) (fun z hz => rfl)
  refine z_vret rfl dMod_become_64 ?_
  have F : ∀ z, z ≠ ma 1 → z ≠ ma 3 → h2 z = h z := fun z z1 z3 => (f2 z z3).trans (g1 z z1)
  refine ⟨rfl, H.newrow hk (hq.kept (F q (nq 1 (by omega) (by omega)) (nq 3 (by omega) (by omega)))) nq ((f2 _ (H.inj (by omega) (by omega) (by omega))).trans p1) m3a e3 ef (fun z z1 z3 _ => F z z1 z3), F⟩
end MOD7
end
section
section MOD8
variable {G : zG} {l : Launch} {h h' : zHp} {ma : Nat → Nat} {S : zSt} {th : Int}
theorem k_Mod_becomes {k q : Nat} {L : List Int} (H : zMod G h ma S th) (hk : k < 4) (hq : zAr G h q L) (nq : ∀ i, i < 13 → i ≠ 8 + k → q ≠ ma i) : zM G l hMod_becomes yMod_becomes 2 [.ref (ma 0), zi (k : Int), .ref q] h (fun v h' => v = some (zi (L.length : Int)) ∧ zMod G h' (zup ma (8 + k) q) (zsStale (zsL S k L) k (-1)) th ∧ ∀ z, z ≠ ma 1 → z ≠ ma 3 → h' z = h z) zNo 0 0 := by
  obtain ⟨m1, m2, ⟨g, m3, m3a⟩, m4, ⟨f6, m5, m5a⟩, m6, m7⟩ := id H
  unfold zMfs at m2
  refine zM.of [some (.ref (ma 0)), some (zi (k : Int)), some (.ref q)] (by decide +kernel) rfl (by decide) rfl (Nat.le_of_ble_eq_true rfl) rfl ?_
  refine z_aload_n dMod_becomes_0 rfl ?_
  refine z_iload_n dMod_becomes_1 rfl ?_
  refine z_aload_n dMod_becomes_2 rfl ?_
  refine z_iconst dMod_becomes_3 ?_
  refine z_callV MV_Mod_become lk_Mod_77 dMod_becomes_4 (k_Mod_become H hk hq nq (by omega)) rfl rfl (Nat.le_of_ble_eq_true rfl) rfl (by assumption) (Nat.le_of_ble_eq_true rfl) (Nat.le_of_ble_eq_true rfl) (Nat.le_of_eq (Nat.zero_add _)) (Nat.le_of_eq (Nat.zero_add _)) (fun _ _ q => q.elim) ?_
  rintro _ h1 ⟨rfl, H1, F1⟩
  obtain ⟨fq1, q11, -⟩ := id (hq.kept (F1 q (nq 1 (by omega) (by omega)) (nq 3 (by omega) (by omega))))
  refine z_aload_n dMod_becomes_7 rfl ?_
  refine z_alenI dMod_becomes_8 (by assumption) ?_
  refine z_iret rfl rfl dMod_becomes_9 ?_
  exact ⟨rfl, H1, F1⟩
end MOD8
end
section
section MOD9
variable {G : zG} {l : Launch} {h h' : zHp} {ma : Nat → Nat} {S : zSt} {th : Int}
theorem zMod.dom (H : zMod G h ma S th) {i : Nat} (hi : i < 13) : ∃ e, h (ma i) = some e := by
  obtain ⟨m1, m2, ⟨g, m3, m3'⟩, ⟨⟨f1, a1, b1⟩, ⟨f2, a2, b2⟩, ⟨f3, a3, b3⟩, ⟨f4, a4, b4⟩, ⟨f5, a5, b5⟩⟩, ⟨f6, m5, m5'⟩, m6, m7⟩ := id H
  obtain ⟨g0, c0, -⟩ := m6 0 (by omega)
  obtain ⟨g1, c1, -⟩ := m6 1 (by omega)
  obtain ⟨g2, c2, -⟩ := m6 2 (by omega)
  obtain ⟨g3, c3, -⟩ := m6 3 (by omega)
  obtain ⟨g7, c7, -⟩ := m7
  rcases (show i = 0 ∨ i = 1 ∨ i = 2 ∨ i = 3 ∨ i = 4 ∨ i = 5 ∨ i = 6 ∨ i = 7 ∨ i = 8 ∨ i = 9 ∨ i = 10 ∨ i = 11 ∨ i = 12 by omega) with rfl | rfl | rfl | rfl | rfl | rfl | rfl | rfl | rfl | rfl | rfl | rfl | rfl
  all_goals exact ⟨_, by assumption⟩
theorem zMod.nq (H : zMod G h ma S th) {q : Nat} (hq : zDm h q) {i : Nat} (hi : i < 13) : q ≠ ma i := by
  obtain ⟨e, he⟩ := H.dom hi
  have := hq _ _ he
  omega
theorem zMod.same (H : zMod G h ma S th) (kp : ∀ i, i < 13 → h' (ma i) = h (ma i)) : zMod G h' ma S th := by
  obtain ⟨m1, m2, ⟨g, m3, m3'⟩, ⟨⟨f1, a1, b1⟩, ⟨f2, a2, b2⟩, ⟨f3, a3, b3⟩, ⟨f4, a4, b4⟩, ⟨f5, a5, b5⟩⟩, ⟨f6, m5, m5'⟩, m6, m7⟩ := id H
  exact ⟨m1, (kp 0 (by omega)).trans m2, ⟨g, (kp 1 (by omega)).trans m3, m3'⟩, ⟨⟨f1, (kp 2 (by omega)).trans a1, b1⟩, ⟨f2, (kp 3 (by omega)).trans a2, b2⟩, ⟨f3, (kp 4 (by omega)).trans a3, b3⟩, ⟨f4, (kp 5 (by omega)).trans a4, b4⟩, ⟨f5, (kp 6 (by omega)).trans a5, b5⟩⟩, ⟨f6, (kp 7 (by omega)).trans m5, m5'⟩, fun k hk => (m6 k hk).kept (kp _ (by omega)), m7.kept (kp 12 (by omega))⟩
theorem zMod.keep (H : zMod G h ma S th) {q : Nat} (hq : zDm h q) (hf : ∀ z, z ≠ q → h' z = h z) : zMod G h' ma S th := H.same (fun i hi => hf _ (fun e => H.nq hq hi e.symm))
theorem zMfr.new {q : Nat} (hq : zDm h q) (hf : ∀ z, z ≠ q → h' z = h z) : zMfr ma h h' := fun z e he _ => (hf z (fun ez => by have := hq _ _ he; omega)).trans he
theorem zMfr.of2 {i j : Nat} (hi : i < 13) (hj : j < 13) (hf : ∀ q, q ≠ ma i → q ≠ ma j → h' q = h q) : zMfr ma h h' := fun q e he hq => (hf q (hq i hi) (hq j hj)).trans he
theorem zDm.up {q : Nat} (hq : zDm h' q) (H0 : zMod G h' ma S th) (fz : zMfr ma h h') : zDm h q := by
  intro a e he
  by_cases c : ∃ i, i < 13 ∧ a = ma i
  · obtain ⟨i, hi, rfl⟩ := c
    obtain ⟨e9, h9⟩ := H0.dom hi
    exact hq _ _ h9
  · exact hq _ _ (fz a e he (fun i hi ea => c ⟨i, hi, ea⟩))
theorem zsL_id (S : zSt) (k : Nat) : zsL S k (S.1 k) = S := by
  have : zup S.1 k (S.1 k) = S.1 := by
    funext j
    unfold zup
    split
    · rename_i e; rw [e]
    · rfl
  unfold zsL
  rw [this]
/-- an answer after a row was put in another's stead -/
theorem zQm.okB {c1 c2 c3 z : Int} {k q : Nat} {S' : zSt} {r : zRes} (H : zMod G h' (zup ma (8 + k) q) S' th) (hq : q = ma (8 + k) ∨ (zDm h q ∧ G.2.2 ≤ q)) (t0 : th = 0) (hf : zMfr ma h h') (e : r = (.inl z, S')) : zQm G ma h c1 c2 c3 r (some (zi z)) h' := by
  subst e
  refine ⟨zup ma (8 + k) q, th, z, rfl, zup_ne (by omega), H, hf, fun i hi => ?_, Or.inl ⟨rfl, t0⟩⟩
  by_cases c : i = 8 + k
  · subst c
    rw [zup_same]
    exact hq
  · exact Or.inl (zup_ne c)
theorem zMfr.bec (hf : ∀ q, q ≠ ma 1 → q ≠ ma 3 → h' q = h q) : zMfr ma h h' := zMfr.of2 (i := 1) (j := 3) (by omega) (by omega) hf
theorem k_Mod_put {p w x : Int} (H : zMod G h ma S th) (z_p : zI32 p) (z_w : zI32 w) (z_x : zI32 x) (h16 : ∀ k, k < 4 → (S.1 k).length ≤ 16) : zM G l hMod_put yMod_put 4 [.ref (ma 0), zi p, zi w, zi x] h (zQm G ma h (1) (2) (3) (sp_put S p w x)) zNo 1 61 := by
  obtain ⟨m1, m2, ⟨g, m3, m3a⟩, m4, ⟨f6, m5, m5a⟩, m6, m7⟩ := id H
  unfold zMfs at m2
  refine zM.of [some (.ref (ma 0)), some (zi p), some (zi w), some (zi x)] (by decide +kernel) rfl (by decide) rfl (Nat.le_of_ble_eq_true rfl) rfl ?_
  refine z_aload_n dMod_put_0 rfl ?_
  refine z_iload_n dMod_put_1 rfl ?_
  refine z_callS MS_Mod_isNo lk_Mod_81 dMod_put_2 (k_Mod_isNo (by omega)) rfl rfl (Nat.le_of_ble_eq_true rfl)  (Nat.le_of_ble_eq_true rfl) (Nat.le_of_ble_eq_true rfl) (Nat.le_of_eq (Nat.zero_add _)) (Nat.le_of_eq (Nat.zero_add _)) (fun _ _ q => q.elim) ?_
  rintro _ _ ⟨n9, rfl, hn9, rfl⟩
  refine z_iload_n dMod_put_5 rfl ?_
  refine z_iconst dMod_put_6 ?_
  refine z_iconst dMod_put_7 ?_
  refine z_callS MS_Mod_isOut lk_Mod_41 dMod_put_8 (k_Mod_isOut (by omega) (by omega) (by omega)) rfl rfl (Nat.le_of_ble_eq_true rfl)  (Nat.le_of_ble_eq_true rfl) (Nat.le_of_ble_eq_true rfl) (Nat.le_of_eq (Nat.zero_add _)) (Nat.le_of_eq (Nat.zero_add _)) (fun _ _ q => q.elim) ?_
  rintro _ _ ⟨o9, rfl, (⟨rfl, ho9⟩ | ⟨rfl, ho9⟩), rfl⟩
  · refine z_if_ne (tgt := 21) dMod_put_11 (by decide) (by omega) (fun c11 => ?_) (fun c11 => ?_)
    · refine z_iconst dMod_put_21 ?_
      refine z_goto (tgt := 26) dMod_put_22 (by decide) ?_
      refine z_iconst dMod_put_26 ?_
      refine z_callV MV_Mod_fails lk_Mod_88 dMod_put_27 (k_Mod_fails (by assumption) rfl (by omega) (by omega) (by omega)) rfl rfl (Nat.le_of_ble_eq_true rfl) rfl (by assumption) (Nat.le_of_ble_eq_true rfl) (Nat.le_of_ble_eq_true rfl) (Nat.le_of_eq (Nat.zero_add _)) (Nat.le_of_eq (Nat.zero_add _)) (fun _ _ q => q.elim) ?_
      rintro _ h1 ⟨t9, b8, rfl, ht, p1, g1⟩
      have H1 : zMod G h1 ma S t9 := H.obj (nu := S.2.2.2.2) (th' := t9) p1 g1
      have fz1 : zMfr ma h h1 := zMfr.of0 g1
      obtain ⟨-, n2, ⟨gg, n3, n3a⟩, n4, ⟨f61, n5, n5a⟩, n6, n7⟩ := id H1
      unfold zMfs at n2
      refine z_if_eq (tgt := 35) dMod_put_30 (by decide) (by omega) (fun c30 => ?_) (fun c30 => ?_)
      · exfalso; omega
      · refine z_iconst dMod_put_33 ?_
        refine z_iret rfl rfl dMod_put_34 ?_
        by_cases hw9 : w = 1 ∨ w = 3 ∨ w = 5
        all_goals rcases (show t9 = 0 ∨ t9 = 1 ∨ t9 = 2 ∨ t9 = 3 by omega) with t0 | t0 | t0 | t0
        all_goals first
          | (exfalso; omega)
          | exact zQm.okB H3 (Or.inr ⟨dq2, gq2⟩) (by omega) (by assumption) (by unfold sp_put; (try unfold spPut); (try simp only [Int.toNat_natCast]); (repeat (first | rw [if_pos (by omega)] | rw [if_neg (by omega)] | rw [if_pos (by assumption)] | rw [if_neg (by assumption)] | rw [if_pos (True.intro : True)])); (try (first | rfl | (congr 2; omega) | (congr 1; congr 1; omega))); done)
          | exact zQm.ok H2 (by omega) (by assumption) (by unfold sp_put; (try unfold spPut); (try simp only [Int.toNat_natCast]); (repeat (first | rw [if_pos (by omega)] | rw [if_neg (by omega)] | rw [if_pos (by assumption)] | rw [if_neg (by assumption)] | rw [if_pos (True.intro : True)])); (try (first | rfl | (congr 2; omega) | (congr 1; congr 1; omega))); done)
          | exact zQm.b1 H2 (by omega) (by assumption) (by unfold sp_put; (try unfold spPut); (try simp only [Int.toNat_natCast]); (repeat (first | rw [if_pos (by omega)] | rw [if_neg (by omega)] | rw [if_pos (by assumption)] | rw [if_neg (by assumption)] | rw [if_pos (True.intro : True)])); (try (first | rfl | (congr 2; omega) | (congr 1; congr 1; omega))); done)
          | exact zQm.b2 H2 (by omega) (by assumption) (by unfold sp_put; (try unfold spPut); (try simp only [Int.toNat_natCast]); (repeat (first | rw [if_pos (by omega)] | rw [if_neg (by omega)] | rw [if_pos (by assumption)] | rw [if_neg (by assumption)] | rw [if_pos (True.intro : True)])); (try (first | rfl | (congr 2; omega) | (congr 1; congr 1; omega))); done)
          | exact zQm.b3 H2 (by omega) (by assumption) (by unfold sp_put; (try unfold spPut); (try simp only [Int.toNat_natCast]); (repeat (first | rw [if_pos (by omega)] | rw [if_neg (by omega)] | rw [if_pos (by assumption)] | rw [if_neg (by assumption)] | rw [if_pos (True.intro : True)])); (try (first | rfl | (congr 2; omega) | (congr 1; congr 1; omega))); done)
          | exact zQm.ok H1 (by omega) (by assumption) (by unfold sp_put; (try unfold spPut); (try simp only [Int.toNat_natCast]); (repeat (first | rw [if_pos (by omega)] | rw [if_neg (by omega)] | rw [if_pos (by assumption)] | rw [if_neg (by assumption)] | rw [if_pos (True.intro : True)])); (try (first | rfl | (congr 2; omega) | (congr 1; congr 1; omega))); done)
          | exact zQm.b1 H1 (by omega) (by assumption) (by unfold sp_put; (try unfold spPut); (try simp only [Int.toNat_natCast]); (repeat (first | rw [if_pos (by omega)] | rw [if_neg (by omega)] | rw [if_pos (by assumption)] | rw [if_neg (by assumption)] | rw [if_pos (True.intro : True)])); (try (first | rfl | (congr 2; omega) | (congr 1; congr 1; omega))); done)
          | exact zQm.b2 H1 (by omega) (by assumption) (by unfold sp_put; (try unfold spPut); (try simp only [Int.toNat_natCast]); (repeat (first | rw [if_pos (by omega)] | rw [if_neg (by omega)] | rw [if_pos (by assumption)] | rw [if_neg (by assumption)] | rw [if_pos (True.intro : True)])); (try (first | rfl | (congr 2; omega) | (congr 1; congr 1; omega))); done)
          | exact zQm.b3 H1 (by omega) (by assumption) (by unfold sp_put; (try unfold spPut); (try simp only [Int.toNat_natCast]); (repeat (first | rw [if_pos (by omega)] | rw [if_neg (by omega)] | rw [if_pos (by assumption)] | rw [if_neg (by assumption)] | rw [if_pos (True.intro : True)])); (try (first | rfl | (congr 2; omega) | (congr 1; congr 1; omega))); done)
    · exfalso; omega
  · refine z_if_ne (tgt := 21) dMod_put_11 (by decide) (by omega) (fun c11 => ?_) (fun c11 => ?_)
    · exfalso; omega
    · refine z_iload_n dMod_put_14 rfl ?_
      refine z_callS MS_Mod_isNoItem lk_Mod_85 dMod_put_15 (k_Mod_isNoItem (by omega)) rfl rfl (Nat.le_of_ble_eq_true rfl)  (Nat.le_of_ble_eq_true rfl) (Nat.le_of_ble_eq_true rfl) (Nat.le_of_eq (Nat.zero_add _)) (Nat.le_of_eq (Nat.zero_add _)) (fun _ _ q => q.elim) ?_
      rintro _ _ ⟨i9, rfl, (⟨rfl, hi9⟩ | ⟨rfl, hi9⟩), rfl⟩
      · refine z_if_eq (tgt := 25) dMod_put_18 (by decide) (by omega) (fun c18 => ?_) (fun c18 => ?_)
        · exfalso; omega
        · refine z_iconst dMod_put_21 ?_
          refine z_goto (tgt := 26) dMod_put_22 (by decide) ?_
          refine z_iconst dMod_put_26 ?_
          refine z_callV MV_Mod_fails lk_Mod_88 dMod_put_27 (k_Mod_fails (by assumption) rfl (by omega) (by omega) (by omega)) rfl rfl (Nat.le_of_ble_eq_true rfl) rfl (by assumption) (Nat.le_of_ble_eq_true rfl) (Nat.le_of_ble_eq_true rfl) (Nat.le_of_eq (Nat.zero_add _)) (Nat.le_of_eq (Nat.zero_add _)) (fun _ _ q => q.elim) ?_
          rintro _ h1 ⟨t9, b8, rfl, ht, p1, g1⟩
          have H1 : zMod G h1 ma S t9 := H.obj (nu := S.2.2.2.2) (th' := t9) p1 g1
          have fz1 : zMfr ma h h1 := zMfr.of0 g1
          obtain ⟨-, n2, ⟨gg, n3, n3a⟩, n4, ⟨f61, n5, n5a⟩, n6, n7⟩ := id H1
          unfold zMfs at n2
          refine z_if_eq (tgt := 35) dMod_put_30 (by decide) (by omega) (fun c30 => ?_) (fun c30 => ?_)
          · exfalso; omega
          · refine z_iconst dMod_put_33 ?_
            refine z_iret rfl rfl dMod_put_34 ?_
            by_cases hw9 : w = 1 ∨ w = 3 ∨ w = 5
            all_goals rcases (show t9 = 0 ∨ t9 = 1 ∨ t9 = 2 ∨ t9 = 3 by omega) with t0 | t0 | t0 | t0
            all_goals first
              | (exfalso; omega)
              | exact zQm.okB H3 (Or.inr ⟨dq2, gq2⟩) (by omega) (by assumption) (by unfold sp_put; (try unfold spPut); (try simp only [Int.toNat_natCast]); (repeat (first | rw [if_pos (by omega)] | rw [if_neg (by omega)] | rw [if_pos (by assumption)] | rw [if_neg (by assumption)] | rw [if_pos (True.intro : True)])); (try (first | rfl | (congr 2; omega) | (congr 1; congr 1; omega))); done)
              | exact zQm.ok H2 (by omega) (by assumption) (by unfold sp_put; (try unfold spPut); (try simp only [Int.toNat_natCast]); (repeat (first | rw [if_pos (by omega)] | rw [if_neg (by omega)] | rw [if_pos (by assumption)] | rw [if_neg (by assumption)] | rw [if_pos (True.intro : True)])); (try (first | rfl | (congr 2; omega) | (congr 1; congr 1; omega))); done)
              | exact zQm.b1 H2 (by omega) (by assumption) (by unfold sp_put; (try unfold spPut); (try simp only [Int.toNat_natCast]); (repeat (first | rw [if_pos (by omega)] | rw [if_neg (by omega)] | rw [if_pos (by assumption)] | rw [if_neg (by assumption)] | rw [if_pos (True.intro : True)])); (try (first | rfl | (congr 2; omega) | (congr 1; congr 1; omega))); done)
              | exact zQm.b2 H2 (by omega) (by assumption) (by unfold sp_put; (try unfold spPut); (try simp only [Int.toNat_natCast]); (repeat (first | rw [if_pos (by omega)] | rw [if_neg (by omega)] | rw [if_pos (by assumption)] | rw [if_neg (by assumption)] | rw [if_pos (True.intro : True)])); (try (first | rfl | (congr 2; omega) | (congr 1; congr 1; omega))); done)
              | exact zQm.b3 H2 (by omega) (by assumption) (by unfold sp_put; (try unfold spPut); (try simp only [Int.toNat_natCast]); (repeat (first | rw [if_pos (by omega)] | rw [if_neg (by omega)] | rw [if_pos (by assumption)] | rw [if_neg (by assumption)] | rw [if_pos (True.intro : True)])); (try (first | rfl | (congr 2; omega) | (congr 1; congr 1; omega))); done)
              | exact zQm.ok H1 (by omega) (by assumption) (by unfold sp_put; (try unfold spPut); (try simp only [Int.toNat_natCast]); (repeat (first | rw [if_pos (by omega)] | rw [if_neg (by omega)] | rw [if_pos (by assumption)] | rw [if_neg (by assumption)] | rw [if_pos (True.intro : True)])); (try (first | rfl | (congr 2; omega) | (congr 1; congr 1; omega))); done)
              | exact zQm.b1 H1 (by omega) (by assumption) (by unfold sp_put; (try unfold spPut); (try simp only [Int.toNat_natCast]); (repeat (first | rw [if_pos (by omega)] | rw [if_neg (by omega)] | rw [if_pos (by assumption)] | rw [if_neg (by assumption)] | rw [if_pos (True.intro : True)])); (try (first | rfl | (congr 2; omega) | (congr 1; congr 1; omega))); done)
              | exact zQm.b2 H1 (by omega) (by assumption) (by unfold sp_put; (try unfold spPut); (try simp only [Int.toNat_natCast]); (repeat (first | rw [if_pos (by omega)] | rw [if_neg (by omega)] | rw [if_pos (by assumption)] | rw [if_neg (by assumption)] | rw [if_pos (True.intro : True)])); (try (first | rfl | (congr 2; omega) | (congr 1; congr 1; omega))); done)
              | exact zQm.b3 H1 (by omega) (by assumption) (by unfold sp_put; (try unfold spPut); (try simp only [Int.toNat_natCast]); (repeat (first | rw [if_pos (by omega)] | rw [if_neg (by omega)] | rw [if_pos (by assumption)] | rw [if_neg (by assumption)] | rw [if_pos (True.intro : True)])); (try (first | rfl | (congr 2; omega) | (congr 1; congr 1; omega))); done)
      · refine z_if_eq (tgt := 25) dMod_put_18 (by decide) (by omega) (fun c18 => ?_) (fun c18 => ?_)
        · refine z_iconst dMod_put_25 ?_
          refine z_iconst dMod_put_26 ?_
          refine z_callV MV_Mod_fails lk_Mod_88 dMod_put_27 (k_Mod_fails (by assumption) rfl (by omega) (by omega) (by omega)) rfl rfl (Nat.le_of_ble_eq_true rfl) rfl (by assumption) (Nat.le_of_ble_eq_true rfl) (Nat.le_of_ble_eq_true rfl) (Nat.le_of_eq (Nat.zero_add _)) (Nat.le_of_eq (Nat.zero_add _)) (fun _ _ q => q.elim) ?_
          rintro _ h1 ⟨t9, b8, rfl, ht, p1, g1⟩
          have H1 : zMod G h1 ma S t9 := H.obj (nu := S.2.2.2.2) (th' := t9) p1 g1
          have fz1 : zMfr ma h h1 := zMfr.of0 g1
          obtain ⟨-, n2, ⟨gg, n3, n3a⟩, n4, ⟨f61, n5, n5a⟩, n6, n7⟩ := id H1
          unfold zMfs at n2
          refine z_if_eq (tgt := 35) dMod_put_30 (by decide) (by omega) (fun c30 => ?_) (fun c30 => ?_)
          · obtain ⟨k, rfl⟩ := Int.eq_ofNat_of_zero_le (show 0 ≤ p by omega)
            obtain ⟨frk, rk1, rk2, rk3, rk4⟩ := id (n6 k (by omega))
            have h16k := h16 k (by omega)
            have ezk : ∀ i : Int, 0 ≤ i → i < ((S.1 k).length : Int) → frk i.toNat = zAt (S.1 k) i := fun i x1 x2 => by rw [rk3 _ (by omega), zAt_eq x1 x2]
            refine z_aload_n dMod_put_35 rfl ?_
            refine z_get (k := 0) fd_Mod (by decide) fl_Mod_11 dMod_put_36 (by assumption) (by rfl) ?_
            refine z_iload_n dMod_put_39 rfl ?_
            refine z_aald (t := 4) (ty := .array .int) rfl rfl dMod_put_40 n3 (by refine ⟨?_, ?_, ?_⟩ <;> omega) ?_
            rw [show (k : Int).toNat = k from rfl, n3a k (by omega)]
            refine z_alenI dMod_put_41 (by assumption) ?_
            refine z_bipush dMod_put_42 rfl ?_
            refine z_icmp_ne (tgt := 52) dMod_put_44 (by decide) (by omega) (by omega) (fun c44 => ?_) (fun c44 => ?_)
            · refine z_aload_n dMod_put_52 rfl ?_
              refine z_iload_n dMod_put_53 rfl ?_
              refine z_aload_n dMod_put_54 rfl ?_
              refine z_get (k := 0) fd_Mod (by decide) fl_Mod_11 dMod_put_55 (by assumption) (by rfl) ?_
              refine z_iload_n dMod_put_58 rfl ?_
              refine z_aald (t := 4) (ty := .array .int) rfl rfl dMod_put_59 n3 (by refine ⟨?_, ?_, ?_⟩ <;> omega) ?_
              rw [show (k : Int).toNat = k from rfl, n3a k (by omega)]
              refine z_iload_n dMod_put_60 rfl ?_
              refine z_iconst dMod_put_61 ?_
              refine z_irem _ (zI_rem (by omega) (by omega)) (by decide) dMod_put_62 ?_
              rw [Int.tmod_eq_emod_of_nonneg (by omega)]
              refine z_if_ne (tgt := 70) dMod_put_63 (by decide) (by omega) (fun c63 => ?_) (fun c63 => ?_)
              · refine z_aload_n dMod_put_70 rfl ?_
                refine z_get (k := 0) fd_Mod (by decide) fl_Mod_11 dMod_put_71 (by assumption) (by rfl) ?_
                refine z_iload_n dMod_put_74 rfl ?_
                refine z_aald (t := 4) (ty := .array .int) rfl rfl dMod_put_75 n3 (by refine ⟨?_, ?_, ?_⟩ <;> omega) ?_
                rw [show (k : Int).toNat = k from rfl, n3a k (by omega)]
                refine z_alenI dMod_put_76 (by assumption) ?_
                refine z_iload_n dMod_put_77 rfl ?_
                refine z_callS (bc' := 0) (bs' := 0) MS_Mod_with lk_Mod_49 dMod_put_78 (k_Mod_with (n6 k (by omega)) (by omega) (by omega) (by omega)) rfl rfl (Nat.le_of_ble_eq_true rfl)  (Nat.le_of_ble_eq_true rfl) (Nat.le_of_ble_eq_true rfl) (by decide) (by decide) (fun _ _ q => q.elim) ?_
                rintro _ h2 ⟨q2, rfl, hq2, gq2, r2, F2⟩
                have H2 : zMod G h2 ma S t9 := H1.keep hq2 F2
                have fz2 : zMfr ma h h2 := fz1.tr (zMfr.new hq2 F2)
                have dq2 : zDm h q2 := hq2.up H1 fz1
                have oc2 := H2.2.1
                have hzl := fun p9 => zIns_len (S.1 k) p9 x
                have hzl0 := hzl 0
                have hzl1 := hzl (((S.1 k).length : Nat) : Int)
                refine z_callV MV_Mod_becomes lk_Mod_95 dMod_put_81 (k_Mod_becomes H2 (by omega) r2 (fun i hi _ => H1.nq hq2 hi)) rfl rfl (Nat.le_of_ble_eq_true rfl) rfl (by assumption) (Nat.le_of_ble_eq_true rfl) (Nat.le_of_ble_eq_true rfl) (Nat.le_of_eq (Nat.zero_add _)) (Nat.le_of_eq (Nat.zero_add _)) (fun _ _ q => q.elim) ?_
                rintro _ h3 ⟨rfl, H3, F3⟩
                have fz3 : zMfr ma h h3 := fz2.tr (zMfr.bec F3)
                refine z_iret rfl rfl dMod_put_84 ?_
                by_cases hw9 : w = 1 ∨ w = 3 ∨ w = 5
                all_goals rcases (show t9 = 0 ∨ t9 = 1 ∨ t9 = 2 ∨ t9 = 3 by omega) with t0 | t0 | t0 | t0
                all_goals first
                  | (exfalso; omega)
                  | exact zQm.okB H3 (Or.inr ⟨dq2, gq2⟩) (by omega) (by assumption) (by unfold sp_put; (try unfold spPut); (try simp only [Int.toNat_natCast]); (repeat (first | rw [if_pos (by omega)] | rw [if_neg (by omega)] | rw [if_pos (by assumption)] | rw [if_neg (by assumption)] | rw [if_pos (True.intro : True)])); (try (first | rfl | (congr 2; omega) | (congr 1; congr 1; omega))); done)
                  | exact zQm.ok H2 (by omega) (by assumption) (by unfold sp_put; (try unfold spPut); (try simp only [Int.toNat_natCast]); (repeat (first | rw [if_pos (by omega)] | rw [if_neg (by omega)] | rw [if_pos (by assumption)] | rw [if_neg (by assumption)] | rw [if_pos (True.intro : True)])); (try (first | rfl | (congr 2; omega) | (congr 1; congr 1; omega))); done)
                  | exact zQm.b1 H2 (by omega) (by assumption) (by unfold sp_put; (try unfold spPut); (try simp only [Int.toNat_natCast]); (repeat (first | rw [if_pos (by omega)] | rw [if_neg (by omega)] | rw [if_pos (by assumption)] | rw [if_neg (by assumption)] | rw [if_pos (True.intro : True)])); (try (first | rfl | (congr 2; omega) | (congr 1; congr 1; omega))); done)
                  | exact zQm.b2 H2 (by omega) (by assumption) (by unfold sp_put; (try unfold spPut); (try simp only [Int.toNat_natCast]); (repeat (first | rw [if_pos (by omega)] | rw [if_neg (by omega)] | rw [if_pos (by assumption)] | rw [if_neg (by assumption)] | rw [if_pos (True.intro : True)])); (try (first | rfl | (congr 2; omega) | (congr 1; congr 1; omega))); done)
                  | exact zQm.b3 H2 (by omega) (by assumption) (by unfold sp_put; (try unfold spPut); (try simp only [Int.toNat_natCast]); (repeat (first | rw [if_pos (by omega)] | rw [if_neg (by omega)] | rw [if_pos (by assumption)] | rw [if_neg (by assumption)] | rw [if_pos (True.intro : True)])); (try (first | rfl | (congr 2; omega) | (congr 1; congr 1; omega))); done)
                  | exact zQm.ok H1 (by omega) (by assumption) (by unfold sp_put; (try unfold spPut); (try simp only [Int.toNat_natCast]); (repeat (first | rw [if_pos (by omega)] | rw [if_neg (by omega)] | rw [if_pos (by assumption)] | rw [if_neg (by assumption)] | rw [if_pos (True.intro : True)])); (try (first | rfl | (congr 2; omega) | (congr 1; congr 1; omega))); done)
                  | exact zQm.b1 H1 (by omega) (by assumption) (by unfold sp_put; (try unfold spPut); (try simp only [Int.toNat_natCast]); (repeat (first | rw [if_pos (by omega)] | rw [if_neg (by omega)] | rw [if_pos (by assumption)] | rw [if_neg (by assumption)] | rw [if_pos (True.intro : True)])); (try (first | rfl | (congr 2; omega) | (congr 1; congr 1; omega))); done)
                  | exact zQm.b2 H1 (by omega) (by assumption) (by unfold sp_put; (try unfold spPut); (try simp only [Int.toNat_natCast]); (repeat (first | rw [if_pos (by omega)] | rw [if_neg (by omega)] | rw [if_pos (by assumption)] | rw [if_neg (by assumption)] | rw [if_pos (True.intro : True)])); (try (first | rfl | (congr 2; omega) | (congr 1; congr 1; omega))); done)
                  | exact zQm.b3 H1 (by omega) (by assumption) (by unfold sp_put; (try unfold spPut); (try simp only [Int.toNat_natCast]); (repeat (first | rw [if_pos (by omega)] | rw [if_neg (by omega)] | rw [if_pos (by assumption)] | rw [if_neg (by assumption)] | rw [if_pos (True.intro : True)])); (try (first | rfl | (congr 2; omega) | (congr 1; congr 1; omega))); done)
              · refine z_iconst dMod_put_66 ?_
                refine z_goto (tgt := 77) dMod_put_67 (by decide) ?_
                refine z_iload_n dMod_put_77 rfl ?_
                refine z_callS (bc' := 0) (bs' := 0) MS_Mod_with lk_Mod_49 dMod_put_78 (k_Mod_with (n6 k (by omega)) (by omega) (by omega) (by omega)) rfl rfl (Nat.le_of_ble_eq_true rfl)  (Nat.le_of_ble_eq_true rfl) (Nat.le_of_ble_eq_true rfl) (by decide) (by decide) (fun _ _ q => q.elim) ?_
                rintro _ h2 ⟨q2, rfl, hq2, gq2, r2, F2⟩
                have H2 : zMod G h2 ma S t9 := H1.keep hq2 F2
                have fz2 : zMfr ma h h2 := fz1.tr (zMfr.new hq2 F2)
                have dq2 : zDm h q2 := hq2.up H1 fz1
                have oc2 := H2.2.1
                have hzl := fun p9 => zIns_len (S.1 k) p9 x
                have hzl0 := hzl 0
                have hzl1 := hzl (((S.1 k).length : Nat) : Int)
                refine z_callV MV_Mod_becomes lk_Mod_95 dMod_put_81 (k_Mod_becomes H2 (by omega) r2 (fun i hi _ => H1.nq hq2 hi)) rfl rfl (Nat.le_of_ble_eq_true rfl) rfl (by assumption) (Nat.le_of_ble_eq_true rfl) (Nat.le_of_ble_eq_true rfl) (Nat.le_of_eq (Nat.zero_add _)) (Nat.le_of_eq (Nat.zero_add _)) (fun _ _ q => q.elim) ?_
                rintro _ h3 ⟨rfl, H3, F3⟩
                have fz3 : zMfr ma h h3 := fz2.tr (zMfr.bec F3)
                refine z_iret rfl rfl dMod_put_84 ?_
                by_cases hw9 : w = 1 ∨ w = 3 ∨ w = 5
                all_goals rcases (show t9 = 0 ∨ t9 = 1 ∨ t9 = 2 ∨ t9 = 3 by omega) with t0 | t0 | t0 | t0
                all_goals first
                  | (exfalso; omega)
                  | exact zQm.okB H3 (Or.inr ⟨dq2, gq2⟩) (by omega) (by assumption) (by unfold sp_put; (try unfold spPut); (try simp only [Int.toNat_natCast]); (repeat (first | rw [if_pos (by omega)] | rw [if_neg (by omega)] | rw [if_pos (by assumption)] | rw [if_neg (by assumption)] | rw [if_pos (True.intro : True)])); (try (first | rfl | (congr 2; omega) | (congr 1; congr 1; omega))); done)
                  | exact zQm.ok H2 (by omega) (by assumption) (by unfold sp_put; (try unfold spPut); (try simp only [Int.toNat_natCast]); (repeat (first | rw [if_pos (by omega)] | rw [if_neg (by omega)] | rw [if_pos (by assumption)] | rw [if_neg (by assumption)] | rw [if_pos (True.intro : True)])); (try (first | rfl | (congr 2; omega) | (congr 1; congr 1; omega))); done)
                  | exact zQm.b1 H2 (by omega) (by assumption) (by unfold sp_put; (try unfold spPut); (try simp only [Int.toNat_natCast]); (repeat (first | rw [if_pos (by omega)] | rw [if_neg (by omega)] | rw [if_pos (by assumption)] | rw [if_neg (by assumption)] | rw [if_pos (True.intro : True)])); (try (first | rfl | (congr 2; omega) | (congr 1; congr 1; omega))); done)
                  | exact zQm.b2 H2 (by omega) (by assumption) (by unfold sp_put; (try unfold spPut); (try simp only [Int.toNat_natCast]); (repeat (first | rw [if_pos (by omega)] | rw [if_neg (by omega)] | rw [if_pos (by assumption)] | rw [if_neg (by assumption)] | rw [if_pos (True.intro : True)])); (try (first | rfl | (congr 2; omega) | (congr 1; congr 1; omega))); done)
                  | exact zQm.b3 H2 (by omega) (by assumption) (by unfold sp_put; (try unfold spPut); (try simp only [Int.toNat_natCast]); (repeat (first | rw [if_pos (by omega)] | rw [if_neg (by omega)] | rw [if_pos (by assumption)] | rw [if_neg (by assumption)] | rw [if_pos (True.intro : True)])); (try (first | rfl | (congr 2; omega) | (congr 1; congr 1; omega))); done)
                  | exact zQm.ok H1 (by omega) (by assumption) (by unfold sp_put; (try unfold spPut); (try simp only [Int.toNat_natCast]); (repeat (first | rw [if_pos (by omega)] | rw [if_neg (by omega)] | rw [if_pos (by assumption)] | rw [if_neg (by assumption)] | rw [if_pos (True.intro : True)])); (try (first | rfl | (congr 2; omega) | (congr 1; congr 1; omega))); done)
                  | exact zQm.b1 H1 (by omega) (by assumption) (by unfold sp_put; (try unfold spPut); (try simp only [Int.toNat_natCast]); (repeat (first | rw [if_pos (by omega)] | rw [if_neg (by omega)] | rw [if_pos (by assumption)] | rw [if_neg (by assumption)] | rw [if_pos (True.intro : True)])); (try (first | rfl | (congr 2; omega) | (congr 1; congr 1; omega))); done)
                  | exact zQm.b2 H1 (by omega) (by assumption) (by unfold sp_put; (try unfold spPut); (try simp only [Int.toNat_natCast]); (repeat (first | rw [if_pos (by omega)] | rw [if_neg (by omega)] | rw [if_pos (by assumption)] | rw [if_neg (by assumption)] | rw [if_pos (True.intro : True)])); (try (first | rfl | (congr 2; omega) | (congr 1; congr 1; omega))); done)
                  | exact zQm.b3 H1 (by omega) (by assumption) (by unfold sp_put; (try unfold spPut); (try simp only [Int.toNat_natCast]); (repeat (first | rw [if_pos (by omega)] | rw [if_neg (by omega)] | rw [if_pos (by assumption)] | rw [if_neg (by assumption)] | rw [if_pos (True.intro : True)])); (try (first | rfl | (congr 2; omega) | (congr 1; congr 1; omega))); done)
            · refine z_aload_n dMod_put_47 rfl ?_
              refine z_callV MV_Mod_refused lk_Mod_92 dMod_put_48 (k_Mod_refused n2 rfl rfl) rfl rfl (Nat.le_of_ble_eq_true rfl) rfl (by assumption) (Nat.le_of_ble_eq_true rfl) (Nat.le_of_ble_eq_true rfl) (Nat.le_of_eq (Nat.zero_add _)) (Nat.le_of_eq (Nat.zero_add _)) (fun _ _ q => q.elim) ?_
              rintro _ h2 ⟨rfl, p2, g2⟩
              have H2 : zMod G h2 ma (zsRef S) t9 := H1.obj (nu := zup S.2.2.2.2 1 (S.2.2.2.2 1 + 1)) p2 g2
              have fz2 : zMfr ma h h2 := zMfr.of0 (fun q hq => (g2 q hq).trans (g1 q hq))
              refine z_iret rfl rfl dMod_put_51 ?_
              by_cases hw9 : w = 1 ∨ w = 3 ∨ w = 5
              all_goals rcases (show t9 = 0 ∨ t9 = 1 ∨ t9 = 2 ∨ t9 = 3 by omega) with t0 | t0 | t0 | t0
              all_goals first
                | (exfalso; omega)
                | exact zQm.okB H3 (Or.inr ⟨dq2, gq2⟩) (by omega) (by assumption) (by unfold sp_put; (try unfold spPut); (try simp only [Int.toNat_natCast]); (repeat (first | rw [if_pos (by omega)] | rw [if_neg (by omega)] | rw [if_pos (by assumption)] | rw [if_neg (by assumption)] | rw [if_pos (True.intro : True)])); (try (first | rfl | (congr 2; omega) | (congr 1; congr 1; omega))); done)
                | exact zQm.ok H2 (by omega) (by assumption) (by unfold sp_put; (try unfold spPut); (try simp only [Int.toNat_natCast]); (repeat (first | rw [if_pos (by omega)] | rw [if_neg (by omega)] | rw [if_pos (by assumption)] | rw [if_neg (by assumption)] | rw [if_pos (True.intro : True)])); (try (first | rfl | (congr 2; omega) | (congr 1; congr 1; omega))); done)
                | exact zQm.b1 H2 (by omega) (by assumption) (by unfold sp_put; (try unfold spPut); (try simp only [Int.toNat_natCast]); (repeat (first | rw [if_pos (by omega)] | rw [if_neg (by omega)] | rw [if_pos (by assumption)] | rw [if_neg (by assumption)] | rw [if_pos (True.intro : True)])); (try (first | rfl | (congr 2; omega) | (congr 1; congr 1; omega))); done)
                | exact zQm.b2 H2 (by omega) (by assumption) (by unfold sp_put; (try unfold spPut); (try simp only [Int.toNat_natCast]); (repeat (first | rw [if_pos (by omega)] | rw [if_neg (by omega)] | rw [if_pos (by assumption)] | rw [if_neg (by assumption)] | rw [if_pos (True.intro : True)])); (try (first | rfl | (congr 2; omega) | (congr 1; congr 1; omega))); done)
                | exact zQm.b3 H2 (by omega) (by assumption) (by unfold sp_put; (try unfold spPut); (try simp only [Int.toNat_natCast]); (repeat (first | rw [if_pos (by omega)] | rw [if_neg (by omega)] | rw [if_pos (by assumption)] | rw [if_neg (by assumption)] | rw [if_pos (True.intro : True)])); (try (first | rfl | (congr 2; omega) | (congr 1; congr 1; omega))); done)
                | exact zQm.ok H1 (by omega) (by assumption) (by unfold sp_put; (try unfold spPut); (try simp only [Int.toNat_natCast]); (repeat (first | rw [if_pos (by omega)] | rw [if_neg (by omega)] | rw [if_pos (by assumption)] | rw [if_neg (by assumption)] | rw [if_pos (True.intro : True)])); (try (first | rfl | (congr 2; omega) | (congr 1; congr 1; omega))); done)
                | exact zQm.b1 H1 (by omega) (by assumption) (by unfold sp_put; (try unfold spPut); (try simp only [Int.toNat_natCast]); (repeat (first | rw [if_pos (by omega)] | rw [if_neg (by omega)] | rw [if_pos (by assumption)] | rw [if_neg (by assumption)] | rw [if_pos (True.intro : True)])); (try (first | rfl | (congr 2; omega) | (congr 1; congr 1; omega))); done)
                | exact zQm.b2 H1 (by omega) (by assumption) (by unfold sp_put; (try unfold spPut); (try simp only [Int.toNat_natCast]); (repeat (first | rw [if_pos (by omega)] | rw [if_neg (by omega)] | rw [if_pos (by assumption)] | rw [if_neg (by assumption)] | rw [if_pos (True.intro : True)])); (try (first | rfl | (congr 2; omega) | (congr 1; congr 1; omega))); done)
                | exact zQm.b3 H1 (by omega) (by assumption) (by unfold sp_put; (try unfold spPut); (try simp only [Int.toNat_natCast]); (repeat (first | rw [if_pos (by omega)] | rw [if_neg (by omega)] | rw [if_pos (by assumption)] | rw [if_neg (by assumption)] | rw [if_pos (True.intro : True)])); (try (first | rfl | (congr 2; omega) | (congr 1; congr 1; omega))); done)
          · refine z_iconst dMod_put_33 ?_
            refine z_iret rfl rfl dMod_put_34 ?_
            by_cases hw9 : w = 1 ∨ w = 3 ∨ w = 5
            all_goals rcases (show t9 = 0 ∨ t9 = 1 ∨ t9 = 2 ∨ t9 = 3 by omega) with t0 | t0 | t0 | t0
            all_goals first
              | (exfalso; omega)
              | exact zQm.okB H3 (Or.inr ⟨dq2, gq2⟩) (by omega) (by assumption) (by unfold sp_put; (try unfold spPut); (try simp only [Int.toNat_natCast]); (repeat (first | rw [if_pos (by omega)] | rw [if_neg (by omega)] | rw [if_pos (by assumption)] | rw [if_neg (by assumption)] | rw [if_pos (True.intro : True)])); (try (first | rfl | (congr 2; omega) | (congr 1; congr 1; omega))); done)
              | exact zQm.ok H2 (by omega) (by assumption) (by unfold sp_put; (try unfold spPut); (try simp only [Int.toNat_natCast]); (repeat (first | rw [if_pos (by omega)] | rw [if_neg (by omega)] | rw [if_pos (by assumption)] | rw [if_neg (by assumption)] | rw [if_pos (True.intro : True)])); (try (first | rfl | (congr 2; omega) | (congr 1; congr 1; omega))); done)
              | exact zQm.b1 H2 (by omega) (by assumption) (by unfold sp_put; (try unfold spPut); (try simp only [Int.toNat_natCast]); (repeat (first | rw [if_pos (by omega)] | rw [if_neg (by omega)] | rw [if_pos (by assumption)] | rw [if_neg (by assumption)] | rw [if_pos (True.intro : True)])); (try (first | rfl | (congr 2; omega) | (congr 1; congr 1; omega))); done)
              | exact zQm.b2 H2 (by omega) (by assumption) (by unfold sp_put; (try unfold spPut); (try simp only [Int.toNat_natCast]); (repeat (first | rw [if_pos (by omega)] | rw [if_neg (by omega)] | rw [if_pos (by assumption)] | rw [if_neg (by assumption)] | rw [if_pos (True.intro : True)])); (try (first | rfl | (congr 2; omega) | (congr 1; congr 1; omega))); done)
              | exact zQm.b3 H2 (by omega) (by assumption) (by unfold sp_put; (try unfold spPut); (try simp only [Int.toNat_natCast]); (repeat (first | rw [if_pos (by omega)] | rw [if_neg (by omega)] | rw [if_pos (by assumption)] | rw [if_neg (by assumption)] | rw [if_pos (True.intro : True)])); (try (first | rfl | (congr 2; omega) | (congr 1; congr 1; omega))); done)
              | exact zQm.ok H1 (by omega) (by assumption) (by unfold sp_put; (try unfold spPut); (try simp only [Int.toNat_natCast]); (repeat (first | rw [if_pos (by omega)] | rw [if_neg (by omega)] | rw [if_pos (by assumption)] | rw [if_neg (by assumption)] | rw [if_pos (True.intro : True)])); (try (first | rfl | (congr 2; omega) | (congr 1; congr 1; omega))); done)
              | exact zQm.b1 H1 (by omega) (by assumption) (by unfold sp_put; (try unfold spPut); (try simp only [Int.toNat_natCast]); (repeat (first | rw [if_pos (by omega)] | rw [if_neg (by omega)] | rw [if_pos (by assumption)] | rw [if_neg (by assumption)] | rw [if_pos (True.intro : True)])); (try (first | rfl | (congr 2; omega) | (congr 1; congr 1; omega))); done)
              | exact zQm.b2 H1 (by omega) (by assumption) (by unfold sp_put; (try unfold spPut); (try simp only [Int.toNat_natCast]); (repeat (first | rw [if_pos (by omega)] | rw [if_neg (by omega)] | rw [if_pos (by assumption)] | rw [if_neg (by assumption)] | rw [if_pos (True.intro : True)])); (try (first | rfl | (congr 2; omega) | (congr 1; congr 1; omega))); done)
              | exact zQm.b3 H1 (by omega) (by assumption) (by unfold sp_put; (try unfold spPut); (try simp only [Int.toNat_natCast]); (repeat (first | rw [if_pos (by omega)] | rw [if_neg (by omega)] | rw [if_pos (by assumption)] | rw [if_neg (by assumption)] | rw [if_pos (True.intro : True)])); (try (first | rfl | (congr 2; omega) | (congr 1; congr 1; omega))); done)
        · exfalso; omega
theorem k_Mod_insert {p q x : Int} (H : zMod G h ma S th) (z_p : zI32 p) (z_q : zI32 q) (z_x : zI32 x) (h16 : ∀ k, k < 4 → (S.1 k).length ≤ 16) : zM G l hMod_insert yMod_insert 4 [.ref (ma 0), zi p, zi q, zi x] h (zQm G ma h (1) (2) (3) (sp_insert S p q x)) zNo 1 61 := by
  obtain ⟨m1, m2, ⟨g, m3, m3a⟩, m4, ⟨f6, m5, m5a⟩, m6, m7⟩ := id H
  unfold zMfs at m2
  refine zM.of [some (.ref (ma 0)), some (zi p), some (zi q), some (zi x)] (by decide +kernel) rfl (by decide) rfl (Nat.le_of_ble_eq_true rfl) rfl ?_
  refine z_aload_n dMod_insert_0 rfl ?_
  refine z_iload_n dMod_insert_1 rfl ?_
  refine z_callS MS_Mod_isNo lk_Mod_81 dMod_insert_2 (k_Mod_isNo (by omega)) rfl rfl (Nat.le_of_ble_eq_true rfl)  (Nat.le_of_ble_eq_true rfl) (Nat.le_of_ble_eq_true rfl) (Nat.le_of_eq (Nat.zero_add _)) (Nat.le_of_eq (Nat.zero_add _)) (fun _ _ q => q.elim) ?_
  rintro _ _ ⟨n9k, rfl, (⟨rfl, hn9k⟩ | ⟨rfl, hn9k⟩), rfl⟩
  · refine z_if_ne (tgt := 23) dMod_insert_5 (by decide) (by omega) (fun c5 => ?_) (fun c5 => ?_)
    · refine z_iconst dMod_insert_23 ?_
      refine z_goto (tgt := 28) dMod_insert_24 (by decide) ?_
      refine z_iload_n dMod_insert_28 rfl ?_
      refine z_callS MS_Mod_isNoItem lk_Mod_85 dMod_insert_29 (k_Mod_isNoItem (by omega)) rfl rfl (Nat.le_of_ble_eq_true rfl)  (Nat.le_of_ble_eq_true rfl) (Nat.le_of_ble_eq_true rfl) (Nat.le_of_eq (Nat.zero_add _)) (Nat.le_of_eq (Nat.zero_add _)) (fun _ _ q => q.elim) ?_
      rintro _ _ ⟨i9, rfl, hi9, rfl⟩
      refine z_iconst dMod_insert_32 ?_
      refine z_callV MV_Mod_fails lk_Mod_88 dMod_insert_33 (k_Mod_fails (by assumption) rfl (by omega) (by omega) (by omega)) rfl rfl (Nat.le_of_ble_eq_true rfl) rfl (by assumption) (Nat.le_of_ble_eq_true rfl) (Nat.le_of_ble_eq_true rfl) (Nat.le_of_eq (Nat.zero_add _)) (Nat.le_of_eq (Nat.zero_add _)) (fun _ _ q => q.elim) ?_
      rintro _ h1 ⟨t9, b8, rfl, ht, p1, g1⟩
      have H1 : zMod G h1 ma S t9 := H.obj (nu := S.2.2.2.2) (th' := t9) p1 g1
      have fz1 : zMfr ma h h1 := zMfr.of0 g1
      obtain ⟨-, n2, ⟨gg, n3, n3a⟩, n4, ⟨f61, n5, n5a⟩, n6, n7⟩ := id H1
      unfold zMfs at n2
      refine z_if_eq (tgt := 41) dMod_insert_36 (by decide) (by omega) (fun c36 => ?_) (fun c36 => ?_)
      · exfalso; omega
      · refine z_iconst dMod_insert_39 ?_
        refine z_iret rfl rfl dMod_insert_40 ?_
        rcases (show t9 = 0 ∨ t9 = 1 ∨ t9 = 2 ∨ t9 = 3 by omega) with t0 | t0 | t0 | t0
        all_goals first
          | (exfalso; omega)
          | exact zQm.okB H3 (Or.inr ⟨dq2, gq2⟩) (by omega) (by assumption) (by unfold sp_insert; (try unfold spPut); (try simp only [Int.toNat_natCast]); (repeat (first | rw [if_pos (by omega)] | rw [if_neg (by omega)] | rw [if_pos (by assumption)] | rw [if_neg (by assumption)] | rw [if_pos (True.intro : True)])); (try (first | rfl | (congr 2; omega) | (congr 1; congr 1; omega))); done)
          | exact zQm.ok H2 (by omega) (by assumption) (by unfold sp_insert; (try unfold spPut); (try simp only [Int.toNat_natCast]); (repeat (first | rw [if_pos (by omega)] | rw [if_neg (by omega)] | rw [if_pos (by assumption)] | rw [if_neg (by assumption)] | rw [if_pos (True.intro : True)])); (try (first | rfl | (congr 2; omega) | (congr 1; congr 1; omega))); done)
          | exact zQm.b1 H2 (by omega) (by assumption) (by unfold sp_insert; (try unfold spPut); (try simp only [Int.toNat_natCast]); (repeat (first | rw [if_pos (by omega)] | rw [if_neg (by omega)] | rw [if_pos (by assumption)] | rw [if_neg (by assumption)] | rw [if_pos (True.intro : True)])); (try (first | rfl | (congr 2; omega) | (congr 1; congr 1; omega))); done)
          | exact zQm.b2 H2 (by omega) (by assumption) (by unfold sp_insert; (try unfold spPut); (try simp only [Int.toNat_natCast]); (repeat (first | rw [if_pos (by omega)] | rw [if_neg (by omega)] | rw [if_pos (by assumption)] | rw [if_neg (by assumption)] | rw [if_pos (True.intro : True)])); (try (first | rfl | (congr 2; omega) | (congr 1; congr 1; omega))); done)
          | exact zQm.b3 H2 (by omega) (by assumption) (by unfold sp_insert; (try unfold spPut); (try simp only [Int.toNat_natCast]); (repeat (first | rw [if_pos (by omega)] | rw [if_neg (by omega)] | rw [if_pos (by assumption)] | rw [if_neg (by assumption)] | rw [if_pos (True.intro : True)])); (try (first | rfl | (congr 2; omega) | (congr 1; congr 1; omega))); done)
          | exact zQm.ok H1 (by omega) (by assumption) (by unfold sp_insert; (try unfold spPut); (try simp only [Int.toNat_natCast]); (repeat (first | rw [if_pos (by omega)] | rw [if_neg (by omega)] | rw [if_pos (by assumption)] | rw [if_neg (by assumption)] | rw [if_pos (True.intro : True)])); (try (first | rfl | (congr 2; omega) | (congr 1; congr 1; omega))); done)
          | exact zQm.b1 H1 (by omega) (by assumption) (by unfold sp_insert; (try unfold spPut); (try simp only [Int.toNat_natCast]); (repeat (first | rw [if_pos (by omega)] | rw [if_neg (by omega)] | rw [if_pos (by assumption)] | rw [if_neg (by assumption)] | rw [if_pos (True.intro : True)])); (try (first | rfl | (congr 2; omega) | (congr 1; congr 1; omega))); done)
          | exact zQm.b2 H1 (by omega) (by assumption) (by unfold sp_insert; (try unfold spPut); (try simp only [Int.toNat_natCast]); (repeat (first | rw [if_pos (by omega)] | rw [if_neg (by omega)] | rw [if_pos (by assumption)] | rw [if_neg (by assumption)] | rw [if_pos (True.intro : True)])); (try (first | rfl | (congr 2; omega) | (congr 1; congr 1; omega))); done)
          | exact zQm.b3 H1 (by omega) (by assumption) (by unfold sp_insert; (try unfold spPut); (try simp only [Int.toNat_natCast]); (repeat (first | rw [if_pos (by omega)] | rw [if_neg (by omega)] | rw [if_pos (by assumption)] | rw [if_neg (by assumption)] | rw [if_pos (True.intro : True)])); (try (first | rfl | (congr 2; omega) | (congr 1; congr 1; omega))); done)
    · exfalso; omega
  · obtain ⟨k, rfl⟩ := Int.eq_ofNat_of_zero_le (show 0 ≤ p by omega)
    have hkk : k < 4 := by omega
    refine z_if_ne (tgt := 23) dMod_insert_5 (by decide) (by omega) (fun c5 => ?_) (fun c5 => ?_)
    · exfalso; omega
    · obtain ⟨frk, rk1, rk2, rk3, rk4⟩ := id (m6 k (by omega))
      refine z_iload_n dMod_insert_8 rfl ?_
      refine z_iconst dMod_insert_9 ?_
      refine z_aload_n dMod_insert_10 rfl ?_
      refine z_get (k := 0) fd_Mod (by decide) fl_Mod_11 dMod_insert_11 (by assumption) (by rfl) ?_
      refine z_iload_n dMod_insert_14 rfl ?_
      refine z_aald (t := 4) (ty := .array .int) rfl rfl dMod_insert_15 m3 (by refine ⟨?_, ?_, ?_⟩ <;> omega) ?_
      rw [show (k : Int).toNat = k from rfl, m3a k (by omega)]
      refine z_alenI dMod_insert_16 (by assumption) ?_
      refine z_callS MS_Mod_isOut lk_Mod_41 dMod_insert_17 (k_Mod_isOut (by omega) (by omega) (by omega)) rfl rfl (Nat.le_of_ble_eq_true rfl)  (Nat.le_of_ble_eq_true rfl) (Nat.le_of_ble_eq_true rfl) (Nat.le_of_eq (Nat.zero_add _)) (Nat.le_of_eq (Nat.zero_add _)) (fun _ _ q => q.elim) ?_
      rintro _ _ ⟨o9, rfl, (⟨rfl, ho9⟩ | ⟨rfl, ho9⟩), rfl⟩
      · refine z_if_eq (tgt := 27) dMod_insert_20 (by decide) (by omega) (fun c20 => ?_) (fun c20 => ?_)
        · exfalso; omega
        · refine z_iconst dMod_insert_23 ?_
          refine z_goto (tgt := 28) dMod_insert_24 (by decide) ?_
          refine z_iload_n dMod_insert_28 rfl ?_
          refine z_callS MS_Mod_isNoItem lk_Mod_85 dMod_insert_29 (k_Mod_isNoItem (by omega)) rfl rfl (Nat.le_of_ble_eq_true rfl)  (Nat.le_of_ble_eq_true rfl) (Nat.le_of_ble_eq_true rfl) (Nat.le_of_eq (Nat.zero_add _)) (Nat.le_of_eq (Nat.zero_add _)) (fun _ _ q => q.elim) ?_
          rintro _ _ ⟨i9, rfl, hi9, rfl⟩
          refine z_iconst dMod_insert_32 ?_
          refine z_callV MV_Mod_fails lk_Mod_88 dMod_insert_33 (k_Mod_fails (by assumption) rfl (by omega) (by omega) (by omega)) rfl rfl (Nat.le_of_ble_eq_true rfl) rfl (by assumption) (Nat.le_of_ble_eq_true rfl) (Nat.le_of_ble_eq_true rfl) (Nat.le_of_eq (Nat.zero_add _)) (Nat.le_of_eq (Nat.zero_add _)) (fun _ _ q => q.elim) ?_
          rintro _ h1 ⟨t9, b8, rfl, ht, p1, g1⟩
          have H1 : zMod G h1 ma S t9 := H.obj (nu := S.2.2.2.2) (th' := t9) p1 g1
          have fz1 : zMfr ma h h1 := zMfr.of0 g1
          obtain ⟨-, n2, ⟨gg, n3, n3a⟩, n4, ⟨f61, n5, n5a⟩, n6, n7⟩ := id H1
          unfold zMfs at n2
          refine z_if_eq (tgt := 41) dMod_insert_36 (by decide) (by omega) (fun c36 => ?_) (fun c36 => ?_)
          · exfalso; omega
          · refine z_iconst dMod_insert_39 ?_
            refine z_iret rfl rfl dMod_insert_40 ?_
            rcases (show t9 = 0 ∨ t9 = 1 ∨ t9 = 2 ∨ t9 = 3 by omega) with t0 | t0 | t0 | t0
            all_goals first
              | (exfalso; omega)
              | exact zQm.okB H3 (Or.inr ⟨dq2, gq2⟩) (by omega) (by assumption) (by unfold sp_insert; (try unfold spPut); (try simp only [Int.toNat_natCast]); (repeat (first | rw [if_pos (by omega)] | rw [if_neg (by omega)] | rw [if_pos (by assumption)] | rw [if_neg (by assumption)] | rw [if_pos (True.intro : True)])); (try (first | rfl | (congr 2; omega) | (congr 1; congr 1; omega))); done)
              | exact zQm.ok H2 (by omega) (by assumption) (by unfold sp_insert; (try unfold spPut); (try simp only [Int.toNat_natCast]); (repeat (first | rw [if_pos (by omega)] | rw [if_neg (by omega)] | rw [if_pos (by assumption)] | rw [if_neg (by assumption)] | rw [if_pos (True.intro : True)])); (try (first | rfl | (congr 2; omega) | (congr 1; congr 1; omega))); done)
              | exact zQm.b1 H2 (by omega) (by assumption) (by unfold sp_insert; (try unfold spPut); (try simp only [Int.toNat_natCast]); (repeat (first | rw [if_pos (by omega)] | rw [if_neg (by omega)] | rw [if_pos (by assumption)] | rw [if_neg (by assumption)] | rw [if_pos (True.intro : True)])); (try (first | rfl | (congr 2; omega) | (congr 1; congr 1; omega))); done)
              | exact zQm.b2 H2 (by omega) (by assumption) (by unfold sp_insert; (try unfold spPut); (try simp only [Int.toNat_natCast]); (repeat (first | rw [if_pos (by omega)] | rw [if_neg (by omega)] | rw [if_pos (by assumption)] | rw [if_neg (by assumption)] | rw [if_pos (True.intro : True)])); (try (first | rfl | (congr 2; omega) | (congr 1; congr 1; omega))); done)
              | exact zQm.b3 H2 (by omega) (by assumption) (by unfold sp_insert; (try unfold spPut); (try simp only [Int.toNat_natCast]); (repeat (first | rw [if_pos (by omega)] | rw [if_neg (by omega)] | rw [if_pos (by assumption)] | rw [if_neg (by assumption)] | rw [if_pos (True.intro : True)])); (try (first | rfl | (congr 2; omega) | (congr 1; congr 1; omega))); done)
              | exact zQm.ok H1 (by omega) (by assumption) (by unfold sp_insert; (try unfold spPut); (try simp only [Int.toNat_natCast]); (repeat (first | rw [if_pos (by omega)] | rw [if_neg (by omega)] | rw [if_pos (by assumption)] | rw [if_neg (by assumption)] | rw [if_pos (True.intro : True)])); (try (first | rfl | (congr 2; omega) | (congr 1; congr 1; omega))); done)
              | exact zQm.b1 H1 (by omega) (by assumption) (by unfold sp_insert; (try unfold spPut); (try simp only [Int.toNat_natCast]); (repeat (first | rw [if_pos (by omega)] | rw [if_neg (by omega)] | rw [if_pos (by assumption)] | rw [if_neg (by assumption)] | rw [if_pos (True.intro : True)])); (try (first | rfl | (congr 2; omega) | (congr 1; congr 1; omega))); done)
              | exact zQm.b2 H1 (by omega) (by assumption) (by unfold sp_insert; (try unfold spPut); (try simp only [Int.toNat_natCast]); (repeat (first | rw [if_pos (by omega)] | rw [if_neg (by omega)] | rw [if_pos (by assumption)] | rw [if_neg (by assumption)] | rw [if_pos (True.intro : True)])); (try (first | rfl | (congr 2; omega) | (congr 1; congr 1; omega))); done)
              | exact zQm.b3 H1 (by omega) (by assumption) (by unfold sp_insert; (try unfold spPut); (try simp only [Int.toNat_natCast]); (repeat (first | rw [if_pos (by omega)] | rw [if_neg (by omega)] | rw [if_pos (by assumption)] | rw [if_neg (by assumption)] | rw [if_pos (True.intro : True)])); (try (first | rfl | (congr 2; omega) | (congr 1; congr 1; omega))); done)
      · refine z_if_eq (tgt := 27) dMod_insert_20 (by decide) (by omega) (fun c20 => ?_) (fun c20 => ?_)
        · refine z_iconst dMod_insert_27 ?_
          refine z_iload_n dMod_insert_28 rfl ?_
          refine z_callS MS_Mod_isNoItem lk_Mod_85 dMod_insert_29 (k_Mod_isNoItem (by omega)) rfl rfl (Nat.le_of_ble_eq_true rfl)  (Nat.le_of_ble_eq_true rfl) (Nat.le_of_ble_eq_true rfl) (Nat.le_of_eq (Nat.zero_add _)) (Nat.le_of_eq (Nat.zero_add _)) (fun _ _ q => q.elim) ?_
          rintro _ _ ⟨i9, rfl, hi9, rfl⟩
          refine z_iconst dMod_insert_32 ?_
          refine z_callV MV_Mod_fails lk_Mod_88 dMod_insert_33 (k_Mod_fails (by assumption) rfl (by omega) (by omega) (by omega)) rfl rfl (Nat.le_of_ble_eq_true rfl) rfl (by assumption) (Nat.le_of_ble_eq_true rfl) (Nat.le_of_ble_eq_true rfl) (Nat.le_of_eq (Nat.zero_add _)) (Nat.le_of_eq (Nat.zero_add _)) (fun _ _ q => q.elim) ?_
          rintro _ h1 ⟨t9, b8, rfl, ht, p1, g1⟩
          have H1 : zMod G h1 ma S t9 := H.obj (nu := S.2.2.2.2) (th' := t9) p1 g1
          have fz1 : zMfr ma h h1 := zMfr.of0 g1
          obtain ⟨-, n2, ⟨gg, n3, n3a⟩, n4, ⟨f61, n5, n5a⟩, n6, n7⟩ := id H1
          unfold zMfs at n2
          refine z_if_eq (tgt := 41) dMod_insert_36 (by decide) (by omega) (fun c36 => ?_) (fun c36 => ?_)
          · obtain ⟨frk, rk1, rk2, rk3, rk4⟩ := id (n6 k (by omega))
            have h16k := h16 k (by omega)
            have ezk : ∀ i : Int, 0 ≤ i → i < ((S.1 k).length : Int) → frk i.toNat = zAt (S.1 k) i := fun i x1 x2 => by rw [rk3 _ (by omega), zAt_eq x1 x2]
            refine z_aload_n dMod_insert_41 rfl ?_
            refine z_get (k := 0) fd_Mod (by decide) fl_Mod_11 dMod_insert_42 (by assumption) (by rfl) ?_
            refine z_iload_n dMod_insert_45 rfl ?_
            refine z_aald (t := 4) (ty := .array .int) rfl rfl dMod_insert_46 n3 (by refine ⟨?_, ?_, ?_⟩ <;> omega) ?_
            rw [show (k : Int).toNat = k from rfl, n3a k (by omega)]
            refine z_alenI dMod_insert_47 (by assumption) ?_
            refine z_bipush dMod_insert_48 rfl ?_
            refine z_icmp_ne (tgt := 60) dMod_insert_50 (by decide) (by omega) (by omega) (fun c50 => ?_) (fun c50 => ?_)
            · refine z_aload_n dMod_insert_60 rfl ?_
              refine z_iload_n dMod_insert_61 rfl ?_
              refine z_aload_n dMod_insert_62 rfl ?_
              refine z_get (k := 0) fd_Mod (by decide) fl_Mod_11 dMod_insert_63 (by assumption) (by rfl) ?_
              refine z_iload_n dMod_insert_66 rfl ?_
              refine z_aald (t := 4) (ty := .array .int) rfl rfl dMod_insert_67 n3 (by refine ⟨?_, ?_, ?_⟩ <;> omega) ?_
              rw [show (k : Int).toNat = k from rfl, n3a k (by omega)]
              refine z_iload_n dMod_insert_68 rfl ?_
              refine z_iload_n dMod_insert_69 rfl ?_
              refine z_callS (bc' := 0) (bs' := 0) MS_Mod_with lk_Mod_49 dMod_insert_70 (k_Mod_with (n6 k (by omega)) (by omega) (by omega) (by omega)) rfl rfl (Nat.le_of_ble_eq_true rfl)  (Nat.le_of_ble_eq_true rfl) (Nat.le_of_ble_eq_true rfl) (by decide) (by decide) (fun _ _ q => q.elim) ?_
              rintro _ h2 ⟨q2, rfl, hq2, gq2, r2, F2⟩
              have H2 : zMod G h2 ma S t9 := H1.keep hq2 F2
              have fz2 : zMfr ma h h2 := fz1.tr (zMfr.new hq2 F2)
              have dq2 : zDm h q2 := hq2.up H1 fz1
              have oc2 := H2.2.1
              have hzl := zIns_len (S.1 k) q x
              refine z_callV MV_Mod_becomes lk_Mod_95 dMod_insert_73 (k_Mod_becomes H2 (by omega) r2 (fun i hi _ => H1.nq hq2 hi)) rfl rfl (Nat.le_of_ble_eq_true rfl) rfl (by assumption) (Nat.le_of_ble_eq_true rfl) (Nat.le_of_ble_eq_true rfl) (Nat.le_of_eq (Nat.zero_add _)) (Nat.le_of_eq (Nat.zero_add _)) (fun _ _ q => q.elim) ?_
              rintro _ h3 ⟨rfl, H3, F3⟩
              have fz3 : zMfr ma h h3 := fz2.tr (zMfr.bec F3)
              refine z_iret rfl rfl dMod_insert_76 ?_
              rcases (show t9 = 0 ∨ t9 = 1 ∨ t9 = 2 ∨ t9 = 3 by omega) with t0 | t0 | t0 | t0
              all_goals first
                | (exfalso; omega)
                | exact zQm.okB H3 (Or.inr ⟨dq2, gq2⟩) (by omega) (by assumption) (by unfold sp_insert; (try unfold spPut); (try simp only [Int.toNat_natCast]); (repeat (first | rw [if_pos (by omega)] | rw [if_neg (by omega)] | rw [if_pos (by assumption)] | rw [if_neg (by assumption)] | rw [if_pos (True.intro : True)])); (try (first | rfl | (congr 2; omega) | (congr 1; congr 1; omega))); done)
                | exact zQm.ok H2 (by omega) (by assumption) (by unfold sp_insert; (try unfold spPut); (try simp only [Int.toNat_natCast]); (repeat (first | rw [if_pos (by omega)] | rw [if_neg (by omega)] | rw [if_pos (by assumption)] | rw [if_neg (by assumption)] | rw [if_pos (True.intro : True)])); (try (first | rfl | (congr 2; omega) | (congr 1; congr 1; omega))); done)
                | exact zQm.b1 H2 (by omega) (by assumption) (by unfold sp_insert; (try unfold spPut); (try simp only [Int.toNat_natCast]); (repeat (first | rw [if_pos (by omega)] | rw [if_neg (by omega)] | rw [if_pos (by assumption)] | rw [if_neg (by assumption)] | rw [if_pos (True.intro : True)])); (try (first | rfl | (congr 2; omega) | (congr 1; congr 1; omega))); done)
                | exact zQm.b2 H2 (by omega) (by assumption) (by unfold sp_insert; (try unfold spPut); (try simp only [Int.toNat_natCast]); (repeat (first | rw [if_pos (by omega)] | rw [if_neg (by omega)] | rw [if_pos (by assumption)] | rw [if_neg (by assumption)] | rw [if_pos (True.intro : True)])); (try (first | rfl | (congr 2; omega) | (congr 1; congr 1; omega))); done)
                | exact zQm.b3 H2 (by omega) (by assumption) (by unfold sp_insert; (try unfold spPut); (try simp only [Int.toNat_natCast]); (repeat (first | rw [if_pos (by omega)] | rw [if_neg (by omega)] | rw [if_pos (by assumption)] | rw [if_neg (by assumption)] | rw [if_pos (True.intro : True)])); (try (first | rfl | (congr 2; omega) | (congr 1; congr 1; omega))); done)
                | exact zQm.ok H1 (by omega) (by assumption) (by unfold sp_insert; (try unfold spPut); (try simp only [Int.toNat_natCast]); (repeat (first | rw [if_pos (by omega)] | rw [if_neg (by omega)] | rw [if_pos (by assumption)] | rw [if_neg (by assumption)] | rw [if_pos (True.intro : True)])); (try (first | rfl | (congr 2; omega) | (congr 1; congr 1; omega))); done)
                | exact zQm.b1 H1 (by omega) (by assumption) (by unfold sp_insert; (try unfold spPut); (try simp only [Int.toNat_natCast]); (repeat (first | rw [if_pos (by omega)] | rw [if_neg (by omega)] | rw [if_pos (by assumption)] | rw [if_neg (by assumption)] | rw [if_pos (True.intro : True)])); (try (first | rfl | (congr 2; omega) | (congr 1; congr 1; omega))); done)
                | exact zQm.b2 H1 (by omega) (by assumption) (by unfold sp_insert; (try unfold spPut); (try simp only [Int.toNat_natCast]); (repeat (first | rw [if_pos (by omega)] | rw [if_neg (by omega)] | rw [if_pos (by assumption)] | rw [if_neg (by assumption)] | rw [if_pos (True.intro : True)])); (try (first | rfl | (congr 2; omega) | (congr 1; congr 1; omega))); done)
                | exact zQm.b3 H1 (by omega) (by assumption) (by unfold sp_insert; (try unfold spPut); (try simp only [Int.toNat_natCast]); (repeat (first | rw [if_pos (by omega)] | rw [if_neg (by omega)] | rw [if_pos (by assumption)] | rw [if_neg (by assumption)] | rw [if_pos (True.intro : True)])); (try (first | rfl | (congr 2; omega) | (congr 1; congr 1; omega))); done)
            · refine z_aload_n dMod_insert_53 rfl ?_
              refine z_callV MV_Mod_refused lk_Mod_92 dMod_insert_54 (k_Mod_refused n2 rfl rfl) rfl rfl (Nat.le_of_ble_eq_true rfl) rfl (by assumption) (Nat.le_of_ble_eq_true rfl) (Nat.le_of_ble_eq_true rfl) (Nat.le_of_eq (Nat.zero_add _)) (Nat.le_of_eq (Nat.zero_add _)) (fun _ _ q => q.elim) ?_
              rintro _ h2 ⟨rfl, p2, g2⟩
              have H2 : zMod G h2 ma (zsRef S) t9 := H1.obj (nu := zup S.2.2.2.2 1 (S.2.2.2.2 1 + 1)) p2 g2
              have fz2 : zMfr ma h h2 := zMfr.of0 (fun q hq => (g2 q hq).trans (g1 q hq))
              refine z_goto (tgt := 76) dMod_insert_57 (by decide) ?_
              refine z_iret rfl rfl dMod_insert_76 ?_
              rcases (show t9 = 0 ∨ t9 = 1 ∨ t9 = 2 ∨ t9 = 3 by omega) with t0 | t0 | t0 | t0
              all_goals first
                | (exfalso; omega)
                | exact zQm.okB H3 (Or.inr ⟨dq2, gq2⟩) (by omega) (by assumption) (by unfold sp_insert; (try unfold spPut); (try simp only [Int.toNat_natCast]); (repeat (first | rw [if_pos (by omega)] | rw [if_neg (by omega)] | rw [if_pos (by assumption)] | rw [if_neg (by assumption)] | rw [if_pos (True.intro : True)])); (try (first | rfl | (congr 2; omega) | (congr 1; congr 1; omega))); done)
                | exact zQm.ok H2 (by omega) (by assumption) (by unfold sp_insert; (try unfold spPut); (try simp only [Int.toNat_natCast]); (repeat (first | rw [if_pos (by omega)] | rw [if_neg (by omega)] | rw [if_pos (by assumption)] | rw [if_neg (by assumption)] | rw [if_pos (True.intro : True)])); (try (first | rfl | (congr 2; omega) | (congr 1; congr 1; omega))); done)
                | exact zQm.b1 H2 (by omega) (by assumption) (by unfold sp_insert; (try unfold spPut); (try simp only [Int.toNat_natCast]); (repeat (first | rw [if_pos (by omega)] | rw [if_neg (by omega)] | rw [if_pos (by assumption)] | rw [if_neg (by assumption)] | rw [if_pos (True.intro : True)])); (try (first | rfl | (congr 2; omega) | (congr 1; congr 1; omega))); done)
                | exact zQm.b2 H2 (by omega) (by assumption) (by unfold sp_insert; (try unfold spPut); (try simp only [Int.toNat_natCast]); (repeat (first | rw [if_pos (by omega)] | rw [if_neg (by omega)] | rw [if_pos (by assumption)] | rw [if_neg (by assumption)] | rw [if_pos (True.intro : True)])); (try (first | rfl | (congr 2; omega) | (congr 1; congr 1; omega))); done)
                | exact zQm.b3 H2 (by omega) (by assumption) (by unfold sp_insert; (try unfold spPut); (try simp only [Int.toNat_natCast]); (repeat (first | rw [if_pos (by omega)] | rw [if_neg (by omega)] | rw [if_pos (by assumption)] | rw [if_neg (by assumption)] | rw [if_pos (True.intro : True)])); (try (first | rfl | (congr 2; omega) | (congr 1; congr 1; omega))); done)
                | exact zQm.ok H1 (by omega) (by assumption) (by unfold sp_insert; (try unfold spPut); (try simp only [Int.toNat_natCast]); (repeat (first | rw [if_pos (by omega)] | rw [if_neg (by omega)] | rw [if_pos (by assumption)] | rw [if_neg (by assumption)] | rw [if_pos (True.intro : True)])); (try (first | rfl | (congr 2; omega) | (congr 1; congr 1; omega))); done)
                | exact zQm.b1 H1 (by omega) (by assumption) (by unfold sp_insert; (try unfold spPut); (try simp only [Int.toNat_natCast]); (repeat (first | rw [if_pos (by omega)] | rw [if_neg (by omega)] | rw [if_pos (by assumption)] | rw [if_neg (by assumption)] | rw [if_pos (True.intro : True)])); (try (first | rfl | (congr 2; omega) | (congr 1; congr 1; omega))); done)
                | exact zQm.b2 H1 (by omega) (by assumption) (by unfold sp_insert; (try unfold spPut); (try simp only [Int.toNat_natCast]); (repeat (first | rw [if_pos (by omega)] | rw [if_neg (by omega)] | rw [if_pos (by assumption)] | rw [if_neg (by assumption)] | rw [if_pos (True.intro : True)])); (try (first | rfl | (congr 2; omega) | (congr 1; congr 1; omega))); done)
                | exact zQm.b3 H1 (by omega) (by assumption) (by unfold sp_insert; (try unfold spPut); (try simp only [Int.toNat_natCast]); (repeat (first | rw [if_pos (by omega)] | rw [if_neg (by omega)] | rw [if_pos (by assumption)] | rw [if_neg (by assumption)] | rw [if_pos (True.intro : True)])); (try (first | rfl | (congr 2; omega) | (congr 1; congr 1; omega))); done)
          · refine z_iconst dMod_insert_39 ?_
            refine z_iret rfl rfl dMod_insert_40 ?_
            rcases (show t9 = 0 ∨ t9 = 1 ∨ t9 = 2 ∨ t9 = 3 by omega) with t0 | t0 | t0 | t0
            all_goals first
              | (exfalso; omega)
              | exact zQm.okB H3 (Or.inr ⟨dq2, gq2⟩) (by omega) (by assumption) (by unfold sp_insert; (try unfold spPut); (try simp only [Int.toNat_natCast]); (repeat (first | rw [if_pos (by omega)] | rw [if_neg (by omega)] | rw [if_pos (by assumption)] | rw [if_neg (by assumption)] | rw [if_pos (True.intro : True)])); (try (first | rfl | (congr 2; omega) | (congr 1; congr 1; omega))); done)
              | exact zQm.ok H2 (by omega) (by assumption) (by unfold sp_insert; (try unfold spPut); (try simp only [Int.toNat_natCast]); (repeat (first | rw [if_pos (by omega)] | rw [if_neg (by omega)] | rw [if_pos (by assumption)] | rw [if_neg (by assumption)] | rw [if_pos (True.intro : True)])); (try (first | rfl | (congr 2; omega) | (congr 1; congr 1; omega))); done)
              | exact zQm.b1 H2 (by omega) (by assumption) (by unfold sp_insert; (try unfold spPut); (try simp only [Int.toNat_natCast]); (repeat (first | rw [if_pos (by omega)] | rw [if_neg (by omega)] | rw [if_pos (by assumption)] | rw [if_neg (by assumption)] | rw [if_pos (True.intro : True)])); (try (first | rfl | (congr 2; omega) | (congr 1; congr 1; omega))); done)
              | exact zQm.b2 H2 (by omega) (by assumption) (by unfold sp_insert; (try unfold spPut); (try simp only [Int.toNat_natCast]); (repeat (first | rw [if_pos (by omega)] | rw [if_neg (by omega)] | rw [if_pos (by assumption)] | rw [if_neg (by assumption)] | rw [if_pos (True.intro : True)])); (try (first | rfl | (congr 2; omega) | (congr 1; congr 1; omega))); done)
              | exact zQm.b3 H2 (by omega) (by assumption) (by unfold sp_insert; (try unfold spPut); (try simp only [Int.toNat_natCast]); (repeat (first | rw [if_pos (by omega)] | rw [if_neg (by omega)] | rw [if_pos (by assumption)] | rw [if_neg (by assumption)] | rw [if_pos (True.intro : True)])); (try (first | rfl | (congr 2; omega) | (congr 1; congr 1; omega))); done)
              | exact zQm.ok H1 (by omega) (by assumption) (by unfold sp_insert; (try unfold spPut); (try simp only [Int.toNat_natCast]); (repeat (first | rw [if_pos (by omega)] | rw [if_neg (by omega)] | rw [if_pos (by assumption)] | rw [if_neg (by assumption)] | rw [if_pos (True.intro : True)])); (try (first | rfl | (congr 2; omega) | (congr 1; congr 1; omega))); done)
              | exact zQm.b1 H1 (by omega) (by assumption) (by unfold sp_insert; (try unfold spPut); (try simp only [Int.toNat_natCast]); (repeat (first | rw [if_pos (by omega)] | rw [if_neg (by omega)] | rw [if_pos (by assumption)] | rw [if_neg (by assumption)] | rw [if_pos (True.intro : True)])); (try (first | rfl | (congr 2; omega) | (congr 1; congr 1; omega))); done)
              | exact zQm.b2 H1 (by omega) (by assumption) (by unfold sp_insert; (try unfold spPut); (try simp only [Int.toNat_natCast]); (repeat (first | rw [if_pos (by omega)] | rw [if_neg (by omega)] | rw [if_pos (by assumption)] | rw [if_neg (by assumption)] | rw [if_pos (True.intro : True)])); (try (first | rfl | (congr 2; omega) | (congr 1; congr 1; omega))); done)
              | exact zQm.b3 H1 (by omega) (by assumption) (by unfold sp_insert; (try unfold spPut); (try simp only [Int.toNat_natCast]); (repeat (first | rw [if_pos (by omega)] | rw [if_neg (by omega)] | rw [if_pos (by assumption)] | rw [if_neg (by assumption)] | rw [if_pos (True.intro : True)])); (try (first | rfl | (congr 2; omega) | (congr 1; congr 1; omega))); done)
        · exfalso; omega
theorem k_Mod_removeAt {p q : Int} (H : zMod G h ma S th) (z_p : zI32 p) (z_q : zI32 q) (h16 : ∀ k, k < 4 → (S.1 k).length ≤ 16) : zM G l hMod_removeAt yMod_removeAt 4 [.ref (ma 0), zi p, zi q] h (zQm G ma h (1) (2) (3) (sp_removeAt S p q)) zNo 1 60 := by
  obtain ⟨m1, m2, ⟨g, m3, m3a⟩, m4, ⟨f6, m5, m5a⟩, m6, m7⟩ := id H
  unfold zMfs at m2
  refine zM.of [some (.ref (ma 0)), some (zi p), some (zi q), none] (by decide +kernel) rfl (by decide) rfl (Nat.le_of_ble_eq_true rfl) rfl ?_
  refine z_aload_n dMod_removeAt_0 rfl ?_
  refine z_iload_n dMod_removeAt_1 rfl ?_
  refine z_callS MS_Mod_isNo lk_Mod_81 dMod_removeAt_2 (k_Mod_isNo (by omega)) rfl rfl (Nat.le_of_ble_eq_true rfl)  (Nat.le_of_ble_eq_true rfl) (Nat.le_of_ble_eq_true rfl) (Nat.le_of_eq (Nat.zero_add _)) (Nat.le_of_eq (Nat.zero_add _)) (fun _ _ q => q.elim) ?_
  rintro _ _ ⟨n9k, rfl, (⟨rfl, hn9k⟩ | ⟨rfl, hn9k⟩), rfl⟩
  · refine z_if_ne (tgt := 17) dMod_removeAt_5 (by decide) (by omega) (fun c5 => ?_) (fun c5 => ?_)
    · refine z_iconst dMod_removeAt_17 ?_
      refine z_goto (tgt := 22) dMod_removeAt_18 (by decide) ?_
      refine z_iconst dMod_removeAt_22 ?_
      refine z_iconst dMod_removeAt_23 ?_
      refine z_callV MV_Mod_fails lk_Mod_88 dMod_removeAt_24 (k_Mod_fails (by assumption) rfl (by omega) (by omega) (by omega)) rfl rfl (Nat.le_of_ble_eq_true rfl) rfl (by assumption) (Nat.le_of_ble_eq_true rfl) (Nat.le_of_ble_eq_true rfl) (Nat.le_of_eq (Nat.zero_add _)) (Nat.le_of_eq (Nat.zero_add _)) (fun _ _ q => q.elim) ?_
      rintro _ h1 ⟨t9, b8, rfl, ht, p1, g1⟩
      have H1 : zMod G h1 ma S t9 := H.obj (nu := S.2.2.2.2) (th' := t9) p1 g1
      have fz1 : zMfr ma h h1 := zMfr.of0 g1
      obtain ⟨-, n2, ⟨gg, n3, n3a⟩, n4, ⟨f61, n5, n5a⟩, n6, n7⟩ := id H1
      unfold zMfs at n2
      refine z_if_eq (tgt := 32) dMod_removeAt_27 (by decide) (by omega) (fun c27 => ?_) (fun c27 => ?_)
      · exfalso; omega
      · refine z_iconst dMod_removeAt_30 ?_
        refine z_iret rfl rfl dMod_removeAt_31 ?_
        rcases (show t9 = 0 ∨ t9 = 1 ∨ t9 = 2 ∨ t9 = 3 by omega) with t0 | t0 | t0 | t0
        all_goals first
          | (exfalso; omega)
          | exact zQm.okB H3 (Or.inr ⟨dq2, gq2⟩) (by omega) (by assumption) (by unfold sp_removeAt; (try unfold spPut); (try simp only [Int.toNat_natCast]); (repeat (first | rw [if_pos (by omega)] | rw [if_neg (by omega)] | rw [if_pos (by assumption)] | rw [if_neg (by assumption)] | rw [if_pos (True.intro : True)])); (try (first | rfl | (congr 2; omega) | (congr 1; congr 1; omega))); done)
          | exact zQm.ok H2 (by omega) (by assumption) (by unfold sp_removeAt; (try unfold spPut); (try simp only [Int.toNat_natCast]); (repeat (first | rw [if_pos (by omega)] | rw [if_neg (by omega)] | rw [if_pos (by assumption)] | rw [if_neg (by assumption)] | rw [if_pos (True.intro : True)])); (try (first | rfl | (congr 2; omega) | (congr 1; congr 1; omega))); done)
          | exact zQm.b1 H2 (by omega) (by assumption) (by unfold sp_removeAt; (try unfold spPut); (try simp only [Int.toNat_natCast]); (repeat (first | rw [if_pos (by omega)] | rw [if_neg (by omega)] | rw [if_pos (by assumption)] | rw [if_neg (by assumption)] | rw [if_pos (True.intro : True)])); (try (first | rfl | (congr 2; omega) | (congr 1; congr 1; omega))); done)
          | exact zQm.b2 H2 (by omega) (by assumption) (by unfold sp_removeAt; (try unfold spPut); (try simp only [Int.toNat_natCast]); (repeat (first | rw [if_pos (by omega)] | rw [if_neg (by omega)] | rw [if_pos (by assumption)] | rw [if_neg (by assumption)] | rw [if_pos (True.intro : True)])); (try (first | rfl | (congr 2; omega) | (congr 1; congr 1; omega))); done)
          | exact zQm.b3 H2 (by omega) (by assumption) (by unfold sp_removeAt; (try unfold spPut); (try simp only [Int.toNat_natCast]); (repeat (first | rw [if_pos (by omega)] | rw [if_neg (by omega)] | rw [if_pos (by assumption)] | rw [if_neg (by assumption)] | rw [if_pos (True.intro : True)])); (try (first | rfl | (congr 2; omega) | (congr 1; congr 1; omega))); done)
          | exact zQm.ok H1 (by omega) (by assumption) (by unfold sp_removeAt; (try unfold spPut); (try simp only [Int.toNat_natCast]); (repeat (first | rw [if_pos (by omega)] | rw [if_neg (by omega)] | rw [if_pos (by assumption)] | rw [if_neg (by assumption)] | rw [if_pos (True.intro : True)])); (try (first | rfl | (congr 2; omega) | (congr 1; congr 1; omega))); done)
          | exact zQm.b1 H1 (by omega) (by assumption) (by unfold sp_removeAt; (try unfold spPut); (try simp only [Int.toNat_natCast]); (repeat (first | rw [if_pos (by omega)] | rw [if_neg (by omega)] | rw [if_pos (by assumption)] | rw [if_neg (by assumption)] | rw [if_pos (True.intro : True)])); (try (first | rfl | (congr 2; omega) | (congr 1; congr 1; omega))); done)
          | exact zQm.b2 H1 (by omega) (by assumption) (by unfold sp_removeAt; (try unfold spPut); (try simp only [Int.toNat_natCast]); (repeat (first | rw [if_pos (by omega)] | rw [if_neg (by omega)] | rw [if_pos (by assumption)] | rw [if_neg (by assumption)] | rw [if_pos (True.intro : True)])); (try (first | rfl | (congr 2; omega) | (congr 1; congr 1; omega))); done)
          | exact zQm.b3 H1 (by omega) (by assumption) (by unfold sp_removeAt; (try unfold spPut); (try simp only [Int.toNat_natCast]); (repeat (first | rw [if_pos (by omega)] | rw [if_neg (by omega)] | rw [if_pos (by assumption)] | rw [if_neg (by assumption)] | rw [if_pos (True.intro : True)])); (try (first | rfl | (congr 2; omega) | (congr 1; congr 1; omega))); done)
    · exfalso; omega
  · obtain ⟨k, rfl⟩ := Int.eq_ofNat_of_zero_le (show 0 ≤ p by omega)
    have hkk : k < 4 := by omega
    refine z_if_ne (tgt := 17) dMod_removeAt_5 (by decide) (by omega) (fun c5 => ?_) (fun c5 => ?_)
    · exfalso; omega
    · refine z_aload_n dMod_removeAt_8 rfl ?_
      refine z_iload_n dMod_removeAt_9 rfl ?_
      refine z_iload_n dMod_removeAt_10 rfl ?_
      refine z_callV MV_Mod_isNoPlace lk_Mod_106 dMod_removeAt_11 (k_Mod_isNoPlace H hkk (by omega)) rfl rfl (Nat.le_of_ble_eq_true rfl) rfl (by assumption) (Nat.le_of_ble_eq_true rfl) (Nat.le_of_ble_eq_true rfl) (Nat.le_of_eq (Nat.zero_add _)) (Nat.le_of_eq (Nat.zero_add _)) (fun _ _ q => q.elim) ?_
      rintro _ _ ⟨np9, rfl, (⟨rfl, hnp9⟩ | ⟨rfl, hnp9⟩), rfl⟩
      · refine z_if_eq (tgt := 21) dMod_removeAt_14 (by decide) (by omega) (fun c14 => ?_) (fun c14 => ?_)
        · exfalso; omega
        · refine z_iconst dMod_removeAt_17 ?_
          refine z_goto (tgt := 22) dMod_removeAt_18 (by decide) ?_
          refine z_iconst dMod_removeAt_22 ?_
          refine z_iconst dMod_removeAt_23 ?_
          refine z_callV MV_Mod_fails lk_Mod_88 dMod_removeAt_24 (k_Mod_fails (by assumption) rfl (by omega) (by omega) (by omega)) rfl rfl (Nat.le_of_ble_eq_true rfl) rfl (by assumption) (Nat.le_of_ble_eq_true rfl) (Nat.le_of_ble_eq_true rfl) (Nat.le_of_eq (Nat.zero_add _)) (Nat.le_of_eq (Nat.zero_add _)) (fun _ _ q => q.elim) ?_
          rintro _ h1 ⟨t9, b8, rfl, ht, p1, g1⟩
          have H1 : zMod G h1 ma S t9 := H.obj (nu := S.2.2.2.2) (th' := t9) p1 g1
          have fz1 : zMfr ma h h1 := zMfr.of0 g1
          obtain ⟨-, n2, ⟨gg, n3, n3a⟩, n4, ⟨f61, n5, n5a⟩, n6, n7⟩ := id H1
          unfold zMfs at n2
          refine z_if_eq (tgt := 32) dMod_removeAt_27 (by decide) (by omega) (fun c27 => ?_) (fun c27 => ?_)
          · exfalso; omega
          · refine z_iconst dMod_removeAt_30 ?_
            refine z_iret rfl rfl dMod_removeAt_31 ?_
            rcases (show t9 = 0 ∨ t9 = 1 ∨ t9 = 2 ∨ t9 = 3 by omega) with t0 | t0 | t0 | t0
            all_goals first
              | (exfalso; omega)
              | exact zQm.okB H3 (Or.inr ⟨dq2, gq2⟩) (by omega) (by assumption) (by unfold sp_removeAt; (try unfold spPut); (try simp only [Int.toNat_natCast]); (repeat (first | rw [if_pos (by omega)] | rw [if_neg (by omega)] | rw [if_pos (by assumption)] | rw [if_neg (by assumption)] | rw [if_pos (True.intro : True)])); (try (first | rfl | (congr 2; omega) | (congr 1; congr 1; omega))); done)
              | exact zQm.ok H2 (by omega) (by assumption) (by unfold sp_removeAt; (try unfold spPut); (try simp only [Int.toNat_natCast]); (repeat (first | rw [if_pos (by omega)] | rw [if_neg (by omega)] | rw [if_pos (by assumption)] | rw [if_neg (by assumption)] | rw [if_pos (True.intro : True)])); (try (first | rfl | (congr 2; omega) | (congr 1; congr 1; omega))); done)
              | exact zQm.b1 H2 (by omega) (by assumption) (by unfold sp_removeAt; (try unfold spPut); (try simp only [Int.toNat_natCast]); (repeat (first | rw [if_pos (by omega)] | rw [if_neg (by omega)] | rw [if_pos (by assumption)] | rw [if_neg (by assumption)] | rw [if_pos (True.intro : True)])); (try (first | rfl | (congr 2; omega) | (congr 1; congr 1; omega))); done)
              | exact zQm.b2 H2 (by omega) (by assumption) (by unfold sp_removeAt; (try unfold spPut); (try simp only [Int.toNat_natCast]); (repeat (first | rw [if_pos (by omega)] | rw [if_neg (by omega)] | rw [if_pos (by assumption)] | rw [if_neg (by assumption)] | rw [if_pos (True.intro : True)])); (try (first | rfl | (congr 2; omega) | (congr 1; congr 1; omega))); done)
              | exact zQm.b3 H2 (by omega) (by assumption) (by unfold sp_removeAt; (try unfold spPut); (try simp only [Int.toNat_natCast]); (repeat (first | rw [if_pos (by omega)] | rw [if_neg (by omega)] | rw [if_pos (by assumption)] | rw [if_neg (by assumption)] | rw [if_pos (True.intro : True)])); (try (first | rfl | (congr 2; omega) | (congr 1; congr 1; omega))); done)
              | exact zQm.ok H1 (by omega) (by assumption) (by unfold sp_removeAt; (try unfold spPut); (try simp only [Int.toNat_natCast]); (repeat (first | rw [if_pos (by omega)] | rw [if_neg (by omega)] | rw [if_pos (by assumption)] | rw [if_neg (by assumption)] | rw [if_pos (True.intro : True)])); (try (first | rfl | (congr 2; omega) | (congr 1; congr 1; omega))); done)
              | exact zQm.b1 H1 (by omega) (by assumption) (by unfold sp_removeAt; (try unfold spPut); (try simp only [Int.toNat_natCast]); (repeat (first | rw [if_pos (by omega)] | rw [if_neg (by omega)] | rw [if_pos (by assumption)] | rw [if_neg (by assumption)] | rw [if_pos (True.intro : True)])); (try (first | rfl | (congr 2; omega) | (congr 1; congr 1; omega))); done)
              | exact zQm.b2 H1 (by omega) (by assumption) (by unfold sp_removeAt; (try unfold spPut); (try simp only [Int.toNat_natCast]); (repeat (first | rw [if_pos (by omega)] | rw [if_neg (by omega)] | rw [if_pos (by assumption)] | rw [if_neg (by assumption)] | rw [if_pos (True.intro : True)])); (try (first | rfl | (congr 2; omega) | (congr 1; congr 1; omega))); done)
              | exact zQm.b3 H1 (by omega) (by assumption) (by unfold sp_removeAt; (try unfold spPut); (try simp only [Int.toNat_natCast]); (repeat (first | rw [if_pos (by omega)] | rw [if_neg (by omega)] | rw [if_pos (by assumption)] | rw [if_neg (by assumption)] | rw [if_pos (True.intro : True)])); (try (first | rfl | (congr 2; omega) | (congr 1; congr 1; omega))); done)
      · refine z_if_eq (tgt := 21) dMod_removeAt_14 (by decide) (by omega) (fun c14 => ?_) (fun c14 => ?_)
        · refine z_iconst dMod_removeAt_21 ?_
          refine z_iconst dMod_removeAt_22 ?_
          refine z_iconst dMod_removeAt_23 ?_
          refine z_callV MV_Mod_fails lk_Mod_88 dMod_removeAt_24 (k_Mod_fails (by assumption) rfl (by omega) (by omega) (by omega)) rfl rfl (Nat.le_of_ble_eq_true rfl) rfl (by assumption) (Nat.le_of_ble_eq_true rfl) (Nat.le_of_ble_eq_true rfl) (Nat.le_of_eq (Nat.zero_add _)) (Nat.le_of_eq (Nat.zero_add _)) (fun _ _ q => q.elim) ?_
          rintro _ h1 ⟨t9, b8, rfl, ht, p1, g1⟩
          have H1 : zMod G h1 ma S t9 := H.obj (nu := S.2.2.2.2) (th' := t9) p1 g1
          have fz1 : zMfr ma h h1 := zMfr.of0 g1
          obtain ⟨-, n2, ⟨gg, n3, n3a⟩, n4, ⟨f61, n5, n5a⟩, n6, n7⟩ := id H1
          unfold zMfs at n2
          refine z_if_eq (tgt := 32) dMod_removeAt_27 (by decide) (by omega) (fun c27 => ?_) (fun c27 => ?_)
          · obtain ⟨frk, rk1, rk2, rk3, rk4⟩ := id (n6 k (by omega))
            have h16k := h16 k (by omega)
            have ezk : ∀ i : Int, 0 ≤ i → i < ((S.1 k).length : Int) → frk i.toNat = zAt (S.1 k) i := fun i x1 x2 => by rw [rk3 _ (by omega), zAt_eq x1 x2]
            have ez9 := rk3 q.toNat (by omega)
            refine z_aload_n dMod_removeAt_32 rfl ?_
            refine z_get (k := 0) fd_Mod (by decide) fl_Mod_11 dMod_removeAt_33 (by assumption) (by rfl) ?_
            refine z_iload_n dMod_removeAt_36 rfl ?_
            refine z_aald (t := 4) (ty := .array .int) rfl rfl dMod_removeAt_37 n3 (by refine ⟨?_, ?_, ?_⟩ <;> omega) ?_
            rw [show (k : Int).toNat = k from rfl, n3a k (by omega)]
            refine z_iload_n dMod_removeAt_38 rfl ?_
            refine z_iald dMod_removeAt_39 (by assumption) (by refine ⟨?_, ?_, ?_⟩ <;> omega) ?_
            rw [ez9]
            refine z_istore_n dMod_removeAt_40 (Nat.le_of_ble_eq_true rfl) ?_
            refine z_aload_n dMod_removeAt_41 rfl ?_
            refine z_iload_n dMod_removeAt_42 rfl ?_
            refine z_aload_n dMod_removeAt_43 rfl ?_
            refine z_get (k := 0) fd_Mod (by decide) fl_Mod_11 dMod_removeAt_44 (by assumption) (by rfl) ?_
            refine z_iload_n dMod_removeAt_47 rfl ?_
            refine z_aald (t := 4) (ty := .array .int) rfl rfl dMod_removeAt_48 n3 (by refine ⟨?_, ?_, ?_⟩ <;> omega) ?_
            rw [show (k : Int).toNat = k from rfl, n3a k (by omega)]
            refine z_iload_n dMod_removeAt_49 rfl ?_
            refine z_callS (bc' := 0) (bs' := 0) MS_Mod_without lk_Mod_102 dMod_removeAt_50 (k_Mod_without (n6 k (by omega)) (by omega) (by omega)) rfl rfl (Nat.le_of_ble_eq_true rfl)  (Nat.le_of_ble_eq_true rfl) (Nat.le_of_ble_eq_true rfl) (by decide) (by decide) (fun _ _ q => q.elim) ?_
            rintro _ h2 ⟨q2, rfl, hq2, gq2, r2, F2⟩
            have H2 : zMod G h2 ma S t9 := H1.keep hq2 F2
            have fz2 : zMfr ma h h2 := fz1.tr (zMfr.new hq2 F2)
            have dq2 : zDm h q2 := hq2.up H1 fz1
            have oc2 := H2.2.1
            refine z_iconst dMod_removeAt_53 ?_
            refine z_callV MV_Mod_become lk_Mod_77 dMod_removeAt_54 (k_Mod_become H2 (by omega) r2 (fun i hi _ => H1.nq hq2 hi) (by omega)) rfl rfl (Nat.le_of_ble_eq_true rfl) rfl (by assumption) (Nat.le_of_ble_eq_true rfl) (Nat.le_of_ble_eq_true rfl) (Nat.le_of_eq (Nat.zero_add _)) (Nat.le_of_eq (Nat.zero_add _)) (fun _ _ q => q.elim) ?_
            rintro _ h3 ⟨rfl, H3, F3⟩
            have fz3 : zMfr ma h h3 := fz2.tr (zMfr.bec F3)
            refine z_iload_n dMod_removeAt_57 rfl ?_
            refine z_iret rfl rfl dMod_removeAt_58 ?_
            rcases (show t9 = 0 ∨ t9 = 1 ∨ t9 = 2 ∨ t9 = 3 by omega) with t0 | t0 | t0 | t0
            all_goals first
              | (exfalso; omega)
              | exact zQm.okB H3 (Or.inr ⟨dq2, gq2⟩) (by omega) (by assumption) (by unfold sp_removeAt; (try unfold spPut); (try simp only [Int.toNat_natCast]); (repeat (first | rw [if_pos (by omega)] | rw [if_neg (by omega)] | rw [if_pos (by assumption)] | rw [if_neg (by assumption)] | rw [if_pos (True.intro : True)])); (try (first | rfl | (congr 2; omega) | (congr 1; congr 1; omega))); done)
              | exact zQm.ok H2 (by omega) (by assumption) (by unfold sp_removeAt; (try unfold spPut); (try simp only [Int.toNat_natCast]); (repeat (first | rw [if_pos (by omega)] | rw [if_neg (by omega)] | rw [if_pos (by assumption)] | rw [if_neg (by assumption)] | rw [if_pos (True.intro : True)])); (try (first | rfl | (congr 2; omega) | (congr 1; congr 1; omega))); done)
              | exact zQm.b1 H2 (by omega) (by assumption) (by unfold sp_removeAt; (try unfold spPut); (try simp only [Int.toNat_natCast]); (repeat (first | rw [if_pos (by omega)] | rw [if_neg (by omega)] | rw [if_pos (by assumption)] | rw [if_neg (by assumption)] | rw [if_pos (True.intro : True)])); (try (first | rfl | (congr 2; omega) | (congr 1; congr 1; omega))); done)
              | exact zQm.b2 H2 (by omega) (by assumption) (by unfold sp_removeAt; (try unfold spPut); (try simp only [Int.toNat_natCast]); (repeat (first | rw [if_pos (by omega)] | rw [if_neg (by omega)] | rw [if_pos (by assumption)] | rw [if_neg (by assumption)] | rw [if_pos (True.intro : True)])); (try (first | rfl | (congr 2; omega) | (congr 1; congr 1; omega))); done)
              | exact zQm.b3 H2 (by omega) (by assumption) (by unfold sp_removeAt; (try unfold spPut); (try simp only [Int.toNat_natCast]); (repeat (first | rw [if_pos (by omega)] | rw [if_neg (by omega)] | rw [if_pos (by assumption)] | rw [if_neg (by assumption)] | rw [if_pos (True.intro : True)])); (try (first | rfl | (congr 2; omega) | (congr 1; congr 1; omega))); done)
              | exact zQm.ok H1 (by omega) (by assumption) (by unfold sp_removeAt; (try unfold spPut); (try simp only [Int.toNat_natCast]); (repeat (first | rw [if_pos (by omega)] | rw [if_neg (by omega)] | rw [if_pos (by assumption)] | rw [if_neg (by assumption)] | rw [if_pos (True.intro : True)])); (try (first | rfl | (congr 2; omega) | (congr 1; congr 1; omega))); done)
              | exact zQm.b1 H1 (by omega) (by assumption) (by unfold sp_removeAt; (try unfold spPut); (try simp only [Int.toNat_natCast]); (repeat (first | rw [if_pos (by omega)] | rw [if_neg (by omega)] | rw [if_pos (by assumption)] | rw [if_neg (by assumption)] | rw [if_pos (True.intro : True)])); (try (first | rfl | (congr 2; omega) | (congr 1; congr 1; omega))); done)
              | exact zQm.b2 H1 (by omega) (by assumption) (by unfold sp_removeAt; (try unfold spPut); (try simp only [Int.toNat_natCast]); (repeat (first | rw [if_pos (by omega)] | rw [if_neg (by omega)] | rw [if_pos (by assumption)] | rw [if_neg (by assumption)] | rw [if_pos (True.intro : True)])); (try (first | rfl | (congr 2; omega) | (congr 1; congr 1; omega))); done)
              | exact zQm.b3 H1 (by omega) (by assumption) (by unfold sp_removeAt; (try unfold spPut); (try simp only [Int.toNat_natCast]); (repeat (first | rw [if_pos (by omega)] | rw [if_neg (by omega)] | rw [if_pos (by assumption)] | rw [if_neg (by assumption)] | rw [if_pos (True.intro : True)])); (try (first | rfl | (congr 2; omega) | (congr 1; congr 1; omega))); done)
          · refine z_iconst dMod_removeAt_30 ?_
            refine z_iret rfl rfl dMod_removeAt_31 ?_
            rcases (show t9 = 0 ∨ t9 = 1 ∨ t9 = 2 ∨ t9 = 3 by omega) with t0 | t0 | t0 | t0
            all_goals first
              | (exfalso; omega)
              | exact zQm.okB H3 (Or.inr ⟨dq2, gq2⟩) (by omega) (by assumption) (by unfold sp_removeAt; (try unfold spPut); (try simp only [Int.toNat_natCast]); (repeat (first | rw [if_pos (by omega)] | rw [if_neg (by omega)] | rw [if_pos (by assumption)] | rw [if_neg (by assumption)] | rw [if_pos (True.intro : True)])); (try (first | rfl | (congr 2; omega) | (congr 1; congr 1; omega))); done)
              | exact zQm.ok H2 (by omega) (by assumption) (by unfold sp_removeAt; (try unfold spPut); (try simp only [Int.toNat_natCast]); (repeat (first | rw [if_pos (by omega)] | rw [if_neg (by omega)] | rw [if_pos (by assumption)] | rw [if_neg (by assumption)] | rw [if_pos (True.intro : True)])); (try (first | rfl | (congr 2; omega) | (congr 1; congr 1; omega))); done)
              | exact zQm.b1 H2 (by omega) (by assumption) (by unfold sp_removeAt; (try unfold spPut); (try simp only [Int.toNat_natCast]); (repeat (first | rw [if_pos (by omega)] | rw [if_neg (by omega)] | rw [if_pos (by assumption)] | rw [if_neg (by assumption)] | rw [if_pos (True.intro : True)])); (try (first | rfl | (congr 2; omega) | (congr 1; congr 1; omega))); done)
              | exact zQm.b2 H2 (by omega) (by assumption) (by unfold sp_removeAt; (try unfold spPut); (try simp only [Int.toNat_natCast]); (repeat (first | rw [if_pos (by omega)] | rw [if_neg (by omega)] | rw [if_pos (by assumption)] | rw [if_neg (by assumption)] | rw [if_pos (True.intro : True)])); (try (first | rfl | (congr 2; omega) | (congr 1; congr 1; omega))); done)
              | exact zQm.b3 H2 (by omega) (by assumption) (by unfold sp_removeAt; (try unfold spPut); (try simp only [Int.toNat_natCast]); (repeat (first | rw [if_pos (by omega)] | rw [if_neg (by omega)] | rw [if_pos (by assumption)] | rw [if_neg (by assumption)] | rw [if_pos (True.intro : True)])); (try (first | rfl | (congr 2; omega) | (congr 1; congr 1; omega))); done)
              | exact zQm.ok H1 (by omega) (by assumption) (by unfold sp_removeAt; (try unfold spPut); (try simp only [Int.toNat_natCast]); (repeat (first | rw [if_pos (by omega)] | rw [if_neg (by omega)] | rw [if_pos (by assumption)] | rw [if_neg (by assumption)] | rw [if_pos (True.intro : True)])); (try (first | rfl | (congr 2; omega) | (congr 1; congr 1; omega))); done)
              | exact zQm.b1 H1 (by omega) (by assumption) (by unfold sp_removeAt; (try unfold spPut); (try simp only [Int.toNat_natCast]); (repeat (first | rw [if_pos (by omega)] | rw [if_neg (by omega)] | rw [if_pos (by assumption)] | rw [if_neg (by assumption)] | rw [if_pos (True.intro : True)])); (try (first | rfl | (congr 2; omega) | (congr 1; congr 1; omega))); done)
              | exact zQm.b2 H1 (by omega) (by assumption) (by unfold sp_removeAt; (try unfold spPut); (try simp only [Int.toNat_natCast]); (repeat (first | rw [if_pos (by omega)] | rw [if_neg (by omega)] | rw [if_pos (by assumption)] | rw [if_neg (by assumption)] | rw [if_pos (True.intro : True)])); (try (first | rfl | (congr 2; omega) | (congr 1; congr 1; omega))); done)
              | exact zQm.b3 H1 (by omega) (by assumption) (by unfold sp_removeAt; (try unfold spPut); (try simp only [Int.toNat_natCast]); (repeat (first | rw [if_pos (by omega)] | rw [if_neg (by omega)] | rw [if_pos (by assumption)] | rw [if_neg (by assumption)] | rw [if_pos (True.intro : True)])); (try (first | rfl | (congr 2; omega) | (congr 1; congr 1; omega))); done)
        · exfalso; omega
theorem k_Mod_take {p w : Int} (H : zMod G h ma S th) (z_p : zI32 p) (z_w : zI32 w) (h16 : ∀ k, k < 4 → (S.1 k).length ≤ 16) : zM G l hMod_take yMod_take 4 [.ref (ma 0), zi p, zi w] h (zQm G ma h (1) (2) (3) (sp_take S p w)) zNo 1 60 := by
  obtain ⟨m1, m2, ⟨g, m3, m3a⟩, m4, ⟨f6, m5, m5a⟩, m6, m7⟩ := id H
  unfold zMfs at m2
  refine zM.of [some (.ref (ma 0)), some (zi p), some (zi w), none, none] (by decide +kernel) rfl (by decide) rfl (Nat.le_of_ble_eq_true rfl) rfl ?_
  refine z_aload_n dMod_take_0 rfl ?_
  refine z_iload_n dMod_take_1 rfl ?_
  refine z_callS MS_Mod_isNo lk_Mod_81 dMod_take_2 (k_Mod_isNo (by omega)) rfl rfl (Nat.le_of_ble_eq_true rfl)  (Nat.le_of_ble_eq_true rfl) (Nat.le_of_ble_eq_true rfl) (Nat.le_of_eq (Nat.zero_add _)) (Nat.le_of_eq (Nat.zero_add _)) (fun _ _ q => q.elim) ?_
  rintro _ _ ⟨n9, rfl, hn9, rfl⟩
  refine z_iload_n dMod_take_5 rfl ?_
  refine z_iconst dMod_take_6 ?_
  refine z_bipush dMod_take_7 rfl ?_
  refine z_callS MS_Mod_isOut lk_Mod_41 dMod_take_9 (k_Mod_isOut (by omega) (by omega) (by omega)) rfl rfl (Nat.le_of_ble_eq_true rfl)  (Nat.le_of_ble_eq_true rfl) (Nat.le_of_ble_eq_true rfl) (Nat.le_of_eq (Nat.zero_add _)) (Nat.le_of_eq (Nat.zero_add _)) (fun _ _ q => q.elim) ?_
  rintro _ _ ⟨o9, rfl, ho9, rfl⟩
  refine z_iconst dMod_take_12 ?_
  refine z_callV MV_Mod_fails lk_Mod_88 dMod_take_13 (k_Mod_fails (by assumption) rfl (by omega) (by omega) (by omega)) rfl rfl (Nat.le_of_ble_eq_true rfl) rfl (by assumption) (Nat.le_of_ble_eq_true rfl) (Nat.le_of_ble_eq_true rfl) (Nat.le_of_eq (Nat.zero_add _)) (Nat.le_of_eq (Nat.zero_add _)) (fun _ _ q => q.elim) ?_
  rintro _ h1 ⟨t9, b8, rfl, ht, p1, g1⟩
  have H1 : zMod G h1 ma S t9 := H.obj (nu := S.2.2.2.2) (th' := t9) p1 g1
  have fz1 : zMfr ma h h1 := zMfr.of0 g1
  obtain ⟨-, n2, ⟨gg, n3, n3a⟩, n4, ⟨f61, n5, n5a⟩, n6, n7⟩ := id H1
  unfold zMfs at n2
  refine z_if_eq (tgt := 21) dMod_take_16 (by decide) (by omega) (fun c16 => ?_) (fun c16 => ?_)
  · obtain ⟨k, rfl⟩ := Int.eq_ofNat_of_zero_le (show 0 ≤ p by omega)
    obtain ⟨frk, rk1, rk2, rk3, rk4⟩ := id (n6 k (by omega))
    have h16k := h16 k (by omega)
    have ezk : ∀ i : Int, 0 ≤ i → i < ((S.1 k).length : Int) → frk i.toNat = zAt (S.1 k) i := fun i x1 x2 => by rw [rk3 _ (by omega), zAt_eq x1 x2]
    refine z_aload_n dMod_take_21 rfl ?_
    refine z_get (k := 0) fd_Mod (by decide) fl_Mod_11 dMod_take_22 (by assumption) (by rfl) ?_
    refine z_iload_n dMod_take_25 rfl ?_
    refine z_aald (t := 4) (ty := .array .int) rfl rfl dMod_take_26 n3 (by refine ⟨?_, ?_, ?_⟩ <;> omega) ?_
    rw [show (k : Int).toNat = k from rfl, n3a k (by omega)]
    refine z_astore_n dMod_take_27 (Nat.le_of_ble_eq_true rfl) ?_
    refine z_aload_n dMod_take_28 rfl ?_
    refine z_alenI dMod_take_29 (by assumption) ?_
    refine z_if_ne (tgt := 65) dMod_take_30 (by decide) (by omega) (fun c30 => ?_) (fun c30 => ?_)
    · refine z_iload_n dMod_take_65 rfl ?_
      refine z_callS MS_Mod_isAtEnd lk_Mod_99 dMod_take_66 (k_Mod_isAtEnd (by omega)) rfl rfl (Nat.le_of_ble_eq_true rfl)  (Nat.le_of_ble_eq_true rfl) (Nat.le_of_ble_eq_true rfl) (Nat.le_of_eq (Nat.zero_add _)) (Nat.le_of_eq (Nat.zero_add _)) (fun _ _ q => q.elim) ?_
      rintro _ _ ⟨b7, rfl, hb7, rfl⟩
      refine z_if_eq (tgt := 79) dMod_take_69 (by decide) (by omega) (fun c69 => ?_) (fun c69 => ?_)
      · refine z_iconst dMod_take_79 ?_
        refine z_istore dMod_take_80 (Nat.le_of_ble_eq_true rfl) ?_
        refine z_aload_n dMod_take_82 rfl ?_
        refine z_iload_n dMod_take_83 rfl ?_
        refine z_aload_n dMod_take_84 rfl ?_
        refine z_iload dMod_take_85 rfl ?_
        refine z_callS (bc' := 0) (bs' := 0) MS_Mod_without lk_Mod_102 dMod_take_87 (k_Mod_without (n6 k (by omega)) (by omega) (by omega)) rfl rfl (Nat.le_of_ble_eq_true rfl)  (Nat.le_of_ble_eq_true rfl) (Nat.le_of_ble_eq_true rfl) (by decide) (by decide) (fun _ _ q => q.elim) ?_
        rintro _ h2 ⟨q2, rfl, hq2, gq2, r2, F2⟩
        have H2 : zMod G h2 ma S t9 := H1.keep hq2 F2
        have fz2 : zMfr ma h h2 := fz1.tr (zMfr.new hq2 F2)
        have dq2 : zDm h q2 := hq2.up H1 fz1
        have oc2 := H2.2.1
        have rk2b := (F2 _ (H1.nq hq2 (i := 8 + k) (by omega)).symm).trans rk1
        refine z_iconst dMod_take_90 ?_
        refine z_callV MV_Mod_become lk_Mod_77 dMod_take_91 (k_Mod_become H2 (by omega) r2 (fun i hi _ => H1.nq hq2 hi) (by omega)) rfl rfl (Nat.le_of_ble_eq_true rfl) rfl (by assumption) (Nat.le_of_ble_eq_true rfl) (Nat.le_of_ble_eq_true rfl) (Nat.le_of_eq (Nat.zero_add _)) (Nat.le_of_eq (Nat.zero_add _)) (fun _ _ q => q.elim) ?_
        rintro _ h3 ⟨rfl, H3, F3⟩
        have fz3 : zMfr ma h h3 := fz2.tr (zMfr.bec F3)
        have rk3b := (F3 _ (H1.inj (i := 8 + k) (j := 1) (by omega) (by omega) (by omega)) (H1.inj (i := 8 + k) (j := 3) (by omega) (by omega) (by omega))).trans rk2b
        refine z_aload_n dMod_take_94 rfl ?_
        refine z_iload dMod_take_95 rfl ?_
        refine z_iald dMod_take_97 (by assumption) (by refine ⟨?_, ?_, ?_⟩ <;> omega) ?_
        rw [rk3 _ (by omega)]
        refine z_iret rfl rfl dMod_take_98 ?_
        rcases (show t9 = 0 ∨ t9 = 1 ∨ t9 = 2 ∨ t9 = 3 by omega) with t0 | t0 | t0 | t0
        all_goals first
          | (exfalso; omega)
          | exact zQm.okB H3 (Or.inr ⟨dq2, gq2⟩) (by omega) (by assumption) (by unfold sp_take; (try unfold spPut); (try simp only [Int.toNat_natCast]); (repeat (first | rw [if_pos (by omega)] | rw [if_neg (by omega)] | rw [if_pos (by assumption)] | rw [if_neg (by assumption)] | rw [if_pos (True.intro : True)])); (try (first | rfl | (congr 2; omega) | (congr 1; congr 1; omega))); done)
          | exact zQm.okB H3 (Or.inl rfl) (by omega) (by assumption) (by unfold sp_take; (try unfold spPut); (try simp only [Int.toNat_natCast]); (repeat (first | rw [if_pos (by omega)] | rw [if_neg (by omega)] | rw [if_pos (by assumption)] | rw [if_neg (by assumption)] | rw [if_pos (True.intro : True)])); (try (first | rfl | (congr 2; omega) | (congr 1; congr 1; omega))); done)
          | exact zQm.ok H2 (by omega) (by assumption) (by unfold sp_take; (try unfold spPut); (try simp only [Int.toNat_natCast]); (repeat (first | rw [if_pos (by omega)] | rw [if_neg (by omega)] | rw [if_pos (by assumption)] | rw [if_neg (by assumption)] | rw [if_pos (True.intro : True)])); (try (first | rfl | (congr 2; omega) | (congr 1; congr 1; omega))); done)
          | exact zQm.b1 H2 (by omega) (by assumption) (by unfold sp_take; (try unfold spPut); (try simp only [Int.toNat_natCast]); (repeat (first | rw [if_pos (by omega)] | rw [if_neg (by omega)] | rw [if_pos (by assumption)] | rw [if_neg (by assumption)] | rw [if_pos (True.intro : True)])); (try (first | rfl | (congr 2; omega) | (congr 1; congr 1; omega))); done)
          | exact zQm.b2 H2 (by omega) (by assumption) (by unfold sp_take; (try unfold spPut); (try simp only [Int.toNat_natCast]); (repeat (first | rw [if_pos (by omega)] | rw [if_neg (by omega)] | rw [if_pos (by assumption)] | rw [if_neg (by assumption)] | rw [if_pos (True.intro : True)])); (try (first | rfl | (congr 2; omega) | (congr 1; congr 1; omega))); done)
          | exact zQm.b3 H2 (by omega) (by assumption) (by unfold sp_take; (try unfold spPut); (try simp only [Int.toNat_natCast]); (repeat (first | rw [if_pos (by omega)] | rw [if_neg (by omega)] | rw [if_pos (by assumption)] | rw [if_neg (by assumption)] | rw [if_pos (True.intro : True)])); (try (first | rfl | (congr 2; omega) | (congr 1; congr 1; omega))); done)
          | exact zQm.ok H1 (by omega) (by assumption) (by unfold sp_take; (try unfold spPut); (try simp only [Int.toNat_natCast]); (repeat (first | rw [if_pos (by omega)] | rw [if_neg (by omega)] | rw [if_pos (by assumption)] | rw [if_neg (by assumption)] | rw [if_pos (True.intro : True)])); (try (first | rfl | (congr 2; omega) | (congr 1; congr 1; omega))); done)
          | exact zQm.b1 H1 (by omega) (by assumption) (by unfold sp_take; (try unfold spPut); (try simp only [Int.toNat_natCast]); (repeat (first | rw [if_pos (by omega)] | rw [if_neg (by omega)] | rw [if_pos (by assumption)] | rw [if_neg (by assumption)] | rw [if_pos (True.intro : True)])); (try (first | rfl | (congr 2; omega) | (congr 1; congr 1; omega))); done)
          | exact zQm.b2 H1 (by omega) (by assumption) (by unfold sp_take; (try unfold spPut); (try simp only [Int.toNat_natCast]); (repeat (first | rw [if_pos (by omega)] | rw [if_neg (by omega)] | rw [if_pos (by assumption)] | rw [if_neg (by assumption)] | rw [if_pos (True.intro : True)])); (try (first | rfl | (congr 2; omega) | (congr 1; congr 1; omega))); done)
          | exact zQm.b3 H1 (by omega) (by assumption) (by unfold sp_take; (try unfold spPut); (try simp only [Int.toNat_natCast]); (repeat (first | rw [if_pos (by omega)] | rw [if_neg (by omega)] | rw [if_pos (by assumption)] | rw [if_neg (by assumption)] | rw [if_pos (True.intro : True)])); (try (first | rfl | (congr 2; omega) | (congr 1; congr 1; omega))); done)
      · refine z_aload_n dMod_take_72 rfl ?_
        refine z_alenI dMod_take_73 (by assumption) ?_
        refine z_iconst dMod_take_74 ?_
        refine z_isub dMod_take_75 ?_
        refine z_goto (tgt := 80) dMod_take_76 (by decide) ?_
        refine z_istore dMod_take_80 (Nat.le_of_ble_eq_true rfl) ?_
        refine z_aload_n dMod_take_82 rfl ?_
        refine z_iload_n dMod_take_83 rfl ?_
        refine z_aload_n dMod_take_84 rfl ?_
        refine z_iload dMod_take_85 rfl ?_
        refine z_callS (bc' := 0) (bs' := 0) MS_Mod_without lk_Mod_102 dMod_take_87 (k_Mod_without (n6 k (by omega)) (by omega) (by omega)) rfl rfl (Nat.le_of_ble_eq_true rfl)  (Nat.le_of_ble_eq_true rfl) (Nat.le_of_ble_eq_true rfl) (by decide) (by decide) (fun _ _ q => q.elim) ?_
        rintro _ h2 ⟨q2, rfl, hq2, gq2, r2, F2⟩
        have H2 : zMod G h2 ma S t9 := H1.keep hq2 F2
        have fz2 : zMfr ma h h2 := fz1.tr (zMfr.new hq2 F2)
        have dq2 : zDm h q2 := hq2.up H1 fz1
        have oc2 := H2.2.1
        have rk2b := (F2 _ (H1.nq hq2 (i := 8 + k) (by omega)).symm).trans rk1
        refine z_iconst dMod_take_90 ?_
        refine z_callV MV_Mod_become lk_Mod_77 dMod_take_91 (k_Mod_become H2 (by omega) r2 (fun i hi _ => H1.nq hq2 hi) (by omega)) rfl rfl (Nat.le_of_ble_eq_true rfl) rfl (by assumption) (Nat.le_of_ble_eq_true rfl) (Nat.le_of_ble_eq_true rfl) (Nat.le_of_eq (Nat.zero_add _)) (Nat.le_of_eq (Nat.zero_add _)) (fun _ _ q => q.elim) ?_
        rintro _ h3 ⟨rfl, H3, F3⟩
        have fz3 : zMfr ma h h3 := fz2.tr (zMfr.bec F3)
        have rk3b := (F3 _ (H1.inj (i := 8 + k) (j := 1) (by omega) (by omega) (by omega)) (H1.inj (i := 8 + k) (j := 3) (by omega) (by omega) (by omega))).trans rk2b
        refine z_aload_n dMod_take_94 rfl ?_
        refine z_iload dMod_take_95 rfl ?_
        refine z_iald dMod_take_97 (by assumption) (by refine ⟨?_, ?_, ?_⟩ <;> omega) ?_
        rw [rk3 _ (by omega)]
        refine z_iret rfl rfl dMod_take_98 ?_
        rcases (show t9 = 0 ∨ t9 = 1 ∨ t9 = 2 ∨ t9 = 3 by omega) with t0 | t0 | t0 | t0
        all_goals first
          | (exfalso; omega)
          | exact zQm.okB H3 (Or.inr ⟨dq2, gq2⟩) (by omega) (by assumption) (by unfold sp_take; (try unfold spPut); (try simp only [Int.toNat_natCast]); (repeat (first | rw [if_pos (by omega)] | rw [if_neg (by omega)] | rw [if_pos (by assumption)] | rw [if_neg (by assumption)] | rw [if_pos (True.intro : True)])); (try (first | rfl | (congr 2; omega) | (congr 1; congr 1; omega))); done)
          | exact zQm.okB H3 (Or.inl rfl) (by omega) (by assumption) (by unfold sp_take; (try unfold spPut); (try simp only [Int.toNat_natCast]); (repeat (first | rw [if_pos (by omega)] | rw [if_neg (by omega)] | rw [if_pos (by assumption)] | rw [if_neg (by assumption)] | rw [if_pos (True.intro : True)])); (try (first | rfl | (congr 2; omega) | (congr 1; congr 1; omega))); done)
          | exact zQm.ok H2 (by omega) (by assumption) (by unfold sp_take; (try unfold spPut); (try simp only [Int.toNat_natCast]); (repeat (first | rw [if_pos (by omega)] | rw [if_neg (by omega)] | rw [if_pos (by assumption)] | rw [if_neg (by assumption)] | rw [if_pos (True.intro : True)])); (try (first | rfl | (congr 2; omega) | (congr 1; congr 1; omega))); done)
          | exact zQm.b1 H2 (by omega) (by assumption) (by unfold sp_take; (try unfold spPut); (try simp only [Int.toNat_natCast]); (repeat (first | rw [if_pos (by omega)] | rw [if_neg (by omega)] | rw [if_pos (by assumption)] | rw [if_neg (by assumption)] | rw [if_pos (True.intro : True)])); (try (first | rfl | (congr 2; omega) | (congr 1; congr 1; omega))); done)
          | exact zQm.b2 H2 (by omega) (by assumption) (by unfold sp_take; (try unfold spPut); (try simp only [Int.toNat_natCast]); (repeat (first | rw [if_pos (by omega)] | rw [if_neg (by omega)] | rw [if_pos (by assumption)] | rw [if_neg (by assumption)] | rw [if_pos (True.intro : True)])); (try (first | rfl | (congr 2; omega) | (congr 1; congr 1; omega))); done)
          | exact zQm.b3 H2 (by omega) (by assumption) (by unfold sp_take; (try unfold spPut); (try simp only [Int.toNat_natCast]); (repeat (first | rw [if_pos (by omega)] | rw [if_neg (by omega)] | rw [if_pos (by assumption)] | rw [if_neg (by assumption)] | rw [if_pos (True.intro : True)])); (try (first | rfl | (congr 2; omega) | (congr 1; congr 1; omega))); done)
          | exact zQm.ok H1 (by omega) (by assumption) (by unfold sp_take; (try unfold spPut); (try simp only [Int.toNat_natCast]); (repeat (first | rw [if_pos (by omega)] | rw [if_neg (by omega)] | rw [if_pos (by assumption)] | rw [if_neg (by assumption)] | rw [if_pos (True.intro : True)])); (try (first | rfl | (congr 2; omega) | (congr 1; congr 1; omega))); done)
          | exact zQm.b1 H1 (by omega) (by assumption) (by unfold sp_take; (try unfold spPut); (try simp only [Int.toNat_natCast]); (repeat (first | rw [if_pos (by omega)] | rw [if_neg (by omega)] | rw [if_pos (by assumption)] | rw [if_neg (by assumption)] | rw [if_pos (True.intro : True)])); (try (first | rfl | (congr 2; omega) | (congr 1; congr 1; omega))); done)
          | exact zQm.b2 H1 (by omega) (by assumption) (by unfold sp_take; (try unfold spPut); (try simp only [Int.toNat_natCast]); (repeat (first | rw [if_pos (by omega)] | rw [if_neg (by omega)] | rw [if_pos (by assumption)] | rw [if_neg (by assumption)] | rw [if_pos (True.intro : True)])); (try (first | rfl | (congr 2; omega) | (congr 1; congr 1; omega))); done)
          | exact zQm.b3 H1 (by omega) (by assumption) (by unfold sp_take; (try unfold spPut); (try simp only [Int.toNat_natCast]); (repeat (first | rw [if_pos (by omega)] | rw [if_neg (by omega)] | rw [if_pos (by assumption)] | rw [if_neg (by assumption)] | rw [if_pos (True.intro : True)])); (try (first | rfl | (congr 2; omega) | (congr 1; congr 1; omega))); done)
    · refine z_iload_n dMod_take_33 rfl ?_
      refine z_iconst dMod_take_34 ?_
      refine z_icmp_eq (tgt := 54) dMod_take_35 (by decide) (by omega) (by omega) (fun c35 => ?_) (fun c35 => ?_)
      · refine z_aload_n dMod_take_54 rfl ?_
        refine z_iload_n dMod_take_55 rfl ?_
        refine z_aload_n dMod_take_56 rfl ?_
        refine z_iconst dMod_take_57 ?_
        refine z_callV MV_Mod_become lk_Mod_77 dMod_take_58 (k_Mod_become H1 (by omega) (n6 k (by omega)) (fun i hi hne => H1.inj (by omega) hi hne.symm) (by omega)) rfl rfl (Nat.le_of_ble_eq_true rfl) rfl (by assumption) (Nat.le_of_ble_eq_true rfl) (Nat.le_of_ble_eq_true rfl) (Nat.le_of_eq (Nat.zero_add _)) (Nat.le_of_eq (Nat.zero_add _)) (fun _ _ q => q.elim) ?_
        rintro _ h3 ⟨rfl, H3, F3⟩
        have fz3 : zMfr ma h h3 := fz1.tr (zMfr.bec F3)
        rw [zsL_id] at H3
        refine z_sipush dMod_take_61 rfl ?_
        refine z_iret rfl rfl dMod_take_64 ?_
        rcases (show t9 = 0 ∨ t9 = 1 ∨ t9 = 2 ∨ t9 = 3 by omega) with t0 | t0 | t0 | t0
        all_goals first
          | (exfalso; omega)
          | exact zQm.okB H3 (Or.inr ⟨dq2, gq2⟩) (by omega) (by assumption) (by unfold sp_take; (try unfold spPut); (try simp only [Int.toNat_natCast]); (repeat (first | rw [if_pos (by omega)] | rw [if_neg (by omega)] | rw [if_pos (by assumption)] | rw [if_neg (by assumption)] | rw [if_pos (True.intro : True)])); (try (first | rfl | (congr 2; omega) | (congr 1; congr 1; omega))); done)
          | exact zQm.okB H3 (Or.inl rfl) (by omega) (by assumption) (by unfold sp_take; (try unfold spPut); (try simp only [Int.toNat_natCast]); (repeat (first | rw [if_pos (by omega)] | rw [if_neg (by omega)] | rw [if_pos (by assumption)] | rw [if_neg (by assumption)] | rw [if_pos (True.intro : True)])); (try (first | rfl | (congr 2; omega) | (congr 1; congr 1; omega))); done)
          | exact zQm.ok H2 (by omega) (by assumption) (by unfold sp_take; (try unfold spPut); (try simp only [Int.toNat_natCast]); (repeat (first | rw [if_pos (by omega)] | rw [if_neg (by omega)] | rw [if_pos (by assumption)] | rw [if_neg (by assumption)] | rw [if_pos (True.intro : True)])); (try (first | rfl | (congr 2; omega) | (congr 1; congr 1; omega))); done)
          | exact zQm.b1 H2 (by omega) (by assumption) (by unfold sp_take; (try unfold spPut); (try simp only [Int.toNat_natCast]); (repeat (first | rw [if_pos (by omega)] | rw [if_neg (by omega)] | rw [if_pos (by assumption)] | rw [if_neg (by assumption)] | rw [if_pos (True.intro : True)])); (try (first | rfl | (congr 2; omega) | (congr 1; congr 1; omega))); done)
          | exact zQm.b2 H2 (by omega) (by assumption) (by unfold sp_take; (try unfold spPut); (try simp only [Int.toNat_natCast]); (repeat (first | rw [if_pos (by omega)] | rw [if_neg (by omega)] | rw [if_pos (by assumption)] | rw [if_neg (by assumption)] | rw [if_pos (True.intro : True)])); (try (first | rfl | (congr 2; omega) | (congr 1; congr 1; omega))); done)
          | exact zQm.b3 H2 (by omega) (by assumption) (by unfold sp_take; (try unfold spPut); (try simp only [Int.toNat_natCast]); (repeat (first | rw [if_pos (by omega)] | rw [if_neg (by omega)] | rw [if_pos (by assumption)] | rw [if_neg (by assumption)] | rw [if_pos (True.intro : True)])); (try (first | rfl | (congr 2; omega) | (congr 1; congr 1; omega))); done)
          | exact zQm.ok H1 (by omega) (by assumption) (by unfold sp_take; (try unfold spPut); (try simp only [Int.toNat_natCast]); (repeat (first | rw [if_pos (by omega)] | rw [if_neg (by omega)] | rw [if_pos (by assumption)] | rw [if_neg (by assumption)] | rw [if_pos (True.intro : True)])); (try (first | rfl | (congr 2; omega) | (congr 1; congr 1; omega))); done)
          | exact zQm.b1 H1 (by omega) (by assumption) (by unfold sp_take; (try unfold spPut); (try simp only [Int.toNat_natCast]); (repeat (first | rw [if_pos (by omega)] | rw [if_neg (by omega)] | rw [if_pos (by assumption)] | rw [if_neg (by assumption)] | rw [if_pos (True.intro : True)])); (try (first | rfl | (congr 2; omega) | (congr 1; congr 1; omega))); done)
          | exact zQm.b2 H1 (by omega) (by assumption) (by unfold sp_take; (try unfold spPut); (try simp only [Int.toNat_natCast]); (repeat (first | rw [if_pos (by omega)] | rw [if_neg (by omega)] | rw [if_pos (by assumption)] | rw [if_neg (by assumption)] | rw [if_pos (True.intro : True)])); (try (first | rfl | (congr 2; omega) | (congr 1; congr 1; omega))); done)
          | exact zQm.b3 H1 (by omega) (by assumption) (by unfold sp_take; (try unfold spPut); (try simp only [Int.toNat_natCast]); (repeat (first | rw [if_pos (by omega)] | rw [if_neg (by omega)] | rw [if_pos (by assumption)] | rw [if_neg (by assumption)] | rw [if_pos (True.intro : True)])); (try (first | rfl | (congr 2; omega) | (congr 1; congr 1; omega))); done)
      · refine z_iload_n dMod_take_38 rfl ?_
        refine z_iconst dMod_take_39 ?_
        refine z_icmp_eq (tgt := 54) dMod_take_40 (by decide) (by omega) (by omega) (fun c40 => ?_) (fun c40 => ?_)
        · refine z_aload_n dMod_take_54 rfl ?_
          refine z_iload_n dMod_take_55 rfl ?_
          refine z_aload_n dMod_take_56 rfl ?_
          refine z_iconst dMod_take_57 ?_
          refine z_callV MV_Mod_become lk_Mod_77 dMod_take_58 (k_Mod_become H1 (by omega) (n6 k (by omega)) (fun i hi hne => H1.inj (by omega) hi hne.symm) (by omega)) rfl rfl (Nat.le_of_ble_eq_true rfl) rfl (by assumption) (Nat.le_of_ble_eq_true rfl) (Nat.le_of_ble_eq_true rfl) (Nat.le_of_eq (Nat.zero_add _)) (Nat.le_of_eq (Nat.zero_add _)) (fun _ _ q => q.elim) ?_
          rintro _ h3 ⟨rfl, H3, F3⟩
          have fz3 : zMfr ma h h3 := fz1.tr (zMfr.bec F3)
          rw [zsL_id] at H3
          refine z_sipush dMod_take_61 rfl ?_
          refine z_iret rfl rfl dMod_take_64 ?_
          rcases (show t9 = 0 ∨ t9 = 1 ∨ t9 = 2 ∨ t9 = 3 by omega) with t0 | t0 | t0 | t0
          all_goals first
            | (exfalso; omega)
            | exact zQm.okB H3 (Or.inr ⟨dq2, gq2⟩) (by omega) (by assumption) (by unfold sp_take; (try unfold spPut); (try simp only [Int.toNat_natCast]); (repeat (first | rw [if_pos (by omega)] | rw [if_neg (by omega)] | rw [if_pos (by assumption)] | rw [if_neg (by assumption)] | rw [if_pos (True.intro : True)])); (try (first | rfl | (congr 2; omega) | (congr 1; congr 1; omega))); done)
            | exact zQm.okB H3 (Or.inl rfl) (by omega) (by assumption) (by unfold sp_take; (try unfold spPut); (try simp only [Int.toNat_natCast]); (repeat (first | rw [if_pos (by omega)] | rw [if_neg (by omega)] | rw [if_pos (by assumption)] | rw [if_neg (by assumption)] | rw [if_pos (True.intro : True)])); (try (first | rfl | (congr 2; omega) | (congr 1; congr 1; omega))); done)
            | exact zQm.ok H2 (by omega) (by assumption) (by unfold sp_take; (try unfold spPut); (try simp only [Int.toNat_natCast]); (repeat (first | rw [if_pos (by omega)] | rw [if_neg (by omega)] | rw [if_pos (by assumption)] | rw [if_neg (by assumption)] | rw [if_pos (True.intro : True)])); (try (first | rfl | (congr 2; omega) | (congr 1; congr 1; omega))); done)
            | exact zQm.b1 H2 (by omega) (by assumption) (by unfold sp_take; (try unfold spPut); (try simp only [Int.toNat_natCast]); (repeat (first | rw [if_pos (by omega)] | rw [if_neg (by omega)] | rw [if_pos (by assumption)] | rw [if_neg (by assumption)] | rw [if_pos (True.intro : True)])); (try (first | rfl | (congr 2; omega) | (congr 1; congr 1; omega))); done)
            | exact zQm.b2 H2 (by omega) (by assumption) (by unfold sp_take; (try unfold spPut); (try simp only [Int.toNat_natCast]); (repeat (first | rw [if_pos (by omega)] | rw [if_neg (by omega)] | rw [if_pos (by assumption)] | rw [if_neg (by assumption)] | rw [if_pos (True.intro : True)])); (try (first | rfl | (congr 2; omega) | (congr 1; congr 1; omega))); done)
            | exact zQm.b3 H2 (by omega) (by assumption) (by unfold sp_take; (try unfold spPut); (try simp only [Int.toNat_natCast]); (repeat (first | rw [if_pos (by omega)] | rw [if_neg (by omega)] | rw [if_pos (by assumption)] | rw [if_neg (by assumption)] | rw [if_pos (True.intro : True)])); (try (first | rfl | (congr 2; omega) | (congr 1; congr 1; omega))); done)
            | exact zQm.ok H1 (by omega) (by assumption) (by unfold sp_take; (try unfold spPut); (try simp only [Int.toNat_natCast]); (repeat (first | rw [if_pos (by omega)] | rw [if_neg (by omega)] | rw [if_pos (by assumption)] | rw [if_neg (by assumption)] | rw [if_pos (True.intro : True)])); (try (first | rfl | (congr 2; omega) | (congr 1; congr 1; omega))); done)
            | exact zQm.b1 H1 (by omega) (by assumption) (by unfold sp_take; (try unfold spPut); (try simp only [Int.toNat_natCast]); (repeat (first | rw [if_pos (by omega)] | rw [if_neg (by omega)] | rw [if_pos (by assumption)] | rw [if_neg (by assumption)] | rw [if_pos (True.intro : True)])); (try (first | rfl | (congr 2; omega) | (congr 1; congr 1; omega))); done)
            | exact zQm.b2 H1 (by omega) (by assumption) (by unfold sp_take; (try unfold spPut); (try simp only [Int.toNat_natCast]); (repeat (first | rw [if_pos (by omega)] | rw [if_neg (by omega)] | rw [if_pos (by assumption)] | rw [if_neg (by assumption)] | rw [if_pos (True.intro : True)])); (try (first | rfl | (congr 2; omega) | (congr 1; congr 1; omega))); done)
            | exact zQm.b3 H1 (by omega) (by assumption) (by unfold sp_take; (try unfold spPut); (try simp only [Int.toNat_natCast]); (repeat (first | rw [if_pos (by omega)] | rw [if_neg (by omega)] | rw [if_pos (by assumption)] | rw [if_neg (by assumption)] | rw [if_pos (True.intro : True)])); (try (first | rfl | (congr 2; omega) | (congr 1; congr 1; omega))); done)
        · refine z_iload_n dMod_take_43 rfl ?_
          refine z_bipush dMod_take_44 rfl ?_
          refine z_icmp_eq (tgt := 54) dMod_take_46 (by decide) (by omega) (by omega) (fun c46 => ?_) (fun c46 => ?_)
          · refine z_aload_n dMod_take_54 rfl ?_
            refine z_iload_n dMod_take_55 rfl ?_
            refine z_aload_n dMod_take_56 rfl ?_
            refine z_iconst dMod_take_57 ?_
            refine z_callV MV_Mod_become lk_Mod_77 dMod_take_58 (k_Mod_become H1 (by omega) (n6 k (by omega)) (fun i hi hne => H1.inj (by omega) hi hne.symm) (by omega)) rfl rfl (Nat.le_of_ble_eq_true rfl) rfl (by assumption) (Nat.le_of_ble_eq_true rfl) (Nat.le_of_ble_eq_true rfl) (Nat.le_of_eq (Nat.zero_add _)) (Nat.le_of_eq (Nat.zero_add _)) (fun _ _ q => q.elim) ?_
            rintro _ h3 ⟨rfl, H3, F3⟩
            have fz3 : zMfr ma h h3 := fz1.tr (zMfr.bec F3)
            rw [zsL_id] at H3
            refine z_sipush dMod_take_61 rfl ?_
            refine z_iret rfl rfl dMod_take_64 ?_
            rcases (show t9 = 0 ∨ t9 = 1 ∨ t9 = 2 ∨ t9 = 3 by omega) with t0 | t0 | t0 | t0
            all_goals first
              | (exfalso; omega)
              | exact zQm.okB H3 (Or.inr ⟨dq2, gq2⟩) (by omega) (by assumption) (by unfold sp_take; (try unfold spPut); (try simp only [Int.toNat_natCast]); (repeat (first | rw [if_pos (by omega)] | rw [if_neg (by omega)] | rw [if_pos (by assumption)] | rw [if_neg (by assumption)] | rw [if_pos (True.intro : True)])); (try (first | rfl | (congr 2; omega) | (congr 1; congr 1; omega))); done)
              | exact zQm.okB H3 (Or.inl rfl) (by omega) (by assumption) (by unfold sp_take; (try unfold spPut); (try simp only [Int.toNat_natCast]); (repeat (first | rw [if_pos (by omega)] | rw [if_neg (by omega)] | rw [if_pos (by assumption)] | rw [if_neg (by assumption)] | rw [if_pos (True.intro : True)])); (try (first | rfl | (congr 2; omega) | (congr 1; congr 1; omega))); done)
              | exact zQm.ok H2 (by omega) (by assumption) (by unfold sp_take; (try unfold spPut); (try simp only [Int.toNat_natCast]); (repeat (first | rw [if_pos (by omega)] | rw [if_neg (by omega)] | rw [if_pos (by assumption)] | rw [if_neg (by assumption)] | rw [if_pos (True.intro : True)])); (try (first | rfl | (congr 2; omega) | (congr 1; congr 1; omega))); done)
              | exact zQm.b1 H2 (by omega) (by assumption) (by unfold sp_take; (try unfold spPut); (try simp only [Int.toNat_natCast]); (repeat (first | rw [if_pos (by omega)] | rw [if_neg (by omega)] | rw [if_pos (by assumption)] | rw [if_neg (by assumption)] | rw [if_pos (True.intro : True)])); (try (first | rfl | (congr 2; omega) | (congr 1; congr 1; omega))); done)
              | exact zQm.b2 H2 (by omega) (by assumption) (by unfold sp_take; (try unfold spPut); (try simp only [Int.toNat_natCast]); (repeat (first | rw [if_pos (by omega)] | rw [if_neg (by omega)] | rw [if_pos (by assumption)] | rw [if_neg (by assumption)] | rw [if_pos (True.intro : True)])); (try (first | rfl | (congr 2; omega) | (congr 1; congr 1; omega))); done)
              | exact zQm.b3 H2 (by omega) (by assumption) (by unfold sp_take; (try unfold spPut); (try simp only [Int.toNat_natCast]); (repeat (first | rw [if_pos (by omega)] | rw [if_neg (by omega)] | rw [if_pos (by assumption)] | rw [if_neg (by assumption)] | rw [if_pos (True.intro : True)])); (try (first | rfl | (congr 2; omega) | (congr 1; congr 1; omega))); done)
              | exact zQm.ok H1 (by omega) (by assumption) (by unfold sp_take; (try unfold spPut); (try simp only [Int.toNat_natCast]); (repeat (first | rw [if_pos (by omega)] | rw [if_neg (by omega)] | rw [if_pos (by assumption)] | rw [if_neg (by assumption)] | rw [if_pos (True.intro : True)])); (try (first | rfl | (congr 2; omega) | (congr 1; congr 1; omega))); done)
              | exact zQm.b1 H1 (by omega) (by assumption) (by unfold sp_take; (try unfold spPut); (try simp only [Int.toNat_natCast]); (repeat (first | rw [if_pos (by omega)] | rw [if_neg (by omega)] | rw [if_pos (by assumption)] | rw [if_neg (by assumption)] | rw [if_pos (True.intro : True)])); (try (first | rfl | (congr 2; omega) | (congr 1; congr 1; omega))); done)
              | exact zQm.b2 H1 (by omega) (by assumption) (by unfold sp_take; (try unfold spPut); (try simp only [Int.toNat_natCast]); (repeat (first | rw [if_pos (by omega)] | rw [if_neg (by omega)] | rw [if_pos (by assumption)] | rw [if_neg (by assumption)] | rw [if_pos (True.intro : True)])); (try (first | rfl | (congr 2; omega) | (congr 1; congr 1; omega))); done)
              | exact zQm.b3 H1 (by omega) (by assumption) (by unfold sp_take; (try unfold spPut); (try simp only [Int.toNat_natCast]); (repeat (first | rw [if_pos (by omega)] | rw [if_neg (by omega)] | rw [if_pos (by assumption)] | rw [if_neg (by assumption)] | rw [if_pos (True.intro : True)])); (try (first | rfl | (congr 2; omega) | (congr 1; congr 1; omega))); done)
          · refine z_aload_n dMod_take_49 rfl ?_
            refine z_callV MV_Mod_refused lk_Mod_92 dMod_take_50 (k_Mod_refused n2 rfl rfl) rfl rfl (Nat.le_of_ble_eq_true rfl) rfl (by assumption) (Nat.le_of_ble_eq_true rfl) (Nat.le_of_ble_eq_true rfl) (Nat.le_of_eq (Nat.zero_add _)) (Nat.le_of_eq (Nat.zero_add _)) (fun _ _ q => q.elim) ?_
            rintro _ h2 ⟨rfl, p2, g2⟩
            have H2 : zMod G h2 ma (zsRef S) t9 := H1.obj (nu := zup S.2.2.2.2 1 (S.2.2.2.2 1 + 1)) p2 g2
            have fz2 : zMfr ma h h2 := zMfr.of0 (fun q hq => (g2 q hq).trans (g1 q hq))
            refine z_iret rfl rfl dMod_take_53 ?_
            rcases (show t9 = 0 ∨ t9 = 1 ∨ t9 = 2 ∨ t9 = 3 by omega) with t0 | t0 | t0 | t0
            all_goals first
              | (exfalso; omega)
              | exact zQm.okB H3 (Or.inr ⟨dq2, gq2⟩) (by omega) (by assumption) (by unfold sp_take; (try unfold spPut); (try simp only [Int.toNat_natCast]); (repeat (first | rw [if_pos (by omega)] | rw [if_neg (by omega)] | rw [if_pos (by assumption)] | rw [if_neg (by assumption)] | rw [if_pos (True.intro : True)])); (try (first | rfl | (congr 2; omega) | (congr 1; congr 1; omega))); done)
              | exact zQm.okB H3 (Or.inl rfl) (by omega) (by assumption) (by unfold sp_take; (try unfold spPut); (try simp only [Int.toNat_natCast]); (repeat (first | rw [if_pos (by omega)] | rw [if_neg (by omega)] | rw [if_pos (by assumption)] | rw [if_neg (by assumption)] | rw [if_pos (True.intro : True)])); (try (first | rfl | (congr 2; omega) | (congr 1; congr 1; omega))); done)
              | exact zQm.ok H2 (by omega) (by assumption) (by unfold sp_take; (try unfold spPut); (try simp only [Int.toNat_natCast]); (repeat (first | rw [if_pos (by omega)] | rw [if_neg (by omega)] | rw [if_pos (by assumption)] | rw [if_neg (by assumption)] | rw [if_pos (True.intro : True)])); (try (first | rfl | (congr 2; omega) | (congr 1; congr 1; omega))); done)
              | exact zQm.b1 H2 (by omega) (by assumption) (by unfold sp_take; (try unfold spPut); (try simp only [Int.toNat_natCast]); (repeat (first | rw [if_pos (by omega)] | rw [if_neg (by omega)] | rw [if_pos (by assumption)] | rw [if_neg (by assumption)] | rw [if_pos (True.intro : True)])); (try (first | rfl | (congr 2; omega) | (congr 1; congr 1; omega))); done)
              | exact zQm.b2 H2 (by omega) (by assumption) (by unfold sp_take; (try unfold spPut); (try simp only [Int.toNat_natCast]); (repeat (first | rw [if_pos (by omega)] | rw [if_neg (by omega)] | rw [if_pos (by assumption)] | rw [if_neg (by assumption)] | rw [if_pos (True.intro : True)])); (try (first | rfl | (congr 2; omega) | (congr 1; congr 1; omega))); done)
              | exact zQm.b3 H2 (by omega) (by assumption) (by unfold sp_take; (try unfold spPut); (try simp only [Int.toNat_natCast]); (repeat (first | rw [if_pos (by omega)] | rw [if_neg (by omega)] | rw [if_pos (by assumption)] | rw [if_neg (by assumption)] | rw [if_pos (True.intro : True)])); (try (first | rfl | (congr 2; omega) | (congr 1; congr 1; omega))); done)
              | exact zQm.ok H1 (by omega) (by assumption) (by unfold sp_take; (try unfold spPut); (try simp only [Int.toNat_natCast]); (repeat (first | rw [if_pos (by omega)] | rw [if_neg (by omega)] | rw [if_pos (by assumption)] | rw [if_neg (by assumption)] | rw [if_pos (True.intro : True)])); (try (first | rfl | (congr 2; omega) | (congr 1; congr 1; omega))); done)
              | exact zQm.b1 H1 (by omega) (by assumption) (by unfold sp_take; (try unfold spPut); (try simp only [Int.toNat_natCast]); (repeat (first | rw [if_pos (by omega)] | rw [if_neg (by omega)] | rw [if_pos (by assumption)] | rw [if_neg (by assumption)] | rw [if_pos (True.intro : True)])); (try (first | rfl | (congr 2; omega) | (congr 1; congr 1; omega))); done)
              | exact zQm.b2 H1 (by omega) (by assumption) (by unfold sp_take; (try unfold spPut); (try simp only [Int.toNat_natCast]); (repeat (first | rw [if_pos (by omega)] | rw [if_neg (by omega)] | rw [if_pos (by assumption)] | rw [if_neg (by assumption)] | rw [if_pos (True.intro : True)])); (try (first | rfl | (congr 2; omega) | (congr 1; congr 1; omega))); done)
              | exact zQm.b3 H1 (by omega) (by assumption) (by unfold sp_take; (try unfold spPut); (try simp only [Int.toNat_natCast]); (repeat (first | rw [if_pos (by omega)] | rw [if_neg (by omega)] | rw [if_pos (by assumption)] | rw [if_neg (by assumption)] | rw [if_pos (True.intro : True)])); (try (first | rfl | (congr 2; omega) | (congr 1; congr 1; omega))); done)
  · refine z_iconst dMod_take_19 ?_
    refine z_iret rfl rfl dMod_take_20 ?_
    rcases (show t9 = 0 ∨ t9 = 1 ∨ t9 = 2 ∨ t9 = 3 by omega) with t0 | t0 | t0 | t0
    all_goals first
      | (exfalso; omega)
      | exact zQm.okB H3 (Or.inr ⟨dq2, gq2⟩) (by omega) (by assumption) (by unfold sp_take; (try unfold spPut); (try simp only [Int.toNat_natCast]); (repeat (first | rw [if_pos (by omega)] | rw [if_neg (by omega)] | rw [if_pos (by assumption)] | rw [if_neg (by assumption)] | rw [if_pos (True.intro : True)])); (try (first | rfl | (congr 2; omega) | (congr 1; congr 1; omega))); done)
      | exact zQm.okB H3 (Or.inl rfl) (by omega) (by assumption) (by unfold sp_take; (try unfold spPut); (try simp only [Int.toNat_natCast]); (repeat (first | rw [if_pos (by omega)] | rw [if_neg (by omega)] | rw [if_pos (by assumption)] | rw [if_neg (by assumption)] | rw [if_pos (True.intro : True)])); (try (first | rfl | (congr 2; omega) | (congr 1; congr 1; omega))); done)
      | exact zQm.ok H2 (by omega) (by assumption) (by unfold sp_take; (try unfold spPut); (try simp only [Int.toNat_natCast]); (repeat (first | rw [if_pos (by omega)] | rw [if_neg (by omega)] | rw [if_pos (by assumption)] | rw [if_neg (by assumption)] | rw [if_pos (True.intro : True)])); (try (first | rfl | (congr 2; omega) | (congr 1; congr 1; omega))); done)
      | exact zQm.b1 H2 (by omega) (by assumption) (by unfold sp_take; (try unfold spPut); (try simp only [Int.toNat_natCast]); (repeat (first | rw [if_pos (by omega)] | rw [if_neg (by omega)] | rw [if_pos (by assumption)] | rw [if_neg (by assumption)] | rw [if_pos (True.intro : True)])); (try (first | rfl | (congr 2; omega) | (congr 1; congr 1; omega))); done)
      | exact zQm.b2 H2 (by omega) (by assumption) (by unfold sp_take; (try unfold spPut); (try simp only [Int.toNat_natCast]); (repeat (first | rw [if_pos (by omega)] | rw [if_neg (by omega)] | rw [if_pos (by assumption)] | rw [if_neg (by assumption)] | rw [if_pos (True.intro : True)])); (try (first | rfl | (congr 2; omega) | (congr 1; congr 1; omega))); done)
      | exact zQm.b3 H2 (by omega) (by assumption) (by unfold sp_take; (try unfold spPut); (try simp only [Int.toNat_natCast]); (repeat (first | rw [if_pos (by omega)] | rw [if_neg (by omega)] | rw [if_pos (by assumption)] | rw [if_neg (by assumption)] | rw [if_pos (True.intro : True)])); (try (first | rfl | (congr 2; omega) | (congr 1; congr 1; omega))); done)
      | exact zQm.ok H1 (by omega) (by assumption) (by unfold sp_take; (try unfold spPut); (try simp only [Int.toNat_natCast]); (repeat (first | rw [if_pos (by omega)] | rw [if_neg (by omega)] | rw [if_pos (by assumption)] | rw [if_neg (by assumption)] | rw [if_pos (True.intro : True)])); (try (first | rfl | (congr 2; omega) | (congr 1; congr 1; omega))); done)
      | exact zQm.b1 H1 (by omega) (by assumption) (by unfold sp_take; (try unfold spPut); (try simp only [Int.toNat_natCast]); (repeat (first | rw [if_pos (by omega)] | rw [if_neg (by omega)] | rw [if_pos (by assumption)] | rw [if_neg (by assumption)] | rw [if_pos (True.intro : True)])); (try (first | rfl | (congr 2; omega) | (congr 1; congr 1; omega))); done)
      | exact zQm.b2 H1 (by omega) (by assumption) (by unfold sp_take; (try unfold spPut); (try simp only [Int.toNat_natCast]); (repeat (first | rw [if_pos (by omega)] | rw [if_neg (by omega)] | rw [if_pos (by assumption)] | rw [if_neg (by assumption)] | rw [if_pos (True.intro : True)])); (try (first | rfl | (congr 2; omega) | (congr 1; congr 1; omega))); done)
      | exact zQm.b3 H1 (by omega) (by assumption) (by unfold sp_take; (try unfold spPut); (try simp only [Int.toNat_natCast]); (repeat (first | rw [if_pos (by omega)] | rw [if_neg (by omega)] | rw [if_pos (by assumption)] | rw [if_neg (by assumption)] | rw [if_pos (True.intro : True)])); (try (first | rfl | (congr 2; omega) | (congr 1; congr 1; omega))); done)
theorem k_Mod_drop {p x b : Int} (H : zMod G h ma S th) (z_p : zI32 p) (z_x : zI32 x) (z_b : zI32 b) (h16 : ∀ k, k < 4 → (S.1 k).length ≤ 16) (hb : b = 0 ∨ b = 1) : zM G l hMod_drop yMod_drop 4 [.ref (ma 0), zi p, zi x, zi b] h (zQm G ma h (1) (2) (3) (sp_drop S p x b)) zNo 1 60 := by
  obtain ⟨m1, m2, ⟨g, m3, m3a⟩, m4, ⟨f6, m5, m5a⟩, m6, m7⟩ := id H
  unfold zMfs at m2
  refine zM.of [some (.ref (ma 0)), some (zi p), some (zi x), some (zi b), none] (by decide +kernel) rfl (by decide) rfl (Nat.le_of_ble_eq_true rfl) rfl ?_
  refine z_aload_n dMod_drop_0 rfl ?_
  refine z_iload_n dMod_drop_1 rfl ?_
  refine z_callS MS_Mod_isNo lk_Mod_81 dMod_drop_2 (k_Mod_isNo (by omega)) rfl rfl (Nat.le_of_ble_eq_true rfl)  (Nat.le_of_ble_eq_true rfl) (Nat.le_of_ble_eq_true rfl) (Nat.le_of_eq (Nat.zero_add _)) (Nat.le_of_eq (Nat.zero_add _)) (fun _ _ q => q.elim) ?_
  rintro _ _ ⟨n9, rfl, hn9, rfl⟩
  refine z_iconst dMod_drop_5 ?_
  refine z_iconst dMod_drop_6 ?_
  refine z_callV MV_Mod_fails lk_Mod_88 dMod_drop_7 (k_Mod_fails (by assumption) rfl (by omega) (by omega) (by omega)) rfl rfl (Nat.le_of_ble_eq_true rfl) rfl (by assumption) (Nat.le_of_ble_eq_true rfl) (Nat.le_of_ble_eq_true rfl) (Nat.le_of_eq (Nat.zero_add _)) (Nat.le_of_eq (Nat.zero_add _)) (fun _ _ q => q.elim) ?_
  rintro _ h1 ⟨t9, b8, rfl, ht, p1, g1⟩
  have H1 : zMod G h1 ma S t9 := H.obj (nu := S.2.2.2.2) (th' := t9) p1 g1
  have fz1 : zMfr ma h h1 := zMfr.of0 g1
  obtain ⟨-, n2, ⟨gg, n3, n3a⟩, n4, ⟨f61, n5, n5a⟩, n6, n7⟩ := id H1
  unfold zMfs at n2
  refine z_if_eq (tgt := 15) dMod_drop_10 (by decide) (by omega) (fun c10 => ?_) (fun c10 => ?_)
  · obtain ⟨k, rfl⟩ := Int.eq_ofNat_of_zero_le (show 0 ≤ p by omega)
    obtain ⟨frk, rk1, rk2, rk3, rk4⟩ := id (n6 k (by omega))
    have h16k := h16 k (by omega)
    have ezk : ∀ i : Int, 0 ≤ i → i < ((S.1 k).length : Int) → frk i.toNat = zAt (S.1 k) i := fun i x1 x2 => by rw [rk3 _ (by omega), zAt_eq x1 x2]
    refine z_aload_n dMod_drop_15 rfl ?_
    refine z_get (k := 0) fd_Mod (by decide) fl_Mod_11 dMod_drop_16 (by assumption) (by rfl) ?_
    refine z_iload_n dMod_drop_19 rfl ?_
    refine z_aald (t := 4) (ty := .array .int) rfl rfl dMod_drop_20 n3 (by refine ⟨?_, ?_, ?_⟩ <;> omega) ?_
    rw [show (k : Int).toNat = k from rfl, n3a k (by omega)]
    refine z_iload_n dMod_drop_21 rfl ?_
    refine z_iload_n dMod_drop_22 rfl ?_
    refine z_callS MS_Mod_find lk_Mod_110 dMod_drop_23 (k_Mod_find (n6 k (by omega)) (by omega) (by omega)) rfl rfl (Nat.le_of_ble_eq_true rfl)  (Nat.le_of_ble_eq_true rfl) (Nat.le_of_ble_eq_true rfl) (Nat.le_of_eq (Nat.zero_add _)) (Nat.le_of_eq (Nat.zero_add _)) (fun _ _ q => q.elim) ?_
    rintro _ _ ⟨rfl, rfl⟩
    have hfi := zFind_in (S.1 k) x b
    refine z_istore dMod_drop_26 (Nat.le_of_ble_eq_true rfl) ?_
    refine z_aload_n dMod_drop_28 rfl ?_
    refine z_iload_n dMod_drop_29 rfl ?_
    refine z_iload dMod_drop_30 rfl ?_
    refine z_iconst dMod_drop_32 ?_
    refine z_icmp_ne (tgt := 45) dMod_drop_33 (by decide) (by omega) (by omega) (fun c33 => ?_) (fun c33 => ?_)
    · refine z_aload_n dMod_drop_45 rfl ?_
      refine z_get (k := 0) fd_Mod (by decide) fl_Mod_11 dMod_drop_46 (by assumption) (by rfl) ?_
      refine z_iload_n dMod_drop_49 rfl ?_
      refine z_aald (t := 4) (ty := .array .int) rfl rfl dMod_drop_50 n3 (by refine ⟨?_, ?_, ?_⟩ <;> omega) ?_
      rw [show (k : Int).toNat = k from rfl, n3a k (by omega)]
      refine z_iload dMod_drop_51 rfl ?_
      refine z_callS (bc' := 0) (bs' := 0) MS_Mod_without lk_Mod_102 dMod_drop_53 (k_Mod_without (n6 k (by omega)) (by omega) (by omega)) rfl rfl (Nat.le_of_ble_eq_true rfl)  (Nat.le_of_ble_eq_true rfl) (Nat.le_of_ble_eq_true rfl) (by decide) (by decide) (fun _ _ q => q.elim) ?_
      rintro _ h2 ⟨q2, rfl, hq2, gq2, r2, F2⟩
      have H2 : zMod G h2 ma S t9 := H1.keep hq2 F2
      have fz2 : zMfr ma h h2 := fz1.tr (zMfr.new hq2 F2)
      have dq2 : zDm h q2 := hq2.up H1 fz1
      have oc2 := H2.2.1
      refine z_iconst dMod_drop_56 ?_
      first
        | refine z_callV MV_Mod_become lk_Mod_77 dMod_drop_57 (k_Mod_become H2 (by omega) r2 (fun i hi _ => H1.nq hq2 hi) (by omega)) rfl rfl (Nat.le_of_ble_eq_true rfl) rfl (by assumption) (Nat.le_of_ble_eq_true rfl) (Nat.le_of_ble_eq_true rfl) (Nat.le_of_eq (Nat.zero_add _)) (Nat.le_of_eq (Nat.zero_add _)) (fun _ _ q => q.elim) ?_
        | refine z_callV MV_Mod_become lk_Mod_77 dMod_drop_57 (k_Mod_become H1 (by omega) (n6 k (by omega)) (fun i hi hne => H1.inj (by omega) hi hne.symm) (by omega)) rfl rfl (Nat.le_of_ble_eq_true rfl) rfl (by assumption) (Nat.le_of_ble_eq_true rfl) (Nat.le_of_ble_eq_true rfl) (Nat.le_of_eq (Nat.zero_add _)) (Nat.le_of_eq (Nat.zero_add _)) (fun _ _ q => q.elim) ?_
      rintro _ h3 ⟨rfl, H3, F3⟩
      have fz3 : zMfr ma h h3 := by first | exact fz2.tr (zMfr.bec F3) | exact fz1.tr (zMfr.bec F3)
      try rw [zsL_id] at H3
      refine z_iload dMod_drop_60 rfl ?_
      refine z_iconst dMod_drop_62 ?_
      refine z_icmp_eq (tgt := 70) dMod_drop_63 (by decide) (by omega) (by omega) (fun c63 => ?_) (fun c63 => ?_)
      · refine z_iconst dMod_drop_70 ?_
        refine z_iret rfl (by first | rfl | decide) dMod_drop_71 ?_
        rcases (show t9 = 0 ∨ t9 = 1 ∨ t9 = 2 ∨ t9 = 3 by omega) with t0 | t0 | t0 | t0
        all_goals first
          | (exfalso; omega)
          | exact zQm.okB H3 (Or.inr ⟨dq2, gq2⟩) (by omega) (by assumption) (by unfold sp_drop; (try unfold spPut); (try simp only [Int.toNat_natCast]); (repeat (first | rw [if_pos (by omega)] | rw [if_neg (by omega)] | rw [if_pos (by assumption)] | rw [if_neg (by assumption)] | rw [if_pos (True.intro : True)])); (try (first | rfl | (congr 2; omega) | (congr 1; congr 1; omega))); done)
          | exact zQm.okB H3 (Or.inl rfl) (by omega) (by assumption) (by unfold sp_drop; (try unfold spPut); (try simp only [Int.toNat_natCast]); (repeat (first | rw [if_pos (by omega)] | rw [if_neg (by omega)] | rw [if_pos (by assumption)] | rw [if_neg (by assumption)] | rw [if_pos (True.intro : True)])); (try (first | rfl | (congr 2; omega) | (congr 1; congr 1; omega))); done)
          | exact zQm.ok H2 (by omega) (by assumption) (by unfold sp_drop; (try unfold spPut); (try simp only [Int.toNat_natCast]); (repeat (first | rw [if_pos (by omega)] | rw [if_neg (by omega)] | rw [if_pos (by assumption)] | rw [if_neg (by assumption)] | rw [if_pos (True.intro : True)])); (try (first | rfl | (congr 2; omega) | (congr 1; congr 1; omega))); done)
          | exact zQm.b1 H2 (by omega) (by assumption) (by unfold sp_drop; (try unfold spPut); (try simp only [Int.toNat_natCast]); (repeat (first | rw [if_pos (by omega)] | rw [if_neg (by omega)] | rw [if_pos (by assumption)] | rw [if_neg (by assumption)] | rw [if_pos (True.intro : True)])); (try (first | rfl | (congr 2; omega) | (congr 1; congr 1; omega))); done)
          | exact zQm.b2 H2 (by omega) (by assumption) (by unfold sp_drop; (try unfold spPut); (try simp only [Int.toNat_natCast]); (repeat (first | rw [if_pos (by omega)] | rw [if_neg (by omega)] | rw [if_pos (by assumption)] | rw [if_neg (by assumption)] | rw [if_pos (True.intro : True)])); (try (first | rfl | (congr 2; omega) | (congr 1; congr 1; omega))); done)
          | exact zQm.b3 H2 (by omega) (by assumption) (by unfold sp_drop; (try unfold spPut); (try simp only [Int.toNat_natCast]); (repeat (first | rw [if_pos (by omega)] | rw [if_neg (by omega)] | rw [if_pos (by assumption)] | rw [if_neg (by assumption)] | rw [if_pos (True.intro : True)])); (try (first | rfl | (congr 2; omega) | (congr 1; congr 1; omega))); done)
          | exact zQm.ok H1 (by omega) (by assumption) (by unfold sp_drop; (try unfold spPut); (try simp only [Int.toNat_natCast]); (repeat (first | rw [if_pos (by omega)] | rw [if_neg (by omega)] | rw [if_pos (by assumption)] | rw [if_neg (by assumption)] | rw [if_pos (True.intro : True)])); (try (first | rfl | (congr 2; omega) | (congr 1; congr 1; omega))); done)
          | exact zQm.b1 H1 (by omega) (by assumption) (by unfold sp_drop; (try unfold spPut); (try simp only [Int.toNat_natCast]); (repeat (first | rw [if_pos (by omega)] | rw [if_neg (by omega)] | rw [if_pos (by assumption)] | rw [if_neg (by assumption)] | rw [if_pos (True.intro : True)])); (try (first | rfl | (congr 2; omega) | (congr 1; congr 1; omega))); done)
          | exact zQm.b2 H1 (by omega) (by assumption) (by unfold sp_drop; (try unfold spPut); (try simp only [Int.toNat_natCast]); (repeat (first | rw [if_pos (by omega)] | rw [if_neg (by omega)] | rw [if_pos (by assumption)] | rw [if_neg (by assumption)] | rw [if_pos (True.intro : True)])); (try (first | rfl | (congr 2; omega) | (congr 1; congr 1; omega))); done)
          | exact zQm.b3 H1 (by omega) (by assumption) (by unfold sp_drop; (try unfold spPut); (try simp only [Int.toNat_natCast]); (repeat (first | rw [if_pos (by omega)] | rw [if_neg (by omega)] | rw [if_pos (by assumption)] | rw [if_neg (by assumption)] | rw [if_pos (True.intro : True)])); (try (first | rfl | (congr 2; omega) | (congr 1; congr 1; omega))); done)
      · refine z_iconst dMod_drop_66 ?_
        refine z_goto (tgt := 71) dMod_drop_67 (by decide) ?_
        refine z_iret rfl (by first | rfl | decide) dMod_drop_71 ?_
        rcases (show t9 = 0 ∨ t9 = 1 ∨ t9 = 2 ∨ t9 = 3 by omega) with t0 | t0 | t0 | t0
        all_goals first
          | (exfalso; omega)
          | exact zQm.okB H3 (Or.inr ⟨dq2, gq2⟩) (by omega) (by assumption) (by unfold sp_drop; (try unfold spPut); (try simp only [Int.toNat_natCast]); (repeat (first | rw [if_pos (by omega)] | rw [if_neg (by omega)] | rw [if_pos (by assumption)] | rw [if_neg (by assumption)] | rw [if_pos (True.intro : True)])); (try (first | rfl | (congr 2; omega) | (congr 1; congr 1; omega))); done)
          | exact zQm.okB H3 (Or.inl rfl) (by omega) (by assumption) (by unfold sp_drop; (try unfold spPut); (try simp only [Int.toNat_natCast]); (repeat (first | rw [if_pos (by omega)] | rw [if_neg (by omega)] | rw [if_pos (by assumption)] | rw [if_neg (by assumption)] | rw [if_pos (True.intro : True)])); (try (first | rfl | (congr 2; omega) | (congr 1; congr 1; omega))); done)
          | exact zQm.ok H2 (by omega) (by assumption) (by unfold sp_drop; (try unfold spPut); (try simp only [Int.toNat_natCast]); (repeat (first | rw [if_pos (by omega)] | rw [if_neg (by omega)] | rw [if_pos (by assumption)] | rw [if_neg (by assumption)] | rw [if_pos (True.intro : True)])); (try (first | rfl | (congr 2; omega) | (congr 1; congr 1; omega))); done)
          | exact zQm.b1 H2 (by omega) (by assumption) (by unfold sp_drop; (try unfold spPut); (try simp only [Int.toNat_natCast]); (repeat (first | rw [if_pos (by omega)] | rw [if_neg (by omega)] | rw [if_pos (by assumption)] | rw [if_neg (by assumption)] | rw [if_pos (True.intro : True)])); (try (first | rfl | (congr 2; omega) | (congr 1; congr 1; omega))); done)
          | exact zQm.b2 H2 (by omega) (by assumption) (by unfold sp_drop; (try unfold spPut); (try simp only [Int.toNat_natCast]); (repeat (first | rw [if_pos (by omega)] | rw [if_neg (by omega)] | rw [if_pos (by assumption)] | rw [if_neg (by assumption)] | rw [if_pos (True.intro : True)])); (try (first | rfl | (congr 2; omega) | (congr 1; congr 1; omega))); done)
          | exact zQm.b3 H2 (by omega) (by assumption) (by unfold sp_drop; (try unfold spPut); (try simp only [Int.toNat_natCast]); (repeat (first | rw [if_pos (by omega)] | rw [if_neg (by omega)] | rw [if_pos (by assumption)] | rw [if_neg (by assumption)] | rw [if_pos (True.intro : True)])); (try (first | rfl | (congr 2; omega) | (congr 1; congr 1; omega))); done)
          | exact zQm.ok H1 (by omega) (by assumption) (by unfold sp_drop; (try unfold spPut); (try simp only [Int.toNat_natCast]); (repeat (first | rw [if_pos (by omega)] | rw [if_neg (by omega)] | rw [if_pos (by assumption)] | rw [if_neg (by assumption)] | rw [if_pos (True.intro : True)])); (try (first | rfl | (congr 2; omega) | (congr 1; congr 1; omega))); done)
          | exact zQm.b1 H1 (by omega) (by assumption) (by unfold sp_drop; (try unfold spPut); (try simp only [Int.toNat_natCast]); (repeat (first | rw [if_pos (by omega)] | rw [if_neg (by omega)] | rw [if_pos (by assumption)] | rw [if_neg (by assumption)] | rw [if_pos (True.intro : True)])); (try (first | rfl | (congr 2; omega) | (congr 1; congr 1; omega))); done)
          | exact zQm.b2 H1 (by omega) (by assumption) (by unfold sp_drop; (try unfold spPut); (try simp only [Int.toNat_natCast]); (repeat (first | rw [if_pos (by omega)] | rw [if_neg (by omega)] | rw [if_pos (by assumption)] | rw [if_neg (by assumption)] | rw [if_pos (True.intro : True)])); (try (first | rfl | (congr 2; omega) | (congr 1; congr 1; omega))); done)
          | exact zQm.b3 H1 (by omega) (by assumption) (by unfold sp_drop; (try unfold spPut); (try simp only [Int.toNat_natCast]); (repeat (first | rw [if_pos (by omega)] | rw [if_neg (by omega)] | rw [if_pos (by assumption)] | rw [if_neg (by assumption)] | rw [if_pos (True.intro : True)])); (try (first | rfl | (congr 2; omega) | (congr 1; congr 1; omega))); done)
    · refine z_aload_n dMod_drop_36 rfl ?_
      refine z_get (k := 0) fd_Mod (by decide) fl_Mod_11 dMod_drop_37 (by assumption) (by rfl) ?_
      refine z_iload_n dMod_drop_40 rfl ?_
      refine z_aald (t := 4) (ty := .array .int) rfl rfl dMod_drop_41 n3 (by refine ⟨?_, ?_, ?_⟩ <;> omega) ?_
      rw [show (k : Int).toNat = k from rfl, n3a k (by omega)]
      refine z_goto (tgt := 56) dMod_drop_42 (by decide) ?_
      refine z_iconst dMod_drop_56 ?_
      first
        | refine z_callV MV_Mod_become lk_Mod_77 dMod_drop_57 (k_Mod_become H2 (by omega) r2 (fun i hi _ => H1.nq hq2 hi) (by omega)) rfl rfl (Nat.le_of_ble_eq_true rfl) rfl (by assumption) (Nat.le_of_ble_eq_true rfl) (Nat.le_of_ble_eq_true rfl) (Nat.le_of_eq (Nat.zero_add _)) (Nat.le_of_eq (Nat.zero_add _)) (fun _ _ q => q.elim) ?_
        | refine z_callV MV_Mod_become lk_Mod_77 dMod_drop_57 (k_Mod_become H1 (by omega) (n6 k (by omega)) (fun i hi hne => H1.inj (by omega) hi hne.symm) (by omega)) rfl rfl (Nat.le_of_ble_eq_true rfl) rfl (by assumption) (Nat.le_of_ble_eq_true rfl) (Nat.le_of_ble_eq_true rfl) (Nat.le_of_eq (Nat.zero_add _)) (Nat.le_of_eq (Nat.zero_add _)) (fun _ _ q => q.elim) ?_
      rintro _ h3 ⟨rfl, H3, F3⟩
      have fz3 : zMfr ma h h3 := by first | exact fz2.tr (zMfr.bec F3) | exact fz1.tr (zMfr.bec F3)
      try rw [zsL_id] at H3
      refine z_iload dMod_drop_60 rfl ?_
      refine z_iconst dMod_drop_62 ?_
      refine z_icmp_eq (tgt := 70) dMod_drop_63 (by decide) (by omega) (by omega) (fun c63 => ?_) (fun c63 => ?_)
      · refine z_iconst dMod_drop_70 ?_
        refine z_iret rfl (by first | rfl | decide) dMod_drop_71 ?_
        rcases (show t9 = 0 ∨ t9 = 1 ∨ t9 = 2 ∨ t9 = 3 by omega) with t0 | t0 | t0 | t0
        all_goals first
          | (exfalso; omega)
          | exact zQm.okB H3 (Or.inr ⟨dq2, gq2⟩) (by omega) (by assumption) (by unfold sp_drop; (try unfold spPut); (try simp only [Int.toNat_natCast]); (repeat (first | rw [if_pos (by omega)] | rw [if_neg (by omega)] | rw [if_pos (by assumption)] | rw [if_neg (by assumption)] | rw [if_pos (True.intro : True)])); (try (first | rfl | (congr 2; omega) | (congr 1; congr 1; omega))); done)
          | exact zQm.okB H3 (Or.inl rfl) (by omega) (by assumption) (by unfold sp_drop; (try unfold spPut); (try simp only [Int.toNat_natCast]); (repeat (first | rw [if_pos (by omega)] | rw [if_neg (by omega)] | rw [if_pos (by assumption)] | rw [if_neg (by assumption)] | rw [if_pos (True.intro : True)])); (try (first | rfl | (congr 2; omega) | (congr 1; congr 1; omega))); done)
          | exact zQm.ok H2 (by omega) (by assumption) (by unfold sp_drop; (try unfold spPut); (try simp only [Int.toNat_natCast]); (repeat (first | rw [if_pos (by omega)] | rw [if_neg (by omega)] | rw [if_pos (by assumption)] | rw [if_neg (by assumption)] | rw [if_pos (True.intro : True)])); (try (first | rfl | (congr 2; omega) | (congr 1; congr 1; omega))); done)
          | exact zQm.b1 H2 (by omega) (by assumption) (by unfold sp_drop; (try unfold spPut); (try simp only [Int.toNat_natCast]); (repeat (first | rw [if_pos (by omega)] | rw [if_neg (by omega)] | rw [if_pos (by assumption)] | rw [if_neg (by assumption)] | rw [if_pos (True.intro : True)])); (try (first | rfl | (congr 2; omega) | (congr 1; congr 1; omega))); done)
          | exact zQm.b2 H2 (by omega) (by assumption) (by unfold sp_drop; (try unfold spPut); (try simp only [Int.toNat_natCast]); (repeat (first | rw [if_pos (by omega)] | rw [if_neg (by omega)] | rw [if_pos (by assumption)] | rw [if_neg (by assumption)] | rw [if_pos (True.intro : True)])); (try (first | rfl | (congr 2; omega) | (congr 1; congr 1; omega))); done)
          | exact zQm.b3 H2 (by omega) (by assumption) (by unfold sp_drop; (try unfold spPut); (try simp only [Int.toNat_natCast]); (repeat (first | rw [if_pos (by omega)] | rw [if_neg (by omega)] | rw [if_pos (by assumption)] | rw [if_neg (by assumption)] | rw [if_pos (True.intro : True)])); (try (first | rfl | (congr 2; omega) | (congr 1; congr 1; omega))); done)
          | exact zQm.ok H1 (by omega) (by assumption) (by unfold sp_drop; (try unfold spPut); (try simp only [Int.toNat_natCast]); (repeat (first | rw [if_pos (by omega)] | rw [if_neg (by omega)] | rw [if_pos (by assumption)] | rw [if_neg (by assumption)] | rw [if_pos (True.intro : True)])); (try (first | rfl | (congr 2; omega) | (congr 1; congr 1; omega))); done)
          | exact zQm.b1 H1 (by omega) (by assumption) (by unfold sp_drop; (try unfold spPut); (try simp only [Int.toNat_natCast]); (repeat (first | rw [if_pos (by omega)] | rw [if_neg (by omega)] | rw [if_pos (by assumption)] | rw [if_neg (by assumption)] | rw [if_pos (True.intro : True)])); (try (first | rfl | (congr 2; omega) | (congr 1; congr 1; omega))); done)
          | exact zQm.b2 H1 (by omega) (by assumption) (by unfold sp_drop; (try unfold spPut); (try simp only [Int.toNat_natCast]); (repeat (first | rw [if_pos (by omega)] | rw [if_neg (by omega)] | rw [if_pos (by assumption)] | rw [if_neg (by assumption)] | rw [if_pos (True.intro : True)])); (try (first | rfl | (congr 2; omega) | (congr 1; congr 1; omega))); done)
          | exact zQm.b3 H1 (by omega) (by assumption) (by unfold sp_drop; (try unfold spPut); (try simp only [Int.toNat_natCast]); (repeat (first | rw [if_pos (by omega)] | rw [if_neg (by omega)] | rw [if_pos (by assumption)] | rw [if_neg (by assumption)] | rw [if_pos (True.intro : True)])); (try (first | rfl | (congr 2; omega) | (congr 1; congr 1; omega))); done)
      · refine z_iconst dMod_drop_66 ?_
        refine z_goto (tgt := 71) dMod_drop_67 (by decide) ?_
        refine z_iret rfl (by first | rfl | decide) dMod_drop_71 ?_
        rcases (show t9 = 0 ∨ t9 = 1 ∨ t9 = 2 ∨ t9 = 3 by omega) with t0 | t0 | t0 | t0
        all_goals first
          | (exfalso; omega)
          | exact zQm.okB H3 (Or.inr ⟨dq2, gq2⟩) (by omega) (by assumption) (by unfold sp_drop; (try unfold spPut); (try simp only [Int.toNat_natCast]); (repeat (first | rw [if_pos (by omega)] | rw [if_neg (by omega)] | rw [if_pos (by assumption)] | rw [if_neg (by assumption)] | rw [if_pos (True.intro : True)])); (try (first | rfl | (congr 2; omega) | (congr 1; congr 1; omega))); done)
          | exact zQm.okB H3 (Or.inl rfl) (by omega) (by assumption) (by unfold sp_drop; (try unfold spPut); (try simp only [Int.toNat_natCast]); (repeat (first | rw [if_pos (by omega)] | rw [if_neg (by omega)] | rw [if_pos (by assumption)] | rw [if_neg (by assumption)] | rw [if_pos (True.intro : True)])); (try (first | rfl | (congr 2; omega) | (congr 1; congr 1; omega))); done)
          | exact zQm.ok H2 (by omega) (by assumption) (by unfold sp_drop; (try unfold spPut); (try simp only [Int.toNat_natCast]); (repeat (first | rw [if_pos (by omega)] | rw [if_neg (by omega)] | rw [if_pos (by assumption)] | rw [if_neg (by assumption)] | rw [if_pos (True.intro : True)])); (try (first | rfl | (congr 2; omega) | (congr 1; congr 1; omega))); done)
          | exact zQm.b1 H2 (by omega) (by assumption) (by unfold sp_drop; (try unfold spPut); (try simp only [Int.toNat_natCast]); (repeat (first | rw [if_pos (by omega)] | rw [if_neg (by omega)] | rw [if_pos (by assumption)] | rw [if_neg (by assumption)] | rw [if_pos (True.intro : True)])); (try (first | rfl | (congr 2; omega) | (congr 1; congr 1; omega))); done)
          | exact zQm.b2 H2 (by omega) (by assumption) (by unfold sp_drop; (try unfold spPut); (try simp only [Int.toNat_natCast]); (repeat (first | rw [if_pos (by omega)] | rw [if_neg (by omega)] | rw [if_pos (by assumption)] | rw [if_neg (by assumption)] | rw [if_pos (True.intro : True)])); (try (first | rfl | (congr 2; omega) | (congr 1; congr 1; omega))); done)
          | exact zQm.b3 H2 (by omega) (by assumption) (by unfold sp_drop; (try unfold spPut); (try simp only [Int.toNat_natCast]); (repeat (first | rw [if_pos (by omega)] | rw [if_neg (by omega)] | rw [if_pos (by assumption)] | rw [if_neg (by assumption)] | rw [if_pos (True.intro : True)])); (try (first | rfl | (congr 2; omega) | (congr 1; congr 1; omega))); done)
          | exact zQm.ok H1 (by omega) (by assumption) (by unfold sp_drop; (try unfold spPut); (try simp only [Int.toNat_natCast]); (repeat (first | rw [if_pos (by omega)] | rw [if_neg (by omega)] | rw [if_pos (by assumption)] | rw [if_neg (by assumption)] | rw [if_pos (True.intro : True)])); (try (first | rfl | (congr 2; omega) | (congr 1; congr 1; omega))); done)
          | exact zQm.b1 H1 (by omega) (by assumption) (by unfold sp_drop; (try unfold spPut); (try simp only [Int.toNat_natCast]); (repeat (first | rw [if_pos (by omega)] | rw [if_neg (by omega)] | rw [if_pos (by assumption)] | rw [if_neg (by assumption)] | rw [if_pos (True.intro : True)])); (try (first | rfl | (congr 2; omega) | (congr 1; congr 1; omega))); done)
          | exact zQm.b2 H1 (by omega) (by assumption) (by unfold sp_drop; (try unfold spPut); (try simp only [Int.toNat_natCast]); (repeat (first | rw [if_pos (by omega)] | rw [if_neg (by omega)] | rw [if_pos (by assumption)] | rw [if_neg (by assumption)] | rw [if_pos (True.intro : True)])); (try (first | rfl | (congr 2; omega) | (congr 1; congr 1; omega))); done)
          | exact zQm.b3 H1 (by omega) (by assumption) (by unfold sp_drop; (try unfold spPut); (try simp only [Int.toNat_natCast]); (repeat (first | rw [if_pos (by omega)] | rw [if_neg (by omega)] | rw [if_pos (by assumption)] | rw [if_neg (by assumption)] | rw [if_pos (True.intro : True)])); (try (first | rfl | (congr 2; omega) | (congr 1; congr 1; omega))); done)
  · refine z_iconst dMod_drop_13 ?_
    refine z_iret rfl (by first | rfl | decide) dMod_drop_14 ?_
    rcases (show t9 = 0 ∨ t9 = 1 ∨ t9 = 2 ∨ t9 = 3 by omega) with t0 | t0 | t0 | t0
    all_goals first
      | (exfalso; omega)
      | exact zQm.okB H3 (Or.inr ⟨dq2, gq2⟩) (by omega) (by assumption) (by unfold sp_drop; (try unfold spPut); (try simp only [Int.toNat_natCast]); (repeat (first | rw [if_pos (by omega)] | rw [if_neg (by omega)] | rw [if_pos (by assumption)] | rw [if_neg (by assumption)] | rw [if_pos (True.intro : True)])); (try (first | rfl | (congr 2; omega) | (congr 1; congr 1; omega))); done)
      | exact zQm.okB H3 (Or.inl rfl) (by omega) (by assumption) (by unfold sp_drop; (try unfold spPut); (try simp only [Int.toNat_natCast]); (repeat (first | rw [if_pos (by omega)] | rw [if_neg (by omega)] | rw [if_pos (by assumption)] | rw [if_neg (by assumption)] | rw [if_pos (True.intro : True)])); (try (first | rfl | (congr 2; omega) | (congr 1; congr 1; omega))); done)
      | exact zQm.ok H2 (by omega) (by assumption) (by unfold sp_drop; (try unfold spPut); (try simp only [Int.toNat_natCast]); (repeat (first | rw [if_pos (by omega)] | rw [if_neg (by omega)] | rw [if_pos (by assumption)] | rw [if_neg (by assumption)] | rw [if_pos (True.intro : True)])); (try (first | rfl | (congr 2; omega) | (congr 1; congr 1; omega))); done)
      | exact zQm.b1 H2 (by omega) (by assumption) (by unfold sp_drop; (try unfold spPut); (try simp only [Int.toNat_natCast]); (repeat (first | rw [if_pos (by omega)] | rw [if_neg (by omega)] | rw [if_pos (by assumption)] | rw [if_neg (by assumption)] | rw [if_pos (True.intro : True)])); (try (first | rfl | (congr 2; omega) | (congr 1; congr 1; omega))); done)
      | exact zQm.b2 H2 (by omega) (by assumption) (by unfold sp_drop; (try unfold spPut); (try simp only [Int.toNat_natCast]); (repeat (first | rw [if_pos (by omega)] | rw [if_neg (by omega)] | rw [if_pos (by assumption)] | rw [if_neg (by assumption)] | rw [if_pos (True.intro : True)])); (try (first | rfl | (congr 2; omega) | (congr 1; congr 1; omega))); done)
      | exact zQm.b3 H2 (by omega) (by assumption) (by unfold sp_drop; (try unfold spPut); (try simp only [Int.toNat_natCast]); (repeat (first | rw [if_pos (by omega)] | rw [if_neg (by omega)] | rw [if_pos (by assumption)] | rw [if_neg (by assumption)] | rw [if_pos (True.intro : True)])); (try (first | rfl | (congr 2; omega) | (congr 1; congr 1; omega))); done)
      | exact zQm.ok H1 (by omega) (by assumption) (by unfold sp_drop; (try unfold spPut); (try simp only [Int.toNat_natCast]); (repeat (first | rw [if_pos (by omega)] | rw [if_neg (by omega)] | rw [if_pos (by assumption)] | rw [if_neg (by assumption)] | rw [if_pos (True.intro : True)])); (try (first | rfl | (congr 2; omega) | (congr 1; congr 1; omega))); done)
      | exact zQm.b1 H1 (by omega) (by assumption) (by unfold sp_drop; (try unfold spPut); (try simp only [Int.toNat_natCast]); (repeat (first | rw [if_pos (by omega)] | rw [if_neg (by omega)] | rw [if_pos (by assumption)] | rw [if_neg (by assumption)] | rw [if_pos (True.intro : True)])); (try (first | rfl | (congr 2; omega) | (congr 1; congr 1; omega))); done)
      | exact zQm.b2 H1 (by omega) (by assumption) (by unfold sp_drop; (try unfold spPut); (try simp only [Int.toNat_natCast]); (repeat (first | rw [if_pos (by omega)] | rw [if_neg (by omega)] | rw [if_pos (by assumption)] | rw [if_neg (by assumption)] | rw [if_pos (True.intro : True)])); (try (first | rfl | (congr 2; omega) | (congr 1; congr 1; omega))); done)
      | exact zQm.b3 H1 (by omega) (by assumption) (by unfold sp_drop; (try unfold spPut); (try simp only [Int.toNat_natCast]); (repeat (first | rw [if_pos (by omega)] | rw [if_neg (by omega)] | rw [if_pos (by assumption)] | rw [if_neg (by assumption)] | rw [if_pos (True.intro : True)])); (try (first | rfl | (congr 2; omega) | (congr 1; congr 1; omega))); done)
end MOD9
end
section
section MOD10
variable {G : zG} {l : Launch} {h h' h'' : zHp} {ma : Nat → Nat} {S : zSt} {th : Int}
/-- new cells alone -/
def zExt (h h' : zHp) : Prop := ∀ z e, h z = some e → h' z = some e
theorem zExt.rf : zExt h h := fun _ _ e => e
theorem zExt.tr (a : zExt h h') (b : zExt h' h'') : zExt h h'' := fun z e he => b z e (a z e he)
theorem zExt.new {q : Nat} (hq : zDm h q) (hf : ∀ z, z ≠ q → h' z = h z) : zExt h h' := fun z e he => (hf z (fun ez => by have := hq _ _ he; omega)).trans he
theorem zDm.dn {q : Nat} (hq : zDm h' q) (hx : zExt h h') : zDm h q := fun a e he => hq a e (hx a e he)
theorem zMfr.ext (hx : zExt h h') : zMfr ma h h' := fun z e he _ => hx z e he
theorem zMod.ext (H : zMod G h ma S th) (hx : zExt h h') : zMod G h' ma S th := H.same (fun i hi => by
  obtain ⟨e, he⟩ := H.dom hi
  exact (hx _ _ he).trans he.symm)
theorem zAr.ext {a : Nat} {L : List Int} (H : zAr G h a L) (hx : zExt h h') : zAr G h' a L := by
  obtain ⟨f, e1, e2⟩ := H
  exact ⟨f, hx _ _ e1, e2⟩
theorem zExt.at {a : Nat} {e : va_E} (hx : zExt h h') (he : h a = some e) : h' a = some e := hx _ _ he
theorem zAr.st {a : Nat} {L : List Int} {f : Nat → Int} {p x : Int} (e : h' a = some (zInts G L.length (zup f p.toNat x))) (hl : L.length ≤ 99) (hf : ∀ j, j < L.length → f j = L.getD j 0) (hi : ∀ j, j < L.length → zIn (L.getD j 0)) (hx : zIn x) (hp : 0 ≤ p ∧ p < L.length) : zAr G h' a (zSet L p x) := by
  refine ⟨_, by rw [zSet_len]; exact e, by rw [zSet_len]; exact hl, fun j hj => ?_, fun j hj => ?_⟩
  · rw [zSet_len] at hj
    rw [zSet_at _ _ _ hj]
    by_cases e9 : (j : Int) = p
    · rw [if_pos e9, show j = p.toNat by omega, zup_same]
    · rw [if_neg e9, zup_ne (by omega)]
      exact hf j hj
  · rw [zSet_len] at hj
    rw [zSet_at _ _ _ hj]
    split
    · exact hx
    · exact hi j hj
theorem l_Mod_joined {a b : Nat} {L M : List Int} {p : Int} (hm : zAr G h b M) (hp : 0 ≤ p ∧ p ≤ L.length) (hL : L.length + M.length ≤ 60) :
    ∀ (n m bc bs : Nat) (h1 : zHp) (q : Nat), M.length - m < n → m ≤ M.length → M.length - m ≤ bc → 61 * (M.length - m) ≤ bs → zAr G h1 q (zJn L p M m) → (q = a ∨ (zDm h q ∧ G.2.2 ≤ q)) → zExt h h1 →
      zR G l (zMJ G hMod_joined 2 (fun v h' => ∃ q, v = some (.ref q) ∧ (q = a ∨ (zDm h q ∧ G.2.2 ≤ q)) ∧ zAr G h' q (zJn L p M M.length) ∧ zExt h h') zNo 16 976) bc bs h1 5 [some (.ref a), some (zi p), some (.ref b), some (.ref q), some (zi (m : Int))] [] := by
  intro n
  induction n with
  | zero => intro m bc bs h1 q q1 q2 q3 q4 r hq hx; omega
  | succ n ih =>
  intro m bc bs h1 q q1 q2 q3 q4 r hq hx
  have hln := zJn_len L p M m
  obtain ⟨f, d1, d2, d3, d4⟩ := id (hm.ext hx)
  obtain ⟨fr, ra, rb, rc, rd⟩ := id r
  refine z_iload dMod_joined_5 rfl ?_
  refine z_aload_n dMod_joined_7 rfl ?_
  refine z_alenI dMod_joined_8 (by assumption) ?_
  refine z_icmp_ge (tgt := 31) dMod_joined_9 (by decide) (by omega) (by omega) (fun c9 => ?_) (fun c9 => ?_)
  · refine z_aload_n dMod_joined_31 rfl ?_
    refine z_aret rfl (Or.inr ⟨_, rfl⟩) (Or.inr ⟨_, rfl⟩) dMod_joined_32 ?_
    have em : m = M.length := by omega
    subst em
    exact ⟨q, rfl, hq, r, hx⟩
  · refine z_aload_n dMod_joined_12 rfl ?_
    refine z_iload_n dMod_joined_13 rfl ?_
    refine z_iload dMod_joined_14 rfl ?_
    refine z_iadd dMod_joined_16 ?_
    refine z_aload_n dMod_joined_17 rfl ?_
    refine z_iload dMod_joined_18 rfl ?_
    refine z_iald dMod_joined_20 (by assumption) (by refine ⟨?_, ?_, ?_⟩ <;> omega) ?_
    rw [Int.toNat_natCast, d3 m (by omega)]
    refine z_callS (bc' := bc - 1) (bs' := bs - 61) MS_Mod_with lk_Mod_49 dMod_joined_21 (k_Mod_with r (by omega) (d4 m (by omega)) (by omega)) rfl rfl (Nat.le_of_ble_eq_true rfl)  (Nat.le_of_ble_eq_true rfl) (Nat.le_of_ble_eq_true rfl) (by omega) (by omega) (fun _ _ q => q.elim) ?_
    rintro _ h2 ⟨q2, rfl, hq2, gq2, r2, F2⟩
    refine z_astore_n dMod_joined_24 (Nat.le_of_ble_eq_true rfl) ?_
    refine z_iinc dMod_joined_25 rfl (Nat.le_of_ble_eq_true rfl) ?_
    refine z_goto (tgt := 5) dMod_joined_28 (by decide) ?_
    exact ih (m + 1) _ _ h2 q2 (by omega) (by omega) (by omega) (by omega) r2 (Or.inr ⟨hq2.dn hx, gq2⟩) (hx.tr (zExt.new hq2 F2))
theorem k_Mod_joined {a b : Nat} {L M : List Int} {p : Int} (hr : zAr G h a L) (hm : zAr G h b M) (hp : 0 ≤ p ∧ p ≤ L.length) (hL : L.length + M.length ≤ 60) (hM : M.length ≤ 16) : zM G l hMod_joined yMod_joined 2 [.ref a, zi p, .ref b] h (fun v h' => ∃ q, v = some (.ref q) ∧ (q = a ∨ (zDm h q ∧ G.2.2 ≤ q)) ∧ zAr G h' q (zJn L p M M.length) ∧ zExt h h') zNo 16 976 := by
  refine zM.of [some (.ref a), some (zi p), some (.ref b), none, none] (by decide +kernel) rfl (by decide) rfl (Nat.le_of_ble_eq_true rfl) rfl ?_
  refine z_aload_n dMod_joined_0 rfl ?_
  refine z_astore_n dMod_joined_1 (Nat.le_of_ble_eq_true rfl) ?_
  refine z_iconst dMod_joined_2 ?_
  refine z_istore dMod_joined_3 (Nat.le_of_ble_eq_true rfl) ?_
  exact l_Mod_joined hm hp hL (M.length + 1) 0 16 976 h a (by omega) (by omega) (by omega) (by omega) hr (Or.inl rfl) zExt.rf
theorem zJn_nil (M : List Int) : ∀ m : Nat, m ≤ M.length → zJn [] 0 M m = M.take m
  | 0, _ => by simp [zJn]
  | m + 1, hm => by
    have ih := zJn_nil M m (by omega)
    rw [zJn, ih]
    have hl : (M.take m).length = m := by rw [List.length_take]; omega
    have e : (0 : Int) + (m : Int) = ((M.take m).length : Int) := by rw [hl]; omega
    rw [e, zIns_end]
    apply List.ext_getElem?
    intro i
    rw [List.getElem?_append, hl]
    by_cases c : i < m
    · rw [if_pos c, List.getElem?_take, List.getElem?_take, if_pos c, if_pos (by omega)]
    · rw [if_neg c]
      by_cases c2 : i = m
      · subst c2
        rw [Nat.sub_self, List.getElem?_take, if_pos (by omega)]
        simp [List.getD_eq_getElem?_getD, List.getElem?_eq_getElem (show i < M.length by omega)]
      · rw [List.getElem?_take, if_neg (by omega), List.getElem?_eq_none (by simp; omega)]
theorem k_Mod_copied {b : Nat} {M : List Int} (hm : zAr G h b M) (hM : M.length ≤ 16) : zM G l hMod_copied yMod_copied 3 [.ref b] h (fun v h' => ∃ q, v = some (.ref q) ∧ zDm h q ∧ G.2.2 ≤ q ∧ zAr G h' q M ∧ zExt h h') zNo 17 976 := by
  refine zM.of [some (.ref b)] (by decide +kernel) rfl (by decide) rfl (Nat.le_of_ble_eq_true rfl) rfl ?_
  refine z_iconst dMod_copied_0 ?_
  refine z_newI (n := 0) (bc' := 16) (bs' := 976) rfl dMod_copied_1 (by decide) (by decide) (by decide) (fun q h1 hq gq e1 f1 => ?_)
  have hx1 : zExt h h1 := zExt.new hq f1
  have r1 : zAr G h1 q [] := ⟨_, e1, by decide, fun j hj => absurd hj (by simp), fun j hj => absurd hj (by simp)⟩
  refine z_iconst dMod_copied_3 ?_
  refine z_aload_n dMod_copied_4 rfl ?_
  refine z_callS (bc' := 0) (bs' := 0) MS_Mod_joined lk_Mod_126 dMod_copied_5 (k_Mod_joined r1 (hm.ext hx1) (by simp) (by simp; omega) hM) rfl rfl (Nat.le_of_ble_eq_true rfl)  (Nat.le_of_ble_eq_true rfl) (Nat.le_of_ble_eq_true rfl) (by decide) (by decide) (fun _ _ q => q.elim) ?_
  rintro _ h2 ⟨q2, rfl, hq2, r2, hx2⟩
  rw [zJn_nil M M.length (Nat.le_refl _), List.take_length] at r2
  refine z_aret rfl (Or.inr ⟨_, rfl⟩) (Or.inr ⟨_, rfl⟩) dMod_copied_8 ?_
  refine ⟨q2, rfl, ?_, ?_, r2, hx1.tr hx2⟩
  · rcases hq2 with rfl | ⟨x1, x2⟩
    · exact hq
    · exact x1.dn hx1
  · rcases hq2 with rfl | ⟨x1, x2⟩
    · exact gq
    · exact x2
theorem k_Mod_joins {k j : Nat} {q : Int} (H : zMod G h ma S th) (hk : k < 4) (hj : j < 4) (hq : 0 ≤ q ∧ q ≤ (S.1 k).length) (h16 : ∀ k, k < 4 → (S.1 k).length ≤ 16) : zM G l hMod_joins yMod_joins 3 [.ref (ma 0), zi (k : Int), zi q, zi (j : Int)] h (fun v h' => zMfr ma h h' ∧ (((S.1 k).length + (S.1 j).length ≤ 16 ∧ v = some (zi ((zJn (S.1 k) q (S.1 j) (S.1 j).length).length : Int)) ∧ ∃ q9, (q9 = ma (8 + k) ∨ (zDm h q9 ∧ G.2.2 ≤ q9)) ∧ zMod G h' (zup ma (8 + k) q9) (zsStale (zsL S k (zJn (S.1 k) q (S.1 j) (S.1 j).length)) k (-1)) th) ∨ (¬ (S.1 k).length + (S.1 j).length ≤ 16 ∧ v = some (zi (-1000009)) ∧ zMod G h' ma (zsRef S) th))) zNo 16 976 := by
  obtain ⟨m1, m2, ⟨g, m3, m3a⟩, m4, ⟨f6, m5, m5a⟩, m6, m7⟩ := id H
  unfold zMfs at m2
  obtain ⟨frk, rk1, rk2, rk3, rk4⟩ := id (m6 k hk)
  obtain ⟨frj, rj1, rj2, rj3, rj4⟩ := id (m6 j hj)
  have h16k := h16 k hk
  have h16j := h16 j hj
  refine zM.of [some (.ref (ma 0)), some (zi (k : Int)), some (zi q), some (zi (j : Int))] (by decide +kernel) rfl (by decide) rfl (Nat.le_of_ble_eq_true rfl) rfl ?_
  refine z_aload_n dMod_joins_0 rfl ?_
  refine z_get (k := 0) fd_Mod (by decide) fl_Mod_11 dMod_joins_1 (by assumption) (by rfl) ?_
  refine z_iload_n dMod_joins_4 rfl ?_
  refine z_aald (t := 4) (ty := .array .int) rfl rfl dMod_joins_5 m3 (by refine ⟨?_, ?_, ?_⟩ <;> omega) ?_
  rw [show (k : Int).toNat = k from rfl, m3a k (by omega)]
  refine z_alenI dMod_joins_6 (by assumption) ?_
  refine z_aload_n dMod_joins_7 rfl ?_
  refine z_get (k := 0) fd_Mod (by decide) fl_Mod_11 dMod_joins_8 (by assumption) (by rfl) ?_
  refine z_iload_n dMod_joins_11 rfl ?_
  refine z_aald (t := 4) (ty := .array .int) rfl rfl dMod_joins_12 m3 (by refine ⟨?_, ?_, ?_⟩ <;> omega) ?_
  rw [show (j : Int).toNat = j from rfl, m3a j (by omega)]
  refine z_alenI dMod_joins_13 (by assumption) ?_
  refine z_iadd dMod_joins_14 ?_
  refine z_bipush dMod_joins_15 rfl ?_
  refine z_icmp_le (tgt := 27) dMod_joins_17 (by decide) (by omega) (by omega) (fun c17 => ?_) (fun c17 => ?_)
  · refine z_aload_n dMod_joins_27 rfl ?_
    refine z_iload_n dMod_joins_28 rfl ?_
    refine z_aload_n dMod_joins_29 rfl ?_
    refine z_get (k := 0) fd_Mod (by decide) fl_Mod_11 dMod_joins_30 (by assumption) (by rfl) ?_
    refine z_iload_n dMod_joins_33 rfl ?_
    refine z_aald (t := 4) (ty := .array .int) rfl rfl dMod_joins_34 m3 (by refine ⟨?_, ?_, ?_⟩ <;> omega) ?_
    rw [show (k : Int).toNat = k from rfl, m3a k (by omega)]
    refine z_iload_n dMod_joins_35 rfl ?_
    refine z_aload_n dMod_joins_36 rfl ?_
    refine z_get (k := 0) fd_Mod (by decide) fl_Mod_11 dMod_joins_37 (by assumption) (by rfl) ?_
    refine z_iload_n dMod_joins_40 rfl ?_
    refine z_aald (t := 4) (ty := .array .int) rfl rfl dMod_joins_41 m3 (by refine ⟨?_, ?_, ?_⟩ <;> omega) ?_
    rw [show (j : Int).toNat = j from rfl, m3a j (by omega)]
    refine z_callS (bc' := 0) (bs' := 0) MS_Mod_joined lk_Mod_126 dMod_joins_42 (k_Mod_joined (m6 k hk) (m6 j hj) (by omega) (by omega) (by omega)) rfl rfl (Nat.le_of_ble_eq_true rfl)  (Nat.le_of_ble_eq_true rfl) (Nat.le_of_ble_eq_true rfl) (by decide) (by decide) (fun _ _ q => q.elim) ?_
    rintro _ h2 ⟨q2, rfl, hq2, r2, hx2⟩
    have H2 : zMod G h2 ma S th := H.ext hx2
    have oc2 := H2.2.1
    have hnq : ∀ i, i < 13 → i ≠ 8 + k → q2 ≠ ma i := by
      intro i hi hne
      rcases hq2 with rfl | ⟨x1, -⟩
      · exact H.inj (by omega) hi (Ne.symm hne)
      · exact H.nq x1 hi
    refine z_callV MV_Mod_becomes lk_Mod_95 dMod_joins_45 (k_Mod_becomes H2 hk r2 hnq) rfl rfl (Nat.le_of_ble_eq_true rfl) rfl (by assumption) (Nat.le_of_ble_eq_true rfl) (Nat.le_of_ble_eq_true rfl) (Nat.le_of_eq (Nat.zero_add _)) (Nat.le_of_eq (Nat.zero_add _)) (fun _ _ q => q.elim) ?_
    rintro _ h3 ⟨rfl, H3, F3⟩
    have fz3 : zMfr ma h h3 := (zMfr.ext hx2).tr (zMfr.bec F3)
    refine z_iret rfl rfl dMod_joins_48 ?_
    first
      | exact ⟨fz3, Or.inl ⟨by omega, rfl, q2, hq2, H3⟩⟩
      | exact ⟨fz2, Or.inr ⟨by omega, rfl, H2⟩⟩
  · refine z_aload_n dMod_joins_20 rfl ?_
    refine z_callV MV_Mod_refused lk_Mod_92 dMod_joins_21 (k_Mod_refused m2 rfl rfl) rfl rfl (Nat.le_of_ble_eq_true rfl) rfl (by assumption) (Nat.le_of_ble_eq_true rfl) (Nat.le_of_ble_eq_true rfl) (Nat.le_of_eq (Nat.zero_add _)) (Nat.le_of_eq (Nat.zero_add _)) (fun _ _ q => q.elim) ?_
    rintro _ h2 ⟨rfl, p2, g2⟩
    have H2 : zMod G h2 ma (zsRef S) th := H.obj (nu := zup S.2.2.2.2 1 (S.2.2.2.2 1 + 1)) p2 g2
    have fz2 : zMfr ma h h2 := zMfr.of0 g2
    refine z_goto (tgt := 48) dMod_joins_24 (by decide) ?_
    refine z_iret rfl rfl dMod_joins_48 ?_
    first
      | exact ⟨fz3, Or.inl ⟨by omega, rfl, q2, hq2, H3⟩⟩
      | exact ⟨fz2, Or.inr ⟨by omega, rfl, H2⟩⟩
theorem k_Mod_append {p f : Int} (H : zMod G h ma S th) (z_p : zI32 p) (z_f : zI32 f) (h16 : ∀ k, k < 4 → (S.1 k).length ≤ 16) : zM G l hMod_append yMod_append 4 [.ref (ma 0), zi p, zi f] h (zQm G ma h (1) (2) (3) (sp_append S p f)) zNo 16 976 := by
  obtain ⟨m1, m2, ⟨g, m3, m3a⟩, m4, ⟨f6, m5, m5a⟩, m6, m7⟩ := id H
  unfold zMfs at m2
  refine zM.of [some (.ref (ma 0)), some (zi p), some (zi f)] (by decide +kernel) rfl (by decide) rfl (Nat.le_of_ble_eq_true rfl) rfl ?_
  refine z_aload_n dMod_append_0 rfl ?_
  refine z_iload_n dMod_append_1 rfl ?_
  refine z_callS MS_Mod_isNo lk_Mod_81 dMod_append_2 (k_Mod_isNo (by omega)) rfl rfl (Nat.le_of_ble_eq_true rfl)  (Nat.le_of_ble_eq_true rfl) (Nat.le_of_ble_eq_true rfl) (Nat.le_of_eq (Nat.zero_add _)) (Nat.le_of_eq (Nat.zero_add _)) (fun _ _ q => q.elim) ?_
  rintro _ _ ⟨n9k, rfl, (⟨rfl, hn9k⟩ | ⟨rfl, hn9k⟩), rfl⟩
  · refine z_if_ne (tgt := 15) dMod_append_5 (by decide) (by omega) (fun c5 => ?_) (fun c5 => ?_)
    · refine z_iconst dMod_append_15 ?_
      refine z_goto (tgt := 20) dMod_append_16 (by decide) ?_
      refine z_iconst dMod_append_20 ?_
      refine z_iconst dMod_append_21 ?_
      refine z_callV MV_Mod_fails lk_Mod_88 dMod_append_22 (k_Mod_fails (by assumption) rfl (by omega) (by omega) (by omega)) rfl rfl (Nat.le_of_ble_eq_true rfl) rfl (by assumption) (Nat.le_of_ble_eq_true rfl) (Nat.le_of_ble_eq_true rfl) (Nat.le_of_eq (Nat.zero_add _)) (Nat.le_of_eq (Nat.zero_add _)) (fun _ _ q => q.elim) ?_
      rintro _ h1 ⟨t9, b8, rfl, ht, p1, g1⟩
      have H1 : zMod G h1 ma S t9 := H.obj (nu := S.2.2.2.2) (th' := t9) p1 g1
      have fz1 : zMfr ma h h1 := zMfr.of0 g1
      obtain ⟨-, n2, ⟨gg, n3, n3a⟩, n4, ⟨f61, n5, n5a⟩, n6, n7⟩ := id H1
      unfold zMfs at n2
      refine z_if_eq (tgt := 30) dMod_append_25 (by decide) (by omega) (fun c25 => ?_) (fun c25 => ?_)
      · exfalso; omega
      · refine z_iconst dMod_append_28 ?_
        refine z_iret rfl rfl dMod_append_29 ?_
        rcases (show t9 = 0 ∨ t9 = 1 ∨ t9 = 2 ∨ t9 = 3 by omega) with t0 | t0 | t0 | t0
        all_goals first
          | (exfalso; omega)
          | exact zQm.okB H3 (hq9.imp id (fun x9 => ⟨x9.1.up H1 fz1, x9.2⟩)) (by omega) (by assumption) (by unfold sp_append; (try unfold spPut); (try simp only [Int.toNat_natCast]); (repeat (first | rw [if_pos (by omega)] | rw [if_neg (by omega)] | rw [if_pos (by assumption)] | rw [if_neg (by assumption)] | rw [if_pos (True.intro : True)])); (try (first | rfl | (congr 2; omega) | (congr 1; congr 1; omega))); done)
          | exact zQm.ok H3 (by omega) (by assumption) (by unfold sp_append; (try unfold spPut); (try simp only [Int.toNat_natCast]); (repeat (first | rw [if_pos (by omega)] | rw [if_neg (by omega)] | rw [if_pos (by assumption)] | rw [if_neg (by assumption)] | rw [if_pos (True.intro : True)])); (try (first | rfl | (congr 2; omega) | (congr 1; congr 1; omega))); done)
          | exact zQm.b1 H3 (by omega) (by assumption) (by unfold sp_append; (try unfold spPut); (try simp only [Int.toNat_natCast]); (repeat (first | rw [if_pos (by omega)] | rw [if_neg (by omega)] | rw [if_pos (by assumption)] | rw [if_neg (by assumption)] | rw [if_pos (True.intro : True)])); (try (first | rfl | (congr 2; omega) | (congr 1; congr 1; omega))); done)
          | exact zQm.b2 H3 (by omega) (by assumption) (by unfold sp_append; (try unfold spPut); (try simp only [Int.toNat_natCast]); (repeat (first | rw [if_pos (by omega)] | rw [if_neg (by omega)] | rw [if_pos (by assumption)] | rw [if_neg (by assumption)] | rw [if_pos (True.intro : True)])); (try (first | rfl | (congr 2; omega) | (congr 1; congr 1; omega))); done)
          | exact zQm.b3 H3 (by omega) (by assumption) (by unfold sp_append; (try unfold spPut); (try simp only [Int.toNat_natCast]); (repeat (first | rw [if_pos (by omega)] | rw [if_neg (by omega)] | rw [if_pos (by assumption)] | rw [if_neg (by assumption)] | rw [if_pos (True.intro : True)])); (try (first | rfl | (congr 2; omega) | (congr 1; congr 1; omega))); done)
          | exact zQm.ok H1 (by omega) (by assumption) (by unfold sp_append; (try unfold spPut); (try simp only [Int.toNat_natCast]); (repeat (first | rw [if_pos (by omega)] | rw [if_neg (by omega)] | rw [if_pos (by assumption)] | rw [if_neg (by assumption)] | rw [if_pos (True.intro : True)])); (try (first | rfl | (congr 2; omega) | (congr 1; congr 1; omega))); done)
          | exact zQm.b1 H1 (by omega) (by assumption) (by unfold sp_append; (try unfold spPut); (try simp only [Int.toNat_natCast]); (repeat (first | rw [if_pos (by omega)] | rw [if_neg (by omega)] | rw [if_pos (by assumption)] | rw [if_neg (by assumption)] | rw [if_pos (True.intro : True)])); (try (first | rfl | (congr 2; omega) | (congr 1; congr 1; omega))); done)
          | exact zQm.b2 H1 (by omega) (by assumption) (by unfold sp_append; (try unfold spPut); (try simp only [Int.toNat_natCast]); (repeat (first | rw [if_pos (by omega)] | rw [if_neg (by omega)] | rw [if_pos (by assumption)] | rw [if_neg (by assumption)] | rw [if_pos (True.intro : True)])); (try (first | rfl | (congr 2; omega) | (congr 1; congr 1; omega))); done)
          | exact zQm.b3 H1 (by omega) (by assumption) (by unfold sp_append; (try unfold spPut); (try simp only [Int.toNat_natCast]); (repeat (first | rw [if_pos (by omega)] | rw [if_neg (by omega)] | rw [if_pos (by assumption)] | rw [if_neg (by assumption)] | rw [if_pos (True.intro : True)])); (try (first | rfl | (congr 2; omega) | (congr 1; congr 1; omega))); done)
    · exfalso; omega
  · obtain ⟨k, rfl⟩ := Int.eq_ofNat_of_zero_le (show 0 ≤ p by omega)
    have hkk : k < 4 := by omega
    refine z_if_ne (tgt := 15) dMod_append_5 (by decide) (by omega) (fun c5 => ?_) (fun c5 => ?_)
    · exfalso; omega
    · refine z_iload_n dMod_append_8 rfl ?_
      refine z_callS MS_Mod_isNo lk_Mod_81 dMod_append_9 (k_Mod_isNo (by omega)) rfl rfl (Nat.le_of_ble_eq_true rfl)  (Nat.le_of_ble_eq_true rfl) (Nat.le_of_ble_eq_true rfl) (Nat.le_of_eq (Nat.zero_add _)) (Nat.le_of_eq (Nat.zero_add _)) (fun _ _ q => q.elim) ?_
      rintro _ _ ⟨n9j, rfl, (⟨rfl, hn9j⟩ | ⟨rfl, hn9j⟩), rfl⟩
      · refine z_if_eq (tgt := 19) dMod_append_12 (by decide) (by omega) (fun c12 => ?_) (fun c12 => ?_)
        · refine z_iconst dMod_append_19 ?_
          refine z_iconst dMod_append_20 ?_
          refine z_iconst dMod_append_21 ?_
          refine z_callV MV_Mod_fails lk_Mod_88 dMod_append_22 (k_Mod_fails (by assumption) rfl (by omega) (by omega) (by omega)) rfl rfl (Nat.le_of_ble_eq_true rfl) rfl (by assumption) (Nat.le_of_ble_eq_true rfl) (Nat.le_of_ble_eq_true rfl) (Nat.le_of_eq (Nat.zero_add _)) (Nat.le_of_eq (Nat.zero_add _)) (fun _ _ q => q.elim) ?_
          rintro _ h1 ⟨t9, b8, rfl, ht, p1, g1⟩
          have H1 : zMod G h1 ma S t9 := H.obj (nu := S.2.2.2.2) (th' := t9) p1 g1
          have fz1 : zMfr ma h h1 := zMfr.of0 g1
          obtain ⟨-, n2, ⟨gg, n3, n3a⟩, n4, ⟨f61, n5, n5a⟩, n6, n7⟩ := id H1
          unfold zMfs at n2
          refine z_if_eq (tgt := 30) dMod_append_25 (by decide) (by omega) (fun c25 => ?_) (fun c25 => ?_)
          · exfalso; omega
          · refine z_iconst dMod_append_28 ?_
            refine z_iret rfl rfl dMod_append_29 ?_
            rcases (show t9 = 0 ∨ t9 = 1 ∨ t9 = 2 ∨ t9 = 3 by omega) with t0 | t0 | t0 | t0
            all_goals first
              | (exfalso; omega)
              | exact zQm.okB H3 (hq9.imp id (fun x9 => ⟨x9.1.up H1 fz1, x9.2⟩)) (by omega) (by assumption) (by unfold sp_append; (try unfold spPut); (try simp only [Int.toNat_natCast]); (repeat (first | rw [if_pos (by omega)] | rw [if_neg (by omega)] | rw [if_pos (by assumption)] | rw [if_neg (by assumption)] | rw [if_pos (True.intro : True)])); (try (first | rfl | (congr 2; omega) | (congr 1; congr 1; omega))); done)
              | exact zQm.ok H3 (by omega) (by assumption) (by unfold sp_append; (try unfold spPut); (try simp only [Int.toNat_natCast]); (repeat (first | rw [if_pos (by omega)] | rw [if_neg (by omega)] | rw [if_pos (by assumption)] | rw [if_neg (by assumption)] | rw [if_pos (True.intro : True)])); (try (first | rfl | (congr 2; omega) | (congr 1; congr 1; omega))); done)
              | exact zQm.b1 H3 (by omega) (by assumption) (by unfold sp_append; (try unfold spPut); (try simp only [Int.toNat_natCast]); (repeat (first | rw [if_pos (by omega)] | rw [if_neg (by omega)] | rw [if_pos (by assumption)] | rw [if_neg (by assumption)] | rw [if_pos (True.intro : True)])); (try (first | rfl | (congr 2; omega) | (congr 1; congr 1; omega))); done)
              | exact zQm.b2 H3 (by omega) (by assumption) (by unfold sp_append; (try unfold spPut); (try simp only [Int.toNat_natCast]); (repeat (first | rw [if_pos (by omega)] | rw [if_neg (by omega)] | rw [if_pos (by assumption)] | rw [if_neg (by assumption)] | rw [if_pos (True.intro : True)])); (try (first | rfl | (congr 2; omega) | (congr 1; congr 1; omega))); done)
              | exact zQm.b3 H3 (by omega) (by assumption) (by unfold sp_append; (try unfold spPut); (try simp only [Int.toNat_natCast]); (repeat (first | rw [if_pos (by omega)] | rw [if_neg (by omega)] | rw [if_pos (by assumption)] | rw [if_neg (by assumption)] | rw [if_pos (True.intro : True)])); (try (first | rfl | (congr 2; omega) | (congr 1; congr 1; omega))); done)
              | exact zQm.ok H1 (by omega) (by assumption) (by unfold sp_append; (try unfold spPut); (try simp only [Int.toNat_natCast]); (repeat (first | rw [if_pos (by omega)] | rw [if_neg (by omega)] | rw [if_pos (by assumption)] | rw [if_neg (by assumption)] | rw [if_pos (True.intro : True)])); (try (first | rfl | (congr 2; omega) | (congr 1; congr 1; omega))); done)
              | exact zQm.b1 H1 (by omega) (by assumption) (by unfold sp_append; (try unfold spPut); (try simp only [Int.toNat_natCast]); (repeat (first | rw [if_pos (by omega)] | rw [if_neg (by omega)] | rw [if_pos (by assumption)] | rw [if_neg (by assumption)] | rw [if_pos (True.intro : True)])); (try (first | rfl | (congr 2; omega) | (congr 1; congr 1; omega))); done)
              | exact zQm.b2 H1 (by omega) (by assumption) (by unfold sp_append; (try unfold spPut); (try simp only [Int.toNat_natCast]); (repeat (first | rw [if_pos (by omega)] | rw [if_neg (by omega)] | rw [if_pos (by assumption)] | rw [if_neg (by assumption)] | rw [if_pos (True.intro : True)])); (try (first | rfl | (congr 2; omega) | (congr 1; congr 1; omega))); done)
              | exact zQm.b3 H1 (by omega) (by assumption) (by unfold sp_append; (try unfold spPut); (try simp only [Int.toNat_natCast]); (repeat (first | rw [if_pos (by omega)] | rw [if_neg (by omega)] | rw [if_pos (by assumption)] | rw [if_neg (by assumption)] | rw [if_pos (True.intro : True)])); (try (first | rfl | (congr 2; omega) | (congr 1; congr 1; omega))); done)
        · refine z_iconst dMod_append_15 ?_
          refine z_goto (tgt := 20) dMod_append_16 (by decide) ?_
          refine z_iconst dMod_append_20 ?_
          refine z_iconst dMod_append_21 ?_
          refine z_callV MV_Mod_fails lk_Mod_88 dMod_append_22 (k_Mod_fails (by assumption) rfl (by omega) (by omega) (by omega)) rfl rfl (Nat.le_of_ble_eq_true rfl) rfl (by assumption) (Nat.le_of_ble_eq_true rfl) (Nat.le_of_ble_eq_true rfl) (Nat.le_of_eq (Nat.zero_add _)) (Nat.le_of_eq (Nat.zero_add _)) (fun _ _ q => q.elim) ?_
          rintro _ h1 ⟨t9, b8, rfl, ht, p1, g1⟩
          have H1 : zMod G h1 ma S t9 := H.obj (nu := S.2.2.2.2) (th' := t9) p1 g1
          have fz1 : zMfr ma h h1 := zMfr.of0 g1
          obtain ⟨-, n2, ⟨gg, n3, n3a⟩, n4, ⟨f61, n5, n5a⟩, n6, n7⟩ := id H1
          unfold zMfs at n2
          refine z_if_eq (tgt := 30) dMod_append_25 (by decide) (by omega) (fun c25 => ?_) (fun c25 => ?_)
          · exfalso; omega
          · refine z_iconst dMod_append_28 ?_
            refine z_iret rfl rfl dMod_append_29 ?_
            rcases (show t9 = 0 ∨ t9 = 1 ∨ t9 = 2 ∨ t9 = 3 by omega) with t0 | t0 | t0 | t0
            all_goals first
              | (exfalso; omega)
              | exact zQm.okB H3 (hq9.imp id (fun x9 => ⟨x9.1.up H1 fz1, x9.2⟩)) (by omega) (by assumption) (by unfold sp_append; (try unfold spPut); (try simp only [Int.toNat_natCast]); (repeat (first | rw [if_pos (by omega)] | rw [if_neg (by omega)] | rw [if_pos (by assumption)] | rw [if_neg (by assumption)] | rw [if_pos (True.intro : True)])); (try (first | rfl | (congr 2; omega) | (congr 1; congr 1; omega))); done)
              | exact zQm.ok H3 (by omega) (by assumption) (by unfold sp_append; (try unfold spPut); (try simp only [Int.toNat_natCast]); (repeat (first | rw [if_pos (by omega)] | rw [if_neg (by omega)] | rw [if_pos (by assumption)] | rw [if_neg (by assumption)] | rw [if_pos (True.intro : True)])); (try (first | rfl | (congr 2; omega) | (congr 1; congr 1; omega))); done)
              | exact zQm.b1 H3 (by omega) (by assumption) (by unfold sp_append; (try unfold spPut); (try simp only [Int.toNat_natCast]); (repeat (first | rw [if_pos (by omega)] | rw [if_neg (by omega)] | rw [if_pos (by assumption)] | rw [if_neg (by assumption)] | rw [if_pos (True.intro : True)])); (try (first | rfl | (congr 2; omega) | (congr 1; congr 1; omega))); done)
              | exact zQm.b2 H3 (by omega) (by assumption) (by unfold sp_append; (try unfold spPut); (try simp only [Int.toNat_natCast]); (repeat (first | rw [if_pos (by omega)] | rw [if_neg (by omega)] | rw [if_pos (by assumption)] | rw [if_neg (by assumption)] | rw [if_pos (True.intro : True)])); (try (first | rfl | (congr 2; omega) | (congr 1; congr 1; omega))); done)
              | exact zQm.b3 H3 (by omega) (by assumption) (by unfold sp_append; (try unfold spPut); (try simp only [Int.toNat_natCast]); (repeat (first | rw [if_pos (by omega)] | rw [if_neg (by omega)] | rw [if_pos (by assumption)] | rw [if_neg (by assumption)] | rw [if_pos (True.intro : True)])); (try (first | rfl | (congr 2; omega) | (congr 1; congr 1; omega))); done)
              | exact zQm.ok H1 (by omega) (by assumption) (by unfold sp_append; (try unfold spPut); (try simp only [Int.toNat_natCast]); (repeat (first | rw [if_pos (by omega)] | rw [if_neg (by omega)] | rw [if_pos (by assumption)] | rw [if_neg (by assumption)] | rw [if_pos (True.intro : True)])); (try (first | rfl | (congr 2; omega) | (congr 1; congr 1; omega))); done)
              | exact zQm.b1 H1 (by omega) (by assumption) (by unfold sp_append; (try unfold spPut); (try simp only [Int.toNat_natCast]); (repeat (first | rw [if_pos (by omega)] | rw [if_neg (by omega)] | rw [if_pos (by assumption)] | rw [if_neg (by assumption)] | rw [if_pos (True.intro : True)])); (try (first | rfl | (congr 2; omega) | (congr 1; congr 1; omega))); done)
              | exact zQm.b2 H1 (by omega) (by assumption) (by unfold sp_append; (try unfold spPut); (try simp only [Int.toNat_natCast]); (repeat (first | rw [if_pos (by omega)] | rw [if_neg (by omega)] | rw [if_pos (by assumption)] | rw [if_neg (by assumption)] | rw [if_pos (True.intro : True)])); (try (first | rfl | (congr 2; omega) | (congr 1; congr 1; omega))); done)
              | exact zQm.b3 H1 (by omega) (by assumption) (by unfold sp_append; (try unfold spPut); (try simp only [Int.toNat_natCast]); (repeat (first | rw [if_pos (by omega)] | rw [if_neg (by omega)] | rw [if_pos (by assumption)] | rw [if_neg (by assumption)] | rw [if_pos (True.intro : True)])); (try (first | rfl | (congr 2; omega) | (congr 1; congr 1; omega))); done)
      · obtain ⟨j, rfl⟩ := Int.eq_ofNat_of_zero_le (show 0 ≤ f by omega)
        have hkj : j < 4 := by omega
        refine z_if_eq (tgt := 19) dMod_append_12 (by decide) (by omega) (fun c12 => ?_) (fun c12 => ?_)
        · refine z_iconst dMod_append_19 ?_
          refine z_iconst dMod_append_20 ?_
          refine z_iconst dMod_append_21 ?_
          refine z_callV MV_Mod_fails lk_Mod_88 dMod_append_22 (k_Mod_fails (by assumption) rfl (by omega) (by omega) (by omega)) rfl rfl (Nat.le_of_ble_eq_true rfl) rfl (by assumption) (Nat.le_of_ble_eq_true rfl) (Nat.le_of_ble_eq_true rfl) (Nat.le_of_eq (Nat.zero_add _)) (Nat.le_of_eq (Nat.zero_add _)) (fun _ _ q => q.elim) ?_
          rintro _ h1 ⟨t9, b8, rfl, ht, p1, g1⟩
          have H1 : zMod G h1 ma S t9 := H.obj (nu := S.2.2.2.2) (th' := t9) p1 g1
          have fz1 : zMfr ma h h1 := zMfr.of0 g1
          obtain ⟨-, n2, ⟨gg, n3, n3a⟩, n4, ⟨f61, n5, n5a⟩, n6, n7⟩ := id H1
          unfold zMfs at n2
          refine z_if_eq (tgt := 30) dMod_append_25 (by decide) (by omega) (fun c25 => ?_) (fun c25 => ?_)
          · obtain ⟨frk, rk1, rk2, rk3, rk4⟩ := id (n6 k (by omega))
            have h16k := h16 k (by omega)
            have ezk : ∀ i : Int, 0 ≤ i → i < ((S.1 k).length : Int) → frk i.toNat = zAt (S.1 k) i := fun i x1 x2 => by rw [rk3 _ (by omega), zAt_eq x1 x2]
            obtain ⟨frj, rj1, rj2, rj3, rj4⟩ := id (n6 j (by omega))
            have h16j := h16 j (by omega)
            have ezj : ∀ i : Int, 0 ≤ i → i < ((S.1 j).length : Int) → frj i.toNat = zAt (S.1 j) i := fun i x1 x2 => by rw [rj3 _ (by omega), zAt_eq x1 x2]
            refine z_aload_n dMod_append_30 rfl ?_
            refine z_iload_n dMod_append_31 rfl ?_
            refine z_aload_n dMod_append_32 rfl ?_
            refine z_get (k := 0) fd_Mod (by decide) fl_Mod_11 dMod_append_33 (by assumption) (by rfl) ?_
            refine z_iload_n dMod_append_36 rfl ?_
            refine z_aald (t := 4) (ty := .array .int) rfl rfl dMod_append_37 n3 (by refine ⟨?_, ?_, ?_⟩ <;> omega) ?_
            rw [show (k : Int).toNat = k from rfl, n3a k (by omega)]
            refine z_alenI dMod_append_38 (by assumption) ?_
            refine z_iload_n dMod_append_39 rfl ?_
            refine z_callV (bc' := 0) (bs' := 0) MV_Mod_joins lk_Mod_122 dMod_append_40 (k_Mod_joins H1 (by omega) (by omega) (by omega) h16) rfl rfl (Nat.le_of_ble_eq_true rfl) rfl (by assumption) (Nat.le_of_ble_eq_true rfl) (Nat.le_of_ble_eq_true rfl) (by decide) (by decide) (fun _ _ q => q.elim) ?_
            rintro _ h3 ⟨fj, (⟨hle, rfl, q9, hq9, H3⟩ | ⟨hle, rfl, H3⟩)⟩
            all_goals have fz3 : zMfr ma h h3 := fz1.tr fj
            · refine z_iret rfl rfl dMod_append_43 ?_
              rcases (show t9 = 0 ∨ t9 = 1 ∨ t9 = 2 ∨ t9 = 3 by omega) with t0 | t0 | t0 | t0
              all_goals first
                | (exfalso; omega)
                | exact zQm.okB H3 (hq9.imp id (fun x9 => ⟨x9.1.up H1 fz1, x9.2⟩)) (by omega) (by assumption) (by unfold sp_append; (try unfold spPut); (try simp only [Int.toNat_natCast]); (repeat (first | rw [if_pos (by omega)] | rw [if_neg (by omega)] | rw [if_pos (by assumption)] | rw [if_neg (by assumption)] | rw [if_pos (True.intro : True)])); (try (first | rfl | (congr 2; omega) | (congr 1; congr 1; omega))); done)
                | exact zQm.ok H3 (by omega) (by assumption) (by unfold sp_append; (try unfold spPut); (try simp only [Int.toNat_natCast]); (repeat (first | rw [if_pos (by omega)] | rw [if_neg (by omega)] | rw [if_pos (by assumption)] | rw [if_neg (by assumption)] | rw [if_pos (True.intro : True)])); (try (first | rfl | (congr 2; omega) | (congr 1; congr 1; omega))); done)
                | exact zQm.b1 H3 (by omega) (by assumption) (by unfold sp_append; (try unfold spPut); (try simp only [Int.toNat_natCast]); (repeat (first | rw [if_pos (by omega)] | rw [if_neg (by omega)] | rw [if_pos (by assumption)] | rw [if_neg (by assumption)] | rw [if_pos (True.intro : True)])); (try (first | rfl | (congr 2; omega) | (congr 1; congr 1; omega))); done)
                | exact zQm.b2 H3 (by omega) (by assumption) (by unfold sp_append; (try unfold spPut); (try simp only [Int.toNat_natCast]); (repeat (first | rw [if_pos (by omega)] | rw [if_neg (by omega)] | rw [if_pos (by assumption)] | rw [if_neg (by assumption)] | rw [if_pos (True.intro : True)])); (try (first | rfl | (congr 2; omega) | (congr 1; congr 1; omega))); done)
                | exact zQm.b3 H3 (by omega) (by assumption) (by unfold sp_append; (try unfold spPut); (try simp only [Int.toNat_natCast]); (repeat (first | rw [if_pos (by omega)] | rw [if_neg (by omega)] | rw [if_pos (by assumption)] | rw [if_neg (by assumption)] | rw [if_pos (True.intro : True)])); (try (first | rfl | (congr 2; omega) | (congr 1; congr 1; omega))); done)
                | exact zQm.ok H1 (by omega) (by assumption) (by unfold sp_append; (try unfold spPut); (try simp only [Int.toNat_natCast]); (repeat (first | rw [if_pos (by omega)] | rw [if_neg (by omega)] | rw [if_pos (by assumption)] | rw [if_neg (by assumption)] | rw [if_pos (True.intro : True)])); (try (first | rfl | (congr 2; omega) | (congr 1; congr 1; omega))); done)
                | exact zQm.b1 H1 (by omega) (by assumption) (by unfold sp_append; (try unfold spPut); (try simp only [Int.toNat_natCast]); (repeat (first | rw [if_pos (by omega)] | rw [if_neg (by omega)] | rw [if_pos (by assumption)] | rw [if_neg (by assumption)] | rw [if_pos (True.intro : True)])); (try (first | rfl | (congr 2; omega) | (congr 1; congr 1; omega))); done)
                | exact zQm.b2 H1 (by omega) (by assumption) (by unfold sp_append; (try unfold spPut); (try simp only [Int.toNat_natCast]); (repeat (first | rw [if_pos (by omega)] | rw [if_neg (by omega)] | rw [if_pos (by assumption)] | rw [if_neg (by assumption)] | rw [if_pos (True.intro : True)])); (try (first | rfl | (congr 2; omega) | (congr 1; congr 1; omega))); done)
                | exact zQm.b3 H1 (by omega) (by assumption) (by unfold sp_append; (try unfold spPut); (try simp only [Int.toNat_natCast]); (repeat (first | rw [if_pos (by omega)] | rw [if_neg (by omega)] | rw [if_pos (by assumption)] | rw [if_neg (by assumption)] | rw [if_pos (True.intro : True)])); (try (first | rfl | (congr 2; omega) | (congr 1; congr 1; omega))); done)
            · refine z_iret rfl rfl dMod_append_43 ?_
              rcases (show t9 = 0 ∨ t9 = 1 ∨ t9 = 2 ∨ t9 = 3 by omega) with t0 | t0 | t0 | t0
              all_goals first
                | (exfalso; omega)
                | exact zQm.okB H3 (hq9.imp id (fun x9 => ⟨x9.1.up H1 fz1, x9.2⟩)) (by omega) (by assumption) (by unfold sp_append; (try unfold spPut); (try simp only [Int.toNat_natCast]); (repeat (first | rw [if_pos (by omega)] | rw [if_neg (by omega)] | rw [if_pos (by assumption)] | rw [if_neg (by assumption)] | rw [if_pos (True.intro : True)])); (try (first | rfl | (congr 2; omega) | (congr 1; congr 1; omega))); done)
                | exact zQm.ok H3 (by omega) (by assumption) (by unfold sp_append; (try unfold spPut); (try simp only [Int.toNat_natCast]); (repeat (first | rw [if_pos (by omega)] | rw [if_neg (by omega)] | rw [if_pos (by assumption)] | rw [if_neg (by assumption)] | rw [if_pos (True.intro : True)])); (try (first | rfl | (congr 2; omega) | (congr 1; congr 1; omega))); done)
                | exact zQm.b1 H3 (by omega) (by assumption) (by unfold sp_append; (try unfold spPut); (try simp only [Int.toNat_natCast]); (repeat (first | rw [if_pos (by omega)] | rw [if_neg (by omega)] | rw [if_pos (by assumption)] | rw [if_neg (by assumption)] | rw [if_pos (True.intro : True)])); (try (first | rfl | (congr 2; omega) | (congr 1; congr 1; omega))); done)
                | exact zQm.b2 H3 (by omega) (by assumption) (by unfold sp_append; (try unfold spPut); (try simp only [Int.toNat_natCast]); (repeat (first | rw [if_pos (by omega)] | rw [if_neg (by omega)] | rw [if_pos (by assumption)] | rw [if_neg (by assumption)] | rw [if_pos (True.intro : True)])); (try (first | rfl | (congr 2; omega) | (congr 1; congr 1; omega))); done)
                | exact zQm.b3 H3 (by omega) (by assumption) (by unfold sp_append; (try unfold spPut); (try simp only [Int.toNat_natCast]); (repeat (first | rw [if_pos (by omega)] | rw [if_neg (by omega)] | rw [if_pos (by assumption)] | rw [if_neg (by assumption)] | rw [if_pos (True.intro : True)])); (try (first | rfl | (congr 2; omega) | (congr 1; congr 1; omega))); done)
                | exact zQm.ok H1 (by omega) (by assumption) (by unfold sp_append; (try unfold spPut); (try simp only [Int.toNat_natCast]); (repeat (first | rw [if_pos (by omega)] | rw [if_neg (by omega)] | rw [if_pos (by assumption)] | rw [if_neg (by assumption)] | rw [if_pos (True.intro : True)])); (try (first | rfl | (congr 2; omega) | (congr 1; congr 1; omega))); done)
                | exact zQm.b1 H1 (by omega) (by assumption) (by unfold sp_append; (try unfold spPut); (try simp only [Int.toNat_natCast]); (repeat (first | rw [if_pos (by omega)] | rw [if_neg (by omega)] | rw [if_pos (by assumption)] | rw [if_neg (by assumption)] | rw [if_pos (True.intro : True)])); (try (first | rfl | (congr 2; omega) | (congr 1; congr 1; omega))); done)
                | exact zQm.b2 H1 (by omega) (by assumption) (by unfold sp_append; (try unfold spPut); (try simp only [Int.toNat_natCast]); (repeat (first | rw [if_pos (by omega)] | rw [if_neg (by omega)] | rw [if_pos (by assumption)] | rw [if_neg (by assumption)] | rw [if_pos (True.intro : True)])); (try (first | rfl | (congr 2; omega) | (congr 1; congr 1; omega))); done)
                | exact zQm.b3 H1 (by omega) (by assumption) (by unfold sp_append; (try unfold spPut); (try simp only [Int.toNat_natCast]); (repeat (first | rw [if_pos (by omega)] | rw [if_neg (by omega)] | rw [if_pos (by assumption)] | rw [if_neg (by assumption)] | rw [if_pos (True.intro : True)])); (try (first | rfl | (congr 2; omega) | (congr 1; congr 1; omega))); done)
          · refine z_iconst dMod_append_28 ?_
            refine z_iret rfl rfl dMod_append_29 ?_
            rcases (show t9 = 0 ∨ t9 = 1 ∨ t9 = 2 ∨ t9 = 3 by omega) with t0 | t0 | t0 | t0
            all_goals first
              | (exfalso; omega)
              | exact zQm.okB H3 (hq9.imp id (fun x9 => ⟨x9.1.up H1 fz1, x9.2⟩)) (by omega) (by assumption) (by unfold sp_append; (try unfold spPut); (try simp only [Int.toNat_natCast]); (repeat (first | rw [if_pos (by omega)] | rw [if_neg (by omega)] | rw [if_pos (by assumption)] | rw [if_neg (by assumption)] | rw [if_pos (True.intro : True)])); (try (first | rfl | (congr 2; omega) | (congr 1; congr 1; omega))); done)
              | exact zQm.ok H3 (by omega) (by assumption) (by unfold sp_append; (try unfold spPut); (try simp only [Int.toNat_natCast]); (repeat (first | rw [if_pos (by omega)] | rw [if_neg (by omega)] | rw [if_pos (by assumption)] | rw [if_neg (by assumption)] | rw [if_pos (True.intro : True)])); (try (first | rfl | (congr 2; omega) | (congr 1; congr 1; omega))); done)
              | exact zQm.b1 H3 (by omega) (by assumption) (by unfold sp_append; (try unfold spPut); (try simp only [Int.toNat_natCast]); (repeat (first | rw [if_pos (by omega)] | rw [if_neg (by omega)] | rw [if_pos (by assumption)] | rw [if_neg (by assumption)] | rw [if_pos (True.intro : True)])); (try (first | rfl | (congr 2; omega) | (congr 1; congr 1; omega))); done)
              | exact zQm.b2 H3 (by omega) (by assumption) (by unfold sp_append; (try unfold spPut); (try simp only [Int.toNat_natCast]); (repeat (first | rw [if_pos (by omega)] | rw [if_neg (by omega)] | rw [if_pos (by assumption)] | rw [if_neg (by assumption)] | rw [if_pos (True.intro : True)])); (try (first | rfl | (congr 2; omega) | (congr 1; congr 1; omega))); done)
              | exact zQm.b3 H3 (by omega) (by assumption) (by unfold sp_append; (try unfold spPut); (try simp only [Int.toNat_natCast]); (repeat (first | rw [if_pos (by omega)] | rw [if_neg (by omega)] | rw [if_pos (by assumption)] | rw [if_neg (by assumption)] | rw [if_pos (True.intro : True)])); (try (first | rfl | (congr 2; omega) | (congr 1; congr 1; omega))); done)
              | exact zQm.ok H1 (by omega) (by assumption) (by unfold sp_append; (try unfold spPut); (try simp only [Int.toNat_natCast]); (repeat (first | rw [if_pos (by omega)] | rw [if_neg (by omega)] | rw [if_pos (by assumption)] | rw [if_neg (by assumption)] | rw [if_pos (True.intro : True)])); (try (first | rfl | (congr 2; omega) | (congr 1; congr 1; omega))); done)
              | exact zQm.b1 H1 (by omega) (by assumption) (by unfold sp_append; (try unfold spPut); (try simp only [Int.toNat_natCast]); (repeat (first | rw [if_pos (by omega)] | rw [if_neg (by omega)] | rw [if_pos (by assumption)] | rw [if_neg (by assumption)] | rw [if_pos (True.intro : True)])); (try (first | rfl | (congr 2; omega) | (congr 1; congr 1; omega))); done)
              | exact zQm.b2 H1 (by omega) (by assumption) (by unfold sp_append; (try unfold spPut); (try simp only [Int.toNat_natCast]); (repeat (first | rw [if_pos (by omega)] | rw [if_neg (by omega)] | rw [if_pos (by assumption)] | rw [if_neg (by assumption)] | rw [if_pos (True.intro : True)])); (try (first | rfl | (congr 2; omega) | (congr 1; congr 1; omega))); done)
              | exact zQm.b3 H1 (by omega) (by assumption) (by unfold sp_append; (try unfold spPut); (try simp only [Int.toNat_natCast]); (repeat (first | rw [if_pos (by omega)] | rw [if_neg (by omega)] | rw [if_pos (by assumption)] | rw [if_neg (by assumption)] | rw [if_pos (True.intro : True)])); (try (first | rfl | (congr 2; omega) | (congr 1; congr 1; omega))); done)
        · exfalso; omega
theorem k_Mod_appendAt {p q f : Int} (H : zMod G h ma S th) (z_p : zI32 p) (z_q : zI32 q) (z_f : zI32 f) (h16 : ∀ k, k < 4 → (S.1 k).length ≤ 16) : zM G l hMod_appendAt yMod_appendAt 4 [.ref (ma 0), zi p, zi q, zi f] h (zQm G ma h (1) (2) (3) (sp_appendAt S p q f)) zNo 16 976 := by
  obtain ⟨m1, m2, ⟨g, m3, m3a⟩, m4, ⟨f6, m5, m5a⟩, m6, m7⟩ := id H
  unfold zMfs at m2
  refine zM.of [some (.ref (ma 0)), some (zi p), some (zi q), some (zi f)] (by decide +kernel) rfl (by decide) rfl (Nat.le_of_ble_eq_true rfl) rfl ?_
  refine z_aload_n dMod_appendAt_0 rfl ?_
  refine z_iload_n dMod_appendAt_1 rfl ?_
  refine z_callS MS_Mod_isNo lk_Mod_81 dMod_appendAt_2 (k_Mod_isNo (by omega)) rfl rfl (Nat.le_of_ble_eq_true rfl)  (Nat.le_of_ble_eq_true rfl) (Nat.le_of_ble_eq_true rfl) (Nat.le_of_eq (Nat.zero_add _)) (Nat.le_of_eq (Nat.zero_add _)) (fun _ _ q => q.elim) ?_
  rintro _ _ ⟨n9k, rfl, (⟨rfl, hn9k⟩ | ⟨rfl, hn9k⟩), rfl⟩
  · refine z_if_ne (tgt := 30) dMod_appendAt_5 (by decide) (by omega) (fun c5 => ?_) (fun c5 => ?_)
    · refine z_iconst dMod_appendAt_30 ?_
      refine z_goto (tgt := 35) dMod_appendAt_31 (by decide) ?_
      refine z_iconst dMod_appendAt_35 ?_
      refine z_iconst dMod_appendAt_36 ?_
      refine z_callV MV_Mod_fails lk_Mod_88 dMod_appendAt_37 (k_Mod_fails (by assumption) rfl (by omega) (by omega) (by omega)) rfl rfl (Nat.le_of_ble_eq_true rfl) rfl (by assumption) (Nat.le_of_ble_eq_true rfl) (Nat.le_of_ble_eq_true rfl) (Nat.le_of_eq (Nat.zero_add _)) (Nat.le_of_eq (Nat.zero_add _)) (fun _ _ q => q.elim) ?_
      rintro _ h1 ⟨t9, b8, rfl, ht, p1, g1⟩
      have H1 : zMod G h1 ma S t9 := H.obj (nu := S.2.2.2.2) (th' := t9) p1 g1
      have fz1 : zMfr ma h h1 := zMfr.of0 g1
      obtain ⟨-, n2, ⟨gg, n3, n3a⟩, n4, ⟨f61, n5, n5a⟩, n6, n7⟩ := id H1
      unfold zMfs at n2
      refine z_if_eq (tgt := 45) dMod_appendAt_40 (by decide) (by omega) (fun c40 => ?_) (fun c40 => ?_)
      · exfalso; omega
      · refine z_iconst dMod_appendAt_43 ?_
        refine z_iret rfl rfl dMod_appendAt_44 ?_
        rcases (show t9 = 0 ∨ t9 = 1 ∨ t9 = 2 ∨ t9 = 3 by omega) with t0 | t0 | t0 | t0
        all_goals first
          | (exfalso; omega)
          | exact zQm.okB H3 (hq9.imp id (fun x9 => ⟨x9.1.up H1 fz1, x9.2⟩)) (by omega) (by assumption) (by unfold sp_appendAt; (try unfold spPut); (try simp only [Int.toNat_natCast]); (repeat (first | rw [if_pos (by omega)] | rw [if_neg (by omega)] | rw [if_pos (by assumption)] | rw [if_neg (by assumption)] | rw [if_pos (True.intro : True)])); (try (first | rfl | (congr 2; omega) | (congr 1; congr 1; omega))); done)
          | exact zQm.ok H3 (by omega) (by assumption) (by unfold sp_appendAt; (try unfold spPut); (try simp only [Int.toNat_natCast]); (repeat (first | rw [if_pos (by omega)] | rw [if_neg (by omega)] | rw [if_pos (by assumption)] | rw [if_neg (by assumption)] | rw [if_pos (True.intro : True)])); (try (first | rfl | (congr 2; omega) | (congr 1; congr 1; omega))); done)
          | exact zQm.b1 H3 (by omega) (by assumption) (by unfold sp_appendAt; (try unfold spPut); (try simp only [Int.toNat_natCast]); (repeat (first | rw [if_pos (by omega)] | rw [if_neg (by omega)] | rw [if_pos (by assumption)] | rw [if_neg (by assumption)] | rw [if_pos (True.intro : True)])); (try (first | rfl | (congr 2; omega) | (congr 1; congr 1; omega))); done)
          | exact zQm.b2 H3 (by omega) (by assumption) (by unfold sp_appendAt; (try unfold spPut); (try simp only [Int.toNat_natCast]); (repeat (first | rw [if_pos (by omega)] | rw [if_neg (by omega)] | rw [if_pos (by assumption)] | rw [if_neg (by assumption)] | rw [if_pos (True.intro : True)])); (try (first | rfl | (congr 2; omega) | (congr 1; congr 1; omega))); done)
          | exact zQm.b3 H3 (by omega) (by assumption) (by unfold sp_appendAt; (try unfold spPut); (try simp only [Int.toNat_natCast]); (repeat (first | rw [if_pos (by omega)] | rw [if_neg (by omega)] | rw [if_pos (by assumption)] | rw [if_neg (by assumption)] | rw [if_pos (True.intro : True)])); (try (first | rfl | (congr 2; omega) | (congr 1; congr 1; omega))); done)
          | exact zQm.ok H1 (by omega) (by assumption) (by unfold sp_appendAt; (try unfold spPut); (try simp only [Int.toNat_natCast]); (repeat (first | rw [if_pos (by omega)] | rw [if_neg (by omega)] | rw [if_pos (by assumption)] | rw [if_neg (by assumption)] | rw [if_pos (True.intro : True)])); (try (first | rfl | (congr 2; omega) | (congr 1; congr 1; omega))); done)
          | exact zQm.b1 H1 (by omega) (by assumption) (by unfold sp_appendAt; (try unfold spPut); (try simp only [Int.toNat_natCast]); (repeat (first | rw [if_pos (by omega)] | rw [if_neg (by omega)] | rw [if_pos (by assumption)] | rw [if_neg (by assumption)] | rw [if_pos (True.intro : True)])); (try (first | rfl | (congr 2; omega) | (congr 1; congr 1; omega))); done)
          | exact zQm.b2 H1 (by omega) (by assumption) (by unfold sp_appendAt; (try unfold spPut); (try simp only [Int.toNat_natCast]); (repeat (first | rw [if_pos (by omega)] | rw [if_neg (by omega)] | rw [if_pos (by assumption)] | rw [if_neg (by assumption)] | rw [if_pos (True.intro : True)])); (try (first | rfl | (congr 2; omega) | (congr 1; congr 1; omega))); done)
          | exact zQm.b3 H1 (by omega) (by assumption) (by unfold sp_appendAt; (try unfold spPut); (try simp only [Int.toNat_natCast]); (repeat (first | rw [if_pos (by omega)] | rw [if_neg (by omega)] | rw [if_pos (by assumption)] | rw [if_neg (by assumption)] | rw [if_pos (True.intro : True)])); (try (first | rfl | (congr 2; omega) | (congr 1; congr 1; omega))); done)
    · exfalso; omega
  · obtain ⟨k, rfl⟩ := Int.eq_ofNat_of_zero_le (show 0 ≤ p by omega)
    have hkk : k < 4 := by omega
    refine z_if_ne (tgt := 30) dMod_appendAt_5 (by decide) (by omega) (fun c5 => ?_) (fun c5 => ?_)
    · exfalso; omega
    · refine z_iload_n dMod_appendAt_8 rfl ?_
      refine z_callS MS_Mod_isNo lk_Mod_81 dMod_appendAt_9 (k_Mod_isNo (by omega)) rfl rfl (Nat.le_of_ble_eq_true rfl)  (Nat.le_of_ble_eq_true rfl) (Nat.le_of_ble_eq_true rfl) (Nat.le_of_eq (Nat.zero_add _)) (Nat.le_of_eq (Nat.zero_add _)) (fun _ _ q => q.elim) ?_
      rintro _ _ ⟨n9j, rfl, (⟨rfl, hn9j⟩ | ⟨rfl, hn9j⟩), rfl⟩
      · refine z_if_ne (tgt := 30) dMod_appendAt_12 (by decide) (by omega) (fun c12 => ?_) (fun c12 => ?_)
        · refine z_iconst dMod_appendAt_30 ?_
          refine z_goto (tgt := 35) dMod_appendAt_31 (by decide) ?_
          refine z_iconst dMod_appendAt_35 ?_
          refine z_iconst dMod_appendAt_36 ?_
          refine z_callV MV_Mod_fails lk_Mod_88 dMod_appendAt_37 (k_Mod_fails (by assumption) rfl (by omega) (by omega) (by omega)) rfl rfl (Nat.le_of_ble_eq_true rfl) rfl (by assumption) (Nat.le_of_ble_eq_true rfl) (Nat.le_of_ble_eq_true rfl) (Nat.le_of_eq (Nat.zero_add _)) (Nat.le_of_eq (Nat.zero_add _)) (fun _ _ q => q.elim) ?_
          rintro _ h1 ⟨t9, b8, rfl, ht, p1, g1⟩
          have H1 : zMod G h1 ma S t9 := H.obj (nu := S.2.2.2.2) (th' := t9) p1 g1
          have fz1 : zMfr ma h h1 := zMfr.of0 g1
          obtain ⟨-, n2, ⟨gg, n3, n3a⟩, n4, ⟨f61, n5, n5a⟩, n6, n7⟩ := id H1
          unfold zMfs at n2
          refine z_if_eq (tgt := 45) dMod_appendAt_40 (by decide) (by omega) (fun c40 => ?_) (fun c40 => ?_)
          · exfalso; omega
          · refine z_iconst dMod_appendAt_43 ?_
            refine z_iret rfl rfl dMod_appendAt_44 ?_
            rcases (show t9 = 0 ∨ t9 = 1 ∨ t9 = 2 ∨ t9 = 3 by omega) with t0 | t0 | t0 | t0
            all_goals first
              | (exfalso; omega)
              | exact zQm.okB H3 (hq9.imp id (fun x9 => ⟨x9.1.up H1 fz1, x9.2⟩)) (by omega) (by assumption) (by unfold sp_appendAt; (try unfold spPut); (try simp only [Int.toNat_natCast]); (repeat (first | rw [if_pos (by omega)] | rw [if_neg (by omega)] | rw [if_pos (by assumption)] | rw [if_neg (by assumption)] | rw [if_pos (True.intro : True)])); (try (first | rfl | (congr 2; omega) | (congr 1; congr 1; omega))); done)
              | exact zQm.ok H3 (by omega) (by assumption) (by unfold sp_appendAt; (try unfold spPut); (try simp only [Int.toNat_natCast]); (repeat (first | rw [if_pos (by omega)] | rw [if_neg (by omega)] | rw [if_pos (by assumption)] | rw [if_neg (by assumption)] | rw [if_pos (True.intro : True)])); (try (first | rfl | (congr 2; omega) | (congr 1; congr 1; omega))); done)
              | exact zQm.b1 H3 (by omega) (by assumption) (by unfold sp_appendAt; (try unfold spPut); (try simp only [Int.toNat_natCast]); (repeat (first | rw [if_pos (by omega)] | rw [if_neg (by omega)] | rw [if_pos (by assumption)] | rw [if_neg (by assumption)] | rw [if_pos (True.intro : True)])); (try (first | rfl | (congr 2; omega) | (congr 1; congr 1; omega))); done)
              | exact zQm.b2 H3 (by omega) (by assumption) (by unfold sp_appendAt; (try unfold spPut); (try simp only [Int.toNat_natCast]); (repeat (first | rw [if_pos (by omega)] | rw [if_neg (by omega)] | rw [if_pos (by assumption)] | rw [if_neg (by assumption)] | rw [if_pos (True.intro : True)])); (try (first | rfl | (congr 2; omega) | (congr 1; congr 1; omega))); done)
              | exact zQm.b3 H3 (by omega) (by assumption) (by unfold sp_appendAt; (try unfold spPut); (try simp only [Int.toNat_natCast]); (repeat (first | rw [if_pos (by omega)] | rw [if_neg (by omega)] | rw [if_pos (by assumption)] | rw [if_neg (by assumption)] | rw [if_pos (True.intro : True)])); (try (first | rfl | (congr 2; omega) | (congr 1; congr 1; omega))); done)
              | exact zQm.ok H1 (by omega) (by assumption) (by unfold sp_appendAt; (try unfold spPut); (try simp only [Int.toNat_natCast]); (repeat (first | rw [if_pos (by omega)] | rw [if_neg (by omega)] | rw [if_pos (by assumption)] | rw [if_neg (by assumption)] | rw [if_pos (True.intro : True)])); (try (first | rfl | (congr 2; omega) | (congr 1; congr 1; omega))); done)
              | exact zQm.b1 H1 (by omega) (by assumption) (by unfold sp_appendAt; (try unfold spPut); (try simp only [Int.toNat_natCast]); (repeat (first | rw [if_pos (by omega)] | rw [if_neg (by omega)] | rw [if_pos (by assumption)] | rw [if_neg (by assumption)] | rw [if_pos (True.intro : True)])); (try (first | rfl | (congr 2; omega) | (congr 1; congr 1; omega))); done)
              | exact zQm.b2 H1 (by omega) (by assumption) (by unfold sp_appendAt; (try unfold spPut); (try simp only [Int.toNat_natCast]); (repeat (first | rw [if_pos (by omega)] | rw [if_neg (by omega)] | rw [if_pos (by assumption)] | rw [if_neg (by assumption)] | rw [if_pos (True.intro : True)])); (try (first | rfl | (congr 2; omega) | (congr 1; congr 1; omega))); done)
              | exact zQm.b3 H1 (by omega) (by assumption) (by unfold sp_appendAt; (try unfold spPut); (try simp only [Int.toNat_natCast]); (repeat (first | rw [if_pos (by omega)] | rw [if_neg (by omega)] | rw [if_pos (by assumption)] | rw [if_neg (by assumption)] | rw [if_pos (True.intro : True)])); (try (first | rfl | (congr 2; omega) | (congr 1; congr 1; omega))); done)
        · exfalso; omega
      · obtain ⟨j, rfl⟩ := Int.eq_ofNat_of_zero_le (show 0 ≤ f by omega)
        have hkj : j < 4 := by omega
        refine z_if_ne (tgt := 30) dMod_appendAt_12 (by decide) (by omega) (fun c12 => ?_) (fun c12 => ?_)
        · exfalso; omega
        · obtain ⟨frk, rk1, rk2, rk3, rk4⟩ := id (m6 k (by omega))
          refine z_iload_n dMod_appendAt_15 rfl ?_
          refine z_iconst dMod_appendAt_16 ?_
          refine z_aload_n dMod_appendAt_17 rfl ?_
          refine z_get (k := 0) fd_Mod (by decide) fl_Mod_11 dMod_appendAt_18 (by assumption) (by rfl) ?_
          refine z_iload_n dMod_appendAt_21 rfl ?_
          refine z_aald (t := 4) (ty := .array .int) rfl rfl dMod_appendAt_22 m3 (by refine ⟨?_, ?_, ?_⟩ <;> omega) ?_
          rw [show (k : Int).toNat = k from rfl, m3a k (by omega)]
          refine z_alenI dMod_appendAt_23 (by assumption) ?_
          refine z_callS MS_Mod_isOut lk_Mod_41 dMod_appendAt_24 (k_Mod_isOut (by omega) (by omega) (by omega)) rfl rfl (Nat.le_of_ble_eq_true rfl)  (Nat.le_of_ble_eq_true rfl) (Nat.le_of_ble_eq_true rfl) (Nat.le_of_eq (Nat.zero_add _)) (Nat.le_of_eq (Nat.zero_add _)) (fun _ _ q => q.elim) ?_
          rintro _ _ ⟨o9, rfl, (⟨rfl, ho9⟩ | ⟨rfl, ho9⟩), rfl⟩
          · refine z_if_eq (tgt := 34) dMod_appendAt_27 (by decide) (by omega) (fun c27 => ?_) (fun c27 => ?_)
            · exfalso; omega
            · refine z_iconst dMod_appendAt_30 ?_
              refine z_goto (tgt := 35) dMod_appendAt_31 (by decide) ?_
              refine z_iconst dMod_appendAt_35 ?_
              refine z_iconst dMod_appendAt_36 ?_
              refine z_callV MV_Mod_fails lk_Mod_88 dMod_appendAt_37 (k_Mod_fails (by assumption) rfl (by omega) (by omega) (by omega)) rfl rfl (Nat.le_of_ble_eq_true rfl) rfl (by assumption) (Nat.le_of_ble_eq_true rfl) (Nat.le_of_ble_eq_true rfl) (Nat.le_of_eq (Nat.zero_add _)) (Nat.le_of_eq (Nat.zero_add _)) (fun _ _ q => q.elim) ?_
              rintro _ h1 ⟨t9, b8, rfl, ht, p1, g1⟩
              have H1 : zMod G h1 ma S t9 := H.obj (nu := S.2.2.2.2) (th' := t9) p1 g1
              have fz1 : zMfr ma h h1 := zMfr.of0 g1
              obtain ⟨-, n2, ⟨gg, n3, n3a⟩, n4, ⟨f61, n5, n5a⟩, n6, n7⟩ := id H1
              unfold zMfs at n2
              refine z_if_eq (tgt := 45) dMod_appendAt_40 (by decide) (by omega) (fun c40 => ?_) (fun c40 => ?_)
              · exfalso; omega
              · refine z_iconst dMod_appendAt_43 ?_
                refine z_iret rfl rfl dMod_appendAt_44 ?_
                rcases (show t9 = 0 ∨ t9 = 1 ∨ t9 = 2 ∨ t9 = 3 by omega) with t0 | t0 | t0 | t0
                all_goals first
                  | (exfalso; omega)
                  | exact zQm.okB H3 (hq9.imp id (fun x9 => ⟨x9.1.up H1 fz1, x9.2⟩)) (by omega) (by assumption) (by unfold sp_appendAt; (try unfold spPut); (try simp only [Int.toNat_natCast]); (repeat (first | rw [if_pos (by omega)] | rw [if_neg (by omega)] | rw [if_pos (by assumption)] | rw [if_neg (by assumption)] | rw [if_pos (True.intro : True)])); (try (first | rfl | (congr 2; omega) | (congr 1; congr 1; omega))); done)
                  | exact zQm.ok H3 (by omega) (by assumption) (by unfold sp_appendAt; (try unfold spPut); (try simp only [Int.toNat_natCast]); (repeat (first | rw [if_pos (by omega)] | rw [if_neg (by omega)] | rw [if_pos (by assumption)] | rw [if_neg (by assumption)] | rw [if_pos (True.intro : True)])); (try (first | rfl | (congr 2; omega) | (congr 1; congr 1; omega))); done)
                  | exact zQm.b1 H3 (by omega) (by assumption) (by unfold sp_appendAt; (try unfold spPut); (try simp only [Int.toNat_natCast]); (repeat (first | rw [if_pos (by omega)] | rw [if_neg (by omega)] | rw [if_pos (by assumption)] | rw [if_neg (by assumption)] | rw [if_pos (True.intro : True)])); (try (first | rfl | (congr 2; omega) | (congr 1; congr 1; omega))); done)
                  | exact zQm.b2 H3 (by omega) (by assumption) (by unfold sp_appendAt; (try unfold spPut); (try simp only [Int.toNat_natCast]); (repeat (first | rw [if_pos (by omega)] | rw [if_neg (by omega)] | rw [if_pos (by assumption)] | rw [if_neg (by assumption)] | rw [if_pos (True.intro : True)])); (try (first | rfl | (congr 2; omega) | (congr 1; congr 1; omega))); done)
                  | exact zQm.b3 H3 (by omega) (by assumption) (by unfold sp_appendAt; (try unfold spPut); (try simp only [Int.toNat_natCast]); (repeat (first | rw [if_pos (by omega)] | rw [if_neg (by omega)] | rw [if_pos (by assumption)] | rw [if_neg (by assumption)] | rw [if_pos (True.intro : True)])); (try (first | rfl | (congr 2; omega) | (congr 1; congr 1; omega))); done)
                  | exact zQm.ok H1 (by omega) (by assumption) (by unfold sp_appendAt; (try unfold spPut); (try simp only [Int.toNat_natCast]); (repeat (first | rw [if_pos (by omega)] | rw [if_neg (by omega)] | rw [if_pos (by assumption)] | rw [if_neg (by assumption)] | rw [if_pos (True.intro : True)])); (try (first | rfl | (congr 2; omega) | (congr 1; congr 1; omega))); done)
                  | exact zQm.b1 H1 (by omega) (by assumption) (by unfold sp_appendAt; (try unfold spPut); (try simp only [Int.toNat_natCast]); (repeat (first | rw [if_pos (by omega)] | rw [if_neg (by omega)] | rw [if_pos (by assumption)] | rw [if_neg (by assumption)] | rw [if_pos (True.intro : True)])); (try (first | rfl | (congr 2; omega) | (congr 1; congr 1; omega))); done)
                  | exact zQm.b2 H1 (by omega) (by assumption) (by unfold sp_appendAt; (try unfold spPut); (try simp only [Int.toNat_natCast]); (repeat (first | rw [if_pos (by omega)] | rw [if_neg (by omega)] | rw [if_pos (by assumption)] | rw [if_neg (by assumption)] | rw [if_pos (True.intro : True)])); (try (first | rfl | (congr 2; omega) | (congr 1; congr 1; omega))); done)
                  | exact zQm.b3 H1 (by omega) (by assumption) (by unfold sp_appendAt; (try unfold spPut); (try simp only [Int.toNat_natCast]); (repeat (first | rw [if_pos (by omega)] | rw [if_neg (by omega)] | rw [if_pos (by assumption)] | rw [if_neg (by assumption)] | rw [if_pos (True.intro : True)])); (try (first | rfl | (congr 2; omega) | (congr 1; congr 1; omega))); done)
          · refine z_if_eq (tgt := 34) dMod_appendAt_27 (by decide) (by omega) (fun c27 => ?_) (fun c27 => ?_)
            · refine z_iconst dMod_appendAt_34 ?_
              refine z_iconst dMod_appendAt_35 ?_
              refine z_iconst dMod_appendAt_36 ?_
              refine z_callV MV_Mod_fails lk_Mod_88 dMod_appendAt_37 (k_Mod_fails (by assumption) rfl (by omega) (by omega) (by omega)) rfl rfl (Nat.le_of_ble_eq_true rfl) rfl (by assumption) (Nat.le_of_ble_eq_true rfl) (Nat.le_of_ble_eq_true rfl) (Nat.le_of_eq (Nat.zero_add _)) (Nat.le_of_eq (Nat.zero_add _)) (fun _ _ q => q.elim) ?_
              rintro _ h1 ⟨t9, b8, rfl, ht, p1, g1⟩
              have H1 : zMod G h1 ma S t9 := H.obj (nu := S.2.2.2.2) (th' := t9) p1 g1
              have fz1 : zMfr ma h h1 := zMfr.of0 g1
              obtain ⟨-, n2, ⟨gg, n3, n3a⟩, n4, ⟨f61, n5, n5a⟩, n6, n7⟩ := id H1
              unfold zMfs at n2
              refine z_if_eq (tgt := 45) dMod_appendAt_40 (by decide) (by omega) (fun c40 => ?_) (fun c40 => ?_)
              · obtain ⟨frk, rk1, rk2, rk3, rk4⟩ := id (n6 k (by omega))
                have h16k := h16 k (by omega)
                have ezk : ∀ i : Int, 0 ≤ i → i < ((S.1 k).length : Int) → frk i.toNat = zAt (S.1 k) i := fun i x1 x2 => by rw [rk3 _ (by omega), zAt_eq x1 x2]
                obtain ⟨frj, rj1, rj2, rj3, rj4⟩ := id (n6 j (by omega))
                have h16j := h16 j (by omega)
                have ezj : ∀ i : Int, 0 ≤ i → i < ((S.1 j).length : Int) → frj i.toNat = zAt (S.1 j) i := fun i x1 x2 => by rw [rj3 _ (by omega), zAt_eq x1 x2]
                refine z_aload_n dMod_appendAt_45 rfl ?_
                refine z_iload_n dMod_appendAt_46 rfl ?_
                refine z_iload_n dMod_appendAt_47 rfl ?_
                refine z_iload_n dMod_appendAt_48 rfl ?_
                refine z_callV (bc' := 0) (bs' := 0) MV_Mod_joins lk_Mod_122 dMod_appendAt_49 (k_Mod_joins H1 (by omega) (by omega) (by omega) h16) rfl rfl (Nat.le_of_ble_eq_true rfl) rfl (by assumption) (Nat.le_of_ble_eq_true rfl) (Nat.le_of_ble_eq_true rfl) (by decide) (by decide) (fun _ _ q => q.elim) ?_
                rintro _ h3 ⟨fj, (⟨hle, rfl, q9, hq9, H3⟩ | ⟨hle, rfl, H3⟩)⟩
                all_goals have fz3 : zMfr ma h h3 := fz1.tr fj
                · refine z_iret rfl rfl dMod_appendAt_52 ?_
                  rcases (show t9 = 0 ∨ t9 = 1 ∨ t9 = 2 ∨ t9 = 3 by omega) with t0 | t0 | t0 | t0
                  all_goals first
                    | (exfalso; omega)
                    | exact zQm.okB H3 (hq9.imp id (fun x9 => ⟨x9.1.up H1 fz1, x9.2⟩)) (by omega) (by assumption) (by unfold sp_appendAt; (try unfold spPut); (try simp only [Int.toNat_natCast]); (repeat (first | rw [if_pos (by omega)] | rw [if_neg (by omega)] | rw [if_pos (by assumption)] | rw [if_neg (by assumption)] | rw [if_pos (True.intro : True)])); (try (first | rfl | (congr 2; omega) | (congr 1; congr 1; omega))); done)
                    | exact zQm.ok H3 (by omega) (by assumption) (by unfold sp_appendAt; (try unfold spPut); (try simp only [Int.toNat_natCast]); (repeat (first | rw [if_pos (by omega)] | rw [if_neg (by omega)] | rw [if_pos (by assumption)] | rw [if_neg (by assumption)] | rw [if_pos (True.intro : True)])); (try (first | rfl | (congr 2; omega) | (congr 1; congr 1; omega))); done)
                    | exact zQm.b1 H3 (by omega) (by assumption) (by unfold sp_appendAt; (try unfold spPut); (try simp only [Int.toNat_natCast]); (repeat (first | rw [if_pos (by omega)] | rw [if_neg (by omega)] | rw [if_pos (by assumption)] | rw [if_neg (by assumption)] | rw [if_pos (True.intro : True)])); (try (first | rfl | (congr 2; omega) | (congr 1; congr 1; omega))); done)
                    | exact zQm.b2 H3 (by omega) (by assumption) (by unfold sp_appendAt; (try unfold spPut); (try simp only [Int.toNat_natCast]); (repeat (first | rw [if_pos (by omega)] | rw [if_neg (by omega)] | rw [if_pos (by assumption)] | rw [if_neg (by assumption)] | rw [if_pos (True.intro : True)])); (try (first | rfl | (congr 2; omega) | (congr 1; congr 1; omega))); done)
                    | exact zQm.b3 H3 (by omega) (by assumption) (by unfold sp_appendAt; (try unfold spPut); (try simp only [Int.toNat_natCast]); (repeat (first | rw [if_pos (by omega)] | rw [if_neg (by omega)] | rw [if_pos (by assumption)] | rw [if_neg (by assumption)] | rw [if_pos (True.intro : True)])); (try (first | rfl | (congr 2; omega) | (congr 1; congr 1; omega))); done)
                    | exact zQm.ok H1 (by omega) (by assumption) (by unfold sp_appendAt; (try unfold spPut); (try simp only [Int.toNat_natCast]); (repeat (first | rw [if_pos (by omega)] | rw [if_neg (by omega)] | rw [if_pos (by assumption)] | rw [if_neg (by assumption)] | rw [if_pos (True.intro : True)])); (try (first | rfl | (congr 2; omega) | (congr 1; congr 1; omega))); done)
                    | exact zQm.b1 H1 (by omega) (by assumption) (by unfold sp_appendAt; (try unfold spPut); (try simp only [Int.toNat_natCast]); (repeat (first | rw [if_pos (by omega)] | rw [if_neg (by omega)] | rw [if_pos (by assumption)] | rw [if_neg (by assumption)] | rw [if_pos (True.intro : True)])); (try (first | rfl | (congr 2; omega) | (congr 1; congr 1; omega))); done)
                    | exact zQm.b2 H1 (by omega) (by assumption) (by unfold sp_appendAt; (try unfold spPut); (try simp only [Int.toNat_natCast]); (repeat (first | rw [if_pos (by omega)] | rw [if_neg (by omega)] | rw [if_pos (by assumption)] | rw [if_neg (by assumption)] | rw [if_pos (True.intro : True)])); (try (first | rfl | (congr 2; omega) | (congr 1; congr 1; omega))); done)
                    | exact zQm.b3 H1 (by omega) (by assumption) (by unfold sp_appendAt; (try unfold spPut); (try simp only [Int.toNat_natCast]); (repeat (first | rw [if_pos (by omega)] | rw [if_neg (by omega)] | rw [if_pos (by assumption)] | rw [if_neg (by assumption)] | rw [if_pos (True.intro : True)])); (try (first | rfl | (congr 2; omega) | (congr 1; congr 1; omega))); done)
                · refine z_iret rfl rfl dMod_appendAt_52 ?_
                  rcases (show t9 = 0 ∨ t9 = 1 ∨ t9 = 2 ∨ t9 = 3 by omega) with t0 | t0 | t0 | t0
                  all_goals first
                    | (exfalso; omega)
                    | exact zQm.okB H3 (hq9.imp id (fun x9 => ⟨x9.1.up H1 fz1, x9.2⟩)) (by omega) (by assumption) (by unfold sp_appendAt; (try unfold spPut); (try simp only [Int.toNat_natCast]); (repeat (first | rw [if_pos (by omega)] | rw [if_neg (by omega)] | rw [if_pos (by assumption)] | rw [if_neg (by assumption)] | rw [if_pos (True.intro : True)])); (try (first | rfl | (congr 2; omega) | (congr 1; congr 1; omega))); done)
                    | exact zQm.ok H3 (by omega) (by assumption) (by unfold sp_appendAt; (try unfold spPut); (try simp only [Int.toNat_natCast]); (repeat (first | rw [if_pos (by omega)] | rw [if_neg (by omega)] | rw [if_pos (by assumption)] | rw [if_neg (by assumption)] | rw [if_pos (True.intro : True)])); (try (first | rfl | (congr 2; omega) | (congr 1; congr 1; omega))); done)
                    | exact zQm.b1 H3 (by omega) (by assumption) (by unfold sp_appendAt; (try unfold spPut); (try simp only [Int.toNat_natCast]); (repeat (first | rw [if_pos (by omega)] | rw [if_neg (by omega)] | rw [if_pos (by assumption)] | rw [if_neg (by assumption)] | rw [if_pos (True.intro : True)])); (try (first | rfl | (congr 2; omega) | (congr 1; congr 1; omega))); done)
                    | exact zQm.b2 H3 (by omega) (by assumption) (by unfold sp_appendAt; (try unfold spPut); (try simp only [Int.toNat_natCast]); (repeat (first | rw [if_pos (by omega)] | rw [if_neg (by omega)] | rw [if_pos (by assumption)] | rw [if_neg (by assumption)] | rw [if_pos (True.intro : True)])); (try (first | rfl | (congr 2; omega) | (congr 1; congr 1; omega))); done)
                    | exact zQm.b3 H3 (by omega) (by assumption) (by unfold sp_appendAt; (try unfold spPut); (try simp only [Int.toNat_natCast]); (repeat (first | rw [if_pos (by omega)] | rw [if_neg (by omega)] | rw [if_pos (by assumption)] | rw [if_neg (by assumption)] | rw [if_pos (True.intro : True)])); (try (first | rfl | (congr 2; omega) | (congr 1; congr 1; omega))); done)
                    | exact zQm.ok H1 (by omega) (by assumption) (by unfold sp_appendAt; (try unfold spPut); (try simp only [Int.toNat_natCast]); (repeat (first | rw [if_pos (by omega)] | rw [if_neg (by omega)] | rw [if_pos (by assumption)] | rw [if_neg (by assumption)] | rw [if_pos (True.intro : True)])); (try (first | rfl | (congr 2; omega) | (congr 1; congr 1; omega))); done)
                    | exact zQm.b1 H1 (by omega) (by assumption) (by unfold sp_appendAt; (try unfold spPut); (try simp only [Int.toNat_natCast]); (repeat (first | rw [if_pos (by omega)] | rw [if_neg (by omega)] | rw [if_pos (by assumption)] | rw [if_neg (by assumption)] | rw [if_pos (True.intro : True)])); (try (first | rfl | (congr 2; omega) | (congr 1; congr 1; omega))); done)
                    | exact zQm.b2 H1 (by omega) (by assumption) (by unfold sp_appendAt; (try unfold spPut); (try simp only [Int.toNat_natCast]); (repeat (first | rw [if_pos (by omega)] | rw [if_neg (by omega)] | rw [if_pos (by assumption)] | rw [if_neg (by assumption)] | rw [if_pos (True.intro : True)])); (try (first | rfl | (congr 2; omega) | (congr 1; congr 1; omega))); done)
                    | exact zQm.b3 H1 (by omega) (by assumption) (by unfold sp_appendAt; (try unfold spPut); (try simp only [Int.toNat_natCast]); (repeat (first | rw [if_pos (by omega)] | rw [if_neg (by omega)] | rw [if_pos (by assumption)] | rw [if_neg (by assumption)] | rw [if_pos (True.intro : True)])); (try (first | rfl | (congr 2; omega) | (congr 1; congr 1; omega))); done)
              · refine z_iconst dMod_appendAt_43 ?_
                refine z_iret rfl rfl dMod_appendAt_44 ?_
                rcases (show t9 = 0 ∨ t9 = 1 ∨ t9 = 2 ∨ t9 = 3 by omega) with t0 | t0 | t0 | t0
                all_goals first
                  | (exfalso; omega)
                  | exact zQm.okB H3 (hq9.imp id (fun x9 => ⟨x9.1.up H1 fz1, x9.2⟩)) (by omega) (by assumption) (by unfold sp_appendAt; (try unfold spPut); (try simp only [Int.toNat_natCast]); (repeat (first | rw [if_pos (by omega)] | rw [if_neg (by omega)] | rw [if_pos (by assumption)] | rw [if_neg (by assumption)] | rw [if_pos (True.intro : True)])); (try (first | rfl | (congr 2; omega) | (congr 1; congr 1; omega))); done)
                  | exact zQm.ok H3 (by omega) (by assumption) (by unfold sp_appendAt; (try unfold spPut); (try simp only [Int.toNat_natCast]); (repeat (first | rw [if_pos (by omega)] | rw [if_neg (by omega)] | rw [if_pos (by assumption)] | rw [if_neg (by assumption)] | rw [if_pos (True.intro : True)])); (try (first | rfl | (congr 2; omega) | (congr 1; congr 1; omega))); done)
                  | exact zQm.b1 H3 (by omega) (by assumption) (by unfold sp_appendAt; (try unfold spPut); (try simp only [Int.toNat_natCast]); (repeat (first | rw [if_pos (by omega)] | rw [if_neg (by omega)] | rw [if_pos (by assumption)] | rw [if_neg (by assumption)] | rw [if_pos (True.intro : True)])); (try (first | rfl | (congr 2; omega) | (congr 1; congr 1; omega))); done)
                  | exact zQm.b2 H3 (by omega) (by assumption) (by unfold sp_appendAt; (try unfold spPut); (try simp only [Int.toNat_natCast]); (repeat (first | rw [if_pos (by omega)] | rw [if_neg (by omega)] | rw [if_pos (by assumption)] | rw [if_neg (by assumption)] | rw [if_pos (True.intro : True)])); (try (first | rfl | (congr 2; omega) | (congr 1; congr 1; omega))); done)
                  | exact zQm.b3 H3 (by omega) (by assumption) (by unfold sp_appendAt; (try unfold spPut); (try simp only [Int.toNat_natCast]); (repeat (first | rw [if_pos (by omega)] | rw [if_neg (by omega)] | rw [if_pos (by assumption)] | rw [if_neg (by assumption)] | rw [if_pos (True.intro : True)])); (try (first | rfl | (congr 2; omega) | (congr 1; congr 1; omega))); done)
                  | exact zQm.ok H1 (by omega) (by assumption) (by unfold sp_appendAt; (try unfold spPut); (try simp only [Int.toNat_natCast]); (repeat (first | rw [if_pos (by omega)] | rw [if_neg (by omega)] | rw [if_pos (by assumption)] | rw [if_neg (by assumption)] | rw [if_pos (True.intro : True)])); (try (first | rfl | (congr 2; omega) | (congr 1; congr 1; omega))); done)
                  | exact zQm.b1 H1 (by omega) (by assumption) (by unfold sp_appendAt; (try unfold spPut); (try simp only [Int.toNat_natCast]); (repeat (first | rw [if_pos (by omega)] | rw [if_neg (by omega)] | rw [if_pos (by assumption)] | rw [if_neg (by assumption)] | rw [if_pos (True.intro : True)])); (try (first | rfl | (congr 2; omega) | (congr 1; congr 1; omega))); done)
                  | exact zQm.b2 H1 (by omega) (by assumption) (by unfold sp_appendAt; (try unfold spPut); (try simp only [Int.toNat_natCast]); (repeat (first | rw [if_pos (by omega)] | rw [if_neg (by omega)] | rw [if_pos (by assumption)] | rw [if_neg (by assumption)] | rw [if_pos (True.intro : True)])); (try (first | rfl | (congr 2; omega) | (congr 1; congr 1; omega))); done)
                  | exact zQm.b3 H1 (by omega) (by assumption) (by unfold sp_appendAt; (try unfold spPut); (try simp only [Int.toNat_natCast]); (repeat (first | rw [if_pos (by omega)] | rw [if_neg (by omega)] | rw [if_pos (by assumption)] | rw [if_neg (by assumption)] | rw [if_pos (True.intro : True)])); (try (first | rfl | (congr 2; omega) | (congr 1; congr 1; omega))); done)
            · exfalso; omega
theorem k_Mod_copy {p i : Int} (H : zMod G h ma S th) (z_p : zI32 p) (z_i : zI32 i) (h16 : ∀ k, k < 4 → (S.1 k).length ≤ 16) : zM G l hMod_copy yMod_copy 4 [.ref (ma 0), zi p, zi i] h (zQm G ma h (1) (2) (3) (sp_copy S p i)) zNo 17 976 := by
  obtain ⟨m1, m2, ⟨g, m3, m3a⟩, m4, ⟨f6, m5, m5a⟩, m6, m7⟩ := id H
  unfold zMfs at m2
  refine zM.of [some (.ref (ma 0)), some (zi p), some (zi i)] (by decide +kernel) rfl (by decide) rfl (Nat.le_of_ble_eq_true rfl) rfl ?_
  refine z_aload_n dMod_copy_0 rfl ?_
  refine z_iload_n dMod_copy_1 rfl ?_
  refine z_callS MS_Mod_isNo lk_Mod_81 dMod_copy_2 (k_Mod_isNo (by omega)) rfl rfl (Nat.le_of_ble_eq_true rfl)  (Nat.le_of_ble_eq_true rfl) (Nat.le_of_ble_eq_true rfl) (Nat.le_of_eq (Nat.zero_add _)) (Nat.le_of_eq (Nat.zero_add _)) (fun _ _ q => q.elim) ?_
  rintro _ _ ⟨n9k, rfl, (⟨rfl, hn9k⟩ | ⟨rfl, hn9k⟩), rfl⟩
  · refine z_if_ne (tgt := 15) dMod_copy_5 (by decide) (by omega) (fun c5 => ?_) (fun c5 => ?_)
    · refine z_iconst dMod_copy_15 ?_
      refine z_goto (tgt := 20) dMod_copy_16 (by decide) ?_
      refine z_iconst dMod_copy_20 ?_
      refine z_iconst dMod_copy_21 ?_
      refine z_callV MV_Mod_fails lk_Mod_88 dMod_copy_22 (k_Mod_fails (by assumption) rfl (by omega) (by omega) (by omega)) rfl rfl (Nat.le_of_ble_eq_true rfl) rfl (by assumption) (Nat.le_of_ble_eq_true rfl) (Nat.le_of_ble_eq_true rfl) (Nat.le_of_eq (Nat.zero_add _)) (Nat.le_of_eq (Nat.zero_add _)) (fun _ _ q => q.elim) ?_
      rintro _ h1 ⟨t9, b8, rfl, ht, p1, g1⟩
      have H1 : zMod G h1 ma S t9 := H.obj (nu := S.2.2.2.2) (th' := t9) p1 g1
      have fz1 : zMfr ma h h1 := zMfr.of0 g1
      obtain ⟨-, n2, ⟨gg, n3, n3a⟩, n4, ⟨f61, n5, n5a⟩, n6, n7⟩ := id H1
      unfold zMfs at n2
      refine z_if_eq (tgt := 32) dMod_copy_25 (by decide) (by omega) (fun c25 => ?_) (fun c25 => ?_)
      · exfalso; omega
      · refine z_iconst dMod_copy_28 ?_
        refine z_goto (tgt := 46) dMod_copy_29 (by decide) ?_
        refine z_iret rfl rfl dMod_copy_46 ?_
        rcases (show t9 = 0 ∨ t9 = 1 ∨ t9 = 2 ∨ t9 = 3 by omega) with t0 | t0 | t0 | t0
        all_goals first
          | (exfalso; omega)
          | exact zQm.okB H3 (Or.inr ⟨dq2, gq2⟩) (by omega) (by assumption) (by unfold sp_copy; (try unfold spPut); (try simp only [Int.toNat_natCast]); (repeat (first | rw [if_pos (by omega)] | rw [if_neg (by omega)] | rw [if_pos (by assumption)] | rw [if_neg (by assumption)] | rw [if_pos (True.intro : True)])); (try (first | rfl | (congr 2; omega) | (congr 1; congr 1; omega))); done)
          | exact zQm.ok H2 (by omega) (by assumption) (by unfold sp_copy; (try unfold spPut); (try simp only [Int.toNat_natCast]); (repeat (first | rw [if_pos (by omega)] | rw [if_neg (by omega)] | rw [if_pos (by assumption)] | rw [if_neg (by assumption)] | rw [if_pos (True.intro : True)])); (try (first | rfl | (congr 2; omega) | (congr 1; congr 1; omega))); done)
          | exact zQm.b1 H2 (by omega) (by assumption) (by unfold sp_copy; (try unfold spPut); (try simp only [Int.toNat_natCast]); (repeat (first | rw [if_pos (by omega)] | rw [if_neg (by omega)] | rw [if_pos (by assumption)] | rw [if_neg (by assumption)] | rw [if_pos (True.intro : True)])); (try (first | rfl | (congr 2; omega) | (congr 1; congr 1; omega))); done)
          | exact zQm.b2 H2 (by omega) (by assumption) (by unfold sp_copy; (try unfold spPut); (try simp only [Int.toNat_natCast]); (repeat (first | rw [if_pos (by omega)] | rw [if_neg (by omega)] | rw [if_pos (by assumption)] | rw [if_neg (by assumption)] | rw [if_pos (True.intro : True)])); (try (first | rfl | (congr 2; omega) | (congr 1; congr 1; omega))); done)
          | exact zQm.b3 H2 (by omega) (by assumption) (by unfold sp_copy; (try unfold spPut); (try simp only [Int.toNat_natCast]); (repeat (first | rw [if_pos (by omega)] | rw [if_neg (by omega)] | rw [if_pos (by assumption)] | rw [if_neg (by assumption)] | rw [if_pos (True.intro : True)])); (try (first | rfl | (congr 2; omega) | (congr 1; congr 1; omega))); done)
          | exact zQm.ok H1 (by omega) (by assumption) (by unfold sp_copy; (try unfold spPut); (try simp only [Int.toNat_natCast]); (repeat (first | rw [if_pos (by omega)] | rw [if_neg (by omega)] | rw [if_pos (by assumption)] | rw [if_neg (by assumption)] | rw [if_pos (True.intro : True)])); (try (first | rfl | (congr 2; omega) | (congr 1; congr 1; omega))); done)
          | exact zQm.b1 H1 (by omega) (by assumption) (by unfold sp_copy; (try unfold spPut); (try simp only [Int.toNat_natCast]); (repeat (first | rw [if_pos (by omega)] | rw [if_neg (by omega)] | rw [if_pos (by assumption)] | rw [if_neg (by assumption)] | rw [if_pos (True.intro : True)])); (try (first | rfl | (congr 2; omega) | (congr 1; congr 1; omega))); done)
          | exact zQm.b2 H1 (by omega) (by assumption) (by unfold sp_copy; (try unfold spPut); (try simp only [Int.toNat_natCast]); (repeat (first | rw [if_pos (by omega)] | rw [if_neg (by omega)] | rw [if_pos (by assumption)] | rw [if_neg (by assumption)] | rw [if_pos (True.intro : True)])); (try (first | rfl | (congr 2; omega) | (congr 1; congr 1; omega))); done)
          | exact zQm.b3 H1 (by omega) (by assumption) (by unfold sp_copy; (try unfold spPut); (try simp only [Int.toNat_natCast]); (repeat (first | rw [if_pos (by omega)] | rw [if_neg (by omega)] | rw [if_pos (by assumption)] | rw [if_neg (by assumption)] | rw [if_pos (True.intro : True)])); (try (first | rfl | (congr 2; omega) | (congr 1; congr 1; omega))); done)
    · exfalso; omega
  · obtain ⟨k, rfl⟩ := Int.eq_ofNat_of_zero_le (show 0 ≤ p by omega)
    have hkk : k < 4 := by omega
    refine z_if_ne (tgt := 15) dMod_copy_5 (by decide) (by omega) (fun c5 => ?_) (fun c5 => ?_)
    · exfalso; omega
    · refine z_iload_n dMod_copy_8 rfl ?_
      refine z_callS MS_Mod_isNo lk_Mod_81 dMod_copy_9 (k_Mod_isNo (by omega)) rfl rfl (Nat.le_of_ble_eq_true rfl)  (Nat.le_of_ble_eq_true rfl) (Nat.le_of_ble_eq_true rfl) (Nat.le_of_eq (Nat.zero_add _)) (Nat.le_of_eq (Nat.zero_add _)) (fun _ _ q => q.elim) ?_
      rintro _ _ ⟨n9j, rfl, (⟨rfl, hn9j⟩ | ⟨rfl, hn9j⟩), rfl⟩
      · refine z_if_eq (tgt := 19) dMod_copy_12 (by decide) (by omega) (fun c12 => ?_) (fun c12 => ?_)
        · refine z_iconst dMod_copy_19 ?_
          refine z_iconst dMod_copy_20 ?_
          refine z_iconst dMod_copy_21 ?_
          refine z_callV MV_Mod_fails lk_Mod_88 dMod_copy_22 (k_Mod_fails (by assumption) rfl (by omega) (by omega) (by omega)) rfl rfl (Nat.le_of_ble_eq_true rfl) rfl (by assumption) (Nat.le_of_ble_eq_true rfl) (Nat.le_of_ble_eq_true rfl) (Nat.le_of_eq (Nat.zero_add _)) (Nat.le_of_eq (Nat.zero_add _)) (fun _ _ q => q.elim) ?_
          rintro _ h1 ⟨t9, b8, rfl, ht, p1, g1⟩
          have H1 : zMod G h1 ma S t9 := H.obj (nu := S.2.2.2.2) (th' := t9) p1 g1
          have fz1 : zMfr ma h h1 := zMfr.of0 g1
          obtain ⟨-, n2, ⟨gg, n3, n3a⟩, n4, ⟨f61, n5, n5a⟩, n6, n7⟩ := id H1
          unfold zMfs at n2
          refine z_if_eq (tgt := 32) dMod_copy_25 (by decide) (by omega) (fun c25 => ?_) (fun c25 => ?_)
          · exfalso; omega
          · refine z_iconst dMod_copy_28 ?_
            refine z_goto (tgt := 46) dMod_copy_29 (by decide) ?_
            refine z_iret rfl rfl dMod_copy_46 ?_
            rcases (show t9 = 0 ∨ t9 = 1 ∨ t9 = 2 ∨ t9 = 3 by omega) with t0 | t0 | t0 | t0
            all_goals first
              | (exfalso; omega)
              | exact zQm.okB H3 (Or.inr ⟨dq2, gq2⟩) (by omega) (by assumption) (by unfold sp_copy; (try unfold spPut); (try simp only [Int.toNat_natCast]); (repeat (first | rw [if_pos (by omega)] | rw [if_neg (by omega)] | rw [if_pos (by assumption)] | rw [if_neg (by assumption)] | rw [if_pos (True.intro : True)])); (try (first | rfl | (congr 2; omega) | (congr 1; congr 1; omega))); done)
              | exact zQm.ok H2 (by omega) (by assumption) (by unfold sp_copy; (try unfold spPut); (try simp only [Int.toNat_natCast]); (repeat (first | rw [if_pos (by omega)] | rw [if_neg (by omega)] | rw [if_pos (by assumption)] | rw [if_neg (by assumption)] | rw [if_pos (True.intro : True)])); (try (first | rfl | (congr 2; omega) | (congr 1; congr 1; omega))); done)
              | exact zQm.b1 H2 (by omega) (by assumption) (by unfold sp_copy; (try unfold spPut); (try simp only [Int.toNat_natCast]); (repeat (first | rw [if_pos (by omega)] | rw [if_neg (by omega)] | rw [if_pos (by assumption)] | rw [if_neg (by assumption)] | rw [if_pos (True.intro : True)])); (try (first | rfl | (congr 2; omega) | (congr 1; congr 1; omega))); done)
              | exact zQm.b2 H2 (by omega) (by assumption) (by unfold sp_copy; (try unfold spPut); (try simp only [Int.toNat_natCast]); (repeat (first | rw [if_pos (by omega)] | rw [if_neg (by omega)] | rw [if_pos (by assumption)] | rw [if_neg (by assumption)] | rw [if_pos (True.intro : True)])); (try (first | rfl | (congr 2; omega) | (congr 1; congr 1; omega))); done)
              | exact zQm.b3 H2 (by omega) (by assumption) (by unfold sp_copy; (try unfold spPut); (try simp only [Int.toNat_natCast]); (repeat (first | rw [if_pos (by omega)] | rw [if_neg (by omega)] | rw [if_pos (by assumption)] | rw [if_neg (by assumption)] | rw [if_pos (True.intro : True)])); (try (first | rfl | (congr 2; omega) | (congr 1; congr 1; omega))); done)
              | exact zQm.ok H1 (by omega) (by assumption) (by unfold sp_copy; (try unfold spPut); (try simp only [Int.toNat_natCast]); (repeat (first | rw [if_pos (by omega)] | rw [if_neg (by omega)] | rw [if_pos (by assumption)] | rw [if_neg (by assumption)] | rw [if_pos (True.intro : True)])); (try (first | rfl | (congr 2; omega) | (congr 1; congr 1; omega))); done)
              | exact zQm.b1 H1 (by omega) (by assumption) (by unfold sp_copy; (try unfold spPut); (try simp only [Int.toNat_natCast]); (repeat (first | rw [if_pos (by omega)] | rw [if_neg (by omega)] | rw [if_pos (by assumption)] | rw [if_neg (by assumption)] | rw [if_pos (True.intro : True)])); (try (first | rfl | (congr 2; omega) | (congr 1; congr 1; omega))); done)
              | exact zQm.b2 H1 (by omega) (by assumption) (by unfold sp_copy; (try unfold spPut); (try simp only [Int.toNat_natCast]); (repeat (first | rw [if_pos (by omega)] | rw [if_neg (by omega)] | rw [if_pos (by assumption)] | rw [if_neg (by assumption)] | rw [if_pos (True.intro : True)])); (try (first | rfl | (congr 2; omega) | (congr 1; congr 1; omega))); done)
              | exact zQm.b3 H1 (by omega) (by assumption) (by unfold sp_copy; (try unfold spPut); (try simp only [Int.toNat_natCast]); (repeat (first | rw [if_pos (by omega)] | rw [if_neg (by omega)] | rw [if_pos (by assumption)] | rw [if_neg (by assumption)] | rw [if_pos (True.intro : True)])); (try (first | rfl | (congr 2; omega) | (congr 1; congr 1; omega))); done)
        · refine z_iconst dMod_copy_15 ?_
          refine z_goto (tgt := 20) dMod_copy_16 (by decide) ?_
          refine z_iconst dMod_copy_20 ?_
          refine z_iconst dMod_copy_21 ?_
          refine z_callV MV_Mod_fails lk_Mod_88 dMod_copy_22 (k_Mod_fails (by assumption) rfl (by omega) (by omega) (by omega)) rfl rfl (Nat.le_of_ble_eq_true rfl) rfl (by assumption) (Nat.le_of_ble_eq_true rfl) (Nat.le_of_ble_eq_true rfl) (Nat.le_of_eq (Nat.zero_add _)) (Nat.le_of_eq (Nat.zero_add _)) (fun _ _ q => q.elim) ?_
          rintro _ h1 ⟨t9, b8, rfl, ht, p1, g1⟩
          have H1 : zMod G h1 ma S t9 := H.obj (nu := S.2.2.2.2) (th' := t9) p1 g1
          have fz1 : zMfr ma h h1 := zMfr.of0 g1
          obtain ⟨-, n2, ⟨gg, n3, n3a⟩, n4, ⟨f61, n5, n5a⟩, n6, n7⟩ := id H1
          unfold zMfs at n2
          refine z_if_eq (tgt := 32) dMod_copy_25 (by decide) (by omega) (fun c25 => ?_) (fun c25 => ?_)
          · exfalso; omega
          · refine z_iconst dMod_copy_28 ?_
            refine z_goto (tgt := 46) dMod_copy_29 (by decide) ?_
            refine z_iret rfl rfl dMod_copy_46 ?_
            rcases (show t9 = 0 ∨ t9 = 1 ∨ t9 = 2 ∨ t9 = 3 by omega) with t0 | t0 | t0 | t0
            all_goals first
              | (exfalso; omega)
              | exact zQm.okB H3 (Or.inr ⟨dq2, gq2⟩) (by omega) (by assumption) (by unfold sp_copy; (try unfold spPut); (try simp only [Int.toNat_natCast]); (repeat (first | rw [if_pos (by omega)] | rw [if_neg (by omega)] | rw [if_pos (by assumption)] | rw [if_neg (by assumption)] | rw [if_pos (True.intro : True)])); (try (first | rfl | (congr 2; omega) | (congr 1; congr 1; omega))); done)
              | exact zQm.ok H2 (by omega) (by assumption) (by unfold sp_copy; (try unfold spPut); (try simp only [Int.toNat_natCast]); (repeat (first | rw [if_pos (by omega)] | rw [if_neg (by omega)] | rw [if_pos (by assumption)] | rw [if_neg (by assumption)] | rw [if_pos (True.intro : True)])); (try (first | rfl | (congr 2; omega) | (congr 1; congr 1; omega))); done)
              | exact zQm.b1 H2 (by omega) (by assumption) (by unfold sp_copy; (try unfold spPut); (try simp only [Int.toNat_natCast]); (repeat (first | rw [if_pos (by omega)] | rw [if_neg (by omega)] | rw [if_pos (by assumption)] | rw [if_neg (by assumption)] | rw [if_pos (True.intro : True)])); (try (first | rfl | (congr 2; omega) | (congr 1; congr 1; omega))); done)
              | exact zQm.b2 H2 (by omega) (by assumption) (by unfold sp_copy; (try unfold spPut); (try simp only [Int.toNat_natCast]); (repeat (first | rw [if_pos (by omega)] | rw [if_neg (by omega)] | rw [if_pos (by assumption)] | rw [if_neg (by assumption)] | rw [if_pos (True.intro : True)])); (try (first | rfl | (congr 2; omega) | (congr 1; congr 1; omega))); done)
              | exact zQm.b3 H2 (by omega) (by assumption) (by unfold sp_copy; (try unfold spPut); (try simp only [Int.toNat_natCast]); (repeat (first | rw [if_pos (by omega)] | rw [if_neg (by omega)] | rw [if_pos (by assumption)] | rw [if_neg (by assumption)] | rw [if_pos (True.intro : True)])); (try (first | rfl | (congr 2; omega) | (congr 1; congr 1; omega))); done)
              | exact zQm.ok H1 (by omega) (by assumption) (by unfold sp_copy; (try unfold spPut); (try simp only [Int.toNat_natCast]); (repeat (first | rw [if_pos (by omega)] | rw [if_neg (by omega)] | rw [if_pos (by assumption)] | rw [if_neg (by assumption)] | rw [if_pos (True.intro : True)])); (try (first | rfl | (congr 2; omega) | (congr 1; congr 1; omega))); done)
              | exact zQm.b1 H1 (by omega) (by assumption) (by unfold sp_copy; (try unfold spPut); (try simp only [Int.toNat_natCast]); (repeat (first | rw [if_pos (by omega)] | rw [if_neg (by omega)] | rw [if_pos (by assumption)] | rw [if_neg (by assumption)] | rw [if_pos (True.intro : True)])); (try (first | rfl | (congr 2; omega) | (congr 1; congr 1; omega))); done)
              | exact zQm.b2 H1 (by omega) (by assumption) (by unfold sp_copy; (try unfold spPut); (try simp only [Int.toNat_natCast]); (repeat (first | rw [if_pos (by omega)] | rw [if_neg (by omega)] | rw [if_pos (by assumption)] | rw [if_neg (by assumption)] | rw [if_pos (True.intro : True)])); (try (first | rfl | (congr 2; omega) | (congr 1; congr 1; omega))); done)
              | exact zQm.b3 H1 (by omega) (by assumption) (by unfold sp_copy; (try unfold spPut); (try simp only [Int.toNat_natCast]); (repeat (first | rw [if_pos (by omega)] | rw [if_neg (by omega)] | rw [if_pos (by assumption)] | rw [if_neg (by assumption)] | rw [if_pos (True.intro : True)])); (try (first | rfl | (congr 2; omega) | (congr 1; congr 1; omega))); done)
      · obtain ⟨j, rfl⟩ := Int.eq_ofNat_of_zero_le (show 0 ≤ i by omega)
        have hkj : j < 4 := by omega
        refine z_if_eq (tgt := 19) dMod_copy_12 (by decide) (by omega) (fun c12 => ?_) (fun c12 => ?_)
        · refine z_iconst dMod_copy_19 ?_
          refine z_iconst dMod_copy_20 ?_
          refine z_iconst dMod_copy_21 ?_
          refine z_callV MV_Mod_fails lk_Mod_88 dMod_copy_22 (k_Mod_fails (by assumption) rfl (by omega) (by omega) (by omega)) rfl rfl (Nat.le_of_ble_eq_true rfl) rfl (by assumption) (Nat.le_of_ble_eq_true rfl) (Nat.le_of_ble_eq_true rfl) (Nat.le_of_eq (Nat.zero_add _)) (Nat.le_of_eq (Nat.zero_add _)) (fun _ _ q => q.elim) ?_
          rintro _ h1 ⟨t9, b8, rfl, ht, p1, g1⟩
          have H1 : zMod G h1 ma S t9 := H.obj (nu := S.2.2.2.2) (th' := t9) p1 g1
          have fz1 : zMfr ma h h1 := zMfr.of0 g1
          obtain ⟨-, n2, ⟨gg, n3, n3a⟩, n4, ⟨f61, n5, n5a⟩, n6, n7⟩ := id H1
          unfold zMfs at n2
          refine z_if_eq (tgt := 32) dMod_copy_25 (by decide) (by omega) (fun c25 => ?_) (fun c25 => ?_)
          · obtain ⟨frk, rk1, rk2, rk3, rk4⟩ := id (n6 k (by omega))
            have h16k := h16 k (by omega)
            have ezk : ∀ i : Int, 0 ≤ i → i < ((S.1 k).length : Int) → frk i.toNat = zAt (S.1 k) i := fun i x1 x2 => by rw [rk3 _ (by omega), zAt_eq x1 x2]
            obtain ⟨frj, rj1, rj2, rj3, rj4⟩ := id (n6 j (by omega))
            have h16j := h16 j (by omega)
            have ezj : ∀ i : Int, 0 ≤ i → i < ((S.1 j).length : Int) → frj i.toNat = zAt (S.1 j) i := fun i x1 x2 => by rw [rj3 _ (by omega), zAt_eq x1 x2]
            refine z_aload_n dMod_copy_32 rfl ?_
            refine z_iload_n dMod_copy_33 rfl ?_
            refine z_aload_n dMod_copy_34 rfl ?_
            refine z_get (k := 0) fd_Mod (by decide) fl_Mod_11 dMod_copy_35 (by assumption) (by rfl) ?_
            refine z_iload_n dMod_copy_38 rfl ?_
            refine z_aald (t := 4) (ty := .array .int) rfl rfl dMod_copy_39 n3 (by refine ⟨?_, ?_, ?_⟩ <;> omega) ?_
            rw [show (k : Int).toNat = k from rfl, n3a k (by omega)]
            refine z_callS (bc' := 0) (bs' := 0) MS_Mod_copied lk_Mod_130 dMod_copy_40 (k_Mod_copied (n6 k (by omega)) (by omega)) rfl rfl (Nat.le_of_ble_eq_true rfl)  (Nat.le_of_ble_eq_true rfl) (Nat.le_of_ble_eq_true rfl) (by decide) (by decide) (fun _ _ q => q.elim) ?_
            rintro _ h2 ⟨q2, rfl, hq2, gq2, r2, hx2⟩
            have H2 : zMod G h2 ma S t9 := H1.ext hx2
            have fz2 : zMfr ma h h2 := fz1.tr (zMfr.ext hx2)
            have dq2 : zDm h q2 := hq2.up H1 fz1
            have oc2 := H2.2.1
            refine z_callV MV_Mod_becomes lk_Mod_95 dMod_copy_43 (k_Mod_becomes H2 (by omega) r2 (fun i hi _ => H1.nq hq2 hi)) rfl rfl (Nat.le_of_ble_eq_true rfl) rfl (by assumption) (Nat.le_of_ble_eq_true rfl) (Nat.le_of_ble_eq_true rfl) (Nat.le_of_eq (Nat.zero_add _)) (Nat.le_of_eq (Nat.zero_add _)) (fun _ _ q => q.elim) ?_
            rintro _ h3 ⟨rfl, H3, F3⟩
            have fz3 : zMfr ma h h3 := fz2.tr (zMfr.bec F3)
            refine z_iret rfl rfl dMod_copy_46 ?_
            rcases (show t9 = 0 ∨ t9 = 1 ∨ t9 = 2 ∨ t9 = 3 by omega) with t0 | t0 | t0 | t0
            all_goals first
              | (exfalso; omega)
              | exact zQm.okB H3 (Or.inr ⟨dq2, gq2⟩) (by omega) (by assumption) (by unfold sp_copy; (try unfold spPut); (try simp only [Int.toNat_natCast]); (repeat (first | rw [if_pos (by omega)] | rw [if_neg (by omega)] | rw [if_pos (by assumption)] | rw [if_neg (by assumption)] | rw [if_pos (True.intro : True)])); (try (first | rfl | (congr 2; omega) | (congr 1; congr 1; omega))); done)
              | exact zQm.ok H2 (by omega) (by assumption) (by unfold sp_copy; (try unfold spPut); (try simp only [Int.toNat_natCast]); (repeat (first | rw [if_pos (by omega)] | rw [if_neg (by omega)] | rw [if_pos (by assumption)] | rw [if_neg (by assumption)] | rw [if_pos (True.intro : True)])); (try (first | rfl | (congr 2; omega) | (congr 1; congr 1; omega))); done)
              | exact zQm.b1 H2 (by omega) (by assumption) (by unfold sp_copy; (try unfold spPut); (try simp only [Int.toNat_natCast]); (repeat (first | rw [if_pos (by omega)] | rw [if_neg (by omega)] | rw [if_pos (by assumption)] | rw [if_neg (by assumption)] | rw [if_pos (True.intro : True)])); (try (first | rfl | (congr 2; omega) | (congr 1; congr 1; omega))); done)
              | exact zQm.b2 H2 (by omega) (by assumption) (by unfold sp_copy; (try unfold spPut); (try simp only [Int.toNat_natCast]); (repeat (first | rw [if_pos (by omega)] | rw [if_neg (by omega)] | rw [if_pos (by assumption)] | rw [if_neg (by assumption)] | rw [if_pos (True.intro : True)])); (try (first | rfl | (congr 2; omega) | (congr 1; congr 1; omega))); done)
              | exact zQm.b3 H2 (by omega) (by assumption) (by unfold sp_copy; (try unfold spPut); (try simp only [Int.toNat_natCast]); (repeat (first | rw [if_pos (by omega)] | rw [if_neg (by omega)] | rw [if_pos (by assumption)] | rw [if_neg (by assumption)] | rw [if_pos (True.intro : True)])); (try (first | rfl | (congr 2; omega) | (congr 1; congr 1; omega))); done)
              | exact zQm.ok H1 (by omega) (by assumption) (by unfold sp_copy; (try unfold spPut); (try simp only [Int.toNat_natCast]); (repeat (first | rw [if_pos (by omega)] | rw [if_neg (by omega)] | rw [if_pos (by assumption)] | rw [if_neg (by assumption)] | rw [if_pos (True.intro : True)])); (try (first | rfl | (congr 2; omega) | (congr 1; congr 1; omega))); done)
              | exact zQm.b1 H1 (by omega) (by assumption) (by unfold sp_copy; (try unfold spPut); (try simp only [Int.toNat_natCast]); (repeat (first | rw [if_pos (by omega)] | rw [if_neg (by omega)] | rw [if_pos (by assumption)] | rw [if_neg (by assumption)] | rw [if_pos (True.intro : True)])); (try (first | rfl | (congr 2; omega) | (congr 1; congr 1; omega))); done)
              | exact zQm.b2 H1 (by omega) (by assumption) (by unfold sp_copy; (try unfold spPut); (try simp only [Int.toNat_natCast]); (repeat (first | rw [if_pos (by omega)] | rw [if_neg (by omega)] | rw [if_pos (by assumption)] | rw [if_neg (by assumption)] | rw [if_pos (True.intro : True)])); (try (first | rfl | (congr 2; omega) | (congr 1; congr 1; omega))); done)
              | exact zQm.b3 H1 (by omega) (by assumption) (by unfold sp_copy; (try unfold spPut); (try simp only [Int.toNat_natCast]); (repeat (first | rw [if_pos (by omega)] | rw [if_neg (by omega)] | rw [if_pos (by assumption)] | rw [if_neg (by assumption)] | rw [if_pos (True.intro : True)])); (try (first | rfl | (congr 2; omega) | (congr 1; congr 1; omega))); done)
          · refine z_iconst dMod_copy_28 ?_
            refine z_goto (tgt := 46) dMod_copy_29 (by decide) ?_
            refine z_iret rfl rfl dMod_copy_46 ?_
            rcases (show t9 = 0 ∨ t9 = 1 ∨ t9 = 2 ∨ t9 = 3 by omega) with t0 | t0 | t0 | t0
            all_goals first
              | (exfalso; omega)
              | exact zQm.okB H3 (Or.inr ⟨dq2, gq2⟩) (by omega) (by assumption) (by unfold sp_copy; (try unfold spPut); (try simp only [Int.toNat_natCast]); (repeat (first | rw [if_pos (by omega)] | rw [if_neg (by omega)] | rw [if_pos (by assumption)] | rw [if_neg (by assumption)] | rw [if_pos (True.intro : True)])); (try (first | rfl | (congr 2; omega) | (congr 1; congr 1; omega))); done)
              | exact zQm.ok H2 (by omega) (by assumption) (by unfold sp_copy; (try unfold spPut); (try simp only [Int.toNat_natCast]); (repeat (first | rw [if_pos (by omega)] | rw [if_neg (by omega)] | rw [if_pos (by assumption)] | rw [if_neg (by assumption)] | rw [if_pos (True.intro : True)])); (try (first | rfl | (congr 2; omega) | (congr 1; congr 1; omega))); done)
              | exact zQm.b1 H2 (by omega) (by assumption) (by unfold sp_copy; (try unfold spPut); (try simp only [Int.toNat_natCast]); (repeat (first | rw [if_pos (by omega)] | rw [if_neg (by omega)] | rw [if_pos (by assumption)] | rw [if_neg (by assumption)] | rw [if_pos (True.intro : True)])); (try (first | rfl | (congr 2; omega) | (congr 1; congr 1; omega))); done)
              | exact zQm.b2 H2 (by omega) (by assumption) (by unfold sp_copy; (try unfold spPut); (try simp only [Int.toNat_natCast]); (repeat (first | rw [if_pos (by omega)] | rw [if_neg (by omega)] | rw [if_pos (by assumption)] | rw [if_neg (by assumption)] | rw [if_pos (True.intro : True)])); (try (first | rfl | (congr 2; omega) | (congr 1; congr 1; omega))); done)
              | exact zQm.b3 H2 (by omega) (by assumption) (by unfold sp_copy; (try unfold spPut); (try simp only [Int.toNat_natCast]); (repeat (first | rw [if_pos (by omega)] | rw [if_neg (by omega)] | rw [if_pos (by assumption)] | rw [if_neg (by assumption)] | rw [if_pos (True.intro : True)])); (try (first | rfl | (congr 2; omega) | (congr 1; congr 1; omega))); done)
              | exact zQm.ok H1 (by omega) (by assumption) (by unfold sp_copy; (try unfold spPut); (try simp only [Int.toNat_natCast]); (repeat (first | rw [if_pos (by omega)] | rw [if_neg (by omega)] | rw [if_pos (by assumption)] | rw [if_neg (by assumption)] | rw [if_pos (True.intro : True)])); (try (first | rfl | (congr 2; omega) | (congr 1; congr 1; omega))); done)
              | exact zQm.b1 H1 (by omega) (by assumption) (by unfold sp_copy; (try unfold spPut); (try simp only [Int.toNat_natCast]); (repeat (first | rw [if_pos (by omega)] | rw [if_neg (by omega)] | rw [if_pos (by assumption)] | rw [if_neg (by assumption)] | rw [if_pos (True.intro : True)])); (try (first | rfl | (congr 2; omega) | (congr 1; congr 1; omega))); done)
              | exact zQm.b2 H1 (by omega) (by assumption) (by unfold sp_copy; (try unfold spPut); (try simp only [Int.toNat_natCast]); (repeat (first | rw [if_pos (by omega)] | rw [if_neg (by omega)] | rw [if_pos (by assumption)] | rw [if_neg (by assumption)] | rw [if_pos (True.intro : True)])); (try (first | rfl | (congr 2; omega) | (congr 1; congr 1; omega))); done)
              | exact zQm.b3 H1 (by omega) (by assumption) (by unfold sp_copy; (try unfold spPut); (try simp only [Int.toNat_natCast]); (repeat (first | rw [if_pos (by omega)] | rw [if_neg (by omega)] | rw [if_pos (by assumption)] | rw [if_neg (by assumption)] | rw [if_pos (True.intro : True)])); (try (first | rfl | (congr 2; omega) | (congr 1; congr 1; omega))); done)
        · exfalso; omega
end MOD10
end
section
section MOD11
variable {G : zG} {l : Launch} {h h' h'' : zHp} {ma : Nat → Nat} {S : zSt} {th : Int}
theorem zMod.newrow0 {k q : Nat} {L : List Int} (H : zMod G h ma S th) (hk : k < 4) (hq : zAr G h' q L) (nq : ∀ i, i < 13 → i ≠ 8 + k → q ≠ ma i) {g : Nat → Option Nat} (e1 : h' (ma 1) = some (zRefs G 4 4 (zup g k (some q)))) (gg : ∀ j, j < 4 → g j = some (ma (8 + j))) (hf : ∀ z, z ≠ ma 1 → z ≠ q → h' z = h z) : zMod G h' (zup ma (8 + k) q) (zsL S k L) th := by
  obtain ⟨m1, m2, -, ⟨⟨f1, a1, b1⟩, ⟨f2, a2, b2⟩, ⟨f3, a3, b3⟩, ⟨f4, a4, b4⟩, ⟨f5, a5, b5⟩⟩, ⟨f6, m5, m5'⟩, m6, m7⟩ := id H
  have kp : ∀ i, i < 13 → i ≠ 1 → i ≠ 8 + k → h' (ma i) = h (ma i) := fun i hi x1 x4 => hf _ (H.inj hi (by omega) x1) (fun e => nq i hi x4 e.symm)
  have zn : ∀ i, i ≠ 8 + k → zup ma (8 + k) q i = ma i := fun i hi => zup_ne hi
  refine ⟨fun i j hi hj e => ?_, ?_, ⟨zup g k (some q), ?_, fun j hj => ?_⟩, ⟨⟨f1, ?_, b1⟩, ⟨f2, ?_, b2⟩, ⟨f3, ?_, b3⟩, ⟨f4, ?_, b4⟩, ⟨f5, ?_, b5⟩⟩, ⟨f6, ?_, m5'⟩, fun j hj => ?_, ?_⟩
  · by_cases c1 : i = 8 + k
    · by_cases c2 : j = 8 + k
      · omega
      · rw [c1, zup_same, zn j c2] at e
        exact absurd e (nq j hj c2)
    · by_cases c2 : j = 8 + k
      · rw [c2, zup_same, zn i c1] at e
        exact absurd e.symm (nq i hi c1)
      · rw [zn i c1, zn j c2] at e
        exact m1 i j hi hj e
  · rw [zn 0 (by omega)]
    refine ((kp 0 (by omega) (by omega) (by omega)).trans m2).trans ?_
    unfold zMfs
    rw [zn 1 (by omega), zn 2 (by omega), zn 3 (by omega), zn 4 (by omega), zn 5 (by omega), zn 6 (by omega), zn 12 (by omega), zn 7 (by omega)]
    rfl
  · rw [zn 1 (by omega)]; exact e1
  · by_cases c1 : j = k
    · rw [c1, zup_same, zup_same]
    · rw [zup_ne c1, zn _ (by omega)]; exact gg j hj
  · rw [zn 2 (by omega)]; exact (kp 2 (by omega) (by omega) (by omega)).trans a1
  · rw [zn 3 (by omega)]; exact (kp 3 (by omega) (by omega) (by omega)).trans a2
  · rw [zn 4 (by omega)]; exact (kp 4 (by omega) (by omega) (by omega)).trans a3
  · rw [zn 5 (by omega)]; exact (kp 5 (by omega) (by omega) (by omega)).trans a4
  · rw [zn 6 (by omega)]; exact (kp 6 (by omega) (by omega) (by omega)).trans a5
  · rw [zn 7 (by omega)]; exact (kp 7 (by omega) (by omega) (by omega)).trans m5
  · by_cases c1 : j = k
    · rw [c1, zup_same]
      show zAr G h' q (zup S.1 k L k)
      rw [zup_same]; exact hq
    · rw [zn _ (by omega)]
      show zAr G h' _ (zup S.1 k L j)
      rw [zup_ne c1]
      exact (m6 j hj).kept (kp _ (by omega) (by omega) (by omega))
  · rw [zn 12 (by omega)]; exact m7.kept (kp 12 (by omega) (by omega) (by omega))
theorem zAr.nil {q : Nat} {f : Nat → Int} (e : h q = some (zInts G 0 f)) : zAr G h q [] := ⟨f, e, by decide, fun j hj => absurd hj (by simp), fun j hj => absurd hj (by simp)⟩
theorem k_Mod_clear {p : Int} (H : zMod G h ma S th) (z_p : zI32 p) (h16 : ∀ k, k < 4 → (S.1 k).length ≤ 16) : zM G l hMod_clear yMod_clear 4 [.ref (ma 0), zi p] h (zQm G ma h (1) (2) (3) (sp_clear S p)) zNo 1 0 := by
  obtain ⟨m1, m2, ⟨g, m3, m3a⟩, m4, ⟨f6, m5, m5a⟩, m6, m7⟩ := id H
  unfold zMfs at m2
  refine zM.of [some (.ref (ma 0)), some (zi p), none] (by decide +kernel) rfl (by decide) rfl (Nat.le_of_ble_eq_true rfl) rfl ?_
  refine z_aload_n dMod_clear_0 rfl ?_
  refine z_iload_n dMod_clear_1 rfl ?_
  refine z_callS MS_Mod_isNo lk_Mod_81 dMod_clear_2 (k_Mod_isNo (by omega)) rfl rfl (Nat.le_of_ble_eq_true rfl)  (Nat.le_of_ble_eq_true rfl) (Nat.le_of_ble_eq_true rfl) (Nat.le_of_eq (Nat.zero_add _)) (Nat.le_of_eq (Nat.zero_add _)) (fun _ _ q => q.elim) ?_
  rintro _ _ ⟨n9, rfl, hn9, rfl⟩
  refine z_iconst dMod_clear_5 ?_
  refine z_iconst dMod_clear_6 ?_
  refine z_callV MV_Mod_fails lk_Mod_88 dMod_clear_7 (k_Mod_fails (by assumption) rfl (by omega) (by omega) (by omega)) rfl rfl (Nat.le_of_ble_eq_true rfl) rfl (by assumption) (Nat.le_of_ble_eq_true rfl) (Nat.le_of_ble_eq_true rfl) (Nat.le_of_eq (Nat.zero_add _)) (Nat.le_of_eq (Nat.zero_add _)) (fun _ _ q => q.elim) ?_
  rintro _ h1 ⟨t9, b8, rfl, ht, p1, g1⟩
  have H1 : zMod G h1 ma S t9 := H.obj (nu := S.2.2.2.2) (th' := t9) p1 g1
  have fz1 : zMfr ma h h1 := zMfr.of0 g1
  obtain ⟨-, n2, ⟨gg, n3, n3a⟩, n4, ⟨f61, n5, n5a⟩, n6, n7⟩ := id H1
  unfold zMfs at n2
  refine z_if_eq (tgt := 15) dMod_clear_10 (by decide) (by omega) (fun c10 => ?_) (fun c10 => ?_)
  · obtain ⟨k, rfl⟩ := Int.eq_ofNat_of_zero_le (show 0 ≤ p by omega)
    obtain ⟨frk, rk1, rk2, rk3, rk4⟩ := id (n6 k (by omega))
    have h16k := h16 k (by omega)
    have ezk : ∀ i : Int, 0 ≤ i → i < ((S.1 k).length : Int) → frk i.toNat = zAt (S.1 k) i := fun i x1 x2 => by rw [rk3 _ (by omega), zAt_eq x1 x2]
    refine z_aload_n dMod_clear_15 rfl ?_
    refine z_get (k := 0) fd_Mod (by decide) fl_Mod_11 dMod_clear_16 (by assumption) (by rfl) ?_
    refine z_iload_n dMod_clear_19 rfl ?_
    refine z_aald (t := 4) (ty := .array .int) rfl rfl dMod_clear_20 n3 (by refine ⟨?_, ?_, ?_⟩ <;> omega) ?_
    rw [show (k : Int).toNat = k from rfl, n3a k (by omega)]
    refine z_alenI dMod_clear_21 (by assumption) ?_
    refine z_istore_n dMod_clear_22 (Nat.le_of_ble_eq_true rfl) ?_
    refine z_aload_n dMod_clear_23 rfl ?_
    refine z_iload_n dMod_clear_24 rfl ?_
    refine z_iconst dMod_clear_25 ?_
    refine z_newI (n := 0) (bc' := 0) (bs' := 0) rfl dMod_clear_26 (by decide) (by decide) (by decide) (fun q2 h2 hq2 gq2 e2 F2 => ?_)
    have H2 : zMod G h2 ma S t9 := H1.keep hq2 F2
    have fz2 : zMfr ma h h2 := fz1.tr (zMfr.new hq2 F2)
    have dq2 : zDm h q2 := hq2.up H1 fz1
    have oc2 := H2.2.1
    have r2 := zAr.nil e2
    refine z_iconst dMod_clear_28 ?_
    refine z_callV MV_Mod_become lk_Mod_77 dMod_clear_29 (k_Mod_become H2 (by omega) r2 (fun i hi _ => H1.nq hq2 hi) (by omega)) rfl rfl (Nat.le_of_ble_eq_true rfl) rfl (by assumption) (Nat.le_of_ble_eq_true rfl) (Nat.le_of_ble_eq_true rfl) (Nat.le_of_eq (Nat.zero_add _)) (Nat.le_of_eq (Nat.zero_add _)) (fun _ _ q => q.elim) ?_
    rintro _ h3 ⟨rfl, H3, F3⟩
    have fz3 : zMfr ma h h3 := fz2.tr (zMfr.bec F3)
    refine z_iload_n dMod_clear_32 rfl ?_
    refine z_iret rfl rfl dMod_clear_33 ?_
    rcases (show t9 = 0 ∨ t9 = 1 ∨ t9 = 2 ∨ t9 = 3 by omega) with t0 | t0 | t0 | t0
    all_goals first
      | (exfalso; omega)
      | exact zQm.okB H3 (Or.inr ⟨dq2, gq2⟩) (by omega) (by assumption) (by unfold sp_clear; (try unfold spPut); (try simp only [Int.toNat_natCast]); (repeat (first | rw [if_pos (by omega)] | rw [if_neg (by omega)] | rw [if_pos (by assumption)] | rw [if_neg (by assumption)] | rw [if_pos (True.intro : True)])); (try (first | rfl | (congr 2; omega) | (congr 1; congr 1; omega))); done)
      | exact zQm.ok H2 (by omega) (by assumption) (by unfold sp_clear; (try unfold spPut); (try simp only [Int.toNat_natCast]); (repeat (first | rw [if_pos (by omega)] | rw [if_neg (by omega)] | rw [if_pos (by assumption)] | rw [if_neg (by assumption)] | rw [if_pos (True.intro : True)])); (try (first | rfl | (congr 2; omega) | (congr 1; congr 1; omega))); done)
      | exact zQm.b1 H2 (by omega) (by assumption) (by unfold sp_clear; (try unfold spPut); (try simp only [Int.toNat_natCast]); (repeat (first | rw [if_pos (by omega)] | rw [if_neg (by omega)] | rw [if_pos (by assumption)] | rw [if_neg (by assumption)] | rw [if_pos (True.intro : True)])); (try (first | rfl | (congr 2; omega) | (congr 1; congr 1; omega))); done)
      | exact zQm.b2 H2 (by omega) (by assumption) (by unfold sp_clear; (try unfold spPut); (try simp only [Int.toNat_natCast]); (repeat (first | rw [if_pos (by omega)] | rw [if_neg (by omega)] | rw [if_pos (by assumption)] | rw [if_neg (by assumption)] | rw [if_pos (True.intro : True)])); (try (first | rfl | (congr 2; omega) | (congr 1; congr 1; omega))); done)
      | exact zQm.b3 H2 (by omega) (by assumption) (by unfold sp_clear; (try unfold spPut); (try simp only [Int.toNat_natCast]); (repeat (first | rw [if_pos (by omega)] | rw [if_neg (by omega)] | rw [if_pos (by assumption)] | rw [if_neg (by assumption)] | rw [if_pos (True.intro : True)])); (try (first | rfl | (congr 2; omega) | (congr 1; congr 1; omega))); done)
      | exact zQm.ok H1 (by omega) (by assumption) (by unfold sp_clear; (try unfold spPut); (try simp only [Int.toNat_natCast]); (repeat (first | rw [if_pos (by omega)] | rw [if_neg (by omega)] | rw [if_pos (by assumption)] | rw [if_neg (by assumption)] | rw [if_pos (True.intro : True)])); (try (first | rfl | (congr 2; omega) | (congr 1; congr 1; omega))); done)
      | exact zQm.b1 H1 (by omega) (by assumption) (by unfold sp_clear; (try unfold spPut); (try simp only [Int.toNat_natCast]); (repeat (first | rw [if_pos (by omega)] | rw [if_neg (by omega)] | rw [if_pos (by assumption)] | rw [if_neg (by assumption)] | rw [if_pos (True.intro : True)])); (try (first | rfl | (congr 2; omega) | (congr 1; congr 1; omega))); done)
      | exact zQm.b2 H1 (by omega) (by assumption) (by unfold sp_clear; (try unfold spPut); (try simp only [Int.toNat_natCast]); (repeat (first | rw [if_pos (by omega)] | rw [if_neg (by omega)] | rw [if_pos (by assumption)] | rw [if_neg (by assumption)] | rw [if_pos (True.intro : True)])); (try (first | rfl | (congr 2; omega) | (congr 1; congr 1; omega))); done)
      | exact zQm.b3 H1 (by omega) (by assumption) (by unfold sp_clear; (try unfold spPut); (try simp only [Int.toNat_natCast]); (repeat (first | rw [if_pos (by omega)] | rw [if_neg (by omega)] | rw [if_pos (by assumption)] | rw [if_neg (by assumption)] | rw [if_pos (True.intro : True)])); (try (first | rfl | (congr 2; omega) | (congr 1; congr 1; omega))); done)
  · refine z_iconst dMod_clear_13 ?_
    refine z_iret rfl rfl dMod_clear_14 ?_
    rcases (show t9 = 0 ∨ t9 = 1 ∨ t9 = 2 ∨ t9 = 3 by omega) with t0 | t0 | t0 | t0
    all_goals first
      | (exfalso; omega)
      | exact zQm.okB H3 (Or.inr ⟨dq2, gq2⟩) (by omega) (by assumption) (by unfold sp_clear; (try unfold spPut); (try simp only [Int.toNat_natCast]); (repeat (first | rw [if_pos (by omega)] | rw [if_neg (by omega)] | rw [if_pos (by assumption)] | rw [if_neg (by assumption)] | rw [if_pos (True.intro : True)])); (try (first | rfl | (congr 2; omega) | (congr 1; congr 1; omega))); done)
      | exact zQm.ok H2 (by omega) (by assumption) (by unfold sp_clear; (try unfold spPut); (try simp only [Int.toNat_natCast]); (repeat (first | rw [if_pos (by omega)] | rw [if_neg (by omega)] | rw [if_pos (by assumption)] | rw [if_neg (by assumption)] | rw [if_pos (True.intro : True)])); (try (first | rfl | (congr 2; omega) | (congr 1; congr 1; omega))); done)
      | exact zQm.b1 H2 (by omega) (by assumption) (by unfold sp_clear; (try unfold spPut); (try simp only [Int.toNat_natCast]); (repeat (first | rw [if_pos (by omega)] | rw [if_neg (by omega)] | rw [if_pos (by assumption)] | rw [if_neg (by assumption)] | rw [if_pos (True.intro : True)])); (try (first | rfl | (congr 2; omega) | (congr 1; congr 1; omega))); done)
      | exact zQm.b2 H2 (by omega) (by assumption) (by unfold sp_clear; (try unfold spPut); (try simp only [Int.toNat_natCast]); (repeat (first | rw [if_pos (by omega)] | rw [if_neg (by omega)] | rw [if_pos (by assumption)] | rw [if_neg (by assumption)] | rw [if_pos (True.intro : True)])); (try (first | rfl | (congr 2; omega) | (congr 1; congr 1; omega))); done)
      | exact zQm.b3 H2 (by omega) (by assumption) (by unfold sp_clear; (try unfold spPut); (try simp only [Int.toNat_natCast]); (repeat (first | rw [if_pos (by omega)] | rw [if_neg (by omega)] | rw [if_pos (by assumption)] | rw [if_neg (by assumption)] | rw [if_pos (True.intro : True)])); (try (first | rfl | (congr 2; omega) | (congr 1; congr 1; omega))); done)
      | exact zQm.ok H1 (by omega) (by assumption) (by unfold sp_clear; (try unfold spPut); (try simp only [Int.toNat_natCast]); (repeat (first | rw [if_pos (by omega)] | rw [if_neg (by omega)] | rw [if_pos (by assumption)] | rw [if_neg (by assumption)] | rw [if_pos (True.intro : True)])); (try (first | rfl | (congr 2; omega) | (congr 1; congr 1; omega))); done)
      | exact zQm.b1 H1 (by omega) (by assumption) (by unfold sp_clear; (try unfold spPut); (try simp only [Int.toNat_natCast]); (repeat (first | rw [if_pos (by omega)] | rw [if_neg (by omega)] | rw [if_pos (by assumption)] | rw [if_neg (by assumption)] | rw [if_pos (True.intro : True)])); (try (first | rfl | (congr 2; omega) | (congr 1; congr 1; omega))); done)
      | exact zQm.b2 H1 (by omega) (by assumption) (by unfold sp_clear; (try unfold spPut); (try simp only [Int.toNat_natCast]); (repeat (first | rw [if_pos (by omega)] | rw [if_neg (by omega)] | rw [if_pos (by assumption)] | rw [if_neg (by assumption)] | rw [if_pos (True.intro : True)])); (try (first | rfl | (congr 2; omega) | (congr 1; congr 1; omega))); done)
      | exact zQm.b3 H1 (by omega) (by assumption) (by unfold sp_clear; (try unfold spPut); (try simp only [Int.toNat_natCast]); (repeat (first | rw [if_pos (by omega)] | rw [if_neg (by omega)] | rw [if_pos (by assumption)] | rw [if_neg (by assumption)] | rw [if_pos (True.intro : True)])); (try (first | rfl | (congr 2; omega) | (congr 1; congr 1; omega))); done)
theorem l_Mod_places {d mc ms bc bs : Nat} {Qn : Option Value → zHp → Prop} {Qx : String → zHp → Prop} {N q : Nat} {w0 w1 : Option Value} (hN : N ≤ 16)
    (K : ∀ (h1 : zHp) y, zAr G h1 q (zPl9 N) → (∀ z, z ≠ q → h1 z = h z) → zR G l (zMJ G hMod_places d Qn Qx mc ms) bc bs h1 46 [w0, w1, some (zi (N : Int)), some (.ref q), y] []) :
    ∀ (n : Nat) (m : Nat) (h1 : zHp) (g : Nat → Int), N - m < n → m ≤ N → h1 q = some (zInts G N g) → (∀ j, j < m → g j = (j : Int)) → (∀ z, z ≠ q → h1 z = h z) → zR G l (zMJ G hMod_places d Qn Qx mc ms) bc bs h1 28 [w0, w1, some (zi (N : Int)), some (.ref q), some (zi (m : Int))] [] := by
  intro n
  induction n with
  | zero => intro m h1 g q1 q2 e1 e2 hf; omega
  | succ n ih =>
  intro m h1 g q1 q2 e1 e2 hf
  refine z_iload dMod_places_28 rfl ?_
  refine z_iload_n dMod_places_30 rfl ?_
  refine z_icmp_ge (tgt := 46) dMod_places_31 (by decide) (by omega) (by omega) (fun c31 => ?_) (fun c31 => ?_)
  · have em : m = N := by omega
    subst em
    refine K h1 _ ⟨g, by rw [zPl9_len]; exact e1, by rw [zPl9_len]; omega, fun j hj => ?_, fun j hj => ?_⟩ hf
    · rw [zPl9_len] at hj
      exact (e2 j hj).trans (zmk_at _ hj).symm
    · rw [zPl9_len] at hj
      rw [show (zPl9 m).getD j 0 = (j : Int) from zmk_at _ hj]
      omega
  · refine z_aload_n dMod_places_34 rfl ?_
    refine z_iload dMod_places_35 rfl ?_
    refine z_iload dMod_places_37 rfl ?_
    refine z_iast dMod_places_39 (by assumption) (by refine ⟨?_, ?_, ?_⟩ <;> omega) ?_
    refine z_hx (fun h2 p2 f2 => ?_)
    refine z_iinc dMod_places_40 rfl (Nat.le_of_ble_eq_true rfl) ?_
    refine z_goto (tgt := 28) dMod_places_43 (by decide) ?_
    refine ih (m + 1) h2 _ (by omega) (by omega) p2 (fun j hj => ?_) (fun z hz => (f2 z hz).trans (hf z hz))
    by_cases e9 : j = m
    · subst e9
      rw [Int.toNat_natCast, zup_same]
    · rw [Int.toNat_natCast, zup_ne e9]
      exact e2 j (by omega)
theorem k_Mod_places {p m : Int} (H : zMod G h ma S th) (z_p : zI32 p) (z_m : zI32 m) (h16 : ∀ k, k < 4 → (S.1 k).length ≤ 16) : zM G l hMod_places yMod_places 4 [.ref (ma 0), zi p, zi m] h (zQm G ma h (1) (2) (3) (sp_places S p m)) zNo 1 16 := by
  obtain ⟨m1, m2, ⟨g, m3, m3a⟩, m4, ⟨f6, m5, m5a⟩, m6, m7⟩ := id H
  unfold zMfs at m2
  refine zM.of [some (.ref (ma 0)), some (zi p), some (zi m), none, none] (by decide +kernel) rfl (by decide) rfl (Nat.le_of_ble_eq_true rfl) rfl ?_
  refine z_aload_n dMod_places_0 rfl ?_
  refine z_iload_n dMod_places_1 rfl ?_
  refine z_callS MS_Mod_isNo lk_Mod_81 dMod_places_2 (k_Mod_isNo (by omega)) rfl rfl (Nat.le_of_ble_eq_true rfl)  (Nat.le_of_ble_eq_true rfl) (Nat.le_of_ble_eq_true rfl) (Nat.le_of_eq (Nat.zero_add _)) (Nat.le_of_eq (Nat.zero_add _)) (fun _ _ q => q.elim) ?_
  rintro _ _ ⟨n9, rfl, hn9, rfl⟩
  refine z_iload_n dMod_places_5 rfl ?_
  refine z_iconst dMod_places_6 ?_
  refine z_bipush dMod_places_7 rfl ?_
  refine z_callS MS_Mod_isOut lk_Mod_41 dMod_places_9 (k_Mod_isOut (by omega) (by omega) (by omega)) rfl rfl (Nat.le_of_ble_eq_true rfl)  (Nat.le_of_ble_eq_true rfl) (Nat.le_of_ble_eq_true rfl) (Nat.le_of_eq (Nat.zero_add _)) (Nat.le_of_eq (Nat.zero_add _)) (fun _ _ q => q.elim) ?_
  rintro _ _ ⟨o9, rfl, ho9, rfl⟩
  refine z_iconst dMod_places_12 ?_
  refine z_callV MV_Mod_fails lk_Mod_88 dMod_places_13 (k_Mod_fails (by assumption) rfl (by omega) (by omega) (by omega)) rfl rfl (Nat.le_of_ble_eq_true rfl) rfl (by assumption) (Nat.le_of_ble_eq_true rfl) (Nat.le_of_ble_eq_true rfl) (Nat.le_of_eq (Nat.zero_add _)) (Nat.le_of_eq (Nat.zero_add _)) (fun _ _ q => q.elim) ?_
  rintro _ h1 ⟨t9, b8, rfl, ht, p1, g1⟩
  have H1 : zMod G h1 ma S t9 := H.obj (nu := S.2.2.2.2) (th' := t9) p1 g1
  have fz1 : zMfr ma h h1 := zMfr.of0 g1
  obtain ⟨-, n2, ⟨gg, n3, n3a⟩, n4, ⟨f61, n5, n5a⟩, n6, n7⟩ := id H1
  unfold zMfs at n2
  refine z_if_eq (tgt := 21) dMod_places_16 (by decide) (by omega) (fun c16 => ?_) (fun c16 => ?_)
  · obtain ⟨k, rfl⟩ := Int.eq_ofNat_of_zero_le (show 0 ≤ p by omega)
    obtain ⟨frk, rk1, rk2, rk3, rk4⟩ := id (n6 k (by omega))
    have h16k := h16 k (by omega)
    have ezk : ∀ i : Int, 0 ≤ i → i < ((S.1 k).length : Int) → frk i.toNat = zAt (S.1 k) i := fun i x1 x2 => by rw [rk3 _ (by omega), zAt_eq x1 x2]
    obtain ⟨N, rfl⟩ := Int.eq_ofNat_of_zero_le (show 0 ≤ m by omega)
    refine z_iload_n dMod_places_21 rfl ?_
    refine z_newI (n := N) (bc' := 0) (bs' := 0) rfl dMod_places_22 (by omega) (by decide) (by omega) (fun q2 h2 hq2 gq2 e2 F2 => ?_)
    have H2 : zMod G h2 ma S t9 := H1.keep hq2 F2
    have fz2 : zMfr ma h h2 := fz1.tr (zMfr.new hq2 F2)
    have dq2 : zDm h q2 := hq2.up H1 fz1
    have oc2 := H2.2.1
    refine z_astore_n dMod_places_24 (Nat.le_of_ble_eq_true rfl) ?_
    refine z_iconst dMod_places_25 ?_
    refine z_istore dMod_places_26 (Nat.le_of_ble_eq_true rfl) ?_
    refine l_Mod_places (h := h2) (N := N) (q := q2) (by omega) (fun h3 y r3 F3a => ?_) (N + 1) 0 h2 _ (by omega) (by omega) e2 (fun j hj => absurd hj (by omega)) (fun z hz => rfl)
    have F3 : ∀ z, z ≠ q2 → h3 z = h1 z := fun z hz => (F3a z hz).trans (F2 z hz)
    have H3 : zMod G h3 ma S t9 := H1.keep hq2 F3
    have oc3 := H3.2.1
    have fz3 : zMfr ma h h3 := fz1.tr (zMfr.new hq2 F3)
    have hpl := zPl9_len N
    refine z_aload_n dMod_places_46 rfl ?_
    refine z_iload_n dMod_places_47 rfl ?_
    refine z_aload_n dMod_places_48 rfl ?_
    refine z_callV MV_Mod_becomes lk_Mod_95 dMod_places_49 (k_Mod_becomes H3 (by omega) r3 (fun i hi _ => H1.nq hq2 hi)) rfl rfl (Nat.le_of_ble_eq_true rfl) rfl (by assumption) (Nat.le_of_ble_eq_true rfl) (Nat.le_of_ble_eq_true rfl) (Nat.le_of_eq (Nat.zero_add _)) (Nat.le_of_eq (Nat.zero_add _)) (fun _ _ q => q.elim) ?_
    rintro _ h4 ⟨rfl, H4, F4⟩
    have fz4 : zMfr ma h h4 := fz3.tr (zMfr.bec F4)
    refine z_iret rfl rfl dMod_places_52 ?_
    rcases (show t9 = 0 ∨ t9 = 1 ∨ t9 = 2 ∨ t9 = 3 by omega) with t0 | t0 | t0 | t0
    all_goals first
      | (exfalso; omega)
      | exact zQm.okB H4 (Or.inr ⟨dq2, gq2⟩) (by omega) (by assumption) (by unfold sp_places; (try unfold spPut); (try simp only [Int.toNat_natCast]); (repeat (first | rw [if_pos (by omega)] | rw [if_neg (by omega)] | rw [if_pos (by assumption)] | rw [if_neg (by assumption)] | rw [if_pos (True.intro : True)])); (try (first | rfl | (congr 2; omega) | (congr 1; congr 1; omega))); done)
      | exact zQm.ok H1 (by omega) (by assumption) (by unfold sp_places; (try unfold spPut); (try simp only [Int.toNat_natCast]); (repeat (first | rw [if_pos (by omega)] | rw [if_neg (by omega)] | rw [if_pos (by assumption)] | rw [if_neg (by assumption)] | rw [if_pos (True.intro : True)])); (try (first | rfl | (congr 2; omega) | (congr 1; congr 1; omega))); done)
      | exact zQm.b1 H1 (by omega) (by assumption) (by unfold sp_places; (try unfold spPut); (try simp only [Int.toNat_natCast]); (repeat (first | rw [if_pos (by omega)] | rw [if_neg (by omega)] | rw [if_pos (by assumption)] | rw [if_neg (by assumption)] | rw [if_pos (True.intro : True)])); (try (first | rfl | (congr 2; omega) | (congr 1; congr 1; omega))); done)
      | exact zQm.b2 H1 (by omega) (by assumption) (by unfold sp_places; (try unfold spPut); (try simp only [Int.toNat_natCast]); (repeat (first | rw [if_pos (by omega)] | rw [if_neg (by omega)] | rw [if_pos (by assumption)] | rw [if_neg (by assumption)] | rw [if_pos (True.intro : True)])); (try (first | rfl | (congr 2; omega) | (congr 1; congr 1; omega))); done)
      | exact zQm.b3 H1 (by omega) (by assumption) (by unfold sp_places; (try unfold spPut); (try simp only [Int.toNat_natCast]); (repeat (first | rw [if_pos (by omega)] | rw [if_neg (by omega)] | rw [if_pos (by assumption)] | rw [if_neg (by assumption)] | rw [if_pos (True.intro : True)])); (try (first | rfl | (congr 2; omega) | (congr 1; congr 1; omega))); done)
  · refine z_iconst dMod_places_19 ?_
    refine z_iret rfl rfl dMod_places_20 ?_
    rcases (show t9 = 0 ∨ t9 = 1 ∨ t9 = 2 ∨ t9 = 3 by omega) with t0 | t0 | t0 | t0
    all_goals first
      | (exfalso; omega)
      | exact zQm.ok H1 (by omega) (by assumption) (by unfold sp_places; (try unfold spPut); (try simp only [Int.toNat_natCast]); (repeat (first | rw [if_pos (by omega)] | rw [if_neg (by omega)] | rw [if_pos (by assumption)] | rw [if_neg (by assumption)] | rw [if_pos (True.intro : True)])); (try (first | rfl | (congr 2; omega) | (congr 1; congr 1; omega))); done)
      | exact zQm.b1 H1 (by omega) (by assumption) (by unfold sp_places; (try unfold spPut); (try simp only [Int.toNat_natCast]); (repeat (first | rw [if_pos (by omega)] | rw [if_neg (by omega)] | rw [if_pos (by assumption)] | rw [if_neg (by assumption)] | rw [if_pos (True.intro : True)])); (try (first | rfl | (congr 2; omega) | (congr 1; congr 1; omega))); done)
      | exact zQm.b2 H1 (by omega) (by assumption) (by unfold sp_places; (try unfold spPut); (try simp only [Int.toNat_natCast]); (repeat (first | rw [if_pos (by omega)] | rw [if_neg (by omega)] | rw [if_pos (by assumption)] | rw [if_neg (by assumption)] | rw [if_pos (True.intro : True)])); (try (first | rfl | (congr 2; omega) | (congr 1; congr 1; omega))); done)
      | exact zQm.b3 H1 (by omega) (by assumption) (by unfold sp_places; (try unfold spPut); (try simp only [Int.toNat_natCast]); (repeat (first | rw [if_pos (by omega)] | rw [if_neg (by omega)] | rw [if_pos (by assumption)] | rw [if_neg (by assumption)] | rw [if_pos (True.intro : True)])); (try (first | rfl | (congr 2; omega) | (congr 1; congr 1; omega))); done)
theorem l_Mod_rotate {mc ms : Nat} {Qn : Option Value → zHp → Prop} {Qx : String → zHp → Prop} {L : List Int} {b v : Int} {a0 : Nat} {w0 w1 : Option Value} (hb : -99 ≤ b ∧ b ≤ 99) (hL : L.length ≤ 16) (hv0 : 0 ≤ v) (hv1 : 0 ≤ b → v = b) (hv2 : b < 0 → v = -b)
    (K : ∀ bc bs (h1 : zHp) q y5 y6 y7, zAr G h1 q (zRot L b) → (q = a0 ∨ (zDm h q ∧ G.2.2 ≤ q)) → zExt h h1 → zR G l (zMJ G hMod_rotate 4 Qn Qx mc ms) bc bs h1 106 [w0, w1, some (zi b), some (.ref q), some (zi v), y5, y6, y7] []) :
    ∀ (n m bc bs : Nat) (h1 : zHp) (q : Nat) (c : Int) (y6 y7 : Option Value), v.toNat - m < n → m ≤ v.toNat → 2 * (v.toNat - m) ≤ bc → 121 * (v.toNat - m) ≤ bs → zAr G h1 q (zRot L c) → (0 < b → c = m) → (¬ 0 < b → c = -(m : Int)) → (q = a0 ∨ (zDm h q ∧ G.2.2 ≤ q)) → zExt h h1 → (y6 = none ∨ ∃ z, y6 = some (zi z)) → (y7 = none ∨ ∃ z, y7 = some (zi z)) →
      zR G l (zMJ G hMod_rotate 4 Qn Qx mc ms) bc bs h1 44 [w0, w1, some (zi b), some (.ref q), some (zi v), some (zi (m : Int)), y6, y7] [] := by
  intro n
  induction n with
  | zero => intro m bc bs h1 q c y6 y7 q1 q2 q3 q4 r hc1 hc2 hq hx hy6 hy7; omega
  | succ n ih =>
  intro m bc bs h1 q c y6 y7 q1 q2 q3 q4 r hc1 hc2 hq hx hy6 hy7
  have hln := zRot_len L c
  obtain ⟨fr, ra, rb, rc, rd⟩ := id r
  obtain ⟨V, rfl⟩ := Int.eq_ofNat_of_zero_le hv0
  rw [Int.toNat_natCast] at q1 q2 q3 q4
  refine z_iload dMod_rotate_44 rfl ?_
  refine z_iload dMod_rotate_46 rfl ?_
  refine z_icmp_ge (tgt := 106) dMod_rotate_48 (by decide) (by omega) (by omega) (fun c48 => ?_) (fun c48 => ?_)
  · first
      | exact K _ _ h1 q _ _ _ (by rw [show b = c by omega]; exact r) hq hx
      | exact K _ _ h1 q _ _ _ (by rw [show zRot L b = zRot L c from zl_ext (by rw [zRot_len, zRot_len]) (fun j hj => by rw [zRot_len] at hj; omega)]; exact r) hq hx
  · refine z_aload_n dMod_rotate_51 rfl ?_
    refine z_alenI dMod_rotate_52 ra ?_
    rw [hln]
    refine z_if_le (tgt := 106) dMod_rotate_53 (by decide) (by omega) (fun c53 => ?_) (fun c53 => ?_)
    · first
        | exact K _ _ h1 q _ _ _ (by rw [show b = c by omega]; exact r) hq hx
        | exact K _ _ h1 q _ _ _ (by rw [show zRot L b = zRot L c from zl_ext (by rw [zRot_len, zRot_len]) (fun j hj => by rw [zRot_len] at hj; omega)]; exact r) hq hx
    · refine z_iload_n dMod_rotate_56 rfl ?_
      refine z_if_le (tgt := 67) dMod_rotate_57 (by decide) (by omega) (fun c57 => ?_) (fun c57 => ?_)
      · refine z_iconst dMod_rotate_67 ?_
        refine z_istore dMod_rotate_68 (Nat.le_of_ble_eq_true rfl) ?_
        refine z_aload_n dMod_rotate_70 rfl ?_
        refine z_iload dMod_rotate_71 rfl ?_
        refine z_iald dMod_rotate_73 (by assumption) (by refine ⟨?_, ?_, ?_⟩ <;> omega) ?_
        rw [rc _ (by omega)]
        refine z_istore dMod_rotate_74 (Nat.le_of_ble_eq_true rfl) ?_
        refine z_aload_n dMod_rotate_76 rfl ?_
        refine z_iload dMod_rotate_77 rfl ?_
        refine z_callS (bc' := bc - 1) (bs' := bs - 60) MS_Mod_without lk_Mod_102 dMod_rotate_79 (k_Mod_without r (by omega) (by omega)) rfl rfl (Nat.le_of_ble_eq_true rfl)  (Nat.le_of_ble_eq_true rfl) (Nat.le_of_ble_eq_true rfl) (by omega) (by omega) (fun _ _ q => q.elim) ?_
        rintro _ h2 ⟨q2, rfl, hq2, gq2, r2, F2⟩
        obtain ⟨f2, r2a, r2b, r2c, r2d⟩ := id r2
        have hdl := zDel_len (zRot L c) ((L.length : Int) - 1)
        have hdl0 := zDel_len (zRot L c) 0
        refine z_astore_n dMod_rotate_82 (Nat.le_of_ble_eq_true rfl) ?_
        refine z_aload_n dMod_rotate_83 rfl ?_
        refine z_iload_n dMod_rotate_84 rfl ?_
        refine z_if_le (tgt := 92) dMod_rotate_85 (by decide) (by omega) (fun c85 => ?_) (fun c85 => ?_)
        · refine z_aload_n dMod_rotate_92 rfl ?_
          refine z_alenI dMod_rotate_93 r2a ?_
          refine z_iload dMod_rotate_94 rfl ?_
          refine z_callS (bc' := bc - 2) (bs' := bs - 121) MS_Mod_with lk_Mod_49 dMod_rotate_96 (k_Mod_with r2 (by omega) (rd _ (by omega)) (by omega)) rfl rfl (Nat.le_of_ble_eq_true rfl)  (Nat.le_of_ble_eq_true rfl) (Nat.le_of_ble_eq_true rfl) (by omega) (by omega) (fun _ _ q => q.elim) ?_
          rintro _ h3 ⟨q3, rfl, hq3, gq3, r3, F3⟩
          have hx2 := hx.tr (zExt.new hq2 F2)
          have hx3 := hx2.tr (zExt.new hq3 F3)
          refine z_astore_n dMod_rotate_99 (Nat.le_of_ble_eq_true rfl) ?_
          refine z_iinc dMod_rotate_100 rfl (Nat.le_of_ble_eq_true rfl) ?_
          refine z_goto (tgt := 44) dMod_rotate_103 (by decide) ?_
          first
            | (exfalso; omega)
            | (have e9 := zRot_right L c (by omega)
               rw [show ((L.length : Int) - 1).toNat = L.length - 1 by omega, e9] at r3
               exact ih (m + 1) _ _ h3 q3 (c + 1) _ _ (by omega) (by omega) (by omega) (by omega) r3 (fun _ => by omega) (fun _ => by omega) (Or.inr ⟨hq3.dn hx2, gq3⟩) hx3 (Or.inr ⟨_, rfl⟩) (Or.inr ⟨_, rfl⟩))
            | (have e9 := zRot_left L c (by omega)
               rw [hdl0, hln, show ((L.length - 1 : Nat) : Int) = (L.length : Int) - 1 by omega, show ((0 : Int)).toNat = 0 from rfl, e9] at r3
               exact ih (m + 1) _ _ h3 q3 (c - 1) _ _ (by omega) (by omega) (by omega) (by omega) r3 (fun _ => by omega) (fun _ => by omega) (Or.inr ⟨hq3.dn hx2, gq3⟩) hx3 (Or.inr ⟨_, rfl⟩) (Or.inr ⟨_, rfl⟩))
        · refine z_iconst dMod_rotate_88 ?_
          refine z_goto (tgt := 94) dMod_rotate_89 (by decide) ?_
          refine z_iload dMod_rotate_94 rfl ?_
          refine z_callS (bc' := bc - 2) (bs' := bs - 121) MS_Mod_with lk_Mod_49 dMod_rotate_96 (k_Mod_with r2 (by omega) (rd _ (by omega)) (by omega)) rfl rfl (Nat.le_of_ble_eq_true rfl)  (Nat.le_of_ble_eq_true rfl) (Nat.le_of_ble_eq_true rfl) (by omega) (by omega) (fun _ _ q => q.elim) ?_
          rintro _ h3 ⟨q3, rfl, hq3, gq3, r3, F3⟩
          have hx2 := hx.tr (zExt.new hq2 F2)
          have hx3 := hx2.tr (zExt.new hq3 F3)
          refine z_astore_n dMod_rotate_99 (Nat.le_of_ble_eq_true rfl) ?_
          refine z_iinc dMod_rotate_100 rfl (Nat.le_of_ble_eq_true rfl) ?_
          refine z_goto (tgt := 44) dMod_rotate_103 (by decide) ?_
          first
            | (exfalso; omega)
            | (have e9 := zRot_right L c (by omega)
               rw [show ((L.length : Int) - 1).toNat = L.length - 1 by omega, e9] at r3
               exact ih (m + 1) _ _ h3 q3 (c + 1) _ _ (by omega) (by omega) (by omega) (by omega) r3 (fun _ => by omega) (fun _ => by omega) (Or.inr ⟨hq3.dn hx2, gq3⟩) hx3 (Or.inr ⟨_, rfl⟩) (Or.inr ⟨_, rfl⟩))
            | (have e9 := zRot_left L c (by omega)
               rw [hdl0, hln, show ((L.length - 1 : Nat) : Int) = (L.length : Int) - 1 by omega, show ((0 : Int)).toNat = 0 from rfl, e9] at r3
               exact ih (m + 1) _ _ h3 q3 (c - 1) _ _ (by omega) (by omega) (by omega) (by omega) r3 (fun _ => by omega) (fun _ => by omega) (Or.inr ⟨hq3.dn hx2, gq3⟩) hx3 (Or.inr ⟨_, rfl⟩) (Or.inr ⟨_, rfl⟩))
      · refine z_aload_n dMod_rotate_60 rfl ?_
        refine z_alenI dMod_rotate_61 ra ?_
        rw [hln]
        refine z_iconst dMod_rotate_62 ?_
        refine z_isub dMod_rotate_63 ?_
        refine z_goto (tgt := 68) dMod_rotate_64 (by decide) ?_
        refine z_istore dMod_rotate_68 (Nat.le_of_ble_eq_true rfl) ?_
        refine z_aload_n dMod_rotate_70 rfl ?_
        refine z_iload dMod_rotate_71 rfl ?_
        refine z_iald dMod_rotate_73 (by assumption) (by refine ⟨?_, ?_, ?_⟩ <;> omega) ?_
        rw [rc _ (by omega)]
        refine z_istore dMod_rotate_74 (Nat.le_of_ble_eq_true rfl) ?_
        refine z_aload_n dMod_rotate_76 rfl ?_
        refine z_iload dMod_rotate_77 rfl ?_
        refine z_callS (bc' := bc - 1) (bs' := bs - 60) MS_Mod_without lk_Mod_102 dMod_rotate_79 (k_Mod_without r (by omega) (by omega)) rfl rfl (Nat.le_of_ble_eq_true rfl)  (Nat.le_of_ble_eq_true rfl) (Nat.le_of_ble_eq_true rfl) (by omega) (by omega) (fun _ _ q => q.elim) ?_
        rintro _ h2 ⟨q2, rfl, hq2, gq2, r2, F2⟩
        obtain ⟨f2, r2a, r2b, r2c, r2d⟩ := id r2
        have hdl := zDel_len (zRot L c) ((L.length : Int) - 1)
        have hdl0 := zDel_len (zRot L c) 0
        refine z_astore_n dMod_rotate_82 (Nat.le_of_ble_eq_true rfl) ?_
        refine z_aload_n dMod_rotate_83 rfl ?_
        refine z_iload_n dMod_rotate_84 rfl ?_
        refine z_if_le (tgt := 92) dMod_rotate_85 (by decide) (by omega) (fun c85 => ?_) (fun c85 => ?_)
        · refine z_aload_n dMod_rotate_92 rfl ?_
          refine z_alenI dMod_rotate_93 r2a ?_
          refine z_iload dMod_rotate_94 rfl ?_
          refine z_callS (bc' := bc - 2) (bs' := bs - 121) MS_Mod_with lk_Mod_49 dMod_rotate_96 (k_Mod_with r2 (by omega) (rd _ (by omega)) (by omega)) rfl rfl (Nat.le_of_ble_eq_true rfl)  (Nat.le_of_ble_eq_true rfl) (Nat.le_of_ble_eq_true rfl) (by omega) (by omega) (fun _ _ q => q.elim) ?_
          rintro _ h3 ⟨q3, rfl, hq3, gq3, r3, F3⟩
          have hx2 := hx.tr (zExt.new hq2 F2)
          have hx3 := hx2.tr (zExt.new hq3 F3)
          refine z_astore_n dMod_rotate_99 (Nat.le_of_ble_eq_true rfl) ?_
          refine z_iinc dMod_rotate_100 rfl (Nat.le_of_ble_eq_true rfl) ?_
          refine z_goto (tgt := 44) dMod_rotate_103 (by decide) ?_
          first
            | (exfalso; omega)
            | (have e9 := zRot_right L c (by omega)
               rw [show ((L.length : Int) - 1).toNat = L.length - 1 by omega, e9] at r3
               exact ih (m + 1) _ _ h3 q3 (c + 1) _ _ (by omega) (by omega) (by omega) (by omega) r3 (fun _ => by omega) (fun _ => by omega) (Or.inr ⟨hq3.dn hx2, gq3⟩) hx3 (Or.inr ⟨_, rfl⟩) (Or.inr ⟨_, rfl⟩))
            | (have e9 := zRot_left L c (by omega)
               rw [hdl0, hln, show ((L.length - 1 : Nat) : Int) = (L.length : Int) - 1 by omega, show ((0 : Int)).toNat = 0 from rfl, e9] at r3
               exact ih (m + 1) _ _ h3 q3 (c - 1) _ _ (by omega) (by omega) (by omega) (by omega) r3 (fun _ => by omega) (fun _ => by omega) (Or.inr ⟨hq3.dn hx2, gq3⟩) hx3 (Or.inr ⟨_, rfl⟩) (Or.inr ⟨_, rfl⟩))
        · refine z_iconst dMod_rotate_88 ?_
          refine z_goto (tgt := 94) dMod_rotate_89 (by decide) ?_
          refine z_iload dMod_rotate_94 rfl ?_
          refine z_callS (bc' := bc - 2) (bs' := bs - 121) MS_Mod_with lk_Mod_49 dMod_rotate_96 (k_Mod_with r2 (by omega) (rd _ (by omega)) (by omega)) rfl rfl (Nat.le_of_ble_eq_true rfl)  (Nat.le_of_ble_eq_true rfl) (Nat.le_of_ble_eq_true rfl) (by omega) (by omega) (fun _ _ q => q.elim) ?_
          rintro _ h3 ⟨q3, rfl, hq3, gq3, r3, F3⟩
          have hx2 := hx.tr (zExt.new hq2 F2)
          have hx3 := hx2.tr (zExt.new hq3 F3)
          refine z_astore_n dMod_rotate_99 (Nat.le_of_ble_eq_true rfl) ?_
          refine z_iinc dMod_rotate_100 rfl (Nat.le_of_ble_eq_true rfl) ?_
          refine z_goto (tgt := 44) dMod_rotate_103 (by decide) ?_
          first
            | (exfalso; omega)
            | (have e9 := zRot_right L c (by omega)
               rw [show ((L.length : Int) - 1).toNat = L.length - 1 by omega, e9] at r3
               exact ih (m + 1) _ _ h3 q3 (c + 1) _ _ (by omega) (by omega) (by omega) (by omega) r3 (fun _ => by omega) (fun _ => by omega) (Or.inr ⟨hq3.dn hx2, gq3⟩) hx3 (Or.inr ⟨_, rfl⟩) (Or.inr ⟨_, rfl⟩))
            | (have e9 := zRot_left L c (by omega)
               rw [hdl0, hln, show ((L.length - 1 : Nat) : Int) = (L.length : Int) - 1 by omega, show ((0 : Int)).toNat = 0 from rfl, e9] at r3
               exact ih (m + 1) _ _ h3 q3 (c - 1) _ _ (by omega) (by omega) (by omega) (by omega) r3 (fun _ => by omega) (fun _ => by omega) (Or.inr ⟨hq3.dn hx2, gq3⟩) hx3 (Or.inr ⟨_, rfl⟩) (Or.inr ⟨_, rfl⟩))
theorem k_Mod_rotate {p b : Int} (H : zMod G h ma S th) (z_p : zI32 p) (z_b : zI32 b) (h16 : ∀ k, k < 4 → (S.1 k).length ≤ 16) : zM G l hMod_rotate yMod_rotate 4 [.ref (ma 0), zi p, zi b] h (zQm G ma h (1) (2) (3) (sp_rotate S p b)) zNo 198 11979 := by
  obtain ⟨m1, m2, ⟨g, m3, m3a⟩, m4, ⟨f6, m5, m5a⟩, m6, m7⟩ := id H
  unfold zMfs at m2
  refine zM.of [some (.ref (ma 0)), some (zi p), some (zi b), none, none, none, none, none] (by decide +kernel) rfl (by decide) rfl (Nat.le_of_ble_eq_true rfl) rfl ?_
  refine z_aload_n dMod_rotate_0 rfl ?_
  refine z_iload_n dMod_rotate_1 rfl ?_
  refine z_callS MS_Mod_isNo lk_Mod_81 dMod_rotate_2 (k_Mod_isNo (by omega)) rfl rfl (Nat.le_of_ble_eq_true rfl)  (Nat.le_of_ble_eq_true rfl) (Nat.le_of_ble_eq_true rfl) (Nat.le_of_eq (Nat.zero_add _)) (Nat.le_of_eq (Nat.zero_add _)) (fun _ _ q => q.elim) ?_
  rintro _ _ ⟨n9, rfl, hn9, rfl⟩
  refine z_iload_n dMod_rotate_5 rfl ?_
  refine z_bipush dMod_rotate_6 rfl ?_
  refine z_bipush dMod_rotate_8 rfl ?_
  refine z_callS MS_Mod_isOut lk_Mod_41 dMod_rotate_10 (k_Mod_isOut (by omega) (by omega) (by omega)) rfl rfl (Nat.le_of_ble_eq_true rfl)  (Nat.le_of_ble_eq_true rfl) (Nat.le_of_ble_eq_true rfl) (Nat.le_of_eq (Nat.zero_add _)) (Nat.le_of_eq (Nat.zero_add _)) (fun _ _ q => q.elim) ?_
  rintro _ _ ⟨o9, rfl, ho9, rfl⟩
  refine z_iconst dMod_rotate_13 ?_
  refine z_callV MV_Mod_fails lk_Mod_88 dMod_rotate_14 (k_Mod_fails (by assumption) rfl (by omega) (by omega) (by omega)) rfl rfl (Nat.le_of_ble_eq_true rfl) rfl (by assumption) (Nat.le_of_ble_eq_true rfl) (Nat.le_of_ble_eq_true rfl) (Nat.le_of_eq (Nat.zero_add _)) (Nat.le_of_eq (Nat.zero_add _)) (fun _ _ q => q.elim) ?_
  rintro _ h1 ⟨t9, b8, rfl, ht, p1, g1⟩
  have H1 : zMod G h1 ma S t9 := H.obj (nu := S.2.2.2.2) (th' := t9) p1 g1
  have fz1 : zMfr ma h h1 := zMfr.of0 g1
  obtain ⟨-, n2, ⟨gg, n3, n3a⟩, n4, ⟨f61, n5, n5a⟩, n6, n7⟩ := id H1
  unfold zMfs at n2
  refine z_if_eq (tgt := 22) dMod_rotate_17 (by decide) (by omega) (fun c17 => ?_) (fun c17 => ?_)
  · obtain ⟨k, rfl⟩ := Int.eq_ofNat_of_zero_le (show 0 ≤ p by omega)
    obtain ⟨frk, rk1, rk2, rk3, rk4⟩ := id (n6 k (by omega))
    have h16k := h16 k (by omega)
    have ezk : ∀ i : Int, 0 ≤ i → i < ((S.1 k).length : Int) → frk i.toNat = zAt (S.1 k) i := fun i x1 x2 => by rw [rk3 _ (by omega), zAt_eq x1 x2]
    have hk : k < 4 := by omega
    refine z_aload_n dMod_rotate_22 rfl ?_
    refine z_get (k := 0) fd_Mod (by decide) fl_Mod_11 dMod_rotate_23 (by assumption) (by rfl) ?_
    refine z_iload_n dMod_rotate_26 rfl ?_
    refine z_aald (t := 4) (ty := .array .int) rfl rfl dMod_rotate_27 n3 (by refine ⟨?_, ?_, ?_⟩ <;> omega) ?_
    rw [show (k : Int).toNat = k from rfl, n3a k (by omega)]
    refine z_astore_n dMod_rotate_28 (Nat.le_of_ble_eq_true rfl) ?_
    refine z_iload_n dMod_rotate_29 rfl ?_
    refine z_if_ge (tgt := 38) dMod_rotate_30 (by decide) (by omega) (fun c30 => ?_) (fun c30 => ?_)
    · refine z_iload_n dMod_rotate_38 rfl ?_
      refine z_istore dMod_rotate_39 (Nat.le_of_ble_eq_true rfl) ?_
      refine z_iconst dMod_rotate_41 ?_
      refine z_istore dMod_rotate_42 (Nat.le_of_ble_eq_true rfl) ?_
      first
        | refine l_Mod_rotate (h := h1) (L := S.1 k) (a0 := ma (8 + k)) (b := b) (v := b) (by omega) (by omega) (by omega) (fun _ => by omega) (fun _ => by omega) (fun bc bs h2 q2 y5 y6 y7 r2 hq2 hx2 => ?_) 100 0 198 11979 h1 (ma (8 + k)) 0 _ _ (by omega) (by omega) (by omega) (by omega) (by rw [zRot_0]; exact n6 k hk) (fun _ => rfl) (fun _ => rfl) (Or.inl rfl) zExt.rf (Or.inl rfl) (Or.inl rfl)
        | refine l_Mod_rotate (h := h1) (L := S.1 k) (a0 := ma (8 + k)) (b := b) (v := -b) (by omega) (by omega) (by omega) (fun _ => by omega) (fun _ => by omega) (fun bc bs h2 q2 y5 y6 y7 r2 hq2 hx2 => ?_) 100 0 198 11979 h1 (ma (8 + k)) 0 _ _ (by omega) (by omega) (by omega) (by omega) (by rw [zRot_0]; exact n6 k hk) (fun _ => rfl) (fun _ => rfl) (Or.inl rfl) zExt.rf (Or.inl rfl) (Or.inl rfl)
      have H2 : zMod G h2 ma S t9 := H1.ext hx2
      have oc2 := H2.2.1
      have fz2 : zMfr ma h h2 := fz1.tr (zMfr.ext hx2)
      have hnq : ∀ i, i < 13 → i ≠ 8 + k → q2 ≠ ma i := by
        intro i hi hne
        rcases hq2 with rfl | ⟨x1, -⟩
        · exact H.inj (by omega) hi (Ne.symm hne)
        · exact H1.nq x1 hi
      refine z_aload_n dMod_rotate_106 rfl ?_
      refine z_iload_n dMod_rotate_107 rfl ?_
      refine z_aload_n dMod_rotate_108 rfl ?_
      refine z_iconst dMod_rotate_109 ?_
      refine z_callV MV_Mod_become lk_Mod_77 dMod_rotate_110 (k_Mod_become H2 hk r2 hnq (by omega)) rfl rfl (Nat.le_of_ble_eq_true rfl) rfl (by assumption) (Nat.le_of_ble_eq_true rfl) (Nat.le_of_ble_eq_true rfl) (Nat.le_of_eq (Nat.zero_add _)) (Nat.le_of_eq (Nat.zero_add _)) (fun _ _ q => q.elim) ?_
      rintro _ h3 ⟨rfl, H3, F3⟩
      have fz3 : zMfr ma h h3 := fz2.tr (zMfr.bec F3)
      have e0 : zup ma (8 + k) q2 0 = ma 0 := zup_ne (by omega)
      have hfi := k_Mod_first (l := l) H3 hk
      rw [e0] at hfi
      have oc3 := H3.2.1
      rw [e0] at oc3
      rw [zsS_l] at hfi
      refine z_aload_n dMod_rotate_113 rfl ?_
      refine z_iload_n dMod_rotate_114 rfl ?_
      refine z_callV MV_Mod_first lk_Mod_133 dMod_rotate_115 hfi rfl rfl (Nat.le_of_ble_eq_true rfl) rfl (by assumption) (Nat.le_of_ble_eq_true rfl) (Nat.le_of_ble_eq_true rfl) (Nat.le_of_eq (Nat.zero_add _)) (Nat.le_of_eq (Nat.zero_add _)) (fun _ _ q => q.elim) ?_
      rintro _ _ ⟨rfl, rfl⟩
      refine z_iret rfl rfl dMod_rotate_118 ?_
      first
        | (exfalso; omega)
        | exact zQm.okB H3 (hq2.imp id (fun x9 => ⟨x9.1.up H1 fz1, x9.2⟩)) (by omega) (by assumption) (by unfold sp_rotate; (try unfold spPut); (try simp only [Int.toNat_natCast]); (repeat (first | rw [if_pos (by omega)] | rw [if_neg (by omega)] | rw [if_pos (by assumption)] | rw [if_neg (by assumption)] | rw [if_pos (True.intro : True)])); (try (first | rfl | (congr 2; omega) | (congr 1; congr 1; omega))); done)
    · refine z_iload_n dMod_rotate_33 rfl ?_
      refine z_ineg dMod_rotate_34 ?_
      refine z_goto (tgt := 39) dMod_rotate_35 (by decide) ?_
      refine z_istore dMod_rotate_39 (Nat.le_of_ble_eq_true rfl) ?_
      refine z_iconst dMod_rotate_41 ?_
      refine z_istore dMod_rotate_42 (Nat.le_of_ble_eq_true rfl) ?_
      first
        | refine l_Mod_rotate (h := h1) (L := S.1 k) (a0 := ma (8 + k)) (b := b) (v := b) (by omega) (by omega) (by omega) (fun _ => by omega) (fun _ => by omega) (fun bc bs h2 q2 y5 y6 y7 r2 hq2 hx2 => ?_) 100 0 198 11979 h1 (ma (8 + k)) 0 _ _ (by omega) (by omega) (by omega) (by omega) (by rw [zRot_0]; exact n6 k hk) (fun _ => rfl) (fun _ => rfl) (Or.inl rfl) zExt.rf (Or.inl rfl) (Or.inl rfl)
        | refine l_Mod_rotate (h := h1) (L := S.1 k) (a0 := ma (8 + k)) (b := b) (v := -b) (by omega) (by omega) (by omega) (fun _ => by omega) (fun _ => by omega) (fun bc bs h2 q2 y5 y6 y7 r2 hq2 hx2 => ?_) 100 0 198 11979 h1 (ma (8 + k)) 0 _ _ (by omega) (by omega) (by omega) (by omega) (by rw [zRot_0]; exact n6 k hk) (fun _ => rfl) (fun _ => rfl) (Or.inl rfl) zExt.rf (Or.inl rfl) (Or.inl rfl)
      have H2 : zMod G h2 ma S t9 := H1.ext hx2
      have oc2 := H2.2.1
      have fz2 : zMfr ma h h2 := fz1.tr (zMfr.ext hx2)
      have hnq : ∀ i, i < 13 → i ≠ 8 + k → q2 ≠ ma i := by
        intro i hi hne
        rcases hq2 with rfl | ⟨x1, -⟩
        · exact H.inj (by omega) hi (Ne.symm hne)
        · exact H1.nq x1 hi
      refine z_aload_n dMod_rotate_106 rfl ?_
      refine z_iload_n dMod_rotate_107 rfl ?_
      refine z_aload_n dMod_rotate_108 rfl ?_
      refine z_iconst dMod_rotate_109 ?_
      refine z_callV MV_Mod_become lk_Mod_77 dMod_rotate_110 (k_Mod_become H2 hk r2 hnq (by omega)) rfl rfl (Nat.le_of_ble_eq_true rfl) rfl (by assumption) (Nat.le_of_ble_eq_true rfl) (Nat.le_of_ble_eq_true rfl) (Nat.le_of_eq (Nat.zero_add _)) (Nat.le_of_eq (Nat.zero_add _)) (fun _ _ q => q.elim) ?_
      rintro _ h3 ⟨rfl, H3, F3⟩
      have fz3 : zMfr ma h h3 := fz2.tr (zMfr.bec F3)
      have e0 : zup ma (8 + k) q2 0 = ma 0 := zup_ne (by omega)
      have hfi := k_Mod_first (l := l) H3 hk
      rw [e0] at hfi
      have oc3 := H3.2.1
      rw [e0] at oc3
      rw [zsS_l] at hfi
      refine z_aload_n dMod_rotate_113 rfl ?_
      refine z_iload_n dMod_rotate_114 rfl ?_
      refine z_callV MV_Mod_first lk_Mod_133 dMod_rotate_115 hfi rfl rfl (Nat.le_of_ble_eq_true rfl) rfl (by assumption) (Nat.le_of_ble_eq_true rfl) (Nat.le_of_ble_eq_true rfl) (Nat.le_of_eq (Nat.zero_add _)) (Nat.le_of_eq (Nat.zero_add _)) (fun _ _ q => q.elim) ?_
      rintro _ _ ⟨rfl, rfl⟩
      refine z_iret rfl rfl dMod_rotate_118 ?_
      first
        | (exfalso; omega)
        | exact zQm.okB H3 (hq2.imp id (fun x9 => ⟨x9.1.up H1 fz1, x9.2⟩)) (by omega) (by assumption) (by unfold sp_rotate; (try unfold spPut); (try simp only [Int.toNat_natCast]); (repeat (first | rw [if_pos (by omega)] | rw [if_neg (by omega)] | rw [if_pos (by assumption)] | rw [if_neg (by assumption)] | rw [if_pos (True.intro : True)])); (try (first | rfl | (congr 2; omega) | (congr 1; congr 1; omega))); done)
  · refine z_iconst dMod_rotate_20 ?_
    refine z_iret rfl rfl dMod_rotate_21 ?_
    rcases (show t9 = 0 ∨ t9 = 1 ∨ t9 = 2 ∨ t9 = 3 by omega) with t0 | t0 | t0 | t0
    all_goals first
      | (exfalso; omega)
      | exact zQm.ok H1 (by omega) (by assumption) (by unfold sp_rotate; (try unfold spPut); (try simp only [Int.toNat_natCast]); (repeat (first | rw [if_pos (by omega)] | rw [if_neg (by omega)] | rw [if_pos (by assumption)] | rw [if_neg (by assumption)] | rw [if_pos (True.intro : True)])); (try (first | rfl | (congr 2; omega) | (congr 1; congr 1; omega))); done)
      | exact zQm.b1 H1 (by omega) (by assumption) (by unfold sp_rotate; (try unfold spPut); (try simp only [Int.toNat_natCast]); (repeat (first | rw [if_pos (by omega)] | rw [if_neg (by omega)] | rw [if_pos (by assumption)] | rw [if_neg (by assumption)] | rw [if_pos (True.intro : True)])); (try (first | rfl | (congr 2; omega) | (congr 1; congr 1; omega))); done)
      | exact zQm.b2 H1 (by omega) (by assumption) (by unfold sp_rotate; (try unfold spPut); (try simp only [Int.toNat_natCast]); (repeat (first | rw [if_pos (by omega)] | rw [if_neg (by omega)] | rw [if_pos (by assumption)] | rw [if_neg (by assumption)] | rw [if_pos (True.intro : True)])); (try (first | rfl | (congr 2; omega) | (congr 1; congr 1; omega))); done)
      | exact zQm.b3 H1 (by omega) (by assumption) (by unfold sp_rotate; (try unfold spPut); (try simp only [Int.toNat_natCast]); (repeat (first | rw [if_pos (by omega)] | rw [if_neg (by omega)] | rw [if_pos (by assumption)] | rw [if_neg (by assumption)] | rw [if_pos (True.intro : True)])); (try (first | rfl | (congr 2; omega) | (congr 1; congr 1; omega))); done)
end MOD11
end
section
section MOD12
variable {G : zG} {l : Launch} {h h' h'' : zHp} {ma : Nat → Nat} {S : zSt} {th : Int}
theorem k_Mod_move {p f t : Int} (H : zMod G h ma S th) (z_p : zI32 p) (z_f : zI32 f) (z_t : zI32 t) (h16 : ∀ k, k < 4 → (S.1 k).length ≤ 16) : zM G l hMod_move yMod_move 4 [.ref (ma 0), zi p, zi f, zi t] h (zQm G ma h (1) (2) (3) (sp_move S p f t)) zNo 2 121 := by
  obtain ⟨m1, m2, ⟨g, m3, m3a⟩, m4, ⟨f6, m5, m5a⟩, m6, m7⟩ := id H
  unfold zMfs at m2
  refine zM.of [some (.ref (ma 0)), some (zi p), some (zi f), some (zi t), none] (by decide +kernel) rfl (by decide) rfl (Nat.le_of_ble_eq_true rfl) rfl ?_
  refine z_aload_n dMod_move_0 rfl ?_
  refine z_iload_n dMod_move_1 rfl ?_
  refine z_callS MS_Mod_isNo lk_Mod_81 dMod_move_2 (k_Mod_isNo (by omega)) rfl rfl (Nat.le_of_ble_eq_true rfl)  (Nat.le_of_ble_eq_true rfl) (Nat.le_of_ble_eq_true rfl) (Nat.le_of_eq (Nat.zero_add _)) (Nat.le_of_eq (Nat.zero_add _)) (fun _ _ q => q.elim) ?_
  rintro _ _ ⟨n9k, rfl, (⟨rfl, hn9k⟩ | ⟨rfl, hn9k⟩), rfl⟩
  · refine z_if_ne (tgt := 26) dMod_move_5 (by decide) (by omega) (fun c5 => ?_) (fun c5 => ?_)
    · refine z_iconst dMod_move_26 ?_
      refine z_goto (tgt := 31) dMod_move_27 (by decide) ?_
      refine z_iconst dMod_move_31 ?_
      refine z_iconst dMod_move_32 ?_
      refine z_callV MV_Mod_fails lk_Mod_88 dMod_move_33 (k_Mod_fails (by assumption) rfl (by omega) (by omega) (by omega)) rfl rfl (Nat.le_of_ble_eq_true rfl) rfl (by assumption) (Nat.le_of_ble_eq_true rfl) (Nat.le_of_ble_eq_true rfl) (Nat.le_of_eq (Nat.zero_add _)) (Nat.le_of_eq (Nat.zero_add _)) (fun _ _ q => q.elim) ?_
      rintro _ h1 ⟨t9, b8, rfl, ht, p1, g1⟩
      have H1 : zMod G h1 ma S t9 := H.obj (nu := S.2.2.2.2) (th' := t9) p1 g1
      have fz1 : zMfr ma h h1 := zMfr.of0 g1
      obtain ⟨-, n2, ⟨gg, n3, n3a⟩, n4, ⟨f61, n5, n5a⟩, n6, n7⟩ := id H1
      unfold zMfs at n2
      refine z_if_eq (tgt := 41) dMod_move_36 (by decide) (by omega) (fun c36 => ?_) (fun c36 => ?_)
      · exfalso; omega
      · refine z_iconst dMod_move_39 ?_
        refine z_iret rfl rfl dMod_move_40 ?_
        rcases (show t9 = 0 ∨ t9 = 1 ∨ t9 = 2 ∨ t9 = 3 by omega) with t0 | t0 | t0 | t0
        all_goals first
          | (exfalso; omega)
          | exact zQm.okB H4 (Or.inr ⟨dq3, gq3⟩) (by omega) (by assumption) (by unfold sp_move; (try unfold spPut); (try simp only [Int.toNat_natCast]); (repeat (first | rw [if_pos (by omega)] | rw [if_neg (by omega)] | rw [if_pos (by assumption)] | rw [if_neg (by assumption)] | rw [if_pos (True.intro : True)])); (try (first | rfl | (congr 2; omega) | (congr 1; congr 1; omega))); done)
          | exact zQm.ok H1 (by omega) (by assumption) (by unfold sp_move; (try unfold spPut); (try simp only [Int.toNat_natCast]); (repeat (first | rw [if_pos (by omega)] | rw [if_neg (by omega)] | rw [if_pos (by assumption)] | rw [if_neg (by assumption)] | rw [if_pos (True.intro : True)])); (try (first | rfl | (congr 2; omega) | (congr 1; congr 1; omega))); done)
          | exact zQm.b1 H1 (by omega) (by assumption) (by unfold sp_move; (try unfold spPut); (try simp only [Int.toNat_natCast]); (repeat (first | rw [if_pos (by omega)] | rw [if_neg (by omega)] | rw [if_pos (by assumption)] | rw [if_neg (by assumption)] | rw [if_pos (True.intro : True)])); (try (first | rfl | (congr 2; omega) | (congr 1; congr 1; omega))); done)
          | exact zQm.b2 H1 (by omega) (by assumption) (by unfold sp_move; (try unfold spPut); (try simp only [Int.toNat_natCast]); (repeat (first | rw [if_pos (by omega)] | rw [if_neg (by omega)] | rw [if_pos (by assumption)] | rw [if_neg (by assumption)] | rw [if_pos (True.intro : True)])); (try (first | rfl | (congr 2; omega) | (congr 1; congr 1; omega))); done)
          | exact zQm.b3 H1 (by omega) (by assumption) (by unfold sp_move; (try unfold spPut); (try simp only [Int.toNat_natCast]); (repeat (first | rw [if_pos (by omega)] | rw [if_neg (by omega)] | rw [if_pos (by assumption)] | rw [if_neg (by assumption)] | rw [if_pos (True.intro : True)])); (try (first | rfl | (congr 2; omega) | (congr 1; congr 1; omega))); done)
    · exfalso; omega
  · obtain ⟨k, rfl⟩ := Int.eq_ofNat_of_zero_le (show 0 ≤ p by omega)
    have hkk : k < 4 := by omega
    refine z_if_ne (tgt := 26) dMod_move_5 (by decide) (by omega) (fun c5 => ?_) (fun c5 => ?_)
    · exfalso; omega
    · refine z_aload_n dMod_move_8 rfl ?_
      refine z_iload_n dMod_move_9 rfl ?_
      refine z_iload_n dMod_move_10 rfl ?_
      refine z_callV MV_Mod_isNoPlace lk_Mod_106 dMod_move_11 (k_Mod_isNoPlace H hkk (by omega)) rfl rfl (Nat.le_of_ble_eq_true rfl) rfl (by assumption) (Nat.le_of_ble_eq_true rfl) (Nat.le_of_ble_eq_true rfl) (Nat.le_of_eq (Nat.zero_add _)) (Nat.le_of_eq (Nat.zero_add _)) (fun _ _ q => q.elim) ?_
      rintro _ _ ⟨np9, rfl, (⟨rfl, hnp9⟩ | ⟨rfl, hnp9⟩), rfl⟩
      · refine z_if_ne (tgt := 26) dMod_move_14 (by decide) (by omega) (fun c14 => ?_) (fun c14 => ?_)
        · refine z_iconst dMod_move_26 ?_
          refine z_goto (tgt := 31) dMod_move_27 (by decide) ?_
          refine z_iconst dMod_move_31 ?_
          refine z_iconst dMod_move_32 ?_
          refine z_callV MV_Mod_fails lk_Mod_88 dMod_move_33 (k_Mod_fails (by assumption) rfl (by omega) (by omega) (by omega)) rfl rfl (Nat.le_of_ble_eq_true rfl) rfl (by assumption) (Nat.le_of_ble_eq_true rfl) (Nat.le_of_ble_eq_true rfl) (Nat.le_of_eq (Nat.zero_add _)) (Nat.le_of_eq (Nat.zero_add _)) (fun _ _ q => q.elim) ?_
          rintro _ h1 ⟨t9, b8, rfl, ht, p1, g1⟩
          have H1 : zMod G h1 ma S t9 := H.obj (nu := S.2.2.2.2) (th' := t9) p1 g1
          have fz1 : zMfr ma h h1 := zMfr.of0 g1
          obtain ⟨-, n2, ⟨gg, n3, n3a⟩, n4, ⟨f61, n5, n5a⟩, n6, n7⟩ := id H1
          unfold zMfs at n2
          refine z_if_eq (tgt := 41) dMod_move_36 (by decide) (by omega) (fun c36 => ?_) (fun c36 => ?_)
          · exfalso; omega
          · refine z_iconst dMod_move_39 ?_
            refine z_iret rfl rfl dMod_move_40 ?_
            rcases (show t9 = 0 ∨ t9 = 1 ∨ t9 = 2 ∨ t9 = 3 by omega) with t0 | t0 | t0 | t0
            all_goals first
              | (exfalso; omega)
              | exact zQm.okB H4 (Or.inr ⟨dq3, gq3⟩) (by omega) (by assumption) (by unfold sp_move; (try unfold spPut); (try simp only [Int.toNat_natCast]); (repeat (first | rw [if_pos (by omega)] | rw [if_neg (by omega)] | rw [if_pos (by assumption)] | rw [if_neg (by assumption)] | rw [if_pos (True.intro : True)])); (try (first | rfl | (congr 2; omega) | (congr 1; congr 1; omega))); done)
              | exact zQm.ok H1 (by omega) (by assumption) (by unfold sp_move; (try unfold spPut); (try simp only [Int.toNat_natCast]); (repeat (first | rw [if_pos (by omega)] | rw [if_neg (by omega)] | rw [if_pos (by assumption)] | rw [if_neg (by assumption)] | rw [if_pos (True.intro : True)])); (try (first | rfl | (congr 2; omega) | (congr 1; congr 1; omega))); done)
              | exact zQm.b1 H1 (by omega) (by assumption) (by unfold sp_move; (try unfold spPut); (try simp only [Int.toNat_natCast]); (repeat (first | rw [if_pos (by omega)] | rw [if_neg (by omega)] | rw [if_pos (by assumption)] | rw [if_neg (by assumption)] | rw [if_pos (True.intro : True)])); (try (first | rfl | (congr 2; omega) | (congr 1; congr 1; omega))); done)
              | exact zQm.b2 H1 (by omega) (by assumption) (by unfold sp_move; (try unfold spPut); (try simp only [Int.toNat_natCast]); (repeat (first | rw [if_pos (by omega)] | rw [if_neg (by omega)] | rw [if_pos (by assumption)] | rw [if_neg (by assumption)] | rw [if_pos (True.intro : True)])); (try (first | rfl | (congr 2; omega) | (congr 1; congr 1; omega))); done)
              | exact zQm.b3 H1 (by omega) (by assumption) (by unfold sp_move; (try unfold spPut); (try simp only [Int.toNat_natCast]); (repeat (first | rw [if_pos (by omega)] | rw [if_neg (by omega)] | rw [if_pos (by assumption)] | rw [if_neg (by assumption)] | rw [if_pos (True.intro : True)])); (try (first | rfl | (congr 2; omega) | (congr 1; congr 1; omega))); done)
        · exfalso; omega
      · refine z_if_ne (tgt := 26) dMod_move_14 (by decide) (by omega) (fun c14 => ?_) (fun c14 => ?_)
        · exfalso; omega
        · refine z_aload_n dMod_move_17 rfl ?_
          refine z_iload_n dMod_move_18 rfl ?_
          refine z_iload_n dMod_move_19 rfl ?_
          refine z_callV MV_Mod_isNoPlace lk_Mod_106 dMod_move_20 (k_Mod_isNoPlace H hkk (by omega)) rfl rfl (Nat.le_of_ble_eq_true rfl) rfl (by assumption) (Nat.le_of_ble_eq_true rfl) (Nat.le_of_ble_eq_true rfl) (Nat.le_of_eq (Nat.zero_add _)) (Nat.le_of_eq (Nat.zero_add _)) (fun _ _ q => q.elim) ?_
          rintro _ _ ⟨np9b, rfl, (⟨rfl, hnp9b⟩ | ⟨rfl, hnp9b⟩), rfl⟩
          · refine z_if_eq (tgt := 30) dMod_move_23 (by decide) (by omega) (fun c23 => ?_) (fun c23 => ?_)
            · exfalso; omega
            · refine z_iconst dMod_move_26 ?_
              refine z_goto (tgt := 31) dMod_move_27 (by decide) ?_
              refine z_iconst dMod_move_31 ?_
              refine z_iconst dMod_move_32 ?_
              refine z_callV MV_Mod_fails lk_Mod_88 dMod_move_33 (k_Mod_fails (by assumption) rfl (by omega) (by omega) (by omega)) rfl rfl (Nat.le_of_ble_eq_true rfl) rfl (by assumption) (Nat.le_of_ble_eq_true rfl) (Nat.le_of_ble_eq_true rfl) (Nat.le_of_eq (Nat.zero_add _)) (Nat.le_of_eq (Nat.zero_add _)) (fun _ _ q => q.elim) ?_
              rintro _ h1 ⟨t9, b8, rfl, ht, p1, g1⟩
              have H1 : zMod G h1 ma S t9 := H.obj (nu := S.2.2.2.2) (th' := t9) p1 g1
              have fz1 : zMfr ma h h1 := zMfr.of0 g1
              obtain ⟨-, n2, ⟨gg, n3, n3a⟩, n4, ⟨f61, n5, n5a⟩, n6, n7⟩ := id H1
              unfold zMfs at n2
              refine z_if_eq (tgt := 41) dMod_move_36 (by decide) (by omega) (fun c36 => ?_) (fun c36 => ?_)
              · exfalso; omega
              · refine z_iconst dMod_move_39 ?_
                refine z_iret rfl rfl dMod_move_40 ?_
                rcases (show t9 = 0 ∨ t9 = 1 ∨ t9 = 2 ∨ t9 = 3 by omega) with t0 | t0 | t0 | t0
                all_goals first
                  | (exfalso; omega)
                  | exact zQm.okB H4 (Or.inr ⟨dq3, gq3⟩) (by omega) (by assumption) (by unfold sp_move; (try unfold spPut); (try simp only [Int.toNat_natCast]); (repeat (first | rw [if_pos (by omega)] | rw [if_neg (by omega)] | rw [if_pos (by assumption)] | rw [if_neg (by assumption)] | rw [if_pos (True.intro : True)])); (try (first | rfl | (congr 2; omega) | (congr 1; congr 1; omega))); done)
                  | exact zQm.ok H1 (by omega) (by assumption) (by unfold sp_move; (try unfold spPut); (try simp only [Int.toNat_natCast]); (repeat (first | rw [if_pos (by omega)] | rw [if_neg (by omega)] | rw [if_pos (by assumption)] | rw [if_neg (by assumption)] | rw [if_pos (True.intro : True)])); (try (first | rfl | (congr 2; omega) | (congr 1; congr 1; omega))); done)
                  | exact zQm.b1 H1 (by omega) (by assumption) (by unfold sp_move; (try unfold spPut); (try simp only [Int.toNat_natCast]); (repeat (first | rw [if_pos (by omega)] | rw [if_neg (by omega)] | rw [if_pos (by assumption)] | rw [if_neg (by assumption)] | rw [if_pos (True.intro : True)])); (try (first | rfl | (congr 2; omega) | (congr 1; congr 1; omega))); done)
                  | exact zQm.b2 H1 (by omega) (by assumption) (by unfold sp_move; (try unfold spPut); (try simp only [Int.toNat_natCast]); (repeat (first | rw [if_pos (by omega)] | rw [if_neg (by omega)] | rw [if_pos (by assumption)] | rw [if_neg (by assumption)] | rw [if_pos (True.intro : True)])); (try (first | rfl | (congr 2; omega) | (congr 1; congr 1; omega))); done)
                  | exact zQm.b3 H1 (by omega) (by assumption) (by unfold sp_move; (try unfold spPut); (try simp only [Int.toNat_natCast]); (repeat (first | rw [if_pos (by omega)] | rw [if_neg (by omega)] | rw [if_pos (by assumption)] | rw [if_neg (by assumption)] | rw [if_pos (True.intro : True)])); (try (first | rfl | (congr 2; omega) | (congr 1; congr 1; omega))); done)
          · refine z_if_eq (tgt := 30) dMod_move_23 (by decide) (by omega) (fun c23 => ?_) (fun c23 => ?_)
            · refine z_iconst dMod_move_30 ?_
              refine z_iconst dMod_move_31 ?_
              refine z_iconst dMod_move_32 ?_
              refine z_callV MV_Mod_fails lk_Mod_88 dMod_move_33 (k_Mod_fails (by assumption) rfl (by omega) (by omega) (by omega)) rfl rfl (Nat.le_of_ble_eq_true rfl) rfl (by assumption) (Nat.le_of_ble_eq_true rfl) (Nat.le_of_ble_eq_true rfl) (Nat.le_of_eq (Nat.zero_add _)) (Nat.le_of_eq (Nat.zero_add _)) (fun _ _ q => q.elim) ?_
              rintro _ h1 ⟨t9, b8, rfl, ht, p1, g1⟩
              have H1 : zMod G h1 ma S t9 := H.obj (nu := S.2.2.2.2) (th' := t9) p1 g1
              have fz1 : zMfr ma h h1 := zMfr.of0 g1
              obtain ⟨-, n2, ⟨gg, n3, n3a⟩, n4, ⟨f61, n5, n5a⟩, n6, n7⟩ := id H1
              unfold zMfs at n2
              refine z_if_eq (tgt := 41) dMod_move_36 (by decide) (by omega) (fun c36 => ?_) (fun c36 => ?_)
              · obtain ⟨frk, rk1, rk2, rk3, rk4⟩ := id (n6 k (by omega))
                have h16k := h16 k (by omega)
                have ezk : ∀ i : Int, 0 ≤ i → i < ((S.1 k).length : Int) → frk i.toNat = zAt (S.1 k) i := fun i x1 x2 => by rw [rk3 _ (by omega), zAt_eq x1 x2]
                have ez9 := rk3 f.toNat (by omega)
                refine z_aload_n dMod_move_41 rfl ?_
                refine z_get (k := 0) fd_Mod (by decide) fl_Mod_11 dMod_move_42 (by assumption) (by rfl) ?_
                refine z_iload_n dMod_move_45 rfl ?_
                refine z_aald (t := 4) (ty := .array .int) rfl rfl dMod_move_46 n3 (by refine ⟨?_, ?_, ?_⟩ <;> omega) ?_
                rw [show (k : Int).toNat = k from rfl, n3a k (by omega)]
                refine z_iload_n dMod_move_47 rfl ?_
                refine z_iald dMod_move_48 (by assumption) (by refine ⟨?_, ?_, ?_⟩ <;> omega) ?_
                rw [ez9]
                refine z_istore dMod_move_49 (Nat.le_of_ble_eq_true rfl) ?_
                refine z_aload_n dMod_move_51 rfl ?_
                refine z_iload_n dMod_move_52 rfl ?_
                refine z_aload_n dMod_move_53 rfl ?_
                refine z_get (k := 0) fd_Mod (by decide) fl_Mod_11 dMod_move_54 (by assumption) (by rfl) ?_
                refine z_iload_n dMod_move_57 rfl ?_
                refine z_aald (t := 4) (ty := .array .int) rfl rfl dMod_move_58 n3 (by refine ⟨?_, ?_, ?_⟩ <;> omega) ?_
                rw [show (k : Int).toNat = k from rfl, n3a k (by omega)]
                refine z_iload_n dMod_move_59 rfl ?_
                refine z_callS (bc' := 1) (bs' := 61) MS_Mod_without lk_Mod_102 dMod_move_60 (k_Mod_without (n6 k (by omega)) (by omega) (by omega)) rfl rfl (Nat.le_of_ble_eq_true rfl)  (Nat.le_of_ble_eq_true rfl) (Nat.le_of_ble_eq_true rfl) (by decide) (by decide) (fun _ _ q => q.elim) ?_
                rintro _ h2 ⟨q2, rfl, hq2, gq2, r2, F2⟩
                have H2 : zMod G h2 ma S t9 := H1.keep hq2 F2
                have fz2 : zMfr ma h h2 := fz1.tr (zMfr.new hq2 F2)
                have dq2 : zDm h q2 := hq2.up H1 fz1
                have oc2 := H2.2.1
                have hdl := zDel_len (S.1 k) f
                refine z_iload_n dMod_move_63 rfl ?_
                refine z_iload dMod_move_64 rfl ?_
                refine z_callS (bc' := 0) (bs' := 0) MS_Mod_with lk_Mod_49 dMod_move_66 (k_Mod_with r2 (by omega) (rk4 _ (by omega)) (by omega)) rfl rfl (Nat.le_of_ble_eq_true rfl)  (Nat.le_of_ble_eq_true rfl) (Nat.le_of_ble_eq_true rfl) (by decide) (by decide) (fun _ _ q => q.elim) ?_
                rintro _ h3 ⟨q3, rfl, hq3, gq3, r3, F3⟩
                have H3 : zMod G h3 ma S t9 := H2.keep hq3 F3
                have fz3 : zMfr ma h h3 := fz2.tr (zMfr.new hq3 F3)
                have dq3 : zDm h q3 := hq3.up H2 fz2
                have oc3 := H3.2.1
                refine z_iconst dMod_move_69 ?_
                refine z_callV MV_Mod_become lk_Mod_77 dMod_move_70 (k_Mod_become H3 (by omega) r3 (fun i hi _ => H2.nq hq3 hi) (by omega)) rfl rfl (Nat.le_of_ble_eq_true rfl) rfl (by assumption) (Nat.le_of_ble_eq_true rfl) (Nat.le_of_ble_eq_true rfl) (Nat.le_of_eq (Nat.zero_add _)) (Nat.le_of_eq (Nat.zero_add _)) (fun _ _ q => q.elim) ?_
                rintro _ h4 ⟨rfl, H4, F4⟩
                have fz4 : zMfr ma h h4 := fz3.tr (zMfr.bec F4)
                have dq3b : zDm h q3 := dq3
                refine z_iload dMod_move_73 rfl ?_
                refine z_iret rfl rfl dMod_move_75 ?_
                rcases (show t9 = 0 ∨ t9 = 1 ∨ t9 = 2 ∨ t9 = 3 by omega) with t0 | t0 | t0 | t0
                all_goals first
                  | (exfalso; omega)
                  | exact zQm.okB H4 (Or.inr ⟨dq3, gq3⟩) (by omega) (by assumption) (by unfold sp_move; (try unfold spPut); (try simp only [Int.toNat_natCast]); (repeat (first | rw [if_pos (by omega)] | rw [if_neg (by omega)] | rw [if_pos (by assumption)] | rw [if_neg (by assumption)] | rw [if_pos (True.intro : True)])); (try (first | rfl | (congr 2; omega) | (congr 1; congr 1; omega))); done)
                  | exact zQm.ok H1 (by omega) (by assumption) (by unfold sp_move; (try unfold spPut); (try simp only [Int.toNat_natCast]); (repeat (first | rw [if_pos (by omega)] | rw [if_neg (by omega)] | rw [if_pos (by assumption)] | rw [if_neg (by assumption)] | rw [if_pos (True.intro : True)])); (try (first | rfl | (congr 2; omega) | (congr 1; congr 1; omega))); done)
                  | exact zQm.b1 H1 (by omega) (by assumption) (by unfold sp_move; (try unfold spPut); (try simp only [Int.toNat_natCast]); (repeat (first | rw [if_pos (by omega)] | rw [if_neg (by omega)] | rw [if_pos (by assumption)] | rw [if_neg (by assumption)] | rw [if_pos (True.intro : True)])); (try (first | rfl | (congr 2; omega) | (congr 1; congr 1; omega))); done)
                  | exact zQm.b2 H1 (by omega) (by assumption) (by unfold sp_move; (try unfold spPut); (try simp only [Int.toNat_natCast]); (repeat (first | rw [if_pos (by omega)] | rw [if_neg (by omega)] | rw [if_pos (by assumption)] | rw [if_neg (by assumption)] | rw [if_pos (True.intro : True)])); (try (first | rfl | (congr 2; omega) | (congr 1; congr 1; omega))); done)
                  | exact zQm.b3 H1 (by omega) (by assumption) (by unfold sp_move; (try unfold spPut); (try simp only [Int.toNat_natCast]); (repeat (first | rw [if_pos (by omega)] | rw [if_neg (by omega)] | rw [if_pos (by assumption)] | rw [if_neg (by assumption)] | rw [if_pos (True.intro : True)])); (try (first | rfl | (congr 2; omega) | (congr 1; congr 1; omega))); done)
              · refine z_iconst dMod_move_39 ?_
                refine z_iret rfl rfl dMod_move_40 ?_
                rcases (show t9 = 0 ∨ t9 = 1 ∨ t9 = 2 ∨ t9 = 3 by omega) with t0 | t0 | t0 | t0
                all_goals first
                  | (exfalso; omega)
                  | exact zQm.okB H4 (Or.inr ⟨dq3, gq3⟩) (by omega) (by assumption) (by unfold sp_move; (try unfold spPut); (try simp only [Int.toNat_natCast]); (repeat (first | rw [if_pos (by omega)] | rw [if_neg (by omega)] | rw [if_pos (by assumption)] | rw [if_neg (by assumption)] | rw [if_pos (True.intro : True)])); (try (first | rfl | (congr 2; omega) | (congr 1; congr 1; omega))); done)
                  | exact zQm.ok H1 (by omega) (by assumption) (by unfold sp_move; (try unfold spPut); (try simp only [Int.toNat_natCast]); (repeat (first | rw [if_pos (by omega)] | rw [if_neg (by omega)] | rw [if_pos (by assumption)] | rw [if_neg (by assumption)] | rw [if_pos (True.intro : True)])); (try (first | rfl | (congr 2; omega) | (congr 1; congr 1; omega))); done)
                  | exact zQm.b1 H1 (by omega) (by assumption) (by unfold sp_move; (try unfold spPut); (try simp only [Int.toNat_natCast]); (repeat (first | rw [if_pos (by omega)] | rw [if_neg (by omega)] | rw [if_pos (by assumption)] | rw [if_neg (by assumption)] | rw [if_pos (True.intro : True)])); (try (first | rfl | (congr 2; omega) | (congr 1; congr 1; omega))); done)
                  | exact zQm.b2 H1 (by omega) (by assumption) (by unfold sp_move; (try unfold spPut); (try simp only [Int.toNat_natCast]); (repeat (first | rw [if_pos (by omega)] | rw [if_neg (by omega)] | rw [if_pos (by assumption)] | rw [if_neg (by assumption)] | rw [if_pos (True.intro : True)])); (try (first | rfl | (congr 2; omega) | (congr 1; congr 1; omega))); done)
                  | exact zQm.b3 H1 (by omega) (by assumption) (by unfold sp_move; (try unfold spPut); (try simp only [Int.toNat_natCast]); (repeat (first | rw [if_pos (by omega)] | rw [if_neg (by omega)] | rw [if_pos (by assumption)] | rw [if_neg (by assumption)] | rw [if_pos (True.intro : True)])); (try (first | rfl | (congr 2; omega) | (congr 1; congr 1; omega))); done)
            · exfalso; omega
theorem k_Mod_swap {p i j : Int} (H : zMod G h ma S th) (z_p : zI32 p) (z_i : zI32 i) (z_j : zI32 j) (h16 : ∀ k, k < 4 → (S.1 k).length ≤ 16) : zM G l hMod_swap yMod_swap 4 [.ref (ma 0), zi p, zi i, zi j] h (zQm G ma h (1) (2) (3) (sp_swap S p i j)) zNo 0 0 := by
  obtain ⟨m1, m2, ⟨g, m3, m3a⟩, m4, ⟨f6, m5, m5a⟩, m6, m7⟩ := id H
  unfold zMfs at m2
  refine zM.of [some (.ref (ma 0)), some (zi p), some (zi i), some (zi j), none] (by decide +kernel) rfl (by decide) rfl (Nat.le_of_ble_eq_true rfl) rfl ?_
  refine z_aload_n dMod_swap_0 rfl ?_
  refine z_iload_n dMod_swap_1 rfl ?_
  refine z_callS MS_Mod_isNo lk_Mod_81 dMod_swap_2 (k_Mod_isNo (by omega)) rfl rfl (Nat.le_of_ble_eq_true rfl)  (Nat.le_of_ble_eq_true rfl) (Nat.le_of_ble_eq_true rfl) (Nat.le_of_eq (Nat.zero_add _)) (Nat.le_of_eq (Nat.zero_add _)) (fun _ _ q => q.elim) ?_
  rintro _ _ ⟨n9k, rfl, (⟨rfl, hn9k⟩ | ⟨rfl, hn9k⟩), rfl⟩
  · refine z_if_ne (tgt := 26) dMod_swap_5 (by decide) (by omega) (fun c5 => ?_) (fun c5 => ?_)
    · refine z_iconst dMod_swap_26 ?_
      refine z_goto (tgt := 31) dMod_swap_27 (by decide) ?_
      refine z_iconst dMod_swap_31 ?_
      refine z_iconst dMod_swap_32 ?_
      refine z_callV MV_Mod_fails lk_Mod_88 dMod_swap_33 (k_Mod_fails (by assumption) rfl (by omega) (by omega) (by omega)) rfl rfl (Nat.le_of_ble_eq_true rfl) rfl (by assumption) (Nat.le_of_ble_eq_true rfl) (Nat.le_of_ble_eq_true rfl) (Nat.le_of_eq (Nat.zero_add _)) (Nat.le_of_eq (Nat.zero_add _)) (fun _ _ q => q.elim) ?_
      rintro _ h1 ⟨t9, b8, rfl, ht, p1, g1⟩
      have H1 : zMod G h1 ma S t9 := H.obj (nu := S.2.2.2.2) (th' := t9) p1 g1
      have fz1 : zMfr ma h h1 := zMfr.of0 g1
      obtain ⟨-, n2, ⟨gg, n3, n3a⟩, n4, ⟨f61, n5, n5a⟩, n6, n7⟩ := id H1
      unfold zMfs at n2
      refine z_if_eq (tgt := 41) dMod_swap_36 (by decide) (by omega) (fun c36 => ?_) (fun c36 => ?_)
      · exfalso; omega
      · refine z_iconst dMod_swap_39 ?_
        refine z_iret rfl rfl dMod_swap_40 ?_
        rcases (show t9 = 0 ∨ t9 = 1 ∨ t9 = 2 ∨ t9 = 3 by omega) with t0 | t0 | t0 | t0
        all_goals first
          | (exfalso; omega)
          | exact zQm.ok H3 (by omega) (by assumption) (by unfold sp_swap; (try unfold spPut); (try simp only [Int.toNat_natCast]); (repeat (first | rw [if_pos (by omega)] | rw [if_neg (by omega)] | rw [if_pos (by assumption)] | rw [if_neg (by assumption)] | rw [if_pos (True.intro : True)])); (try (first | rfl | (congr 2; omega) | (congr 1; congr 1; omega))); done)
          | exact zQm.b1 H3 (by omega) (by assumption) (by unfold sp_swap; (try unfold spPut); (try simp only [Int.toNat_natCast]); (repeat (first | rw [if_pos (by omega)] | rw [if_neg (by omega)] | rw [if_pos (by assumption)] | rw [if_neg (by assumption)] | rw [if_pos (True.intro : True)])); (try (first | rfl | (congr 2; omega) | (congr 1; congr 1; omega))); done)
          | exact zQm.b2 H3 (by omega) (by assumption) (by unfold sp_swap; (try unfold spPut); (try simp only [Int.toNat_natCast]); (repeat (first | rw [if_pos (by omega)] | rw [if_neg (by omega)] | rw [if_pos (by assumption)] | rw [if_neg (by assumption)] | rw [if_pos (True.intro : True)])); (try (first | rfl | (congr 2; omega) | (congr 1; congr 1; omega))); done)
          | exact zQm.b3 H3 (by omega) (by assumption) (by unfold sp_swap; (try unfold spPut); (try simp only [Int.toNat_natCast]); (repeat (first | rw [if_pos (by omega)] | rw [if_neg (by omega)] | rw [if_pos (by assumption)] | rw [if_neg (by assumption)] | rw [if_pos (True.intro : True)])); (try (first | rfl | (congr 2; omega) | (congr 1; congr 1; omega))); done)
          | exact zQm.ok H1 (by omega) (by assumption) (by unfold sp_swap; (try unfold spPut); (try simp only [Int.toNat_natCast]); (repeat (first | rw [if_pos (by omega)] | rw [if_neg (by omega)] | rw [if_pos (by assumption)] | rw [if_neg (by assumption)] | rw [if_pos (True.intro : True)])); (try (first | rfl | (congr 2; omega) | (congr 1; congr 1; omega))); done)
          | exact zQm.b1 H1 (by omega) (by assumption) (by unfold sp_swap; (try unfold spPut); (try simp only [Int.toNat_natCast]); (repeat (first | rw [if_pos (by omega)] | rw [if_neg (by omega)] | rw [if_pos (by assumption)] | rw [if_neg (by assumption)] | rw [if_pos (True.intro : True)])); (try (first | rfl | (congr 2; omega) | (congr 1; congr 1; omega))); done)
          | exact zQm.b2 H1 (by omega) (by assumption) (by unfold sp_swap; (try unfold spPut); (try simp only [Int.toNat_natCast]); (repeat (first | rw [if_pos (by omega)] | rw [if_neg (by omega)] | rw [if_pos (by assumption)] | rw [if_neg (by assumption)] | rw [if_pos (True.intro : True)])); (try (first | rfl | (congr 2; omega) | (congr 1; congr 1; omega))); done)
          | exact zQm.b3 H1 (by omega) (by assumption) (by unfold sp_swap; (try unfold spPut); (try simp only [Int.toNat_natCast]); (repeat (first | rw [if_pos (by omega)] | rw [if_neg (by omega)] | rw [if_pos (by assumption)] | rw [if_neg (by assumption)] | rw [if_pos (True.intro : True)])); (try (first | rfl | (congr 2; omega) | (congr 1; congr 1; omega))); done)
    · exfalso; omega
  · obtain ⟨k, rfl⟩ := Int.eq_ofNat_of_zero_le (show 0 ≤ p by omega)
    have hkk : k < 4 := by omega
    refine z_if_ne (tgt := 26) dMod_swap_5 (by decide) (by omega) (fun c5 => ?_) (fun c5 => ?_)
    · exfalso; omega
    · refine z_aload_n dMod_swap_8 rfl ?_
      refine z_iload_n dMod_swap_9 rfl ?_
      refine z_iload_n dMod_swap_10 rfl ?_
      refine z_callV MV_Mod_isNoPlace lk_Mod_106 dMod_swap_11 (k_Mod_isNoPlace H hkk (by omega)) rfl rfl (Nat.le_of_ble_eq_true rfl) rfl (by assumption) (Nat.le_of_ble_eq_true rfl) (Nat.le_of_ble_eq_true rfl) (Nat.le_of_eq (Nat.zero_add _)) (Nat.le_of_eq (Nat.zero_add _)) (fun _ _ q => q.elim) ?_
      rintro _ _ ⟨np9, rfl, (⟨rfl, hnp9⟩ | ⟨rfl, hnp9⟩), rfl⟩
      · refine z_if_ne (tgt := 26) dMod_swap_14 (by decide) (by omega) (fun c14 => ?_) (fun c14 => ?_)
        · refine z_iconst dMod_swap_26 ?_
          refine z_goto (tgt := 31) dMod_swap_27 (by decide) ?_
          refine z_iconst dMod_swap_31 ?_
          refine z_iconst dMod_swap_32 ?_
          refine z_callV MV_Mod_fails lk_Mod_88 dMod_swap_33 (k_Mod_fails (by assumption) rfl (by omega) (by omega) (by omega)) rfl rfl (Nat.le_of_ble_eq_true rfl) rfl (by assumption) (Nat.le_of_ble_eq_true rfl) (Nat.le_of_ble_eq_true rfl) (Nat.le_of_eq (Nat.zero_add _)) (Nat.le_of_eq (Nat.zero_add _)) (fun _ _ q => q.elim) ?_
          rintro _ h1 ⟨t9, b8, rfl, ht, p1, g1⟩
          have H1 : zMod G h1 ma S t9 := H.obj (nu := S.2.2.2.2) (th' := t9) p1 g1
          have fz1 : zMfr ma h h1 := zMfr.of0 g1
          obtain ⟨-, n2, ⟨gg, n3, n3a⟩, n4, ⟨f61, n5, n5a⟩, n6, n7⟩ := id H1
          unfold zMfs at n2
          refine z_if_eq (tgt := 41) dMod_swap_36 (by decide) (by omega) (fun c36 => ?_) (fun c36 => ?_)
          · exfalso; omega
          · refine z_iconst dMod_swap_39 ?_
            refine z_iret rfl rfl dMod_swap_40 ?_
            rcases (show t9 = 0 ∨ t9 = 1 ∨ t9 = 2 ∨ t9 = 3 by omega) with t0 | t0 | t0 | t0
            all_goals first
              | (exfalso; omega)
              | exact zQm.ok H3 (by omega) (by assumption) (by unfold sp_swap; (try unfold spPut); (try simp only [Int.toNat_natCast]); (repeat (first | rw [if_pos (by omega)] | rw [if_neg (by omega)] | rw [if_pos (by assumption)] | rw [if_neg (by assumption)] | rw [if_pos (True.intro : True)])); (try (first | rfl | (congr 2; omega) | (congr 1; congr 1; omega))); done)
              | exact zQm.b1 H3 (by omega) (by assumption) (by unfold sp_swap; (try unfold spPut); (try simp only [Int.toNat_natCast]); (repeat (first | rw [if_pos (by omega)] | rw [if_neg (by omega)] | rw [if_pos (by assumption)] | rw [if_neg (by assumption)] | rw [if_pos (True.intro : True)])); (try (first | rfl | (congr 2; omega) | (congr 1; congr 1; omega))); done)
              | exact zQm.b2 H3 (by omega) (by assumption) (by unfold sp_swap; (try unfold spPut); (try simp only [Int.toNat_natCast]); (repeat (first | rw [if_pos (by omega)] | rw [if_neg (by omega)] | rw [if_pos (by assumption)] | rw [if_neg (by assumption)] | rw [if_pos (True.intro : True)])); (try (first | rfl | (congr 2; omega) | (congr 1; congr 1; omega))); done)
              | exact zQm.b3 H3 (by omega) (by assumption) (by unfold sp_swap; (try unfold spPut); (try simp only [Int.toNat_natCast]); (repeat (first | rw [if_pos (by omega)] | rw [if_neg (by omega)] | rw [if_pos (by assumption)] | rw [if_neg (by assumption)] | rw [if_pos (True.intro : True)])); (try (first | rfl | (congr 2; omega) | (congr 1; congr 1; omega))); done)
              | exact zQm.ok H1 (by omega) (by assumption) (by unfold sp_swap; (try unfold spPut); (try simp only [Int.toNat_natCast]); (repeat (first | rw [if_pos (by omega)] | rw [if_neg (by omega)] | rw [if_pos (by assumption)] | rw [if_neg (by assumption)] | rw [if_pos (True.intro : True)])); (try (first | rfl | (congr 2; omega) | (congr 1; congr 1; omega))); done)
              | exact zQm.b1 H1 (by omega) (by assumption) (by unfold sp_swap; (try unfold spPut); (try simp only [Int.toNat_natCast]); (repeat (first | rw [if_pos (by omega)] | rw [if_neg (by omega)] | rw [if_pos (by assumption)] | rw [if_neg (by assumption)] | rw [if_pos (True.intro : True)])); (try (first | rfl | (congr 2; omega) | (congr 1; congr 1; omega))); done)
              | exact zQm.b2 H1 (by omega) (by assumption) (by unfold sp_swap; (try unfold spPut); (try simp only [Int.toNat_natCast]); (repeat (first | rw [if_pos (by omega)] | rw [if_neg (by omega)] | rw [if_pos (by assumption)] | rw [if_neg (by assumption)] | rw [if_pos (True.intro : True)])); (try (first | rfl | (congr 2; omega) | (congr 1; congr 1; omega))); done)
              | exact zQm.b3 H1 (by omega) (by assumption) (by unfold sp_swap; (try unfold spPut); (try simp only [Int.toNat_natCast]); (repeat (first | rw [if_pos (by omega)] | rw [if_neg (by omega)] | rw [if_pos (by assumption)] | rw [if_neg (by assumption)] | rw [if_pos (True.intro : True)])); (try (first | rfl | (congr 2; omega) | (congr 1; congr 1; omega))); done)
        · exfalso; omega
      · refine z_if_ne (tgt := 26) dMod_swap_14 (by decide) (by omega) (fun c14 => ?_) (fun c14 => ?_)
        · exfalso; omega
        · refine z_aload_n dMod_swap_17 rfl ?_
          refine z_iload_n dMod_swap_18 rfl ?_
          refine z_iload_n dMod_swap_19 rfl ?_
          refine z_callV MV_Mod_isNoPlace lk_Mod_106 dMod_swap_20 (k_Mod_isNoPlace H hkk (by omega)) rfl rfl (Nat.le_of_ble_eq_true rfl) rfl (by assumption) (Nat.le_of_ble_eq_true rfl) (Nat.le_of_ble_eq_true rfl) (Nat.le_of_eq (Nat.zero_add _)) (Nat.le_of_eq (Nat.zero_add _)) (fun _ _ q => q.elim) ?_
          rintro _ _ ⟨np9b, rfl, (⟨rfl, hnp9b⟩ | ⟨rfl, hnp9b⟩), rfl⟩
          · refine z_if_eq (tgt := 30) dMod_swap_23 (by decide) (by omega) (fun c23 => ?_) (fun c23 => ?_)
            · exfalso; omega
            · refine z_iconst dMod_swap_26 ?_
              refine z_goto (tgt := 31) dMod_swap_27 (by decide) ?_
              refine z_iconst dMod_swap_31 ?_
              refine z_iconst dMod_swap_32 ?_
              refine z_callV MV_Mod_fails lk_Mod_88 dMod_swap_33 (k_Mod_fails (by assumption) rfl (by omega) (by omega) (by omega)) rfl rfl (Nat.le_of_ble_eq_true rfl) rfl (by assumption) (Nat.le_of_ble_eq_true rfl) (Nat.le_of_ble_eq_true rfl) (Nat.le_of_eq (Nat.zero_add _)) (Nat.le_of_eq (Nat.zero_add _)) (fun _ _ q => q.elim) ?_
              rintro _ h1 ⟨t9, b8, rfl, ht, p1, g1⟩
              have H1 : zMod G h1 ma S t9 := H.obj (nu := S.2.2.2.2) (th' := t9) p1 g1
              have fz1 : zMfr ma h h1 := zMfr.of0 g1
              obtain ⟨-, n2, ⟨gg, n3, n3a⟩, n4, ⟨f61, n5, n5a⟩, n6, n7⟩ := id H1
              unfold zMfs at n2
              refine z_if_eq (tgt := 41) dMod_swap_36 (by decide) (by omega) (fun c36 => ?_) (fun c36 => ?_)
              · exfalso; omega
              · refine z_iconst dMod_swap_39 ?_
                refine z_iret rfl rfl dMod_swap_40 ?_
                rcases (show t9 = 0 ∨ t9 = 1 ∨ t9 = 2 ∨ t9 = 3 by omega) with t0 | t0 | t0 | t0
                all_goals first
                  | (exfalso; omega)
                  | exact zQm.ok H3 (by omega) (by assumption) (by unfold sp_swap; (try unfold spPut); (try simp only [Int.toNat_natCast]); (repeat (first | rw [if_pos (by omega)] | rw [if_neg (by omega)] | rw [if_pos (by assumption)] | rw [if_neg (by assumption)] | rw [if_pos (True.intro : True)])); (try (first | rfl | (congr 2; omega) | (congr 1; congr 1; omega))); done)
                  | exact zQm.b1 H3 (by omega) (by assumption) (by unfold sp_swap; (try unfold spPut); (try simp only [Int.toNat_natCast]); (repeat (first | rw [if_pos (by omega)] | rw [if_neg (by omega)] | rw [if_pos (by assumption)] | rw [if_neg (by assumption)] | rw [if_pos (True.intro : True)])); (try (first | rfl | (congr 2; omega) | (congr 1; congr 1; omega))); done)
                  | exact zQm.b2 H3 (by omega) (by assumption) (by unfold sp_swap; (try unfold spPut); (try simp only [Int.toNat_natCast]); (repeat (first | rw [if_pos (by omega)] | rw [if_neg (by omega)] | rw [if_pos (by assumption)] | rw [if_neg (by assumption)] | rw [if_pos (True.intro : True)])); (try (first | rfl | (congr 2; omega) | (congr 1; congr 1; omega))); done)
                  | exact zQm.b3 H3 (by omega) (by assumption) (by unfold sp_swap; (try unfold spPut); (try simp only [Int.toNat_natCast]); (repeat (first | rw [if_pos (by omega)] | rw [if_neg (by omega)] | rw [if_pos (by assumption)] | rw [if_neg (by assumption)] | rw [if_pos (True.intro : True)])); (try (first | rfl | (congr 2; omega) | (congr 1; congr 1; omega))); done)
                  | exact zQm.ok H1 (by omega) (by assumption) (by unfold sp_swap; (try unfold spPut); (try simp only [Int.toNat_natCast]); (repeat (first | rw [if_pos (by omega)] | rw [if_neg (by omega)] | rw [if_pos (by assumption)] | rw [if_neg (by assumption)] | rw [if_pos (True.intro : True)])); (try (first | rfl | (congr 2; omega) | (congr 1; congr 1; omega))); done)
                  | exact zQm.b1 H1 (by omega) (by assumption) (by unfold sp_swap; (try unfold spPut); (try simp only [Int.toNat_natCast]); (repeat (first | rw [if_pos (by omega)] | rw [if_neg (by omega)] | rw [if_pos (by assumption)] | rw [if_neg (by assumption)] | rw [if_pos (True.intro : True)])); (try (first | rfl | (congr 2; omega) | (congr 1; congr 1; omega))); done)
                  | exact zQm.b2 H1 (by omega) (by assumption) (by unfold sp_swap; (try unfold spPut); (try simp only [Int.toNat_natCast]); (repeat (first | rw [if_pos (by omega)] | rw [if_neg (by omega)] | rw [if_pos (by assumption)] | rw [if_neg (by assumption)] | rw [if_pos (True.intro : True)])); (try (first | rfl | (congr 2; omega) | (congr 1; congr 1; omega))); done)
                  | exact zQm.b3 H1 (by omega) (by assumption) (by unfold sp_swap; (try unfold spPut); (try simp only [Int.toNat_natCast]); (repeat (first | rw [if_pos (by omega)] | rw [if_neg (by omega)] | rw [if_pos (by assumption)] | rw [if_neg (by assumption)] | rw [if_pos (True.intro : True)])); (try (first | rfl | (congr 2; omega) | (congr 1; congr 1; omega))); done)
          · refine z_if_eq (tgt := 30) dMod_swap_23 (by decide) (by omega) (fun c23 => ?_) (fun c23 => ?_)
            · refine z_iconst dMod_swap_30 ?_
              refine z_iconst dMod_swap_31 ?_
              refine z_iconst dMod_swap_32 ?_
              refine z_callV MV_Mod_fails lk_Mod_88 dMod_swap_33 (k_Mod_fails (by assumption) rfl (by omega) (by omega) (by omega)) rfl rfl (Nat.le_of_ble_eq_true rfl) rfl (by assumption) (Nat.le_of_ble_eq_true rfl) (Nat.le_of_ble_eq_true rfl) (Nat.le_of_eq (Nat.zero_add _)) (Nat.le_of_eq (Nat.zero_add _)) (fun _ _ q => q.elim) ?_
              rintro _ h1 ⟨t9, b8, rfl, ht, p1, g1⟩
              have H1 : zMod G h1 ma S t9 := H.obj (nu := S.2.2.2.2) (th' := t9) p1 g1
              have fz1 : zMfr ma h h1 := zMfr.of0 g1
              obtain ⟨-, n2, ⟨gg, n3, n3a⟩, n4, ⟨f61, n5, n5a⟩, n6, n7⟩ := id H1
              unfold zMfs at n2
              refine z_if_eq (tgt := 41) dMod_swap_36 (by decide) (by omega) (fun c36 => ?_) (fun c36 => ?_)
              · obtain ⟨frk, rk1, rk2, rk3, rk4⟩ := id (n6 k (by omega))
                have h16k := h16 k (by omega)
                have ezk : ∀ i : Int, 0 ≤ i → i < ((S.1 k).length : Int) → frk i.toNat = zAt (S.1 k) i := fun i x1 x2 => by rw [rk3 _ (by omega), zAt_eq x1 x2]
                refine z_aload_n dMod_swap_41 rfl ?_
                refine z_get (k := 0) fd_Mod (by decide) fl_Mod_11 dMod_swap_42 (by assumption) (by rfl) ?_
                refine z_iload_n dMod_swap_45 rfl ?_
                refine z_aald (t := 4) (ty := .array .int) rfl rfl dMod_swap_46 n3 (by refine ⟨?_, ?_, ?_⟩ <;> omega) ?_
                rw [show (k : Int).toNat = k from rfl, n3a k (by omega)]
                refine z_iload_n dMod_swap_47 rfl ?_
                refine z_iald dMod_swap_48 (by assumption) (by refine ⟨?_, ?_, ?_⟩ <;> omega) ?_
                rw [ezk _ (by omega) (by omega)]
                refine z_istore dMod_swap_49 (Nat.le_of_ble_eq_true rfl) ?_
                refine z_aload_n dMod_swap_51 rfl ?_
                refine z_get (k := 0) fd_Mod (by decide) fl_Mod_11 dMod_swap_52 (by assumption) (by rfl) ?_
                refine z_iload_n dMod_swap_55 rfl ?_
                refine z_aald (t := 4) (ty := .array .int) rfl rfl dMod_swap_56 n3 (by refine ⟨?_, ?_, ?_⟩ <;> omega) ?_
                rw [show (k : Int).toNat = k from rfl, n3a k (by omega)]
                refine z_iload_n dMod_swap_57 rfl ?_
                refine z_aload_n dMod_swap_58 rfl ?_
                refine z_get (k := 0) fd_Mod (by decide) fl_Mod_11 dMod_swap_59 (by assumption) (by rfl) ?_
                refine z_iload_n dMod_swap_62 rfl ?_
                refine z_aald (t := 4) (ty := .array .int) rfl rfl dMod_swap_63 n3 (by refine ⟨?_, ?_, ?_⟩ <;> omega) ?_
                rw [show (k : Int).toNat = k from rfl, n3a k (by omega)]
                refine z_iload_n dMod_swap_64 rfl ?_
                refine z_iald dMod_swap_65 (by assumption) (by refine ⟨?_, ?_, ?_⟩ <;> omega) ?_
                rw [ezk _ (by omega) (by omega)]
                refine z_iast dMod_swap_66 (by assumption) (by refine ⟨?_, ?_, ?_⟩ <;> omega) ?_
                refine z_hx (fun h2 p2 g2 => ?_)
                have r2 : zAr G h2 (ma (8 + k)) (zSet (S.1 k) i (zAt (S.1 k) j)) := zAr.st p2 rk2 rk3 rk4 (by rw [zAt_eq (by omega) (by omega)]; exact rk4 _ (by omega)) (by omega)
                have H2 : zMod G h2 ma (zsL S k (zSet (S.1 k) i (zAt (S.1 k) j))) t9 := H1.row1 (by omega) r2 g2
                have fz2 : zMfr ma h h2 := fz1.tr (zMfr.of1 (i := 8 + k) (by omega) g2)
                obtain ⟨fs, rs1, rs2, rs3, rs4⟩ := id r2
                have hsl := zSet_len (S.1 k) i (zAt (S.1 k) j)
                obtain ⟨-, u2, ⟨ug, u3, u3a⟩, -, -, u6, -⟩ := id H2
                unfold zMfs at u2
                refine z_aload_n dMod_swap_67 rfl ?_
                refine z_get (k := 0) fd_Mod (by decide) fl_Mod_11 dMod_swap_68 (by assumption) (by rfl) ?_
                refine z_iload_n dMod_swap_71 rfl ?_
                refine z_aald (t := 4) (ty := .array .int) rfl rfl dMod_swap_72 u3 (by refine ⟨?_, ?_, ?_⟩ <;> omega) ?_
                rw [show (k : Int).toNat = k from rfl, u3a k (by omega)]
                refine z_iload_n dMod_swap_73 rfl ?_
                refine z_iload dMod_swap_74 rfl ?_
                refine z_iast dMod_swap_76 (by assumption) (by refine ⟨?_, ?_, ?_⟩ <;> omega) ?_
                refine z_hx (fun h3 p3 g3 => ?_)
                have r3 : zAr G h3 (ma (8 + k)) (zSwp (S.1 k) i j) := zAr.st p3 rs2 rs3 rs4 (by rw [zAt_eq (by omega) (by omega)]; exact rk4 _ (by omega)) (by omega)
                have H3 : zMod G h3 ma (zsL S k (zSwp (S.1 k) i j)) t9 := H1.row1 (by omega) r3 (fun q hq => (g3 q hq).trans (g2 q hq))
                have fz3 : zMfr ma h h3 := fz2.tr (zMfr.of1 (i := 8 + k) (by omega) g3)
                obtain ⟨fw, rw1, rw2, rw3, rw4⟩ := id r3
                have hwl := zSwp_len (S.1 k) i j
                have hwi : zAt (zSwp (S.1 k) i j) i = (zSwp (S.1 k) i j).getD i.toNat 0 := zAt_eq (by omega) (by omega)
                obtain ⟨-, w2, ⟨wg, w3, w3a⟩, -, -, w6, -⟩ := id H3
                unfold zMfs at w2
                refine z_aload_n dMod_swap_77 rfl ?_
                refine z_get (k := 0) fd_Mod (by decide) fl_Mod_11 dMod_swap_78 (by assumption) (by rfl) ?_
                refine z_iload_n dMod_swap_81 rfl ?_
                refine z_aald (t := 4) (ty := .array .int) rfl rfl dMod_swap_82 w3 (by refine ⟨?_, ?_, ?_⟩ <;> omega) ?_
                rw [show (k : Int).toNat = k from rfl, w3a k (by omega)]
                refine z_iload_n dMod_swap_83 rfl ?_
                refine z_iald dMod_swap_84 (by assumption) (by refine ⟨?_, ?_, ?_⟩ <;> omega) ?_
                rw [rw3 _ (by omega), ← hwi]
                refine z_iret rfl rfl dMod_swap_85 ?_
                rcases (show t9 = 0 ∨ t9 = 1 ∨ t9 = 2 ∨ t9 = 3 by omega) with t0 | t0 | t0 | t0
                all_goals first
                  | (exfalso; omega)
                  | exact zQm.ok H3 (by omega) (by assumption) (by unfold sp_swap; (try unfold spPut); (try simp only [Int.toNat_natCast]); (repeat (first | rw [if_pos (by omega)] | rw [if_neg (by omega)] | rw [if_pos (by assumption)] | rw [if_neg (by assumption)] | rw [if_pos (True.intro : True)])); (try (first | rfl | (congr 2; omega) | (congr 1; congr 1; omega))); done)
                  | exact zQm.b1 H3 (by omega) (by assumption) (by unfold sp_swap; (try unfold spPut); (try simp only [Int.toNat_natCast]); (repeat (first | rw [if_pos (by omega)] | rw [if_neg (by omega)] | rw [if_pos (by assumption)] | rw [if_neg (by assumption)] | rw [if_pos (True.intro : True)])); (try (first | rfl | (congr 2; omega) | (congr 1; congr 1; omega))); done)
                  | exact zQm.b2 H3 (by omega) (by assumption) (by unfold sp_swap; (try unfold spPut); (try simp only [Int.toNat_natCast]); (repeat (first | rw [if_pos (by omega)] | rw [if_neg (by omega)] | rw [if_pos (by assumption)] | rw [if_neg (by assumption)] | rw [if_pos (True.intro : True)])); (try (first | rfl | (congr 2; omega) | (congr 1; congr 1; omega))); done)
                  | exact zQm.b3 H3 (by omega) (by assumption) (by unfold sp_swap; (try unfold spPut); (try simp only [Int.toNat_natCast]); (repeat (first | rw [if_pos (by omega)] | rw [if_neg (by omega)] | rw [if_pos (by assumption)] | rw [if_neg (by assumption)] | rw [if_pos (True.intro : True)])); (try (first | rfl | (congr 2; omega) | (congr 1; congr 1; omega))); done)
                  | exact zQm.ok H1 (by omega) (by assumption) (by unfold sp_swap; (try unfold spPut); (try simp only [Int.toNat_natCast]); (repeat (first | rw [if_pos (by omega)] | rw [if_neg (by omega)] | rw [if_pos (by assumption)] | rw [if_neg (by assumption)] | rw [if_pos (True.intro : True)])); (try (first | rfl | (congr 2; omega) | (congr 1; congr 1; omega))); done)
                  | exact zQm.b1 H1 (by omega) (by assumption) (by unfold sp_swap; (try unfold spPut); (try simp only [Int.toNat_natCast]); (repeat (first | rw [if_pos (by omega)] | rw [if_neg (by omega)] | rw [if_pos (by assumption)] | rw [if_neg (by assumption)] | rw [if_pos (True.intro : True)])); (try (first | rfl | (congr 2; omega) | (congr 1; congr 1; omega))); done)
                  | exact zQm.b2 H1 (by omega) (by assumption) (by unfold sp_swap; (try unfold spPut); (try simp only [Int.toNat_natCast]); (repeat (first | rw [if_pos (by omega)] | rw [if_neg (by omega)] | rw [if_pos (by assumption)] | rw [if_neg (by assumption)] | rw [if_pos (True.intro : True)])); (try (first | rfl | (congr 2; omega) | (congr 1; congr 1; omega))); done)
                  | exact zQm.b3 H1 (by omega) (by assumption) (by unfold sp_swap; (try unfold spPut); (try simp only [Int.toNat_natCast]); (repeat (first | rw [if_pos (by omega)] | rw [if_neg (by omega)] | rw [if_pos (by assumption)] | rw [if_neg (by assumption)] | rw [if_pos (True.intro : True)])); (try (first | rfl | (congr 2; omega) | (congr 1; congr 1; omega))); done)
              · refine z_iconst dMod_swap_39 ?_
                refine z_iret rfl rfl dMod_swap_40 ?_
                rcases (show t9 = 0 ∨ t9 = 1 ∨ t9 = 2 ∨ t9 = 3 by omega) with t0 | t0 | t0 | t0
                all_goals first
                  | (exfalso; omega)
                  | exact zQm.ok H3 (by omega) (by assumption) (by unfold sp_swap; (try unfold spPut); (try simp only [Int.toNat_natCast]); (repeat (first | rw [if_pos (by omega)] | rw [if_neg (by omega)] | rw [if_pos (by assumption)] | rw [if_neg (by assumption)] | rw [if_pos (True.intro : True)])); (try (first | rfl | (congr 2; omega) | (congr 1; congr 1; omega))); done)
                  | exact zQm.b1 H3 (by omega) (by assumption) (by unfold sp_swap; (try unfold spPut); (try simp only [Int.toNat_natCast]); (repeat (first | rw [if_pos (by omega)] | rw [if_neg (by omega)] | rw [if_pos (by assumption)] | rw [if_neg (by assumption)] | rw [if_pos (True.intro : True)])); (try (first | rfl | (congr 2; omega) | (congr 1; congr 1; omega))); done)
                  | exact zQm.b2 H3 (by omega) (by assumption) (by unfold sp_swap; (try unfold spPut); (try simp only [Int.toNat_natCast]); (repeat (first | rw [if_pos (by omega)] | rw [if_neg (by omega)] | rw [if_pos (by assumption)] | rw [if_neg (by assumption)] | rw [if_pos (True.intro : True)])); (try (first | rfl | (congr 2; omega) | (congr 1; congr 1; omega))); done)
                  | exact zQm.b3 H3 (by omega) (by assumption) (by unfold sp_swap; (try unfold spPut); (try simp only [Int.toNat_natCast]); (repeat (first | rw [if_pos (by omega)] | rw [if_neg (by omega)] | rw [if_pos (by assumption)] | rw [if_neg (by assumption)] | rw [if_pos (True.intro : True)])); (try (first | rfl | (congr 2; omega) | (congr 1; congr 1; omega))); done)
                  | exact zQm.ok H1 (by omega) (by assumption) (by unfold sp_swap; (try unfold spPut); (try simp only [Int.toNat_natCast]); (repeat (first | rw [if_pos (by omega)] | rw [if_neg (by omega)] | rw [if_pos (by assumption)] | rw [if_neg (by assumption)] | rw [if_pos (True.intro : True)])); (try (first | rfl | (congr 2; omega) | (congr 1; congr 1; omega))); done)
                  | exact zQm.b1 H1 (by omega) (by assumption) (by unfold sp_swap; (try unfold spPut); (try simp only [Int.toNat_natCast]); (repeat (first | rw [if_pos (by omega)] | rw [if_neg (by omega)] | rw [if_pos (by assumption)] | rw [if_neg (by assumption)] | rw [if_pos (True.intro : True)])); (try (first | rfl | (congr 2; omega) | (congr 1; congr 1; omega))); done)
                  | exact zQm.b2 H1 (by omega) (by assumption) (by unfold sp_swap; (try unfold spPut); (try simp only [Int.toNat_natCast]); (repeat (first | rw [if_pos (by omega)] | rw [if_neg (by omega)] | rw [if_pos (by assumption)] | rw [if_neg (by assumption)] | rw [if_pos (True.intro : True)])); (try (first | rfl | (congr 2; omega) | (congr 1; congr 1; omega))); done)
                  | exact zQm.b3 H1 (by omega) (by assumption) (by unfold sp_swap; (try unfold spPut); (try simp only [Int.toNat_natCast]); (repeat (first | rw [if_pos (by omega)] | rw [if_neg (by omega)] | rw [if_pos (by assumption)] | rw [if_neg (by assumption)] | rw [if_pos (True.intro : True)])); (try (first | rfl | (congr 2; omega) | (congr 1; congr 1; omega))); done)
            · exfalso; omega
theorem k_Mod_reverse {p : Int} (H : zMod G h ma S th) (z_p : zI32 p) (h16 : ∀ k, k < 4 → (S.1 k).length ≤ 16) : zM G l hMod_reverse yMod_reverse 4 [.ref (ma 0), zi p] h (zQm G ma h (1) (2) (3) (sp_reverse S p)) zNo 1 61 := by
  obtain ⟨m1, m2, ⟨g, m3, m3a⟩, m4, ⟨f6, m5, m5a⟩, m6, m7⟩ := id H
  unfold zMfs at m2
  refine zM.of [some (.ref (ma 0)), some (zi p)] (by decide +kernel) rfl (by decide) rfl (Nat.le_of_ble_eq_true rfl) rfl ?_
  refine z_aload_n dMod_reverse_0 rfl ?_
  refine z_iload_n dMod_reverse_1 rfl ?_
  refine z_callS MS_Mod_isNo lk_Mod_81 dMod_reverse_2 (k_Mod_isNo (by omega)) rfl rfl (Nat.le_of_ble_eq_true rfl)  (Nat.le_of_ble_eq_true rfl) (Nat.le_of_ble_eq_true rfl) (Nat.le_of_eq (Nat.zero_add _)) (Nat.le_of_eq (Nat.zero_add _)) (fun _ _ q => q.elim) ?_
  rintro _ _ ⟨n9, rfl, hn9, rfl⟩
  refine z_iconst dMod_reverse_5 ?_
  refine z_iconst dMod_reverse_6 ?_
  refine z_callV MV_Mod_fails lk_Mod_88 dMod_reverse_7 (k_Mod_fails (by assumption) rfl (by omega) (by omega) (by omega)) rfl rfl (Nat.le_of_ble_eq_true rfl) rfl (by assumption) (Nat.le_of_ble_eq_true rfl) (Nat.le_of_ble_eq_true rfl) (Nat.le_of_eq (Nat.zero_add _)) (Nat.le_of_eq (Nat.zero_add _)) (fun _ _ q => q.elim) ?_
  rintro _ h1 ⟨t9, b8, rfl, ht, p1, g1⟩
  have H1 : zMod G h1 ma S t9 := H.obj (nu := S.2.2.2.2) (th' := t9) p1 g1
  have fz1 : zMfr ma h h1 := zMfr.of0 g1
  obtain ⟨-, n2, ⟨gg, n3, n3a⟩, n4, ⟨f61, n5, n5a⟩, n6, n7⟩ := id H1
  unfold zMfs at n2
  refine z_if_eq (tgt := 15) dMod_reverse_10 (by decide) (by omega) (fun c10 => ?_) (fun c10 => ?_)
  · obtain ⟨k, rfl⟩ := Int.eq_ofNat_of_zero_le (show 0 ≤ p by omega)
    obtain ⟨frk, rk1, rk2, rk3, rk4⟩ := id (n6 k (by omega))
    have h16k := h16 k (by omega)
    have ezk : ∀ i : Int, 0 ≤ i → i < ((S.1 k).length : Int) → frk i.toNat = zAt (S.1 k) i := fun i x1 x2 => by rw [rk3 _ (by omega), zAt_eq x1 x2]
    refine z_aload_n dMod_reverse_15 rfl ?_
    refine z_get (k := 0) fd_Mod (by decide) fl_Mod_11 dMod_reverse_16 (by assumption) (by rfl) ?_
    refine z_iload_n dMod_reverse_19 rfl ?_
    refine z_aload_n dMod_reverse_20 rfl ?_
    refine z_get (k := 0) fd_Mod (by decide) fl_Mod_11 dMod_reverse_21 (by assumption) (by rfl) ?_
    refine z_iload_n dMod_reverse_24 rfl ?_
    refine z_aald (t := 4) (ty := .array .int) rfl rfl dMod_reverse_25 n3 (by refine ⟨?_, ?_, ?_⟩ <;> omega) ?_
    rw [show (k : Int).toNat = k from rfl, n3a k (by omega)]
    refine z_callS (bc' := 0) (bs' := 0) MS_Mod_turned lk_Mod_114 dMod_reverse_26 (k_Mod_turned (n6 k (by omega)) (by omega)) rfl rfl (Nat.le_of_ble_eq_true rfl)  (Nat.le_of_ble_eq_true rfl) (Nat.le_of_ble_eq_true rfl) (by decide) (by decide) (fun _ _ q => q.elim) ?_
    rintro _ h2 ⟨q2, rfl, hq2, gq2, r2, F2⟩
    have H2 : zMod G h2 ma S t9 := H1.keep hq2 F2
    have fz2 : zMfr ma h h2 := fz1.tr (zMfr.new hq2 F2)
    have dq2 : zDm h q2 := hq2.up H1 fz1
    have oc2 := H2.2.1
    have hk : k < 4 := by omega
    obtain ⟨-, u2, ⟨ug, u3, u3a⟩, -, -, u6, -⟩ := id H2
    unfold zMfs at u2
    obtain ⟨fs, rs1, rs2, rs3, rs4⟩ := id r2
    refine z_aastI dMod_reverse_29 u3 rs1 (by refine ⟨?_, ?_, ?_⟩ <;> omega) ?_
    refine z_hx (fun h3 p3 g3 => ?_)
    rw [Int.toNat_natCast] at p3
    have H3 : zMod G h3 (zup ma (8 + k) q2) (zsL S k (zRev (S.1 k))) t9 := H2.newrow0 hk (r2.kept (g3 _ (H1.nq hq2 (i := 1) (by omega)))) (fun i hi _ => H1.nq hq2 hi) p3 u3a (fun z z1 _ => g3 z z1)
    have fz3 : zMfr ma h h3 := fz2.tr (zMfr.of1 (i := 1) (by omega) g3)
    have e0 : zup ma (8 + k) q2 0 = ma 0 := zup_ne (by omega)
    have hfi := k_Mod_first (l := l) H3 hk
    rw [e0] at hfi
    have oc3 := H3.2.1
    rw [e0] at oc3
    rw [show (zsL S k (zRev (S.1 k))).1 k = zRev (S.1 k) from zup_same _ _ _] at hfi
    refine z_aload_n dMod_reverse_30 rfl ?_
    refine z_iload_n dMod_reverse_31 rfl ?_
    refine z_callV MV_Mod_first lk_Mod_133 dMod_reverse_32 hfi rfl rfl (Nat.le_of_ble_eq_true rfl) rfl (by assumption) (Nat.le_of_ble_eq_true rfl) (Nat.le_of_ble_eq_true rfl) (Nat.le_of_eq (Nat.zero_add _)) (Nat.le_of_eq (Nat.zero_add _)) (fun _ _ q => q.elim) ?_
    rintro _ _ ⟨rfl, rfl⟩
    refine z_iret rfl rfl dMod_reverse_35 ?_
    rcases (show t9 = 0 ∨ t9 = 1 ∨ t9 = 2 ∨ t9 = 3 by omega) with t0 | t0 | t0 | t0
    all_goals first
      | (exfalso; omega)
      | exact zQm.okB H3 (Or.inr ⟨dq2, gq2⟩) (by omega) (by assumption) (by unfold sp_reverse; (try unfold spPut); (try simp only [Int.toNat_natCast]); (repeat (first | rw [if_pos (by omega)] | rw [if_neg (by omega)] | rw [if_pos (by assumption)] | rw [if_neg (by assumption)] | rw [if_pos (True.intro : True)])); (try (first | rfl | (congr 2; omega) | (congr 1; congr 1; omega))); done)
      | exact zQm.ok H1 (by omega) (by assumption) (by unfold sp_reverse; (try unfold spPut); (try simp only [Int.toNat_natCast]); (repeat (first | rw [if_pos (by omega)] | rw [if_neg (by omega)] | rw [if_pos (by assumption)] | rw [if_neg (by assumption)] | rw [if_pos (True.intro : True)])); (try (first | rfl | (congr 2; omega) | (congr 1; congr 1; omega))); done)
      | exact zQm.b1 H1 (by omega) (by assumption) (by unfold sp_reverse; (try unfold spPut); (try simp only [Int.toNat_natCast]); (repeat (first | rw [if_pos (by omega)] | rw [if_neg (by omega)] | rw [if_pos (by assumption)] | rw [if_neg (by assumption)] | rw [if_pos (True.intro : True)])); (try (first | rfl | (congr 2; omega) | (congr 1; congr 1; omega))); done)
      | exact zQm.b2 H1 (by omega) (by assumption) (by unfold sp_reverse; (try unfold spPut); (try simp only [Int.toNat_natCast]); (repeat (first | rw [if_pos (by omega)] | rw [if_neg (by omega)] | rw [if_pos (by assumption)] | rw [if_neg (by assumption)] | rw [if_pos (True.intro : True)])); (try (first | rfl | (congr 2; omega) | (congr 1; congr 1; omega))); done)
      | exact zQm.b3 H1 (by omega) (by assumption) (by unfold sp_reverse; (try unfold spPut); (try simp only [Int.toNat_natCast]); (repeat (first | rw [if_pos (by omega)] | rw [if_neg (by omega)] | rw [if_pos (by assumption)] | rw [if_neg (by assumption)] | rw [if_pos (True.intro : True)])); (try (first | rfl | (congr 2; omega) | (congr 1; congr 1; omega))); done)
  · refine z_iconst dMod_reverse_13 ?_
    refine z_iret rfl rfl dMod_reverse_14 ?_
    rcases (show t9 = 0 ∨ t9 = 1 ∨ t9 = 2 ∨ t9 = 3 by omega) with t0 | t0 | t0 | t0
    all_goals first
      | (exfalso; omega)
      | exact zQm.okB H3 (Or.inr ⟨dq2, gq2⟩) (by omega) (by assumption) (by unfold sp_reverse; (try unfold spPut); (try simp only [Int.toNat_natCast]); (repeat (first | rw [if_pos (by omega)] | rw [if_neg (by omega)] | rw [if_pos (by assumption)] | rw [if_neg (by assumption)] | rw [if_pos (True.intro : True)])); (try (first | rfl | (congr 2; omega) | (congr 1; congr 1; omega))); done)
      | exact zQm.ok H1 (by omega) (by assumption) (by unfold sp_reverse; (try unfold spPut); (try simp only [Int.toNat_natCast]); (repeat (first | rw [if_pos (by omega)] | rw [if_neg (by omega)] | rw [if_pos (by assumption)] | rw [if_neg (by assumption)] | rw [if_pos (True.intro : True)])); (try (first | rfl | (congr 2; omega) | (congr 1; congr 1; omega))); done)
      | exact zQm.b1 H1 (by omega) (by assumption) (by unfold sp_reverse; (try unfold spPut); (try simp only [Int.toNat_natCast]); (repeat (first | rw [if_pos (by omega)] | rw [if_neg (by omega)] | rw [if_pos (by assumption)] | rw [if_neg (by assumption)] | rw [if_pos (True.intro : True)])); (try (first | rfl | (congr 2; omega) | (congr 1; congr 1; omega))); done)
      | exact zQm.b2 H1 (by omega) (by assumption) (by unfold sp_reverse; (try unfold spPut); (try simp only [Int.toNat_natCast]); (repeat (first | rw [if_pos (by omega)] | rw [if_neg (by omega)] | rw [if_pos (by assumption)] | rw [if_neg (by assumption)] | rw [if_pos (True.intro : True)])); (try (first | rfl | (congr 2; omega) | (congr 1; congr 1; omega))); done)
      | exact zQm.b3 H1 (by omega) (by assumption) (by unfold sp_reverse; (try unfold spPut); (try simp only [Int.toNat_natCast]); (repeat (first | rw [if_pos (by omega)] | rw [if_neg (by omega)] | rw [if_pos (by assumption)] | rw [if_neg (by assumption)] | rw [if_pos (True.intro : True)])); (try (first | rfl | (congr 2; omega) | (congr 1; congr 1; omega))); done)
theorem k_Mod_isMirror {p : Int} (H : zMod G h ma S th) (z_p : zI32 p) (h16 : ∀ k, k < 4 → (S.1 k).length ≤ 16) : zM G l hMod_isMirror yMod_isMirror 4 [.ref (ma 0), zi p] h (zQm G ma h (1) (2) (3) (sp_isMirror S p)) zNo 1 61 := by
  obtain ⟨m1, m2, ⟨g, m3, m3a⟩, m4, ⟨f6, m5, m5a⟩, m6, m7⟩ := id H
  unfold zMfs at m2
  refine zM.of [some (.ref (ma 0)), some (zi p)] (by decide +kernel) rfl (by decide) rfl (Nat.le_of_ble_eq_true rfl) rfl ?_
  refine z_aload_n dMod_isMirror_0 rfl ?_
  refine z_iload_n dMod_isMirror_1 rfl ?_
  refine z_callS MS_Mod_isNo lk_Mod_81 dMod_isMirror_2 (k_Mod_isNo (by omega)) rfl rfl (Nat.le_of_ble_eq_true rfl)  (Nat.le_of_ble_eq_true rfl) (Nat.le_of_ble_eq_true rfl) (Nat.le_of_eq (Nat.zero_add _)) (Nat.le_of_eq (Nat.zero_add _)) (fun _ _ q => q.elim) ?_
  rintro _ _ ⟨n9, rfl, hn9, rfl⟩
  refine z_iconst dMod_isMirror_5 ?_
  refine z_iconst dMod_isMirror_6 ?_
  refine z_callV MV_Mod_fails lk_Mod_88 dMod_isMirror_7 (k_Mod_fails (by assumption) rfl (by omega) (by omega) (by omega)) rfl rfl (Nat.le_of_ble_eq_true rfl) rfl (by assumption) (Nat.le_of_ble_eq_true rfl) (Nat.le_of_ble_eq_true rfl) (Nat.le_of_eq (Nat.zero_add _)) (Nat.le_of_eq (Nat.zero_add _)) (fun _ _ q => q.elim) ?_
  rintro _ h1 ⟨t9, b8, rfl, ht, p1, g1⟩
  have H1 : zMod G h1 ma S t9 := H.obj (nu := S.2.2.2.2) (th' := t9) p1 g1
  have fz1 : zMfr ma h h1 := zMfr.of0 g1
  obtain ⟨-, n2, ⟨gg, n3, n3a⟩, n4, ⟨f61, n5, n5a⟩, n6, n7⟩ := id H1
  unfold zMfs at n2
  refine z_if_ne (tgt := 38) dMod_isMirror_10 (by decide) (by omega) (fun c10 => ?_) (fun c10 => ?_)
  · refine z_iconst dMod_isMirror_38 ?_
    refine z_iret rfl (by first | rfl | decide) dMod_isMirror_39 ?_
    rcases (show t9 = 0 ∨ t9 = 1 ∨ t9 = 2 ∨ t9 = 3 by omega) with t0 | t0 | t0 | t0
    all_goals (try have m8 := m9.symm)
    all_goals (try have m8 := fun e : zRev (S.1 k) = S.1 k => m9 e.symm)
    all_goals first
      | (exfalso; omega)
      | exact zQm.ok H2 (by omega) (by assumption) (by unfold sp_isMirror; (try unfold spPut); (try simp only [Int.toNat_natCast]); (repeat (first | rw [if_pos (by omega)] | rw [if_neg (by omega)] | rw [if_pos (by assumption)] | rw [if_neg (by assumption)] | rw [if_pos (True.intro : True)])); (try (first | rfl | (congr 2; omega) | (congr 1; congr 1; omega))); done)
      | exact zQm.b1 H2 (by omega) (by assumption) (by unfold sp_isMirror; (try unfold spPut); (try simp only [Int.toNat_natCast]); (repeat (first | rw [if_pos (by omega)] | rw [if_neg (by omega)] | rw [if_pos (by assumption)] | rw [if_neg (by assumption)] | rw [if_pos (True.intro : True)])); (try (first | rfl | (congr 2; omega) | (congr 1; congr 1; omega))); done)
      | exact zQm.b2 H2 (by omega) (by assumption) (by unfold sp_isMirror; (try unfold spPut); (try simp only [Int.toNat_natCast]); (repeat (first | rw [if_pos (by omega)] | rw [if_neg (by omega)] | rw [if_pos (by assumption)] | rw [if_neg (by assumption)] | rw [if_pos (True.intro : True)])); (try (first | rfl | (congr 2; omega) | (congr 1; congr 1; omega))); done)
      | exact zQm.b3 H2 (by omega) (by assumption) (by unfold sp_isMirror; (try unfold spPut); (try simp only [Int.toNat_natCast]); (repeat (first | rw [if_pos (by omega)] | rw [if_neg (by omega)] | rw [if_pos (by assumption)] | rw [if_neg (by assumption)] | rw [if_pos (True.intro : True)])); (try (first | rfl | (congr 2; omega) | (congr 1; congr 1; omega))); done)
      | exact zQm.ok H1 (by omega) (by assumption) (by unfold sp_isMirror; (try unfold spPut); (try simp only [Int.toNat_natCast]); (repeat (first | rw [if_pos (by omega)] | rw [if_neg (by omega)] | rw [if_pos (by assumption)] | rw [if_neg (by assumption)] | rw [if_pos (True.intro : True)])); (try (first | rfl | (congr 2; omega) | (congr 1; congr 1; omega))); done)
      | exact zQm.b1 H1 (by omega) (by assumption) (by unfold sp_isMirror; (try unfold spPut); (try simp only [Int.toNat_natCast]); (repeat (first | rw [if_pos (by omega)] | rw [if_neg (by omega)] | rw [if_pos (by assumption)] | rw [if_neg (by assumption)] | rw [if_pos (True.intro : True)])); (try (first | rfl | (congr 2; omega) | (congr 1; congr 1; omega))); done)
      | exact zQm.b2 H1 (by omega) (by assumption) (by unfold sp_isMirror; (try unfold spPut); (try simp only [Int.toNat_natCast]); (repeat (first | rw [if_pos (by omega)] | rw [if_neg (by omega)] | rw [if_pos (by assumption)] | rw [if_neg (by assumption)] | rw [if_pos (True.intro : True)])); (try (first | rfl | (congr 2; omega) | (congr 1; congr 1; omega))); done)
      | exact zQm.b3 H1 (by omega) (by assumption) (by unfold sp_isMirror; (try unfold spPut); (try simp only [Int.toNat_natCast]); (repeat (first | rw [if_pos (by omega)] | rw [if_neg (by omega)] | rw [if_pos (by assumption)] | rw [if_neg (by assumption)] | rw [if_pos (True.intro : True)])); (try (first | rfl | (congr 2; omega) | (congr 1; congr 1; omega))); done)
  · obtain ⟨k, rfl⟩ := Int.eq_ofNat_of_zero_le (show 0 ≤ p by omega)
    obtain ⟨frk, rk1, rk2, rk3, rk4⟩ := id (n6 k (by omega))
    have h16k := h16 k (by omega)
    have ezk : ∀ i : Int, 0 ≤ i → i < ((S.1 k).length : Int) → frk i.toNat = zAt (S.1 k) i := fun i x1 x2 => by rw [rk3 _ (by omega), zAt_eq x1 x2]
    refine z_aload_n dMod_isMirror_13 rfl ?_
    refine z_get (k := 0) fd_Mod (by decide) fl_Mod_11 dMod_isMirror_14 (by assumption) (by rfl) ?_
    refine z_iload_n dMod_isMirror_17 rfl ?_
    refine z_aald (t := 4) (ty := .array .int) rfl rfl dMod_isMirror_18 n3 (by refine ⟨?_, ?_, ?_⟩ <;> omega) ?_
    rw [show (k : Int).toNat = k from rfl, n3a k (by omega)]
    refine z_aload_n dMod_isMirror_19 rfl ?_
    refine z_get (k := 0) fd_Mod (by decide) fl_Mod_11 dMod_isMirror_20 (by assumption) (by rfl) ?_
    refine z_iload_n dMod_isMirror_23 rfl ?_
    refine z_aald (t := 4) (ty := .array .int) rfl rfl dMod_isMirror_24 n3 (by refine ⟨?_, ?_, ?_⟩ <;> omega) ?_
    rw [show (k : Int).toNat = k from rfl, n3a k (by omega)]
    refine z_callS (bc' := 0) (bs' := 0) MS_Mod_turned lk_Mod_114 dMod_isMirror_25 (k_Mod_turned (n6 k (by omega)) (by omega)) rfl rfl (Nat.le_of_ble_eq_true rfl)  (Nat.le_of_ble_eq_true rfl) (Nat.le_of_ble_eq_true rfl) (by decide) (by decide) (fun _ _ q => q.elim) ?_
    rintro _ h2 ⟨q2, rfl, hq2, gq2, r2, F2⟩
    have H2 : zMod G h2 ma S t9 := H1.keep hq2 F2
    have fz2 : zMfr ma h h2 := fz1.tr (zMfr.new hq2 F2)
    have dq2 : zDm h q2 := hq2.up H1 fz1
    have oc2 := H2.2.1
    obtain ⟨-, u2, ⟨ug, u3, u3a⟩, -, -, u6, -⟩ := id H2
    unfold zMfs at u2
    refine z_callS MS_Mod_areLike lk_Mod_137 dMod_isMirror_28 (k_Mod_areLike (u6 k (by omega)) r2) rfl rfl (Nat.le_of_ble_eq_true rfl)  (Nat.le_of_ble_eq_true rfl) (Nat.le_of_ble_eq_true rfl) (Nat.le_of_eq (Nat.zero_add _)) (Nat.le_of_eq (Nat.zero_add _)) (fun _ _ q => q.elim) ?_
    rintro _ _ ⟨b7, rfl, (⟨rfl, m9⟩ | ⟨rfl, m9⟩), rfl⟩
    all_goals have m9s := fun e : zRev (S.1 k) = S.1 k => e.symm
    · refine z_if_eq (tgt := 38) dMod_isMirror_31 (by decide) (by omega) (fun c31 => ?_) (fun c31 => ?_)
      · refine z_iconst dMod_isMirror_38 ?_
        refine z_iret rfl (by first | rfl | decide) dMod_isMirror_39 ?_
        rcases (show t9 = 0 ∨ t9 = 1 ∨ t9 = 2 ∨ t9 = 3 by omega) with t0 | t0 | t0 | t0
        all_goals (try have m8 := m9.symm)
        all_goals (try have m8 := fun e : zRev (S.1 k) = S.1 k => m9 e.symm)
        all_goals first
          | (exfalso; omega)
          | exact zQm.ok H2 (by omega) (by assumption) (by unfold sp_isMirror; (try unfold spPut); (try simp only [Int.toNat_natCast]); (repeat (first | rw [if_pos (by omega)] | rw [if_neg (by omega)] | rw [if_pos (by assumption)] | rw [if_neg (by assumption)] | rw [if_pos (True.intro : True)])); (try (first | rfl | (congr 2; omega) | (congr 1; congr 1; omega))); done)
          | exact zQm.b1 H2 (by omega) (by assumption) (by unfold sp_isMirror; (try unfold spPut); (try simp only [Int.toNat_natCast]); (repeat (first | rw [if_pos (by omega)] | rw [if_neg (by omega)] | rw [if_pos (by assumption)] | rw [if_neg (by assumption)] | rw [if_pos (True.intro : True)])); (try (first | rfl | (congr 2; omega) | (congr 1; congr 1; omega))); done)
          | exact zQm.b2 H2 (by omega) (by assumption) (by unfold sp_isMirror; (try unfold spPut); (try simp only [Int.toNat_natCast]); (repeat (first | rw [if_pos (by omega)] | rw [if_neg (by omega)] | rw [if_pos (by assumption)] | rw [if_neg (by assumption)] | rw [if_pos (True.intro : True)])); (try (first | rfl | (congr 2; omega) | (congr 1; congr 1; omega))); done)
          | exact zQm.b3 H2 (by omega) (by assumption) (by unfold sp_isMirror; (try unfold spPut); (try simp only [Int.toNat_natCast]); (repeat (first | rw [if_pos (by omega)] | rw [if_neg (by omega)] | rw [if_pos (by assumption)] | rw [if_neg (by assumption)] | rw [if_pos (True.intro : True)])); (try (first | rfl | (congr 2; omega) | (congr 1; congr 1; omega))); done)
          | exact zQm.ok H1 (by omega) (by assumption) (by unfold sp_isMirror; (try unfold spPut); (try simp only [Int.toNat_natCast]); (repeat (first | rw [if_pos (by omega)] | rw [if_neg (by omega)] | rw [if_pos (by assumption)] | rw [if_neg (by assumption)] | rw [if_pos (True.intro : True)])); (try (first | rfl | (congr 2; omega) | (congr 1; congr 1; omega))); done)
          | exact zQm.b1 H1 (by omega) (by assumption) (by unfold sp_isMirror; (try unfold spPut); (try simp only [Int.toNat_natCast]); (repeat (first | rw [if_pos (by omega)] | rw [if_neg (by omega)] | rw [if_pos (by assumption)] | rw [if_neg (by assumption)] | rw [if_pos (True.intro : True)])); (try (first | rfl | (congr 2; omega) | (congr 1; congr 1; omega))); done)
          | exact zQm.b2 H1 (by omega) (by assumption) (by unfold sp_isMirror; (try unfold spPut); (try simp only [Int.toNat_natCast]); (repeat (first | rw [if_pos (by omega)] | rw [if_neg (by omega)] | rw [if_pos (by assumption)] | rw [if_neg (by assumption)] | rw [if_pos (True.intro : True)])); (try (first | rfl | (congr 2; omega) | (congr 1; congr 1; omega))); done)
          | exact zQm.b3 H1 (by omega) (by assumption) (by unfold sp_isMirror; (try unfold spPut); (try simp only [Int.toNat_natCast]); (repeat (first | rw [if_pos (by omega)] | rw [if_neg (by omega)] | rw [if_pos (by assumption)] | rw [if_neg (by assumption)] | rw [if_pos (True.intro : True)])); (try (first | rfl | (congr 2; omega) | (congr 1; congr 1; omega))); done)
      · refine z_iconst dMod_isMirror_34 ?_
        refine z_goto (tgt := 39) dMod_isMirror_35 (by decide) ?_
        refine z_iret rfl (by first | rfl | decide) dMod_isMirror_39 ?_
        rcases (show t9 = 0 ∨ t9 = 1 ∨ t9 = 2 ∨ t9 = 3 by omega) with t0 | t0 | t0 | t0
        all_goals (try have m8 := m9.symm)
        all_goals (try have m8 := fun e : zRev (S.1 k) = S.1 k => m9 e.symm)
        all_goals first
          | (exfalso; omega)
          | exact zQm.ok H2 (by omega) (by assumption) (by unfold sp_isMirror; (try unfold spPut); (try simp only [Int.toNat_natCast]); (repeat (first | rw [if_pos (by omega)] | rw [if_neg (by omega)] | rw [if_pos (by assumption)] | rw [if_neg (by assumption)] | rw [if_pos (True.intro : True)])); (try (first | rfl | (congr 2; omega) | (congr 1; congr 1; omega))); done)
          | exact zQm.b1 H2 (by omega) (by assumption) (by unfold sp_isMirror; (try unfold spPut); (try simp only [Int.toNat_natCast]); (repeat (first | rw [if_pos (by omega)] | rw [if_neg (by omega)] | rw [if_pos (by assumption)] | rw [if_neg (by assumption)] | rw [if_pos (True.intro : True)])); (try (first | rfl | (congr 2; omega) | (congr 1; congr 1; omega))); done)
          | exact zQm.b2 H2 (by omega) (by assumption) (by unfold sp_isMirror; (try unfold spPut); (try simp only [Int.toNat_natCast]); (repeat (first | rw [if_pos (by omega)] | rw [if_neg (by omega)] | rw [if_pos (by assumption)] | rw [if_neg (by assumption)] | rw [if_pos (True.intro : True)])); (try (first | rfl | (congr 2; omega) | (congr 1; congr 1; omega))); done)
          | exact zQm.b3 H2 (by omega) (by assumption) (by unfold sp_isMirror; (try unfold spPut); (try simp only [Int.toNat_natCast]); (repeat (first | rw [if_pos (by omega)] | rw [if_neg (by omega)] | rw [if_pos (by assumption)] | rw [if_neg (by assumption)] | rw [if_pos (True.intro : True)])); (try (first | rfl | (congr 2; omega) | (congr 1; congr 1; omega))); done)
          | exact zQm.ok H1 (by omega) (by assumption) (by unfold sp_isMirror; (try unfold spPut); (try simp only [Int.toNat_natCast]); (repeat (first | rw [if_pos (by omega)] | rw [if_neg (by omega)] | rw [if_pos (by assumption)] | rw [if_neg (by assumption)] | rw [if_pos (True.intro : True)])); (try (first | rfl | (congr 2; omega) | (congr 1; congr 1; omega))); done)
          | exact zQm.b1 H1 (by omega) (by assumption) (by unfold sp_isMirror; (try unfold spPut); (try simp only [Int.toNat_natCast]); (repeat (first | rw [if_pos (by omega)] | rw [if_neg (by omega)] | rw [if_pos (by assumption)] | rw [if_neg (by assumption)] | rw [if_pos (True.intro : True)])); (try (first | rfl | (congr 2; omega) | (congr 1; congr 1; omega))); done)
          | exact zQm.b2 H1 (by omega) (by assumption) (by unfold sp_isMirror; (try unfold spPut); (try simp only [Int.toNat_natCast]); (repeat (first | rw [if_pos (by omega)] | rw [if_neg (by omega)] | rw [if_pos (by assumption)] | rw [if_neg (by assumption)] | rw [if_pos (True.intro : True)])); (try (first | rfl | (congr 2; omega) | (congr 1; congr 1; omega))); done)
          | exact zQm.b3 H1 (by omega) (by assumption) (by unfold sp_isMirror; (try unfold spPut); (try simp only [Int.toNat_natCast]); (repeat (first | rw [if_pos (by omega)] | rw [if_neg (by omega)] | rw [if_pos (by assumption)] | rw [if_neg (by assumption)] | rw [if_pos (True.intro : True)])); (try (first | rfl | (congr 2; omega) | (congr 1; congr 1; omega))); done)
    · refine z_if_eq (tgt := 38) dMod_isMirror_31 (by decide) (by omega) (fun c31 => ?_) (fun c31 => ?_)
      · refine z_iconst dMod_isMirror_38 ?_
        refine z_iret rfl (by first | rfl | decide) dMod_isMirror_39 ?_
        rcases (show t9 = 0 ∨ t9 = 1 ∨ t9 = 2 ∨ t9 = 3 by omega) with t0 | t0 | t0 | t0
        all_goals (try have m8 := m9.symm)
        all_goals (try have m8 := fun e : zRev (S.1 k) = S.1 k => m9 e.symm)
        all_goals first
          | (exfalso; omega)
          | exact zQm.ok H2 (by omega) (by assumption) (by unfold sp_isMirror; (try unfold spPut); (try simp only [Int.toNat_natCast]); (repeat (first | rw [if_pos (by omega)] | rw [if_neg (by omega)] | rw [if_pos (by assumption)] | rw [if_neg (by assumption)] | rw [if_pos (True.intro : True)])); (try (first | rfl | (congr 2; omega) | (congr 1; congr 1; omega))); done)
          | exact zQm.b1 H2 (by omega) (by assumption) (by unfold sp_isMirror; (try unfold spPut); (try simp only [Int.toNat_natCast]); (repeat (first | rw [if_pos (by omega)] | rw [if_neg (by omega)] | rw [if_pos (by assumption)] | rw [if_neg (by assumption)] | rw [if_pos (True.intro : True)])); (try (first | rfl | (congr 2; omega) | (congr 1; congr 1; omega))); done)
          | exact zQm.b2 H2 (by omega) (by assumption) (by unfold sp_isMirror; (try unfold spPut); (try simp only [Int.toNat_natCast]); (repeat (first | rw [if_pos (by omega)] | rw [if_neg (by omega)] | rw [if_pos (by assumption)] | rw [if_neg (by assumption)] | rw [if_pos (True.intro : True)])); (try (first | rfl | (congr 2; omega) | (congr 1; congr 1; omega))); done)
          | exact zQm.b3 H2 (by omega) (by assumption) (by unfold sp_isMirror; (try unfold spPut); (try simp only [Int.toNat_natCast]); (repeat (first | rw [if_pos (by omega)] | rw [if_neg (by omega)] | rw [if_pos (by assumption)] | rw [if_neg (by assumption)] | rw [if_pos (True.intro : True)])); (try (first | rfl | (congr 2; omega) | (congr 1; congr 1; omega))); done)
          | exact zQm.ok H1 (by omega) (by assumption) (by unfold sp_isMirror; (try unfold spPut); (try simp only [Int.toNat_natCast]); (repeat (first | rw [if_pos (by omega)] | rw [if_neg (by omega)] | rw [if_pos (by assumption)] | rw [if_neg (by assumption)] | rw [if_pos (True.intro : True)])); (try (first | rfl | (congr 2; omega) | (congr 1; congr 1; omega))); done)
          | exact zQm.b1 H1 (by omega) (by assumption) (by unfold sp_isMirror; (try unfold spPut); (try simp only [Int.toNat_natCast]); (repeat (first | rw [if_pos (by omega)] | rw [if_neg (by omega)] | rw [if_pos (by assumption)] | rw [if_neg (by assumption)] | rw [if_pos (True.intro : True)])); (try (first | rfl | (congr 2; omega) | (congr 1; congr 1; omega))); done)
          | exact zQm.b2 H1 (by omega) (by assumption) (by unfold sp_isMirror; (try unfold spPut); (try simp only [Int.toNat_natCast]); (repeat (first | rw [if_pos (by omega)] | rw [if_neg (by omega)] | rw [if_pos (by assumption)] | rw [if_neg (by assumption)] | rw [if_pos (True.intro : True)])); (try (first | rfl | (congr 2; omega) | (congr 1; congr 1; omega))); done)
          | exact zQm.b3 H1 (by omega) (by assumption) (by unfold sp_isMirror; (try unfold spPut); (try simp only [Int.toNat_natCast]); (repeat (first | rw [if_pos (by omega)] | rw [if_neg (by omega)] | rw [if_pos (by assumption)] | rw [if_neg (by assumption)] | rw [if_pos (True.intro : True)])); (try (first | rfl | (congr 2; omega) | (congr 1; congr 1; omega))); done)
      · refine z_iconst dMod_isMirror_34 ?_
        refine z_goto (tgt := 39) dMod_isMirror_35 (by decide) ?_
        refine z_iret rfl (by first | rfl | decide) dMod_isMirror_39 ?_
        rcases (show t9 = 0 ∨ t9 = 1 ∨ t9 = 2 ∨ t9 = 3 by omega) with t0 | t0 | t0 | t0
        all_goals (try have m8 := m9.symm)
        all_goals (try have m8 := fun e : zRev (S.1 k) = S.1 k => m9 e.symm)
        all_goals first
          | (exfalso; omega)
          | exact zQm.ok H2 (by omega) (by assumption) (by unfold sp_isMirror; (try unfold spPut); (try simp only [Int.toNat_natCast]); (repeat (first | rw [if_pos (by omega)] | rw [if_neg (by omega)] | rw [if_pos (by assumption)] | rw [if_neg (by assumption)] | rw [if_pos (True.intro : True)])); (try (first | rfl | (congr 2; omega) | (congr 1; congr 1; omega))); done)
          | exact zQm.b1 H2 (by omega) (by assumption) (by unfold sp_isMirror; (try unfold spPut); (try simp only [Int.toNat_natCast]); (repeat (first | rw [if_pos (by omega)] | rw [if_neg (by omega)] | rw [if_pos (by assumption)] | rw [if_neg (by assumption)] | rw [if_pos (True.intro : True)])); (try (first | rfl | (congr 2; omega) | (congr 1; congr 1; omega))); done)
          | exact zQm.b2 H2 (by omega) (by assumption) (by unfold sp_isMirror; (try unfold spPut); (try simp only [Int.toNat_natCast]); (repeat (first | rw [if_pos (by omega)] | rw [if_neg (by omega)] | rw [if_pos (by assumption)] | rw [if_neg (by assumption)] | rw [if_pos (True.intro : True)])); (try (first | rfl | (congr 2; omega) | (congr 1; congr 1; omega))); done)
          | exact zQm.b3 H2 (by omega) (by assumption) (by unfold sp_isMirror; (try unfold spPut); (try simp only [Int.toNat_natCast]); (repeat (first | rw [if_pos (by omega)] | rw [if_neg (by omega)] | rw [if_pos (by assumption)] | rw [if_neg (by assumption)] | rw [if_pos (True.intro : True)])); (try (first | rfl | (congr 2; omega) | (congr 1; congr 1; omega))); done)
          | exact zQm.ok H1 (by omega) (by assumption) (by unfold sp_isMirror; (try unfold spPut); (try simp only [Int.toNat_natCast]); (repeat (first | rw [if_pos (by omega)] | rw [if_neg (by omega)] | rw [if_pos (by assumption)] | rw [if_neg (by assumption)] | rw [if_pos (True.intro : True)])); (try (first | rfl | (congr 2; omega) | (congr 1; congr 1; omega))); done)
          | exact zQm.b1 H1 (by omega) (by assumption) (by unfold sp_isMirror; (try unfold spPut); (try simp only [Int.toNat_natCast]); (repeat (first | rw [if_pos (by omega)] | rw [if_neg (by omega)] | rw [if_pos (by assumption)] | rw [if_neg (by assumption)] | rw [if_pos (True.intro : True)])); (try (first | rfl | (congr 2; omega) | (congr 1; congr 1; omega))); done)
          | exact zQm.b2 H1 (by omega) (by assumption) (by unfold sp_isMirror; (try unfold spPut); (try simp only [Int.toNat_natCast]); (repeat (first | rw [if_pos (by omega)] | rw [if_neg (by omega)] | rw [if_pos (by assumption)] | rw [if_neg (by assumption)] | rw [if_pos (True.intro : True)])); (try (first | rfl | (congr 2; omega) | (congr 1; congr 1; omega))); done)
          | exact zQm.b3 H1 (by omega) (by assumption) (by unfold sp_isMirror; (try unfold spPut); (try simp only [Int.toNat_natCast]); (repeat (first | rw [if_pos (by omega)] | rw [if_neg (by omega)] | rw [if_pos (by assumption)] | rw [if_neg (by assumption)] | rw [if_pos (True.intro : True)])); (try (first | rfl | (congr 2; omega) | (congr 1; congr 1; omega))); done)
theorem k_Mod_shift {p : Int} (H : zMod G h ma S th) (z_p : zI32 p) (h16 : ∀ k, k < 4 → (S.1 k).length ≤ 16) : zM G l hMod_shift yMod_shift 4 [.ref (ma 0), zi p] h (zQm G ma h (1) (2) (3) (sp_shift S p)) zNo 1 61 := by
  obtain ⟨m1, m2, ⟨g, m3, m3a⟩, m4, ⟨f6, m5, m5a⟩, m6, m7⟩ := id H
  unfold zMfs at m2
  refine zM.of [some (.ref (ma 0)), some (zi p)] (by decide +kernel) rfl (by decide) rfl (Nat.le_of_ble_eq_true rfl) rfl ?_
  refine z_aload_n dMod_shift_0 rfl ?_
  refine z_iload_n dMod_shift_1 rfl ?_
  refine z_callS MS_Mod_isNo lk_Mod_81 dMod_shift_2 (k_Mod_isNo (by omega)) rfl rfl (Nat.le_of_ble_eq_true rfl)  (Nat.le_of_ble_eq_true rfl) (Nat.le_of_ble_eq_true rfl) (Nat.le_of_eq (Nat.zero_add _)) (Nat.le_of_eq (Nat.zero_add _)) (fun _ _ q => q.elim) ?_
  rintro _ _ ⟨n9, rfl, hn9, rfl⟩
  refine z_iconst dMod_shift_5 ?_
  refine z_iconst dMod_shift_6 ?_
  refine z_callV MV_Mod_fails lk_Mod_88 dMod_shift_7 (k_Mod_fails (by assumption) rfl (by omega) (by omega) (by omega)) rfl rfl (Nat.le_of_ble_eq_true rfl) rfl (by assumption) (Nat.le_of_ble_eq_true rfl) (Nat.le_of_ble_eq_true rfl) (Nat.le_of_eq (Nat.zero_add _)) (Nat.le_of_eq (Nat.zero_add _)) (fun _ _ q => q.elim) ?_
  rintro _ h1 ⟨t9, b8, rfl, ht, p1, g1⟩
  have H1 : zMod G h1 ma S t9 := H.obj (nu := S.2.2.2.2) (th' := t9) p1 g1
  have fz1 : zMfr ma h h1 := zMfr.of0 g1
  obtain ⟨-, n2, ⟨gg, n3, n3a⟩, n4, ⟨f61, n5, n5a⟩, n6, n7⟩ := id H1
  unfold zMfs at n2
  refine z_if_eq (tgt := 15) dMod_shift_10 (by decide) (by omega) (fun c10 => ?_) (fun c10 => ?_)
  · obtain ⟨k, rfl⟩ := Int.eq_ofNat_of_zero_le (show 0 ≤ p by omega)
    obtain ⟨frk, rk1, rk2, rk3, rk4⟩ := id (n6 k (by omega))
    have h16k := h16 k (by omega)
    have ezk : ∀ i : Int, 0 ≤ i → i < ((S.1 k).length : Int) → frk i.toNat = zAt (S.1 k) i := fun i x1 x2 => by rw [rk3 _ (by omega), zAt_eq x1 x2]
    refine z_aload_n dMod_shift_15 rfl ?_
    refine z_get (k := 0) fd_Mod (by decide) fl_Mod_11 dMod_shift_16 (by assumption) (by rfl) ?_
    refine z_iload_n dMod_shift_19 rfl ?_
    refine z_aald (t := 4) (ty := .array .int) rfl rfl dMod_shift_20 n3 (by refine ⟨?_, ?_, ?_⟩ <;> omega) ?_
    rw [show (k : Int).toNat = k from rfl, n3a k (by omega)]
    refine z_alenI dMod_shift_21 (by assumption) ?_
    refine z_bipush dMod_shift_22 rfl ?_
    refine z_icmp_ne (tgt := 32) dMod_shift_24 (by decide) (by omega) (by omega) (fun c24 => ?_) (fun c24 => ?_)
    · refine z_aload_n dMod_shift_32 rfl ?_
      refine z_iload_n dMod_shift_33 rfl ?_
      refine z_aload_n dMod_shift_34 rfl ?_
      refine z_get (k := 0) fd_Mod (by decide) fl_Mod_11 dMod_shift_35 (by assumption) (by rfl) ?_
      refine z_iload_n dMod_shift_38 rfl ?_
      refine z_aald (t := 4) (ty := .array .int) rfl rfl dMod_shift_39 n3 (by refine ⟨?_, ?_, ?_⟩ <;> omega) ?_
      rw [show (k : Int).toNat = k from rfl, n3a k (by omega)]
      refine z_alenI dMod_shift_40 (by assumption) ?_
      refine z_if_ne (tgt := 53) dMod_shift_41 (by decide) (by omega) (fun c41 => ?_) (fun c41 => ?_)
      · refine z_aload_n dMod_shift_53 rfl ?_
        refine z_get (k := 0) fd_Mod (by decide) fl_Mod_11 dMod_shift_54 (by assumption) (by rfl) ?_
        refine z_iload_n dMod_shift_57 rfl ?_
        refine z_aald (t := 4) (ty := .array .int) rfl rfl dMod_shift_58 n3 (by refine ⟨?_, ?_, ?_⟩ <;> omega) ?_
        rw [show (k : Int).toNat = k from rfl, n3a k (by omega)]
        refine z_iconst dMod_shift_59 ?_
        refine z_iconst dMod_shift_60 ?_
        refine z_callS (bc' := 0) (bs' := 0) MS_Mod_with lk_Mod_49 dMod_shift_61 (k_Mod_with (n6 k (by omega)) (by omega) (by omega) (by omega)) rfl rfl (Nat.le_of_ble_eq_true rfl)  (Nat.le_of_ble_eq_true rfl) (Nat.le_of_ble_eq_true rfl) (by decide) (by decide) (fun _ _ q => q.elim) ?_
        rintro _ h2 ⟨q2, rfl, hq2, gq2, r2, F2⟩
        have H2 : zMod G h2 ma S t9 := H1.keep hq2 F2
        have fz2 : zMfr ma h h2 := fz1.tr (zMfr.new hq2 F2)
        have dq2 : zDm h q2 := hq2.up H1 fz1
        have oc2 := H2.2.1
        have hzl := zIns_len (S.1 k) 0 0
        first
          | refine z_callV MV_Mod_becomes lk_Mod_95 dMod_shift_64 (k_Mod_becomes H2 (by omega) r2 (fun i hi _ => H1.nq hq2 hi)) rfl rfl (Nat.le_of_ble_eq_true rfl) rfl (by assumption) (Nat.le_of_ble_eq_true rfl) (Nat.le_of_ble_eq_true rfl) (Nat.le_of_eq (Nat.zero_add _)) (Nat.le_of_eq (Nat.zero_add _)) (fun _ _ q => q.elim) ?_
          | refine z_callV MV_Mod_becomes lk_Mod_95 dMod_shift_64 (k_Mod_becomes H1 (by omega) (n6 k (by omega)) (fun i hi hne => H1.inj (by omega) hi hne.symm)) rfl rfl (Nat.le_of_ble_eq_true rfl) rfl (by assumption) (Nat.le_of_ble_eq_true rfl) (Nat.le_of_ble_eq_true rfl) (Nat.le_of_eq (Nat.zero_add _)) (Nat.le_of_eq (Nat.zero_add _)) (fun _ _ q => q.elim) ?_
        rintro _ h3 ⟨rfl, H3, F3⟩
        have fz3 : zMfr ma h h3 := by first | exact fz2.tr (zMfr.bec F3) | exact fz1.tr (zMfr.bec F3)
        try rw [zsL_id] at H3
        refine z_iret rfl rfl dMod_shift_67 ?_
        rcases (show t9 = 0 ∨ t9 = 1 ∨ t9 = 2 ∨ t9 = 3 by omega) with t0 | t0 | t0 | t0
        all_goals first
          | (exfalso; omega)
          | exact zQm.okB H3 (Or.inr ⟨dq2, gq2⟩) (by omega) (by assumption) (by unfold sp_shift; (try unfold spPut); (try simp only [Int.toNat_natCast]); (repeat (first | rw [if_pos (by omega)] | rw [if_neg (by omega)] | rw [if_pos (by assumption)] | rw [if_neg (by assumption)] | rw [if_pos (True.intro : True)])); (try (first | rfl | (congr 2; omega) | (congr 1; congr 1; omega))); done)
          | exact zQm.okB H3 (Or.inl rfl) (by omega) (by assumption) (by unfold sp_shift; (try unfold spPut); (try simp only [Int.toNat_natCast]); (repeat (first | rw [if_pos (by omega)] | rw [if_neg (by omega)] | rw [if_pos (by assumption)] | rw [if_neg (by assumption)] | rw [if_pos (True.intro : True)])); (try (first | rfl | (congr 2; omega) | (congr 1; congr 1; omega))); done)
          | exact zQm.ok H2 (by omega) (by assumption) (by unfold sp_shift; (try unfold spPut); (try simp only [Int.toNat_natCast]); (repeat (first | rw [if_pos (by omega)] | rw [if_neg (by omega)] | rw [if_pos (by assumption)] | rw [if_neg (by assumption)] | rw [if_pos (True.intro : True)])); (try (first | rfl | (congr 2; omega) | (congr 1; congr 1; omega))); done)
          | exact zQm.b1 H2 (by omega) (by assumption) (by unfold sp_shift; (try unfold spPut); (try simp only [Int.toNat_natCast]); (repeat (first | rw [if_pos (by omega)] | rw [if_neg (by omega)] | rw [if_pos (by assumption)] | rw [if_neg (by assumption)] | rw [if_pos (True.intro : True)])); (try (first | rfl | (congr 2; omega) | (congr 1; congr 1; omega))); done)
          | exact zQm.b2 H2 (by omega) (by assumption) (by unfold sp_shift; (try unfold spPut); (try simp only [Int.toNat_natCast]); (repeat (first | rw [if_pos (by omega)] | rw [if_neg (by omega)] | rw [if_pos (by assumption)] | rw [if_neg (by assumption)] | rw [if_pos (True.intro : True)])); (try (first | rfl | (congr 2; omega) | (congr 1; congr 1; omega))); done)
          | exact zQm.b3 H2 (by omega) (by assumption) (by unfold sp_shift; (try unfold spPut); (try simp only [Int.toNat_natCast]); (repeat (first | rw [if_pos (by omega)] | rw [if_neg (by omega)] | rw [if_pos (by assumption)] | rw [if_neg (by assumption)] | rw [if_pos (True.intro : True)])); (try (first | rfl | (congr 2; omega) | (congr 1; congr 1; omega))); done)
          | exact zQm.ok H1 (by omega) (by assumption) (by unfold sp_shift; (try unfold spPut); (try simp only [Int.toNat_natCast]); (repeat (first | rw [if_pos (by omega)] | rw [if_neg (by omega)] | rw [if_pos (by assumption)] | rw [if_neg (by assumption)] | rw [if_pos (True.intro : True)])); (try (first | rfl | (congr 2; omega) | (congr 1; congr 1; omega))); done)
          | exact zQm.b1 H1 (by omega) (by assumption) (by unfold sp_shift; (try unfold spPut); (try simp only [Int.toNat_natCast]); (repeat (first | rw [if_pos (by omega)] | rw [if_neg (by omega)] | rw [if_pos (by assumption)] | rw [if_neg (by assumption)] | rw [if_pos (True.intro : True)])); (try (first | rfl | (congr 2; omega) | (congr 1; congr 1; omega))); done)
          | exact zQm.b2 H1 (by omega) (by assumption) (by unfold sp_shift; (try unfold spPut); (try simp only [Int.toNat_natCast]); (repeat (first | rw [if_pos (by omega)] | rw [if_neg (by omega)] | rw [if_pos (by assumption)] | rw [if_neg (by assumption)] | rw [if_pos (True.intro : True)])); (try (first | rfl | (congr 2; omega) | (congr 1; congr 1; omega))); done)
          | exact zQm.b3 H1 (by omega) (by assumption) (by unfold sp_shift; (try unfold spPut); (try simp only [Int.toNat_natCast]); (repeat (first | rw [if_pos (by omega)] | rw [if_neg (by omega)] | rw [if_pos (by assumption)] | rw [if_neg (by assumption)] | rw [if_pos (True.intro : True)])); (try (first | rfl | (congr 2; omega) | (congr 1; congr 1; omega))); done)
      · refine z_aload_n dMod_shift_44 rfl ?_
        refine z_get (k := 0) fd_Mod (by decide) fl_Mod_11 dMod_shift_45 (by assumption) (by rfl) ?_
        refine z_iload_n dMod_shift_48 rfl ?_
        refine z_aald (t := 4) (ty := .array .int) rfl rfl dMod_shift_49 n3 (by refine ⟨?_, ?_, ?_⟩ <;> omega) ?_
        rw [show (k : Int).toNat = k from rfl, n3a k (by omega)]
        refine z_goto (tgt := 64) dMod_shift_50 (by decide) ?_
        first
          | refine z_callV MV_Mod_becomes lk_Mod_95 dMod_shift_64 (k_Mod_becomes H2 (by omega) r2 (fun i hi _ => H1.nq hq2 hi)) rfl rfl (Nat.le_of_ble_eq_true rfl) rfl (by assumption) (Nat.le_of_ble_eq_true rfl) (Nat.le_of_ble_eq_true rfl) (Nat.le_of_eq (Nat.zero_add _)) (Nat.le_of_eq (Nat.zero_add _)) (fun _ _ q => q.elim) ?_
          | refine z_callV MV_Mod_becomes lk_Mod_95 dMod_shift_64 (k_Mod_becomes H1 (by omega) (n6 k (by omega)) (fun i hi hne => H1.inj (by omega) hi hne.symm)) rfl rfl (Nat.le_of_ble_eq_true rfl) rfl (by assumption) (Nat.le_of_ble_eq_true rfl) (Nat.le_of_ble_eq_true rfl) (Nat.le_of_eq (Nat.zero_add _)) (Nat.le_of_eq (Nat.zero_add _)) (fun _ _ q => q.elim) ?_
        rintro _ h3 ⟨rfl, H3, F3⟩
        have fz3 : zMfr ma h h3 := by first | exact fz2.tr (zMfr.bec F3) | exact fz1.tr (zMfr.bec F3)
        try rw [zsL_id] at H3
        refine z_iret rfl rfl dMod_shift_67 ?_
        rcases (show t9 = 0 ∨ t9 = 1 ∨ t9 = 2 ∨ t9 = 3 by omega) with t0 | t0 | t0 | t0
        all_goals first
          | (exfalso; omega)
          | exact zQm.okB H3 (Or.inr ⟨dq2, gq2⟩) (by omega) (by assumption) (by unfold sp_shift; (try unfold spPut); (try simp only [Int.toNat_natCast]); (repeat (first | rw [if_pos (by omega)] | rw [if_neg (by omega)] | rw [if_pos (by assumption)] | rw [if_neg (by assumption)] | rw [if_pos (True.intro : True)])); (try (first | rfl | (congr 2; omega) | (congr 1; congr 1; omega))); done)
          | exact zQm.okB H3 (Or.inl rfl) (by omega) (by assumption) (by unfold sp_shift; (try unfold spPut); (try simp only [Int.toNat_natCast]); (repeat (first | rw [if_pos (by omega)] | rw [if_neg (by omega)] | rw [if_pos (by assumption)] | rw [if_neg (by assumption)] | rw [if_pos (True.intro : True)])); (try (first | rfl | (congr 2; omega) | (congr 1; congr 1; omega))); done)
          | exact zQm.ok H2 (by omega) (by assumption) (by unfold sp_shift; (try unfold spPut); (try simp only [Int.toNat_natCast]); (repeat (first | rw [if_pos (by omega)] | rw [if_neg (by omega)] | rw [if_pos (by assumption)] | rw [if_neg (by assumption)] | rw [if_pos (True.intro : True)])); (try (first | rfl | (congr 2; omega) | (congr 1; congr 1; omega))); done)
          | exact zQm.b1 H2 (by omega) (by assumption) (by unfold sp_shift; (try unfold spPut); (try simp only [Int.toNat_natCast]); (repeat (first | rw [if_pos (by omega)] | rw [if_neg (by omega)] | rw [if_pos (by assumption)] | rw [if_neg (by assumption)] | rw [if_pos (True.intro : True)])); (try (first | rfl | (congr 2; omega) | (congr 1; congr 1; omega))); done)
          | exact zQm.b2 H2 (by omega) (by assumption) (by unfold sp_shift; (try unfold spPut); (try simp only [Int.toNat_natCast]); (repeat (first | rw [if_pos (by omega)] | rw [if_neg (by omega)] | rw [if_pos (by assumption)] | rw [if_neg (by assumption)] | rw [if_pos (True.intro : True)])); (try (first | rfl | (congr 2; omega) | (congr 1; congr 1; omega))); done)
          | exact zQm.b3 H2 (by omega) (by assumption) (by unfold sp_shift; (try unfold spPut); (try simp only [Int.toNat_natCast]); (repeat (first | rw [if_pos (by omega)] | rw [if_neg (by omega)] | rw [if_pos (by assumption)] | rw [if_neg (by assumption)] | rw [if_pos (True.intro : True)])); (try (first | rfl | (congr 2; omega) | (congr 1; congr 1; omega))); done)
          | exact zQm.ok H1 (by omega) (by assumption) (by unfold sp_shift; (try unfold spPut); (try simp only [Int.toNat_natCast]); (repeat (first | rw [if_pos (by omega)] | rw [if_neg (by omega)] | rw [if_pos (by assumption)] | rw [if_neg (by assumption)] | rw [if_pos (True.intro : True)])); (try (first | rfl | (congr 2; omega) | (congr 1; congr 1; omega))); done)
          | exact zQm.b1 H1 (by omega) (by assumption) (by unfold sp_shift; (try unfold spPut); (try simp only [Int.toNat_natCast]); (repeat (first | rw [if_pos (by omega)] | rw [if_neg (by omega)] | rw [if_pos (by assumption)] | rw [if_neg (by assumption)] | rw [if_pos (True.intro : True)])); (try (first | rfl | (congr 2; omega) | (congr 1; congr 1; omega))); done)
          | exact zQm.b2 H1 (by omega) (by assumption) (by unfold sp_shift; (try unfold spPut); (try simp only [Int.toNat_natCast]); (repeat (first | rw [if_pos (by omega)] | rw [if_neg (by omega)] | rw [if_pos (by assumption)] | rw [if_neg (by assumption)] | rw [if_pos (True.intro : True)])); (try (first | rfl | (congr 2; omega) | (congr 1; congr 1; omega))); done)
          | exact zQm.b3 H1 (by omega) (by assumption) (by unfold sp_shift; (try unfold spPut); (try simp only [Int.toNat_natCast]); (repeat (first | rw [if_pos (by omega)] | rw [if_neg (by omega)] | rw [if_pos (by assumption)] | rw [if_neg (by assumption)] | rw [if_pos (True.intro : True)])); (try (first | rfl | (congr 2; omega) | (congr 1; congr 1; omega))); done)
    · refine z_aload_n dMod_shift_27 rfl ?_
      refine z_callV MV_Mod_refused lk_Mod_92 dMod_shift_28 (k_Mod_refused n2 rfl rfl) rfl rfl (Nat.le_of_ble_eq_true rfl) rfl (by assumption) (Nat.le_of_ble_eq_true rfl) (Nat.le_of_ble_eq_true rfl) (Nat.le_of_eq (Nat.zero_add _)) (Nat.le_of_eq (Nat.zero_add _)) (fun _ _ q => q.elim) ?_
      rintro _ h2 ⟨rfl, p2, g2⟩
      have H2 : zMod G h2 ma (zsRef S) t9 := H1.obj (nu := zup S.2.2.2.2 1 (S.2.2.2.2 1 + 1)) p2 g2
      have fz2 : zMfr ma h h2 := zMfr.of0 (fun q hq => (g2 q hq).trans (g1 q hq))
      refine z_iret rfl rfl dMod_shift_31 ?_
      rcases (show t9 = 0 ∨ t9 = 1 ∨ t9 = 2 ∨ t9 = 3 by omega) with t0 | t0 | t0 | t0
      all_goals first
        | (exfalso; omega)
        | exact zQm.okB H3 (Or.inr ⟨dq2, gq2⟩) (by omega) (by assumption) (by unfold sp_shift; (try unfold spPut); (try simp only [Int.toNat_natCast]); (repeat (first | rw [if_pos (by omega)] | rw [if_neg (by omega)] | rw [if_pos (by assumption)] | rw [if_neg (by assumption)] | rw [if_pos (True.intro : True)])); (try (first | rfl | (congr 2; omega) | (congr 1; congr 1; omega))); done)
        | exact zQm.okB H3 (Or.inl rfl) (by omega) (by assumption) (by unfold sp_shift; (try unfold spPut); (try simp only [Int.toNat_natCast]); (repeat (first | rw [if_pos (by omega)] | rw [if_neg (by omega)] | rw [if_pos (by assumption)] | rw [if_neg (by assumption)] | rw [if_pos (True.intro : True)])); (try (first | rfl | (congr 2; omega) | (congr 1; congr 1; omega))); done)
        | exact zQm.ok H2 (by omega) (by assumption) (by unfold sp_shift; (try unfold spPut); (try simp only [Int.toNat_natCast]); (repeat (first | rw [if_pos (by omega)] | rw [if_neg (by omega)] | rw [if_pos (by assumption)] | rw [if_neg (by assumption)] | rw [if_pos (True.intro : True)])); (try (first | rfl | (congr 2; omega) | (congr 1; congr 1; omega))); done)
        | exact zQm.b1 H2 (by omega) (by assumption) (by unfold sp_shift; (try unfold spPut); (try simp only [Int.toNat_natCast]); (repeat (first | rw [if_pos (by omega)] | rw [if_neg (by omega)] | rw [if_pos (by assumption)] | rw [if_neg (by assumption)] | rw [if_pos (True.intro : True)])); (try (first | rfl | (congr 2; omega) | (congr 1; congr 1; omega))); done)
        | exact zQm.b2 H2 (by omega) (by assumption) (by unfold sp_shift; (try unfold spPut); (try simp only [Int.toNat_natCast]); (repeat (first | rw [if_pos (by omega)] | rw [if_neg (by omega)] | rw [if_pos (by assumption)] | rw [if_neg (by assumption)] | rw [if_pos (True.intro : True)])); (try (first | rfl | (congr 2; omega) | (congr 1; congr 1; omega))); done)
        | exact zQm.b3 H2 (by omega) (by assumption) (by unfold sp_shift; (try unfold spPut); (try simp only [Int.toNat_natCast]); (repeat (first | rw [if_pos (by omega)] | rw [if_neg (by omega)] | rw [if_pos (by assumption)] | rw [if_neg (by assumption)] | rw [if_pos (True.intro : True)])); (try (first | rfl | (congr 2; omega) | (congr 1; congr 1; omega))); done)
        | exact zQm.ok H1 (by omega) (by assumption) (by unfold sp_shift; (try unfold spPut); (try simp only [Int.toNat_natCast]); (repeat (first | rw [if_pos (by omega)] | rw [if_neg (by omega)] | rw [if_pos (by assumption)] | rw [if_neg (by assumption)] | rw [if_pos (True.intro : True)])); (try (first | rfl | (congr 2; omega) | (congr 1; congr 1; omega))); done)
        | exact zQm.b1 H1 (by omega) (by assumption) (by unfold sp_shift; (try unfold spPut); (try simp only [Int.toNat_natCast]); (repeat (first | rw [if_pos (by omega)] | rw [if_neg (by omega)] | rw [if_pos (by assumption)] | rw [if_neg (by assumption)] | rw [if_pos (True.intro : True)])); (try (first | rfl | (congr 2; omega) | (congr 1; congr 1; omega))); done)
        | exact zQm.b2 H1 (by omega) (by assumption) (by unfold sp_shift; (try unfold spPut); (try simp only [Int.toNat_natCast]); (repeat (first | rw [if_pos (by omega)] | rw [if_neg (by omega)] | rw [if_pos (by assumption)] | rw [if_neg (by assumption)] | rw [if_pos (True.intro : True)])); (try (first | rfl | (congr 2; omega) | (congr 1; congr 1; omega))); done)
        | exact zQm.b3 H1 (by omega) (by assumption) (by unfold sp_shift; (try unfold spPut); (try simp only [Int.toNat_natCast]); (repeat (first | rw [if_pos (by omega)] | rw [if_neg (by omega)] | rw [if_pos (by assumption)] | rw [if_neg (by assumption)] | rw [if_pos (True.intro : True)])); (try (first | rfl | (congr 2; omega) | (congr 1; congr 1; omega))); done)
  · refine z_iconst dMod_shift_13 ?_
    refine z_iret rfl rfl dMod_shift_14 ?_
    rcases (show t9 = 0 ∨ t9 = 1 ∨ t9 = 2 ∨ t9 = 3 by omega) with t0 | t0 | t0 | t0
    all_goals first
      | (exfalso; omega)
      | exact zQm.okB H3 (Or.inr ⟨dq2, gq2⟩) (by omega) (by assumption) (by unfold sp_shift; (try unfold spPut); (try simp only [Int.toNat_natCast]); (repeat (first | rw [if_pos (by omega)] | rw [if_neg (by omega)] | rw [if_pos (by assumption)] | rw [if_neg (by assumption)] | rw [if_pos (True.intro : True)])); (try (first | rfl | (congr 2; omega) | (congr 1; congr 1; omega))); done)
      | exact zQm.okB H3 (Or.inl rfl) (by omega) (by assumption) (by unfold sp_shift; (try unfold spPut); (try simp only [Int.toNat_natCast]); (repeat (first | rw [if_pos (by omega)] | rw [if_neg (by omega)] | rw [if_pos (by assumption)] | rw [if_neg (by assumption)] | rw [if_pos (True.intro : True)])); (try (first | rfl | (congr 2; omega) | (congr 1; congr 1; omega))); done)
      | exact zQm.ok H2 (by omega) (by assumption) (by unfold sp_shift; (try unfold spPut); (try simp only [Int.toNat_natCast]); (repeat (first | rw [if_pos (by omega)] | rw [if_neg (by omega)] | rw [if_pos (by assumption)] | rw [if_neg (by assumption)] | rw [if_pos (True.intro : True)])); (try (first | rfl | (congr 2; omega) | (congr 1; congr 1; omega))); done)
      | exact zQm.b1 H2 (by omega) (by assumption) (by unfold sp_shift; (try unfold spPut); (try simp only [Int.toNat_natCast]); (repeat (first | rw [if_pos (by omega)] | rw [if_neg (by omega)] | rw [if_pos (by assumption)] | rw [if_neg (by assumption)] | rw [if_pos (True.intro : True)])); (try (first | rfl | (congr 2; omega) | (congr 1; congr 1; omega))); done)
      | exact zQm.b2 H2 (by omega) (by assumption) (by unfold sp_shift; (try unfold spPut); (try simp only [Int.toNat_natCast]); (repeat (first | rw [if_pos (by omega)] | rw [if_neg (by omega)] | rw [if_pos (by assumption)] | rw [if_neg (by assumption)] | rw [if_pos (True.intro : True)])); (try (first | rfl | (congr 2; omega) | (congr 1; congr 1; omega))); done)
      | exact zQm.b3 H2 (by omega) (by assumption) (by unfold sp_shift; (try unfold spPut); (try simp only [Int.toNat_natCast]); (repeat (first | rw [if_pos (by omega)] | rw [if_neg (by omega)] | rw [if_pos (by assumption)] | rw [if_neg (by assumption)] | rw [if_pos (True.intro : True)])); (try (first | rfl | (congr 2; omega) | (congr 1; congr 1; omega))); done)
      | exact zQm.ok H1 (by omega) (by assumption) (by unfold sp_shift; (try unfold spPut); (try simp only [Int.toNat_natCast]); (repeat (first | rw [if_pos (by omega)] | rw [if_neg (by omega)] | rw [if_pos (by assumption)] | rw [if_neg (by assumption)] | rw [if_pos (True.intro : True)])); (try (first | rfl | (congr 2; omega) | (congr 1; congr 1; omega))); done)
      | exact zQm.b1 H1 (by omega) (by assumption) (by unfold sp_shift; (try unfold spPut); (try simp only [Int.toNat_natCast]); (repeat (first | rw [if_pos (by omega)] | rw [if_neg (by omega)] | rw [if_pos (by assumption)] | rw [if_neg (by assumption)] | rw [if_pos (True.intro : True)])); (try (first | rfl | (congr 2; omega) | (congr 1; congr 1; omega))); done)
      | exact zQm.b2 H1 (by omega) (by assumption) (by unfold sp_shift; (try unfold spPut); (try simp only [Int.toNat_natCast]); (repeat (first | rw [if_pos (by omega)] | rw [if_neg (by omega)] | rw [if_pos (by assumption)] | rw [if_neg (by assumption)] | rw [if_pos (True.intro : True)])); (try (first | rfl | (congr 2; omega) | (congr 1; congr 1; omega))); done)
      | exact zQm.b3 H1 (by omega) (by assumption) (by unfold sp_shift; (try unfold spPut); (try simp only [Int.toNat_natCast]); (repeat (first | rw [if_pos (by omega)] | rw [if_neg (by omega)] | rw [if_pos (by assumption)] | rw [if_neg (by assumption)] | rw [if_pos (True.intro : True)])); (try (first | rfl | (congr 2; omega) | (congr 1; congr 1; omega))); done)
end MOD12
end
section
section MOD13
variable {G : zG} {l : Launch} {h h' h'' : zHp} {ma : Nat → Nat} {S : zSt} {th : Int}
theorem zDel_eq {L : List Int} {p : Int} (h0 : 0 ≤ p) (h1 : p < L.length) : zDel L p = L.take p.toNat ++ L.drop (p.toNat + 1) := by
  have hl : (L.take p.toNat).length = p.toNat := by rw [List.length_take]; omega
  apply zl_ext (by rw [zDel_len, List.length_append, hl, List.length_drop]; omega)
  intro j hj
  rw [zDel_len] at hj
  rw [zDel_at hj]
  simp only [List.getD_eq_getElem?_getD, List.getElem?_append, hl, List.getElem?_take, List.getElem?_drop]
  by_cases c : (j : Int) < p
  · rw [if_pos c, if_pos (by omega), if_pos (by omega)]
  · rw [if_neg c, if_neg (by omega), show p.toNat + 1 + (j - p.toNat) = j + 1 by omega]
theorem zFl_del {L : List Int} {x : Int} (h : 0 ≤ zFind L x 0) : zFl (zDel L (zFind L x 0)) x = zFl L x := by
  have h1 := zFind_in L x 0
  have hg := zFind_get h
  have hlt : (zFind L x 0).toNat < L.length := by omega
  rw [zDel_eq h (by omega)]
  have e : L = L.take (zFind L x 0).toNat ++ (x :: L.drop ((zFind L x 0).toNat + 1)) := by
    have e1 : L.drop (zFind L x 0).toNat = L[(zFind L x 0).toNat] :: L.drop ((zFind L x 0).toNat + 1) := List.drop_eq_getElem_cons hlt
    have e2 : L[(zFind L x 0).toNat] = x := by
      have e4 := hg
      rw [zgetD hlt] at e4
      exact e4
    exact (List.take_append_drop (zFind L x 0).toNat L).symm.trans (by rw [e1, e2])
  have e3 : zFl L x = zFl (L.take (zFind L x 0).toNat ++ (x :: L.drop ((zFind L x 0).toNat + 1))) x := congrArg (fun q => zFl q x) e
  rw [e3]
  unfold zFl
  rw [List.filter_append, List.filter_append, List.filter_cons_of_neg (by simp)]
theorem zFl_none {L : List Int} {x : Int} (h : zFind L x 0 = -1) : zFl L x = L := by
  unfold zFl
  rw [List.filter_eq_self]
  intro y hy
  obtain ⟨i, hi, e⟩ := List.getElem_of_mem hy
  rw [decide_eq_true_eq]
  intro ey
  have := zFind_mem (L := L) (x := x) (j := i) hi (by rw [← ey, ← e]; simp [List.getD_eq_getElem?_getD, List.getElem?_eq_getElem hi])
  omega
theorem zLn9_get (L : List Int) : ∀ n : Nat, 0 ≤ zLn9 L n → L.getD (zLn9 L n).toNat 0 ≠ 0
  | 0, h => absurd h (by unfold zLn9; omega)
  | n + 1, h => by
    have ih := zLn9_get L n
    unfold zLn9 at h ⊢
    split
    · rename_i q
      rw [if_pos q] at h
      exact ih h
    · rename_i q
      rw [Int.toNat_natCast]
      exact q
theorem zLn9_top (L : List Int) : ∀ n j : Nat, zLn9 L n < (j : Int) → j < n → L.getD j 0 = 0
  | 0, j, _, h => absurd h (by omega)
  | n + 1, j, h1, h2 => by
    have ih := zLn9_top L n j
    unfold zLn9 at h1
    split at h1
    · rename_i q
      by_cases c : j = n
      · rw [c]; exact q
      · exact ih h1 (by omega)
    · omega
theorem zDel_last {L : List Int} {m : Nat} (h0 : 0 < m) (h1 : m ≤ L.length) : zDel (L.take m) ((m : Int) - 1) = L.take (m - 1) := by
  have hl : (L.take m).length = m := by rw [List.length_take]; omega
  rw [zDel_eq (by omega) (by omega), show ((m : Int) - 1).toNat = m - 1 by omega, List.take_take, show min (m - 1) m = m - 1 by omega, List.drop_eq_nil_of_le (by omega), List.append_nil]
theorem zDr_of {a0 q : Nat} (G : zG) (hq : q = a0 ∨ (zDm h q ∧ G.2.2 ≤ q)) (H : zMod G h ma S th) {k : Nat} (ha : a0 = ma (8 + k)) (hk : k < 4) : ∀ i, i < 13 → i ≠ 8 + k → q ≠ ma i := by
  intro i hi hne
  rcases hq with rfl | ⟨x1, -⟩
  · rw [ha]; exact H.inj (by omega) hi (Ne.symm hne)
  · exact H.nq x1 hi
theorem l_Mod_through {k j s q2 : Nat} {h1 : zHp} (H1 : zMod G h1 ma S 0) (fz1 : zMfr ma h h1) (hq2 : zDm h1 q2) (gq2 : G.2.2 ≤ q2) (hk : k < 4) (hj : j < 4) (hs : s < 4) (h16 : ∀ k, k < 4 → (S.1 k).length ≤ 16) :
    ∀ (n m : Nat) (h3 : zHp) (g : Nat → Int), (S.1 j).length - m < n → m ≤ (S.1 j).length → h3 q2 = some (zInts G (S.1 j).length g) → (∀ t : Nat, t < m → (0 ≤ (S.1 j).getD t 0 ∧ (S.1 j).getD t 0 < (S.1 k).length) ∧ g t = zAt (S.1 k) ((S.1 j).getD t 0)) → (∀ z, z ≠ q2 → h3 z = h1 z) →
      zR G l (zMJ G hMod_through 4 (zQm G ma h 1 2 3 (sp_through S (k : Int) (j : Int) (s : Int))) zNo 1 16) 0 0 h3 51 [some (.ref (ma 0)), some (zi (k : Int)), some (zi (j : Int)), some (zi (s : Int)), some (.ref q2), some (zi (m : Int))] [] := by
  intro n
  induction n with
  | zero => intro m h3 g x1 x2 e1 e2 hf; omega
  | succ n ih =>
  intro m h3 g x1 x2 e1 e2 hf
  have H3 : zMod G h3 ma S 0 := H1.keep hq2 hf
  have fz3 : zMfr ma h h3 := fz1.tr (zMfr.new hq2 hf)
  have dq2 : zDm h q2 := hq2.up H1 fz1
  obtain ⟨-, n2, ⟨gg, n3, n3a⟩, n4, ⟨f61, n5, n5a⟩, n6, n7⟩ := id H3
  unfold zMfs at n2
  obtain ⟨frk, rk1, rk2, rk3, rk4⟩ := id (n6 k hk)
  obtain ⟨frj, rj1, rj2, rj3, rj4⟩ := id (n6 j hj)
  have h16k := h16 k hk
  have h16j := h16 j hj
  refine z_iload dMod_through_51 rfl ?_
  refine z_aload dMod_through_53 rfl ?_
  refine z_alenI dMod_through_55 (by assumption) ?_
  refine z_icmp_ge (tgt := 108) dMod_through_56 (by decide) (by omega) (by omega) (fun c56 => ?_) (fun c56 => ?_)
  · have em : m = (S.1 j).length := by omega
    subst em
    have r3 : zAr G h3 q2 (zmk (S.1 j).length (fun t => zAt (S.1 k) ((S.1 j).getD t 0))) := by
      refine ⟨g, by rw [zmk_len]; exact e1, by rw [zmk_len]; omega, fun t ht => ?_, fun t ht => ?_⟩
      · rw [zmk_len] at ht
        rw [zmk_at _ ht]
        exact (e2 t ht).2
      · rw [zmk_len] at ht
        rw [zmk_at _ ht, zAt_eq (e2 t ht).1.1 (e2 t ht).1.2]
        have e2t := (e2 t ht).1
        exact rk4 _ (by omega)
    have hml : (zmk (S.1 j).length (fun t => zAt (S.1 k) ((S.1 j).getD t 0))).length = (S.1 j).length := zmk_len _ _
    refine z_aload_n dMod_through_108 rfl ?_
    refine z_iload_n dMod_through_109 rfl ?_
    refine z_aload dMod_through_110 rfl ?_
    refine z_callV MV_Mod_becomes lk_Mod_95 dMod_through_112 (k_Mod_becomes H3 hs r3 (fun i hi _ => H1.nq hq2 hi)) rfl rfl (Nat.le_of_ble_eq_true rfl) rfl (by assumption) (Nat.le_of_ble_eq_true rfl) (Nat.le_of_ble_eq_true rfl) (Nat.le_of_eq (Nat.zero_add _)) (Nat.le_of_eq (Nat.zero_add _)) (fun _ _ q => q.elim) ?_
    rintro _ h4 ⟨rfl, H4, F4⟩
    have fz4 : zMfr ma h h4 := fz3.tr (zMfr.bec F4)
    refine z_iret rfl rfl dMod_through_115 ?_
    exact zQm.okB H4 (Or.inr ⟨dq2, gq2⟩) rfl fz4 (by unfold sp_through; rw [if_pos (by omega), if_pos (by omega), if_pos (by omega)]; simp only [Int.toNat_natCast]; exact (if_pos (fun t ht => (e2 t ht).1)))
  · have rj4m := rj4 m (by omega)
    refine z_aload_n dMod_through_59 rfl ?_
    refine z_iload_n dMod_through_60 rfl ?_
    refine z_aload_n dMod_through_61 rfl ?_
    refine z_get (k := 0) fd_Mod (by decide) fl_Mod_11 dMod_through_62 (by assumption) (by rfl) ?_
    refine z_iload_n dMod_through_65 rfl ?_
    refine z_aald (t := 4) (ty := .array .int) rfl rfl dMod_through_66 n3 (by refine ⟨?_, ?_, ?_⟩ <;> omega) ?_
    rw [show (j : Int).toNat = j from rfl, n3a j (by omega)]
    refine z_iload dMod_through_67 rfl ?_
    refine z_iald dMod_through_69 (by assumption) (by refine ⟨?_, ?_, ?_⟩ <;> omega) ?_
    rw [Int.toNat_natCast, rj3 m (by omega)]
    refine z_callV MV_Mod_isNoPlace lk_Mod_106 dMod_through_70 (k_Mod_isNoPlace H3 hk (by omega)) rfl rfl (Nat.le_of_ble_eq_true rfl) rfl (by assumption) (Nat.le_of_ble_eq_true rfl) (Nat.le_of_ble_eq_true rfl) (Nat.le_of_eq (Nat.zero_add _)) (Nat.le_of_eq (Nat.zero_add _)) (fun _ _ q => q.elim) ?_
    rintro _ _ ⟨np9, rfl, (⟨rfl, hnp⟩ | ⟨rfl, hnp⟩), rfl⟩
    · refine z_if_eq (tgt := 81) dMod_through_73 (by decide) (by omega) (fun c73 => ?_) (fun c73 => ?_)
      · exfalso; omega
      · refine z_aload_n dMod_through_76 rfl ?_
        refine z_callV MV_Mod_refused lk_Mod_92 dMod_through_77 (k_Mod_refused n2 rfl rfl) rfl rfl (Nat.le_of_ble_eq_true rfl) rfl (by assumption) (Nat.le_of_ble_eq_true rfl) (Nat.le_of_ble_eq_true rfl) (Nat.le_of_eq (Nat.zero_add _)) (Nat.le_of_eq (Nat.zero_add _)) (fun _ _ q => q.elim) ?_
        rintro _ h4 ⟨rfl, p4, g4⟩
        have H4 : zMod G h4 ma (zsRef S) 0 := H3.obj (nu := zup S.2.2.2.2 1 (S.2.2.2.2 1 + 1)) p4 g4
        have fz4 : zMfr ma h h4 := fz3.tr (zMfr.of0 g4)
        refine z_iret rfl rfl dMod_through_80 ?_
        exact zQm.ok H4 rfl fz4 (by unfold sp_through; rw [if_pos (by omega), if_pos (by omega), if_pos (by omega)]; simp only [Int.toNat_natCast]; exact if_neg (fun c => hnp ⟨(c m (by omega)).1, (c m (by omega)).2⟩))
    · refine z_if_eq (tgt := 81) dMod_through_73 (by decide) (by omega) (fun c73 => ?_) (fun c73 => ?_)
      · refine z_aload dMod_through_81 rfl ?_
        refine z_iload dMod_through_83 rfl ?_
        refine z_aload_n dMod_through_85 rfl ?_
        refine z_get (k := 0) fd_Mod (by decide) fl_Mod_11 dMod_through_86 (by assumption) (by rfl) ?_
        refine z_iload_n dMod_through_89 rfl ?_
        refine z_aald (t := 4) (ty := .array .int) rfl rfl dMod_through_90 n3 (by refine ⟨?_, ?_, ?_⟩ <;> omega) ?_
        rw [show (k : Int).toNat = k from rfl, n3a k (by omega)]
        refine z_aload_n dMod_through_91 rfl ?_
        refine z_get (k := 0) fd_Mod (by decide) fl_Mod_11 dMod_through_92 (by assumption) (by rfl) ?_
        refine z_iload_n dMod_through_95 rfl ?_
        refine z_aald (t := 4) (ty := .array .int) rfl rfl dMod_through_96 n3 (by refine ⟨?_, ?_, ?_⟩ <;> omega) ?_
        rw [show (j : Int).toNat = j from rfl, n3a j (by omega)]
        refine z_iload dMod_through_97 rfl ?_
        refine z_iald dMod_through_99 (by assumption) (by refine ⟨?_, ?_, ?_⟩ <;> omega) ?_
        rw [Int.toNat_natCast, rj3 m (by omega)]
        refine z_iald dMod_through_100 (by assumption) (by refine ⟨?_, ?_, ?_⟩ <;> omega) ?_
        rw [rk3 _ (by omega), ← zAt_eq (by omega) (by omega)]
        refine z_iast dMod_through_101 (by assumption) (by refine ⟨?_, ?_, ?_⟩ <;> omega) ?_
        refine z_hx (fun h4 p4 f4 => ?_)
        refine z_iinc dMod_through_102 rfl (Nat.le_of_ble_eq_true rfl) ?_
        refine z_goto (tgt := 51) dMod_through_105 (by decide) ?_
        refine ih (m + 1) h4 _ (by omega) (by omega) p4 (fun t ht => ?_) (fun z hz => (f4 z hz).trans (hf z hz))
        by_cases e9 : t = m
        · subst e9
          rw [Int.toNat_natCast, zup_same]
          exact ⟨by omega, rfl⟩
        · rw [Int.toNat_natCast, zup_ne e9]
          exact e2 t (by omega)
      · exfalso; omega
theorem k_Mod_through {p m i : Int} (H : zMod G h ma S th) (z_p : zI32 p) (z_m : zI32 m) (z_i : zI32 i) (h16 : ∀ k, k < 4 → (S.1 k).length ≤ 16) : zM G l hMod_through yMod_through 4 [.ref (ma 0), zi p, zi m, zi i] h (zQm G ma h (1) (2) (3) (sp_through S p m i)) zNo 1 16 := by
  obtain ⟨m1, m2, ⟨g, m3, m3a⟩, m4, ⟨f6, m5, m5a⟩, m6, m7⟩ := id H
  unfold zMfs at m2
  refine zM.of [some (.ref (ma 0)), some (zi p), some (zi m), some (zi i), none, none] (by decide +kernel) rfl (by decide) rfl (Nat.le_of_ble_eq_true rfl) rfl ?_
  refine z_aload_n dMod_through_0 rfl ?_
  refine z_iload_n dMod_through_1 rfl ?_
  refine z_callS MS_Mod_isNo lk_Mod_81 dMod_through_2 (k_Mod_isNo (by omega)) rfl rfl (Nat.le_of_ble_eq_true rfl)  (Nat.le_of_ble_eq_true rfl) (Nat.le_of_ble_eq_true rfl) (Nat.le_of_eq (Nat.zero_add _)) (Nat.le_of_eq (Nat.zero_add _)) (fun _ _ q => q.elim) ?_
  rintro _ _ ⟨n9k, rfl, (⟨rfl, hn9k⟩ | ⟨rfl, hn9k⟩), rfl⟩
  · refine z_if_ne (tgt := 22) dMod_through_5 (by decide) (by omega) (fun c5 => ?_) (fun c5 => ?_)
    · refine z_iconst dMod_through_22 ?_
      refine z_goto (tgt := 27) dMod_through_23 (by decide) ?_
      refine z_iconst dMod_through_27 ?_
      refine z_iconst dMod_through_28 ?_
      refine z_callV MV_Mod_fails lk_Mod_88 dMod_through_29 (k_Mod_fails (by assumption) rfl (by omega) (by omega) (by omega)) rfl rfl (Nat.le_of_ble_eq_true rfl) rfl (by assumption) (Nat.le_of_ble_eq_true rfl) (Nat.le_of_ble_eq_true rfl) (Nat.le_of_eq (Nat.zero_add _)) (Nat.le_of_eq (Nat.zero_add _)) (fun _ _ q => q.elim) ?_
      rintro _ h1 ⟨t9, b8, rfl, ht, p1, g1⟩
      have H1 : zMod G h1 ma S t9 := H.obj (nu := S.2.2.2.2) (th' := t9) p1 g1
      have fz1 : zMfr ma h h1 := zMfr.of0 g1
      obtain ⟨-, n2, ⟨gg, n3, n3a⟩, n4, ⟨f61, n5, n5a⟩, n6, n7⟩ := id H1
      unfold zMfs at n2
      refine z_if_eq (tgt := 37) dMod_through_32 (by decide) (by omega) (fun c32 => ?_) (fun c32 => ?_)
      · exfalso; omega
      · refine z_iconst dMod_through_35 ?_
        refine z_iret rfl rfl dMod_through_36 ?_
        rcases (show t9 = 0 ∨ t9 = 1 ∨ t9 = 2 ∨ t9 = 3 by omega) with t0 | t0 | t0 | t0
        all_goals first
          | (exfalso; omega)
          | exact zQm.ok H1 (by omega) (by assumption) (by unfold sp_through; (try unfold spPut); (try simp only [Int.toNat_natCast]); (repeat (first | rw [if_pos (by omega)] | rw [if_neg (by omega)] | rw [if_pos (by assumption)] | rw [if_neg (by assumption)] | rw [if_pos (True.intro : True)])); (try (first | rfl | (congr 2; omega) | (congr 1; congr 1; omega))); done)
          | exact zQm.b1 H1 (by omega) (by assumption) (by unfold sp_through; (try unfold spPut); (try simp only [Int.toNat_natCast]); (repeat (first | rw [if_pos (by omega)] | rw [if_neg (by omega)] | rw [if_pos (by assumption)] | rw [if_neg (by assumption)] | rw [if_pos (True.intro : True)])); (try (first | rfl | (congr 2; omega) | (congr 1; congr 1; omega))); done)
          | exact zQm.b2 H1 (by omega) (by assumption) (by unfold sp_through; (try unfold spPut); (try simp only [Int.toNat_natCast]); (repeat (first | rw [if_pos (by omega)] | rw [if_neg (by omega)] | rw [if_pos (by assumption)] | rw [if_neg (by assumption)] | rw [if_pos (True.intro : True)])); (try (first | rfl | (congr 2; omega) | (congr 1; congr 1; omega))); done)
          | exact zQm.b3 H1 (by omega) (by assumption) (by unfold sp_through; (try unfold spPut); (try simp only [Int.toNat_natCast]); (repeat (first | rw [if_pos (by omega)] | rw [if_neg (by omega)] | rw [if_pos (by assumption)] | rw [if_neg (by assumption)] | rw [if_pos (True.intro : True)])); (try (first | rfl | (congr 2; omega) | (congr 1; congr 1; omega))); done)
    · exfalso; omega
  · obtain ⟨k, rfl⟩ := Int.eq_ofNat_of_zero_le (show 0 ≤ p by omega)
    have hkk : k < 4 := by omega
    refine z_if_ne (tgt := 22) dMod_through_5 (by decide) (by omega) (fun c5 => ?_) (fun c5 => ?_)
    · exfalso; omega
    · refine z_iload_n dMod_through_8 rfl ?_
      refine z_callS MS_Mod_isNo lk_Mod_81 dMod_through_9 (k_Mod_isNo (by omega)) rfl rfl (Nat.le_of_ble_eq_true rfl)  (Nat.le_of_ble_eq_true rfl) (Nat.le_of_ble_eq_true rfl) (Nat.le_of_eq (Nat.zero_add _)) (Nat.le_of_eq (Nat.zero_add _)) (fun _ _ q => q.elim) ?_
      rintro _ _ ⟨n9j, rfl, (⟨rfl, hn9j⟩ | ⟨rfl, hn9j⟩), rfl⟩
      · refine z_if_ne (tgt := 22) dMod_through_12 (by decide) (by omega) (fun c12 => ?_) (fun c12 => ?_)
        · refine z_iconst dMod_through_22 ?_
          refine z_goto (tgt := 27) dMod_through_23 (by decide) ?_
          refine z_iconst dMod_through_27 ?_
          refine z_iconst dMod_through_28 ?_
          refine z_callV MV_Mod_fails lk_Mod_88 dMod_through_29 (k_Mod_fails (by assumption) rfl (by omega) (by omega) (by omega)) rfl rfl (Nat.le_of_ble_eq_true rfl) rfl (by assumption) (Nat.le_of_ble_eq_true rfl) (Nat.le_of_ble_eq_true rfl) (Nat.le_of_eq (Nat.zero_add _)) (Nat.le_of_eq (Nat.zero_add _)) (fun _ _ q => q.elim) ?_
          rintro _ h1 ⟨t9, b8, rfl, ht, p1, g1⟩
          have H1 : zMod G h1 ma S t9 := H.obj (nu := S.2.2.2.2) (th' := t9) p1 g1
          have fz1 : zMfr ma h h1 := zMfr.of0 g1
          obtain ⟨-, n2, ⟨gg, n3, n3a⟩, n4, ⟨f61, n5, n5a⟩, n6, n7⟩ := id H1
          unfold zMfs at n2
          refine z_if_eq (tgt := 37) dMod_through_32 (by decide) (by omega) (fun c32 => ?_) (fun c32 => ?_)
          · exfalso; omega
          · refine z_iconst dMod_through_35 ?_
            refine z_iret rfl rfl dMod_through_36 ?_
            rcases (show t9 = 0 ∨ t9 = 1 ∨ t9 = 2 ∨ t9 = 3 by omega) with t0 | t0 | t0 | t0
            all_goals first
              | (exfalso; omega)
              | exact zQm.ok H1 (by omega) (by assumption) (by unfold sp_through; (try unfold spPut); (try simp only [Int.toNat_natCast]); (repeat (first | rw [if_pos (by omega)] | rw [if_neg (by omega)] | rw [if_pos (by assumption)] | rw [if_neg (by assumption)] | rw [if_pos (True.intro : True)])); (try (first | rfl | (congr 2; omega) | (congr 1; congr 1; omega))); done)
              | exact zQm.b1 H1 (by omega) (by assumption) (by unfold sp_through; (try unfold spPut); (try simp only [Int.toNat_natCast]); (repeat (first | rw [if_pos (by omega)] | rw [if_neg (by omega)] | rw [if_pos (by assumption)] | rw [if_neg (by assumption)] | rw [if_pos (True.intro : True)])); (try (first | rfl | (congr 2; omega) | (congr 1; congr 1; omega))); done)
              | exact zQm.b2 H1 (by omega) (by assumption) (by unfold sp_through; (try unfold spPut); (try simp only [Int.toNat_natCast]); (repeat (first | rw [if_pos (by omega)] | rw [if_neg (by omega)] | rw [if_pos (by assumption)] | rw [if_neg (by assumption)] | rw [if_pos (True.intro : True)])); (try (first | rfl | (congr 2; omega) | (congr 1; congr 1; omega))); done)
              | exact zQm.b3 H1 (by omega) (by assumption) (by unfold sp_through; (try unfold spPut); (try simp only [Int.toNat_natCast]); (repeat (first | rw [if_pos (by omega)] | rw [if_neg (by omega)] | rw [if_pos (by assumption)] | rw [if_neg (by assumption)] | rw [if_pos (True.intro : True)])); (try (first | rfl | (congr 2; omega) | (congr 1; congr 1; omega))); done)
        · exfalso; omega
      · obtain ⟨j, rfl⟩ := Int.eq_ofNat_of_zero_le (show 0 ≤ m by omega)
        have hkj : j < 4 := by omega
        refine z_if_ne (tgt := 22) dMod_through_12 (by decide) (by omega) (fun c12 => ?_) (fun c12 => ?_)
        · exfalso; omega
        · refine z_iload_n dMod_through_15 rfl ?_
          refine z_callS MS_Mod_isNo lk_Mod_81 dMod_through_16 (k_Mod_isNo (by omega)) rfl rfl (Nat.le_of_ble_eq_true rfl)  (Nat.le_of_ble_eq_true rfl) (Nat.le_of_ble_eq_true rfl) (Nat.le_of_eq (Nat.zero_add _)) (Nat.le_of_eq (Nat.zero_add _)) (fun _ _ q => q.elim) ?_
          rintro _ _ ⟨n9s, rfl, (⟨rfl, hn9s⟩ | ⟨rfl, hn9s⟩), rfl⟩
          · refine z_if_eq (tgt := 26) dMod_through_19 (by decide) (by omega) (fun c19 => ?_) (fun c19 => ?_)
            · exfalso; omega
            · refine z_iconst dMod_through_22 ?_
              refine z_goto (tgt := 27) dMod_through_23 (by decide) ?_
              refine z_iconst dMod_through_27 ?_
              refine z_iconst dMod_through_28 ?_
              refine z_callV MV_Mod_fails lk_Mod_88 dMod_through_29 (k_Mod_fails (by assumption) rfl (by omega) (by omega) (by omega)) rfl rfl (Nat.le_of_ble_eq_true rfl) rfl (by assumption) (Nat.le_of_ble_eq_true rfl) (Nat.le_of_ble_eq_true rfl) (Nat.le_of_eq (Nat.zero_add _)) (Nat.le_of_eq (Nat.zero_add _)) (fun _ _ q => q.elim) ?_
              rintro _ h1 ⟨t9, b8, rfl, ht, p1, g1⟩
              have H1 : zMod G h1 ma S t9 := H.obj (nu := S.2.2.2.2) (th' := t9) p1 g1
              have fz1 : zMfr ma h h1 := zMfr.of0 g1
              obtain ⟨-, n2, ⟨gg, n3, n3a⟩, n4, ⟨f61, n5, n5a⟩, n6, n7⟩ := id H1
              unfold zMfs at n2
              refine z_if_eq (tgt := 37) dMod_through_32 (by decide) (by omega) (fun c32 => ?_) (fun c32 => ?_)
              · exfalso; omega
              · refine z_iconst dMod_through_35 ?_
                refine z_iret rfl rfl dMod_through_36 ?_
                rcases (show t9 = 0 ∨ t9 = 1 ∨ t9 = 2 ∨ t9 = 3 by omega) with t0 | t0 | t0 | t0
                all_goals first
                  | (exfalso; omega)
                  | exact zQm.ok H1 (by omega) (by assumption) (by unfold sp_through; (try unfold spPut); (try simp only [Int.toNat_natCast]); (repeat (first | rw [if_pos (by omega)] | rw [if_neg (by omega)] | rw [if_pos (by assumption)] | rw [if_neg (by assumption)] | rw [if_pos (True.intro : True)])); (try (first | rfl | (congr 2; omega) | (congr 1; congr 1; omega))); done)
                  | exact zQm.b1 H1 (by omega) (by assumption) (by unfold sp_through; (try unfold spPut); (try simp only [Int.toNat_natCast]); (repeat (first | rw [if_pos (by omega)] | rw [if_neg (by omega)] | rw [if_pos (by assumption)] | rw [if_neg (by assumption)] | rw [if_pos (True.intro : True)])); (try (first | rfl | (congr 2; omega) | (congr 1; congr 1; omega))); done)
                  | exact zQm.b2 H1 (by omega) (by assumption) (by unfold sp_through; (try unfold spPut); (try simp only [Int.toNat_natCast]); (repeat (first | rw [if_pos (by omega)] | rw [if_neg (by omega)] | rw [if_pos (by assumption)] | rw [if_neg (by assumption)] | rw [if_pos (True.intro : True)])); (try (first | rfl | (congr 2; omega) | (congr 1; congr 1; omega))); done)
                  | exact zQm.b3 H1 (by omega) (by assumption) (by unfold sp_through; (try unfold spPut); (try simp only [Int.toNat_natCast]); (repeat (first | rw [if_pos (by omega)] | rw [if_neg (by omega)] | rw [if_pos (by assumption)] | rw [if_neg (by assumption)] | rw [if_pos (True.intro : True)])); (try (first | rfl | (congr 2; omega) | (congr 1; congr 1; omega))); done)
          · obtain ⟨s, rfl⟩ := Int.eq_ofNat_of_zero_le (show 0 ≤ i by omega)
            have hks : s < 4 := by omega
            refine z_if_eq (tgt := 26) dMod_through_19 (by decide) (by omega) (fun c19 => ?_) (fun c19 => ?_)
            · refine z_iconst dMod_through_26 ?_
              refine z_iconst dMod_through_27 ?_
              refine z_iconst dMod_through_28 ?_
              refine z_callV MV_Mod_fails lk_Mod_88 dMod_through_29 (k_Mod_fails (by assumption) rfl (by omega) (by omega) (by omega)) rfl rfl (Nat.le_of_ble_eq_true rfl) rfl (by assumption) (Nat.le_of_ble_eq_true rfl) (Nat.le_of_ble_eq_true rfl) (Nat.le_of_eq (Nat.zero_add _)) (Nat.le_of_eq (Nat.zero_add _)) (fun _ _ q => q.elim) ?_
              rintro _ h1 ⟨t9, b8, rfl, ht, p1, g1⟩
              have H1 : zMod G h1 ma S t9 := H.obj (nu := S.2.2.2.2) (th' := t9) p1 g1
              have fz1 : zMfr ma h h1 := zMfr.of0 g1
              obtain ⟨-, n2, ⟨gg, n3, n3a⟩, n4, ⟨f61, n5, n5a⟩, n6, n7⟩ := id H1
              unfold zMfs at n2
              refine z_if_eq (tgt := 37) dMod_through_32 (by decide) (by omega) (fun c32 => ?_) (fun c32 => ?_)
              · obtain ⟨frk, rk1, rk2, rk3, rk4⟩ := id (n6 k (by omega))
                have h16k := h16 k (by omega)
                have ezk : ∀ i : Int, 0 ≤ i → i < ((S.1 k).length : Int) → frk i.toNat = zAt (S.1 k) i := fun i x1 x2 => by rw [rk3 _ (by omega), zAt_eq x1 x2]
                obtain ⟨frj, rj1, rj2, rj3, rj4⟩ := id (n6 j (by omega))
                have h16j := h16 j (by omega)
                have ezj : ∀ i : Int, 0 ≤ i → i < ((S.1 j).length : Int) → frj i.toNat = zAt (S.1 j) i := fun i x1 x2 => by rw [rj3 _ (by omega), zAt_eq x1 x2]
                have et9 : t9 = 0 := by omega
                subst et9
                refine z_aload_n dMod_through_37 rfl ?_
                refine z_get (k := 0) fd_Mod (by decide) fl_Mod_11 dMod_through_38 (by assumption) (by rfl) ?_
                refine z_iload_n dMod_through_41 rfl ?_
                refine z_aald (t := 4) (ty := .array .int) rfl rfl dMod_through_42 n3 (by refine ⟨?_, ?_, ?_⟩ <;> omega) ?_
                rw [show (j : Int).toNat = j from rfl, n3a j (by omega)]
                refine z_alenI dMod_through_43 (by assumption) ?_
                refine z_newI (n := (S.1 j).length) (bc' := 0) (bs' := 0) rfl dMod_through_44 (by omega) (by decide) (by omega) (fun q2 h2 hq2 gq2 e2 F2 => ?_)
                refine z_astore dMod_through_46 (Nat.le_of_ble_eq_true rfl) ?_
                refine z_iconst dMod_through_48 ?_
                refine z_istore dMod_through_49 (Nat.le_of_ble_eq_true rfl) ?_
                exact l_Mod_through H1 fz1 hq2 gq2 hkk hkj hks h16 ((S.1 j).length + 1) 0 h2 _ (by omega) (by omega) e2 (fun t ht => absurd ht (by omega)) F2
              · refine z_iconst dMod_through_35 ?_
                refine z_iret rfl rfl dMod_through_36 ?_
                rcases (show t9 = 0 ∨ t9 = 1 ∨ t9 = 2 ∨ t9 = 3 by omega) with t0 | t0 | t0 | t0
                all_goals first
                  | (exfalso; omega)
                  | exact zQm.ok H1 (by omega) (by assumption) (by unfold sp_through; (try unfold spPut); (try simp only [Int.toNat_natCast]); (repeat (first | rw [if_pos (by omega)] | rw [if_neg (by omega)] | rw [if_pos (by assumption)] | rw [if_neg (by assumption)] | rw [if_pos (True.intro : True)])); (try (first | rfl | (congr 2; omega) | (congr 1; congr 1; omega))); done)
                  | exact zQm.b1 H1 (by omega) (by assumption) (by unfold sp_through; (try unfold spPut); (try simp only [Int.toNat_natCast]); (repeat (first | rw [if_pos (by omega)] | rw [if_neg (by omega)] | rw [if_pos (by assumption)] | rw [if_neg (by assumption)] | rw [if_pos (True.intro : True)])); (try (first | rfl | (congr 2; omega) | (congr 1; congr 1; omega))); done)
                  | exact zQm.b2 H1 (by omega) (by assumption) (by unfold sp_through; (try unfold spPut); (try simp only [Int.toNat_natCast]); (repeat (first | rw [if_pos (by omega)] | rw [if_neg (by omega)] | rw [if_pos (by assumption)] | rw [if_neg (by assumption)] | rw [if_pos (True.intro : True)])); (try (first | rfl | (congr 2; omega) | (congr 1; congr 1; omega))); done)
                  | exact zQm.b3 H1 (by omega) (by assumption) (by unfold sp_through; (try unfold spPut); (try simp only [Int.toNat_natCast]); (repeat (first | rw [if_pos (by omega)] | rw [if_neg (by omega)] | rw [if_pos (by assumption)] | rw [if_neg (by assumption)] | rw [if_pos (True.intro : True)])); (try (first | rfl | (congr 2; omega) | (congr 1; congr 1; omega))); done)
            · exfalso; omega
theorem l_Mod_thin {mc ms : Nat} {Qn : Option Value → zHp → Prop} {Qx : String → zHp → Prop} {L : List Int} {x : Int} {a0 : Nat} {w0 w1 : Option Value} {w3 : Int} (hx : zI32 x)
    (K : ∀ bc bs (h1 : zHp) q, zAr G h1 q (zFl L x) → (q = a0 ∨ (zDm h q ∧ G.2.2 ≤ q)) → zExt h h1 → zR G l (zMJ G hMod_thin 4 Qn Qx mc ms) bc bs h1 59 [w0, w1, some (zi x), some (zi w3), some (.ref q)] []) :
    ∀ (n bc bs : Nat) (h1 : zHp) (q : Nat) (R : List Int), R.length < n → R.length ≤ bc → 60 * R.length ≤ bs → zAr G h1 q R → zFl R x = zFl L x → R.length ≤ 16 → (q = a0 ∨ (zDm h q ∧ G.2.2 ≤ q)) → zExt h h1 →
      zR G l (zMJ G hMod_thin 4 Qn Qx mc ms) bc bs h1 31 [w0, w1, some (zi x), some (zi w3), some (.ref q)] [] := by
  intro n
  induction n with
  | zero => intro bc bs h1 q R q1 q3 q4 r hfl hl hq hext; omega
  | succ n ih =>
  intro bc bs h1 q R q1 q3 q4 r hfl hl hq hext
  obtain ⟨fr, ra, rb, rc, rd⟩ := id r
  have hfi := zFind_in R x 0
  refine z_aload dMod_thin_31 rfl ?_
  refine z_iload_n dMod_thin_33 rfl ?_
  refine z_iconst dMod_thin_34 ?_
  refine z_callS MS_Mod_find lk_Mod_110 dMod_thin_35 (k_Mod_find r (by omega) (by omega)) rfl rfl (Nat.le_of_ble_eq_true rfl)  (Nat.le_of_ble_eq_true rfl) (Nat.le_of_ble_eq_true rfl) (Nat.le_of_eq (Nat.zero_add _)) (Nat.le_of_eq (Nat.zero_add _)) (fun _ _ q => q.elim) ?_
  rintro _ _ ⟨rfl, rfl⟩
  refine z_iconst dMod_thin_38 ?_
  refine z_icmp_eq (tgt := 59) dMod_thin_39 (by decide) (by omega) (by omega) (fun c39 => ?_) (fun c39 => ?_)
  · exact K _ _ h1 q (by rw [← hfl, zFl_none (by omega)]; exact r) hq hext
  · refine z_aload dMod_thin_42 rfl ?_
    refine z_aload dMod_thin_44 rfl ?_
    refine z_iload_n dMod_thin_46 rfl ?_
    refine z_iconst dMod_thin_47 ?_
    refine z_callS MS_Mod_find lk_Mod_110 dMod_thin_48 (k_Mod_find r (by omega) (by omega)) rfl rfl (Nat.le_of_ble_eq_true rfl)  (Nat.le_of_ble_eq_true rfl) (Nat.le_of_ble_eq_true rfl) (Nat.le_of_eq (Nat.zero_add _)) (Nat.le_of_eq (Nat.zero_add _)) (fun _ _ q => q.elim) ?_
    rintro _ _ ⟨rfl, rfl⟩
    refine z_callS (bc' := bc - 1) (bs' := bs - 60) MS_Mod_without lk_Mod_102 dMod_thin_51 (k_Mod_without r (by omega) (by omega)) rfl rfl (Nat.le_of_ble_eq_true rfl)  (Nat.le_of_ble_eq_true rfl) (Nat.le_of_ble_eq_true rfl) (by omega) (by omega) (fun _ _ q => q.elim) ?_
    rintro _ h2 ⟨q2, rfl, hq2, gq2, r2, F2⟩
    have hdl := zDel_len R (zFind R x 0)
    refine z_astore dMod_thin_54 (Nat.le_of_ble_eq_true rfl) ?_
    refine z_goto (tgt := 31) dMod_thin_56 (by decide) ?_
    exact ih (bc - 1) (bs - 60) h2 q2 (zDel R (zFind R x 0)) (by omega) (by omega) (by omega) r2 ((zFl_del (by omega)).trans hfl) (by omega) (Or.inr ⟨hq2.dn hext, gq2⟩) (hext.tr (zExt.new hq2 F2))
theorem k_Mod_thin {p x : Int} (H : zMod G h ma S th) (z_p : zI32 p) (z_x : zI32 x) (h16 : ∀ k, k < 4 → (S.1 k).length ≤ 16) : zM G l hMod_thin yMod_thin 4 [.ref (ma 0), zi p, zi x] h (zQm G ma h (1) (2) (3) (sp_thin S p x)) zNo 16 960 := by
  obtain ⟨m1, m2, ⟨g, m3, m3a⟩, m4, ⟨f6, m5, m5a⟩, m6, m7⟩ := id H
  unfold zMfs at m2
  refine zM.of [some (.ref (ma 0)), some (zi p), some (zi x), none, none] (by decide +kernel) rfl (by decide) rfl (Nat.le_of_ble_eq_true rfl) rfl ?_
  refine z_aload_n dMod_thin_0 rfl ?_
  refine z_iload_n dMod_thin_1 rfl ?_
  refine z_callS MS_Mod_isNo lk_Mod_81 dMod_thin_2 (k_Mod_isNo (by omega)) rfl rfl (Nat.le_of_ble_eq_true rfl)  (Nat.le_of_ble_eq_true rfl) (Nat.le_of_ble_eq_true rfl) (Nat.le_of_eq (Nat.zero_add _)) (Nat.le_of_eq (Nat.zero_add _)) (fun _ _ q => q.elim) ?_
  rintro _ _ ⟨n9, rfl, hn9, rfl⟩
  refine z_iconst dMod_thin_5 ?_
  refine z_iconst dMod_thin_6 ?_
  refine z_callV MV_Mod_fails lk_Mod_88 dMod_thin_7 (k_Mod_fails (by assumption) rfl (by omega) (by omega) (by omega)) rfl rfl (Nat.le_of_ble_eq_true rfl) rfl (by assumption) (Nat.le_of_ble_eq_true rfl) (Nat.le_of_ble_eq_true rfl) (Nat.le_of_eq (Nat.zero_add _)) (Nat.le_of_eq (Nat.zero_add _)) (fun _ _ q => q.elim) ?_
  rintro _ h1 ⟨t9, b8, rfl, ht, p1, g1⟩
  have H1 : zMod G h1 ma S t9 := H.obj (nu := S.2.2.2.2) (th' := t9) p1 g1
  have fz1 : zMfr ma h h1 := zMfr.of0 g1
  obtain ⟨-, n2, ⟨gg, n3, n3a⟩, n4, ⟨f61, n5, n5a⟩, n6, n7⟩ := id H1
  unfold zMfs at n2
  refine z_if_eq (tgt := 15) dMod_thin_10 (by decide) (by omega) (fun c10 => ?_) (fun c10 => ?_)
  · obtain ⟨k, rfl⟩ := Int.eq_ofNat_of_zero_le (show 0 ≤ p by omega)
    obtain ⟨frk, rk1, rk2, rk3, rk4⟩ := id (n6 k (by omega))
    have h16k := h16 k (by omega)
    have ezk : ∀ i : Int, 0 ≤ i → i < ((S.1 k).length : Int) → frk i.toNat = zAt (S.1 k) i := fun i x1 x2 => by rw [rk3 _ (by omega), zAt_eq x1 x2]
    have hk : k < 4 := by omega
    refine z_aload_n dMod_thin_15 rfl ?_
    refine z_get (k := 0) fd_Mod (by decide) fl_Mod_11 dMod_thin_16 (by assumption) (by rfl) ?_
    refine z_iload_n dMod_thin_19 rfl ?_
    refine z_aald (t := 4) (ty := .array .int) rfl rfl dMod_thin_20 n3 (by refine ⟨?_, ?_, ?_⟩ <;> omega) ?_
    rw [show (k : Int).toNat = k from rfl, n3a k (by omega)]
    refine z_alenI dMod_thin_21 (by assumption) ?_
    refine z_istore_n dMod_thin_22 (Nat.le_of_ble_eq_true rfl) ?_
    refine z_aload_n dMod_thin_23 rfl ?_
    refine z_get (k := 0) fd_Mod (by decide) fl_Mod_11 dMod_thin_24 (by assumption) (by rfl) ?_
    refine z_iload_n dMod_thin_27 rfl ?_
    refine z_aald (t := 4) (ty := .array .int) rfl rfl dMod_thin_28 n3 (by refine ⟨?_, ?_, ?_⟩ <;> omega) ?_
    rw [show (k : Int).toNat = k from rfl, n3a k (by omega)]
    refine z_astore dMod_thin_29 (Nat.le_of_ble_eq_true rfl) ?_
    refine l_Mod_thin (h := h1) (L := S.1 k) (a0 := ma (8 + k)) (by omega) (fun bc bs h2 q2 r2 hq2 hx2 => ?_) ((S.1 k).length + 1) 16 960 h1 (ma (8 + k)) (S.1 k) (by omega) (by omega) (by omega) (n6 k hk) rfl (by omega) (Or.inl rfl) zExt.rf
    have H2 : zMod G h2 ma S t9 := H1.ext hx2
    have oc2 := H2.2.1
    have fz2 : zMfr ma h h2 := fz1.tr (zMfr.ext hx2)
    have hnq := zDr_of G hq2 H1 (k := k) rfl hk
    refine z_iload_n dMod_thin_59 rfl ?_
    refine z_aload_n dMod_thin_60 rfl ?_
    refine z_iload_n dMod_thin_61 rfl ?_
    refine z_aload dMod_thin_62 rfl ?_
    refine z_callV MV_Mod_becomes lk_Mod_95 dMod_thin_64 (k_Mod_becomes H2 hk r2 hnq) rfl rfl (Nat.le_of_ble_eq_true rfl) rfl (by assumption) (Nat.le_of_ble_eq_true rfl) (Nat.le_of_ble_eq_true rfl) (Nat.le_of_eq (Nat.zero_add _)) (Nat.le_of_eq (Nat.zero_add _)) (fun _ _ q => q.elim) ?_
    rintro _ h3 ⟨rfl, H3, F3⟩
    have fz3 : zMfr ma h h3 := fz2.tr (zMfr.bec F3)
    refine z_isub dMod_thin_67 ?_
    refine z_iret rfl rfl dMod_thin_68 ?_
    first
      | (exfalso; omega)
      | exact zQm.okB H3 (hq2.imp id (fun x9 => ⟨x9.1.up H1 fz1, x9.2⟩)) (by omega) (by assumption) (by unfold sp_thin; (try unfold spPut); (try simp only [Int.toNat_natCast]); (repeat (first | rw [if_pos (by omega)] | rw [if_neg (by omega)] | rw [if_pos (by assumption)] | rw [if_neg (by assumption)] | rw [if_pos (True.intro : True)])); (try (first | rfl | (congr 2; omega) | (congr 1; congr 1; omega))); done)
  · refine z_iconst dMod_thin_13 ?_
    refine z_iret rfl rfl dMod_thin_14 ?_
    rcases (show t9 = 0 ∨ t9 = 1 ∨ t9 = 2 ∨ t9 = 3 by omega) with t0 | t0 | t0 | t0
    all_goals first
      | (exfalso; omega)
      | exact zQm.ok H1 (by omega) (by assumption) (by unfold sp_thin; (try unfold spPut); (try simp only [Int.toNat_natCast]); (repeat (first | rw [if_pos (by omega)] | rw [if_neg (by omega)] | rw [if_pos (by assumption)] | rw [if_neg (by assumption)] | rw [if_pos (True.intro : True)])); (try (first | rfl | (congr 2; omega) | (congr 1; congr 1; omega))); done)
      | exact zQm.b1 H1 (by omega) (by assumption) (by unfold sp_thin; (try unfold spPut); (try simp only [Int.toNat_natCast]); (repeat (first | rw [if_pos (by omega)] | rw [if_neg (by omega)] | rw [if_pos (by assumption)] | rw [if_neg (by assumption)] | rw [if_pos (True.intro : True)])); (try (first | rfl | (congr 2; omega) | (congr 1; congr 1; omega))); done)
      | exact zQm.b2 H1 (by omega) (by assumption) (by unfold sp_thin; (try unfold spPut); (try simp only [Int.toNat_natCast]); (repeat (first | rw [if_pos (by omega)] | rw [if_neg (by omega)] | rw [if_pos (by assumption)] | rw [if_neg (by assumption)] | rw [if_pos (True.intro : True)])); (try (first | rfl | (congr 2; omega) | (congr 1; congr 1; omega))); done)
      | exact zQm.b3 H1 (by omega) (by assumption) (by unfold sp_thin; (try unfold spPut); (try simp only [Int.toNat_natCast]); (repeat (first | rw [if_pos (by omega)] | rw [if_neg (by omega)] | rw [if_pos (by assumption)] | rw [if_neg (by assumption)] | rw [if_pos (True.intro : True)])); (try (first | rfl | (congr 2; omega) | (congr 1; congr 1; omega))); done)
theorem l_Mod_trim {mc ms : Nat} {Qn : Option Value → zHp → Prop} {Qx : String → zHp → Prop} {L : List Int} {a0 : Nat} {w0 : Option Value} {w1 : Int} (hL : L.length ≤ 16)
    (K : ∀ bc bs (h1 : zHp) q, zAr G h1 q (L.take (zLnz L + 1).toNat) → (q = a0 ∨ (zDm h q ∧ G.2.2 ≤ q)) → zExt h h1 → zR G l (zMJ G hMod_trim 4 Qn Qx mc ms) bc bs h1 48 [w0, some (zi w1), some (.ref q)] []) :
    ∀ (n m bc bs : Nat) (h1 : zHp) (q : Nat), m < n → m ≤ bc → 60 * m ≤ bs → zAr G h1 q (L.take m) → m ≤ L.length → zLnz L + 1 ≤ m → (q = a0 ∨ (zDm h q ∧ G.2.2 ≤ q)) → zExt h h1 →
      zR G l (zMJ G hMod_trim 4 Qn Qx mc ms) bc bs h1 22 [w0, some (zi w1), some (.ref q)] [] := by
  intro n
  induction n with
  | zero => intro m bc bs h1 q q1 q3 q4 r hm hz hq hext; omega
  | succ n ih =>
  intro m bc bs h1 q q1 q3 q4 r hm hz hq hext
  obtain ⟨fr, ra, rb, rc, rd⟩ := id r
  have hlm : (L.take m).length = m := by rw [List.length_take]; omega
  have hzi := zLnz_in L
  have htk : ∀ i : Nat, i < m → (L.take m).getD i 0 = L.getD i 0 := fun i hi => by simp only [List.getD_eq_getElem?_getD, List.getElem?_take, if_pos hi]
  refine z_aload_n dMod_trim_22 rfl ?_
  refine z_alenI dMod_trim_23 ra ?_
  rw [hlm]
  refine z_if_le (tgt := 48) dMod_trim_24 (by decide) (by omega) (fun c24 => ?_) (fun c24 => ?_)
  · have em : m = (zLnz L + 1).toNat := by
      by_cases c9 : zLnz L + 1 = m
      · omega
      · have ht := zLn9_top L L.length (m - 1) (by show zLnz L < _; omega) (by omega)
        omega
    rw [em] at r
    exact K _ _ h1 q r hq hext
  · refine z_aload_n dMod_trim_27 rfl ?_
    refine z_aload_n dMod_trim_28 rfl ?_
    refine z_alenI dMod_trim_29 ra ?_
    rw [hlm]
    refine z_iconst dMod_trim_30 ?_
    refine z_isub dMod_trim_31 ?_
    refine z_iald dMod_trim_32 (by assumption) (by refine ⟨?_, ?_, ?_⟩ <;> omega) ?_
    rw [show ((m : Int) - 1).toNat = m - 1 by omega, rc (m - 1) (by omega), htk (m - 1) (by omega)]
    have hin := rd (m - 1) (by omega)
    rw [htk (m - 1) (by omega)] at hin
    refine z_if_ne (tgt := 48) dMod_trim_33 (by decide) (by omega) (fun c33 => ?_) (fun c33 => ?_)
    · have em : m = (zLnz L + 1).toNat := by
        by_cases c9 : zLnz L + 1 = m
        · omega
        · have ht := zLn9_top L L.length (m - 1) (by show zLnz L < _; omega) (by omega)
          omega
      rw [em] at r
      exact K _ _ h1 q r hq hext
    · refine z_aload_n dMod_trim_36 rfl ?_
      refine z_aload_n dMod_trim_37 rfl ?_
      refine z_alenI dMod_trim_38 ra ?_
      rw [hlm]
      refine z_iconst dMod_trim_39 ?_
      refine z_isub dMod_trim_40 ?_
      refine z_callS (bc' := bc - 1) (bs' := bs - 60) MS_Mod_without lk_Mod_102 dMod_trim_41 (k_Mod_without r (by omega) (by omega)) rfl rfl (Nat.le_of_ble_eq_true rfl)  (Nat.le_of_ble_eq_true rfl) (Nat.le_of_ble_eq_true rfl) (by omega) (by omega) (fun _ _ q => q.elim) ?_
      rintro _ h2 ⟨q2, rfl, hq2, gq2, r2, F2⟩
      rw [zDel_last (by omega) hm] at r2
      refine z_astore_n dMod_trim_44 (Nat.le_of_ble_eq_true rfl) ?_
      refine z_goto (tgt := 22) dMod_trim_45 (by decide) ?_
      have hz2 : zLnz L + 1 ≤ ((m - 1 : Nat) : Int) := by
        by_cases c9 : zLnz L + 1 = m
        · have hg := zLn9_get L L.length (by show 0 ≤ zLnz L; omega)
          rw [show (zLn9 L L.length).toNat = m - 1 by (show (zLnz L).toNat = m - 1); omega] at hg
          exact absurd c33 hg
        · omega
      exact ih (m - 1) (bc - 1) (bs - 60) h2 q2 (by omega) (by omega) (by omega) r2 (by omega) hz2 (Or.inr ⟨hq2.dn hext, gq2⟩) (hext.tr (zExt.new hq2 F2))
theorem k_Mod_trim {p : Int} (H : zMod G h ma S th) (z_p : zI32 p) (h16 : ∀ k, k < 4 → (S.1 k).length ≤ 16) : zM G l hMod_trim yMod_trim 4 [.ref (ma 0), zi p] h (zQm G ma h (1) (2) (3) (sp_trim S p)) zNo 16 960 := by
  obtain ⟨m1, m2, ⟨g, m3, m3a⟩, m4, ⟨f6, m5, m5a⟩, m6, m7⟩ := id H
  unfold zMfs at m2
  refine zM.of [some (.ref (ma 0)), some (zi p), none] (by decide +kernel) rfl (by decide) rfl (Nat.le_of_ble_eq_true rfl) rfl ?_
  refine z_aload_n dMod_trim_0 rfl ?_
  refine z_iload_n dMod_trim_1 rfl ?_
  refine z_callS MS_Mod_isNo lk_Mod_81 dMod_trim_2 (k_Mod_isNo (by omega)) rfl rfl (Nat.le_of_ble_eq_true rfl)  (Nat.le_of_ble_eq_true rfl) (Nat.le_of_ble_eq_true rfl) (Nat.le_of_eq (Nat.zero_add _)) (Nat.le_of_eq (Nat.zero_add _)) (fun _ _ q => q.elim) ?_
  rintro _ _ ⟨n9, rfl, hn9, rfl⟩
  refine z_iconst dMod_trim_5 ?_
  refine z_iconst dMod_trim_6 ?_
  refine z_callV MV_Mod_fails lk_Mod_88 dMod_trim_7 (k_Mod_fails (by assumption) rfl (by omega) (by omega) (by omega)) rfl rfl (Nat.le_of_ble_eq_true rfl) rfl (by assumption) (Nat.le_of_ble_eq_true rfl) (Nat.le_of_ble_eq_true rfl) (Nat.le_of_eq (Nat.zero_add _)) (Nat.le_of_eq (Nat.zero_add _)) (fun _ _ q => q.elim) ?_
  rintro _ h1 ⟨t9, b8, rfl, ht, p1, g1⟩
  have H1 : zMod G h1 ma S t9 := H.obj (nu := S.2.2.2.2) (th' := t9) p1 g1
  have fz1 : zMfr ma h h1 := zMfr.of0 g1
  obtain ⟨-, n2, ⟨gg, n3, n3a⟩, n4, ⟨f61, n5, n5a⟩, n6, n7⟩ := id H1
  unfold zMfs at n2
  refine z_if_eq (tgt := 15) dMod_trim_10 (by decide) (by omega) (fun c10 => ?_) (fun c10 => ?_)
  · obtain ⟨k, rfl⟩ := Int.eq_ofNat_of_zero_le (show 0 ≤ p by omega)
    obtain ⟨frk, rk1, rk2, rk3, rk4⟩ := id (n6 k (by omega))
    have h16k := h16 k (by omega)
    have ezk : ∀ i : Int, 0 ≤ i → i < ((S.1 k).length : Int) → frk i.toNat = zAt (S.1 k) i := fun i x1 x2 => by rw [rk3 _ (by omega), zAt_eq x1 x2]
    have hk : k < 4 := by omega
    have hzi := zLnz_in (S.1 k)
    have htl : ((S.1 k).take (zLnz (S.1 k) + 1).toNat).length = (zLnz (S.1 k) + 1).toNat := by rw [List.length_take]; omega
    refine z_aload_n dMod_trim_15 rfl ?_
    refine z_get (k := 0) fd_Mod (by decide) fl_Mod_11 dMod_trim_16 (by assumption) (by rfl) ?_
    refine z_iload_n dMod_trim_19 rfl ?_
    refine z_aald (t := 4) (ty := .array .int) rfl rfl dMod_trim_20 n3 (by refine ⟨?_, ?_, ?_⟩ <;> omega) ?_
    rw [show (k : Int).toNat = k from rfl, n3a k (by omega)]
    refine z_astore_n dMod_trim_21 (Nat.le_of_ble_eq_true rfl) ?_
    refine l_Mod_trim (h := h1) (L := S.1 k) (a0 := ma (8 + k)) (by omega) (fun bc bs h2 q2 r2 hq2 hx2 => ?_) ((S.1 k).length + 1) (S.1 k).length 16 960 h1 (ma (8 + k)) (by omega) (by omega) (by omega) (by rw [List.take_length]; exact n6 k hk) (by omega) (by omega) (Or.inl rfl) zExt.rf
    have H2 : zMod G h2 ma S t9 := H1.ext hx2
    have oc2 := H2.2.1
    have fz2 : zMfr ma h h2 := fz1.tr (zMfr.ext hx2)
    have hnq := zDr_of G hq2 H1 (k := k) rfl hk
    obtain ⟨-, u2, ⟨ug, u3, u3a⟩, -, -, u6, -⟩ := id H2
    unfold zMfs at u2
    obtain ⟨fs, rs1, -⟩ := id (u6 k hk)
    refine z_aload_n dMod_trim_48 rfl ?_
    refine z_get (k := 0) fd_Mod (by decide) fl_Mod_11 dMod_trim_49 (by assumption) (by rfl) ?_
    refine z_iload_n dMod_trim_52 rfl ?_
    refine z_aald (t := 4) (ty := .array .int) rfl rfl dMod_trim_53 u3 (by refine ⟨?_, ?_, ?_⟩ <;> omega) ?_
    rw [show (k : Int).toNat = k from rfl, u3a k (by omega)]
    refine z_alenI dMod_trim_54 (by assumption) ?_
    refine z_aload_n dMod_trim_55 rfl ?_
    refine z_iload_n dMod_trim_56 rfl ?_
    refine z_aload_n dMod_trim_57 rfl ?_
    refine z_callV MV_Mod_becomes lk_Mod_95 dMod_trim_58 (k_Mod_becomes H2 hk r2 hnq) rfl rfl (Nat.le_of_ble_eq_true rfl) rfl (by assumption) (Nat.le_of_ble_eq_true rfl) (Nat.le_of_ble_eq_true rfl) (Nat.le_of_eq (Nat.zero_add _)) (Nat.le_of_eq (Nat.zero_add _)) (fun _ _ q => q.elim) ?_
    rintro _ h3 ⟨rfl, H3, F3⟩
    have fz3 : zMfr ma h h3 := fz2.tr (zMfr.bec F3)
    refine z_isub dMod_trim_61 ?_
    refine z_iret rfl rfl dMod_trim_62 ?_
    first
      | (exfalso; omega)
      | exact zQm.okB H3 (hq2.imp id (fun x9 => ⟨x9.1.up H1 fz1, x9.2⟩)) (by omega) (by assumption) (by unfold sp_trim; (try unfold spPut); (try simp only [Int.toNat_natCast]); (repeat (first | rw [if_pos (by omega)] | rw [if_neg (by omega)] | rw [if_pos (by assumption)] | rw [if_neg (by assumption)] | rw [if_pos (True.intro : True)])); (try (first | rfl | (congr 2; omega) | (congr 1; congr 1; omega))); done)
  · refine z_iconst dMod_trim_13 ?_
    refine z_iret rfl rfl dMod_trim_14 ?_
    rcases (show t9 = 0 ∨ t9 = 1 ∨ t9 = 2 ∨ t9 = 3 by omega) with t0 | t0 | t0 | t0
    all_goals first
      | (exfalso; omega)
      | exact zQm.ok H1 (by omega) (by assumption) (by unfold sp_trim; (try unfold spPut); (try simp only [Int.toNat_natCast]); (repeat (first | rw [if_pos (by omega)] | rw [if_neg (by omega)] | rw [if_pos (by assumption)] | rw [if_neg (by assumption)] | rw [if_pos (True.intro : True)])); (try (first | rfl | (congr 2; omega) | (congr 1; congr 1; omega))); done)
      | exact zQm.b1 H1 (by omega) (by assumption) (by unfold sp_trim; (try unfold spPut); (try simp only [Int.toNat_natCast]); (repeat (first | rw [if_pos (by omega)] | rw [if_neg (by omega)] | rw [if_pos (by assumption)] | rw [if_neg (by assumption)] | rw [if_pos (True.intro : True)])); (try (first | rfl | (congr 2; omega) | (congr 1; congr 1; omega))); done)
      | exact zQm.b2 H1 (by omega) (by assumption) (by unfold sp_trim; (try unfold spPut); (try simp only [Int.toNat_natCast]); (repeat (first | rw [if_pos (by omega)] | rw [if_neg (by omega)] | rw [if_pos (by assumption)] | rw [if_neg (by assumption)] | rw [if_pos (True.intro : True)])); (try (first | rfl | (congr 2; omega) | (congr 1; congr 1; omega))); done)
      | exact zQm.b3 H1 (by omega) (by assumption) (by unfold sp_trim; (try unfold spPut); (try simp only [Int.toNat_natCast]); (repeat (first | rw [if_pos (by omega)] | rw [if_neg (by omega)] | rw [if_pos (by assumption)] | rw [if_neg (by assumption)] | rw [if_pos (True.intro : True)])); (try (first | rfl | (congr 2; omega) | (congr 1; congr 1; omega))); done)
end MOD13
end
section
section MOD14
variable {G : zG} {l : Launch} {h h' h'' : zHp} {ma : Nat → Nat} {S : zSt} {th : Int}
theorem zMod.cus {cu' : Nat → Nat → Int} (H : zMod G h ma S th) (hc : zMcu G h' ma cu') (hf : ∀ i, i < 13 → (i < 2 ∨ 6 < i) → h' (ma i) = h (ma i)) : zMod G h' ma (zsC S cu') th := by
  obtain ⟨m1, m2, ⟨g, m3, m3'⟩, -, ⟨f6, m5, m5'⟩, m6, m7⟩ := id H
  exact ⟨m1, (hf 0 (by omega) (by omega)).trans m2, ⟨g, (hf 1 (by omega) (by omega)).trans m3, m3'⟩, hc, ⟨f6, (hf 7 (by omega) (by omega)).trans m5, m5'⟩, fun k hk => (m6 k hk).kept (hf _ (by omega) (by omega)), m7.kept (hf 12 (by omega) (by omega))⟩
theorem zMcu.up {cu : Nat → Nat → Int} {c : Nat} {f1 f2 f3 f4 f5 g1 g2 g3 g4 g5 : Nat → Int} {t9 st li ix la : Int}
    (b1 : ∀ c, c < 3 → f1 c = cu c 0 ∧ (cu c 0 = 0 ∨ cu c 0 = 1)) (b2 : ∀ c, c < 3 → (f2 c = 0 ∨ f2 c = 1) ∧ (cu c 0 = 1 → f2 c = cu c 1)) (b3 : ∀ c, c < 3 → zI32 (f3 c) ∧ (cu c 0 = 1 → f3 c = cu c 2)) (b4 : ∀ c, c < 3 → zI32 (f4 c) ∧ (cu c 0 = 1 → f4 c = cu c 3)) (b5 : ∀ c, c < 3 → zI32 (f5 c) ∧ (cu c 0 = 1 → f5 c = cu c 4))
    (a1 : h' (ma 2) = some (zBools G 3 g1)) (a2 : h' (ma 3) = some (zBools G 3 g2)) (a3 : h' (ma 4) = some (zInts G 3 g3)) (a4 : h' (ma 5) = some (zInts G 3 g4)) (a5 : h' (ma 6) = some (zInts G 3 g5))
    (u1 : ∀ j, j ≠ c → g1 j = f1 j) (u2 : ∀ j, j ≠ c → g2 j = f2 j) (u3 : ∀ j, j ≠ c → g3 j = f3 j) (u4 : ∀ j, j ≠ c → g4 j = f4 j) (u5 : ∀ j, j ≠ c → g5 j = f5 j)
    (w1 : g1 c = t9 ∧ (t9 = 0 ∨ t9 = 1)) (w2 : (g2 c = 0 ∨ g2 c = 1) ∧ (t9 = 1 → g2 c = st)) (w3 : zI32 (g3 c) ∧ (t9 = 1 → g3 c = li)) (w4 : zI32 (g4 c) ∧ (t9 = 1 → g4 c = ix)) (w5 : zI32 (g5 c) ∧ (t9 = 1 → g5 c = la)) : zMcu G h' ma (zup cu c (zCv t9 st li ix la)) := by
  refine ⟨⟨g1, a1, fun j hj => ?_⟩, ⟨g2, a2, fun j hj => ?_⟩, ⟨g3, a3, fun j hj => ?_⟩, ⟨g4, a4, fun j hj => ?_⟩, ⟨g5, a5, fun j hj => ?_⟩⟩
  all_goals by_cases e : j = c
  · subst e; rw [zup_same]; exact w1
  · rw [zup_ne e, u1 j e]; exact b1 j hj
  · subst e; rw [zup_same]; exact w2
  · rw [zup_ne e, u2 j e]; exact b2 j hj
  · subst e; rw [zup_same]; exact w3
  · rw [zup_ne e, u3 j e]; exact b3 j hj
  · subst e; rw [zup_same]; exact w4
  · rw [zup_ne e, u4 j e]; exact b4 j hj
  · subst e; rw [zup_same]; exact w5
  · rw [zup_ne e, u5 j e]; exact b5 j hj
theorem zup_w {f : Nat → Int} {c : Nat} {x y t : Int} (hx : zI32 x) (e : x = y) : zI32 (zup f c x c) ∧ (t = 1 → zup f c x c = y) := by
  rw [zup_same]
  exact ⟨hx, fun _ => e⟩
theorem zup_u {f : Nat → Int} {c : Nat} {x : Int} : ∀ j, j ≠ c → zup f c x j = f j := fun _ hj => zup_ne hj
theorem zid_u {f : Nat → Int} {c : Nat} : ∀ j, j ≠ c → f j = f j := fun _ _ => rfl
theorem k_Mod_isNotThere {p : Int} (H : zMod G h ma S th) (hp : zI32 p) : zM G l hMod_isNotThere yMod_isNotThere 3 [.ref (ma 0), zi p] h (fun v h' => ∃ b9 : Int, v = some (zi b9) ∧ ((b9 = 1 ∧ ((0 ≤ p ∧ p < 3) ∧ ¬ S.2.1 p.toNat 0 = 1)) ∨ (b9 = 0 ∧ ¬ ((0 ≤ p ∧ p < 3) ∧ ¬ S.2.1 p.toNat 0 = 1))) ∧ h = h') zNo 0 0 := by
  obtain ⟨m1, m2, ⟨g, m3, m3a⟩, m4, ⟨f6, m5, m5a⟩, m6, m7⟩ := id H
  unfold zMfs at m2
  obtain ⟨⟨v1, a1, b1⟩, ⟨v2, a2, b2⟩, ⟨v3, a3, b3⟩, ⟨v4, a4, b4⟩, ⟨v5, a5, b5⟩⟩ := id m4
  refine zM.of [some (.ref (ma 0)), some (zi p)] (by decide +kernel) rfl (by decide) rfl (Nat.le_of_ble_eq_true rfl) rfl ?_
  refine z_iload_n dMod_isNotThere_0 rfl ?_
  refine z_callS MS_Mod_isNoCursor lk_Mod_141 dMod_isNotThere_1 (k_Mod_isNoCursor (by omega)) rfl rfl (Nat.le_of_ble_eq_true rfl)  (Nat.le_of_ble_eq_true rfl) (Nat.le_of_ble_eq_true rfl) (Nat.le_of_eq (Nat.zero_add _)) (Nat.le_of_eq (Nat.zero_add _)) (fun _ _ q => q.elim) ?_
  rintro _ _ ⟨n9, rfl, (⟨rfl, hn9⟩ | ⟨rfl, hn9⟩), rfl⟩
  · refine z_if_ne (tgt := 20) dMod_isNotThere_4 (by decide) (by omega) (fun c4 => ?_) (fun c4 => ?_)
    · refine z_iconst dMod_isNotThere_20 ?_
      refine z_iret rfl (by first | rfl | decide) dMod_isNotThere_21 ?_
      refine ⟨_, rfl, ?_, rfl⟩
      (try rw [Int.toNat_natCast])
      omega
    · exfalso; omega
  · obtain ⟨c, rfl⟩ := Int.eq_ofNat_of_zero_le (show 0 ≤ p by omega)
    have b1c := b1 c (by omega)
    refine z_if_ne (tgt := 20) dMod_isNotThere_4 (by decide) (by omega) (fun c4 => ?_) (fun c4 => ?_)
    · refine z_iconst dMod_isNotThere_20 ?_
      refine z_iret rfl (by first | rfl | decide) dMod_isNotThere_21 ?_
      refine ⟨_, rfl, ?_, rfl⟩
      (try rw [Int.toNat_natCast])
      omega
    · refine z_aload_n dMod_isNotThere_7 rfl ?_
      refine z_get (k := 1) fd_Mod (by decide) fl_Mod_14 dMod_isNotThere_8 (by assumption) (by rfl) ?_
      refine z_iload_n dMod_isNotThere_11 rfl ?_
      refine z_zald dMod_isNotThere_12 (by assumption) (by refine ⟨?_, ?_, ?_⟩ <;> omega) ?_
      rw [Int.toNat_natCast]
      refine z_if_ne (tgt := 20) dMod_isNotThere_13 (by decide) (by omega) (fun c13 => ?_) (fun c13 => ?_)
      · refine z_iconst dMod_isNotThere_20 ?_
        refine z_iret rfl (by first | rfl | decide) dMod_isNotThere_21 ?_
        refine ⟨_, rfl, ?_, rfl⟩
        (try rw [Int.toNat_natCast])
        omega
      · refine z_iconst dMod_isNotThere_16 ?_
        refine z_goto (tgt := 21) dMod_isNotThere_17 (by decide) ?_
        refine z_iret rfl (by first | rfl | decide) dMod_isNotThere_21 ?_
        refine ⟨_, rfl, ?_, rfl⟩
        (try rw [Int.toNat_natCast])
        omega
theorem k_Mod_goesF {c kk : Nat} (H : zMod G h ma S th) (hc : c < 3) (hth : S.2.1 c 0 = 1) (ek : S.2.1 c 2 = (kk : Int)) (hkk : kk < 4) (h16 : ∀ k, k < 4 → (S.1 k).length ≤ 16) (hix : 0 ≤ S.2.1 c 3 ∧ S.2.1 c 3 ≤ 16) : zM G l hMod_goes yMod_goes 1 [.ref (ma 0), zi (c : Int), zi 1] h (fun v h' => ((0 ≤ (S.2.1 c 3) ∧ (S.2.1 c 3) < ((S.1 (S.2.1 c 2).toNat).length : Int)) ∧ v = some (zi (zAt (S.1 (S.2.1 c 2).toNat) (S.2.1 c 3))) ∧ zMod G h' ma (zsC S (zup S.2.1 c (zCv (S.2.1 c 0) (S.2.1 c 1) (S.2.1 c 2) (S.2.1 c 3 + 1) (S.2.1 c 3)))) th ∧ (∀ z, z ≠ ma 5 → z ≠ ma 6 → h' z = h z)) ∨ (¬ (0 ≤ (S.2.1 c 3) ∧ (S.2.1 c 3) < ((S.1 (S.2.1 c 2).toNat).length : Int)) ∧ v = some (zi 10000) ∧ h = h')) zNo 0 0 := by
  obtain ⟨m1, m2, ⟨g, m3, m3a⟩, m4, ⟨f6, m5, m5a⟩, m6, m7⟩ := id H
  unfold zMfs at m2
  obtain ⟨⟨v1, a1, b1⟩, ⟨v2, a2, b2⟩, ⟨v3, a3, b3⟩, ⟨v4, a4, b4⟩, ⟨v5, a5, b5⟩⟩ := id m4
  have b1c := b1 c (by omega)
  have b2c := b2 c (by omega)
  have b3c := b3 c (by omega)
  have b4c := b4 c (by omega)
  have b5c := b5 c (by omega)
  have e2 := b2c.2 hth
  have e3 := b3c.2 hth
  have e4 := b4c.2 hth
  have e5 := b5c.2 hth
  have h16k := h16 kk hkk
  rw [ek, Int.toNat_natCast]
  obtain ⟨frkk, rkk1, rkk2, rkk3, rkk4⟩ := id (m6 kk (hkk))
  refine zM.of [some (.ref (ma 0)), some (zi (c : Int)), some (zi 1), none, none] (by decide +kernel) rfl (by decide) rfl (Nat.le_of_ble_eq_true rfl) rfl ?_
  refine z_aload_n dMod_goes_0 rfl ?_
  refine z_get (k := 0) fd_Mod (by decide) fl_Mod_11 dMod_goes_1 (by assumption) (by rfl) ?_
  refine z_aload_n dMod_goes_4 rfl ?_
  refine z_get (k := 3) fd_Mod (by decide) fl_Mod_21 dMod_goes_5 (by assumption) (by rfl) ?_
  refine z_iload_n dMod_goes_8 rfl ?_
  refine z_iald dMod_goes_9 (by assumption) (by refine ⟨?_, ?_, ?_⟩ <;> omega) ?_
  rw [Int.toNat_natCast]
  rw [e3, ek]
  refine z_aald (t := 4) (ty := .array .int) rfl rfl dMod_goes_10 m3 (by refine ⟨?_, ?_, ?_⟩ <;> omega) ?_
  rw [show (kk : Int).toNat = kk from rfl, m3a kk (by omega)]
  refine z_astore_n dMod_goes_11 (Nat.le_of_ble_eq_true rfl) ?_
  refine z_iload_n dMod_goes_12 rfl ?_
  refine z_if_eq (tgt := 25) dMod_goes_13 (by decide) (by omega) (fun c13 => ?_) (fun c13 => ?_)
  · exfalso; omega
  · refine z_aload_n dMod_goes_16 rfl ?_
    refine z_get (k := 4) fd_Mod (by decide) fl_Mod_25 dMod_goes_17 (by assumption) (by rfl) ?_
    refine z_iload_n dMod_goes_20 rfl ?_
    refine z_iald dMod_goes_21 (by assumption) (by refine ⟨?_, ?_, ?_⟩ <;> omega) ?_
    rw [Int.toNat_natCast]
    rw [e4]
    refine z_goto (tgt := 33) dMod_goes_22 (by decide) ?_
    refine z_istore dMod_goes_33 (Nat.le_of_ble_eq_true rfl) ?_
    refine z_iload dMod_goes_35 rfl ?_
    refine z_if_lt (tgt := 47) dMod_goes_37 (by decide) (by omega) (fun c37 => ?_) (fun c37 => ?_)
    · refine z_sipush dMod_goes_47 rfl ?_
      refine z_iret rfl rfl dMod_goes_50 ?_
      first
        | exact Or.inr ⟨by omega, rfl, rfl⟩
        | (refine Or.inl ⟨by omega, rfl, ?_, fun z z5 z6 => (g3 z z6).trans (g2 z z5)⟩
           have hmc : zMcu G h3 ma (zup S.2.1 c (zCv (S.2.1 c 0) (S.2.1 c 1) (kk : Int) (S.2.1 c 3 + 1) ((S.2.1 c 3)))) := zMcu.up b1 b2 b3 b4 b5 a1 a2 a3 a4 a5 zid_u zid_u zid_u zup_u zup_u b1c b2c ⟨b3c.1, fun _ => e3.trans ek⟩ (zup_w (by omega) rfl) (zup_w (by omega) rfl)
           exact H.cus hmc (fun i hi hr => (g3 _ (H.inj hi (by omega) (by omega))).trans (g2 _ (H.inj hi (by omega) (by omega)))))
    · refine z_iload dMod_goes_40 rfl ?_
      refine z_aload_n dMod_goes_42 rfl ?_
      refine z_alenI dMod_goes_43 (by assumption) ?_
      refine z_icmp_lt (tgt := 51) dMod_goes_44 (by decide) (by omega) (by omega) (fun c44 => ?_) (fun c44 => ?_)
      · refine z_aload_n dMod_goes_51 rfl ?_
        refine z_get (k := 4) fd_Mod (by decide) fl_Mod_25 dMod_goes_52 (by assumption) (by rfl) ?_
        refine z_iload_n dMod_goes_55 rfl ?_
        refine z_iload_n dMod_goes_56 rfl ?_
        refine z_if_eq (tgt := 67) dMod_goes_57 (by decide) (by omega) (fun c57 => ?_) (fun c57 => ?_)
        · exfalso; omega
        · refine z_iload dMod_goes_60 rfl ?_
          refine z_iconst dMod_goes_62 ?_
          refine z_iadd dMod_goes_63 ?_
          refine z_goto (tgt := 69) dMod_goes_64 (by decide) ?_
          refine z_iast dMod_goes_69 (by assumption) (by refine ⟨?_, ?_, ?_⟩ <;> omega) ?_
          refine z_hx (fun h2 p2 g2 => ?_)
          rw [Int.toNat_natCast] at p2
          have m2 := (g2 (ma (0)) (H.inj (i := 0) (j := 5) (by omega) (by omega) (by omega))).trans m2
          have a5 := (g2 (ma (6)) (H.inj (i := 6) (j := 5) (by omega) (by omega) (by omega))).trans a5
          have a4 := p2
          have a1 := (g2 (ma (2)) (H.inj (i := 2) (j := 5) (by omega) (by omega) (by omega))).trans a1
          have a2 := (g2 (ma (3)) (H.inj (i := 3) (j := 5) (by omega) (by omega) (by omega))).trans a2
          have a3 := (g2 (ma (4)) (H.inj (i := 4) (j := 5) (by omega) (by omega) (by omega))).trans a3
          have rkk1 := (g2 (ma (8 + kk)) (H.inj (i := 8 + kk) (j := 5) (by omega) (by omega) (by omega))).trans rkk1
          refine z_aload_n dMod_goes_70 rfl ?_
          refine z_get (k := 5) fd_Mod (by decide) fl_Mod_28 dMod_goes_71 (by assumption) (by rfl) ?_
          refine z_iload_n dMod_goes_74 rfl ?_
          refine z_iload dMod_goes_75 rfl ?_
          refine z_iast dMod_goes_77 (by assumption) (by refine ⟨?_, ?_, ?_⟩ <;> omega) ?_
          refine z_hx (fun h3 p3 g3 => ?_)
          rw [Int.toNat_natCast] at p3
          have m2 := (g3 (ma (0)) (H.inj (i := 0) (j := 6) (by omega) (by omega) (by omega))).trans m2
          have a5 := p3
          have a4 := (g3 (ma (5)) (H.inj (i := 5) (j := 6) (by omega) (by omega) (by omega))).trans a4
          have a1 := (g3 (ma (2)) (H.inj (i := 2) (j := 6) (by omega) (by omega) (by omega))).trans a1
          have a2 := (g3 (ma (3)) (H.inj (i := 3) (j := 6) (by omega) (by omega) (by omega))).trans a2
          have a3 := (g3 (ma (4)) (H.inj (i := 4) (j := 6) (by omega) (by omega) (by omega))).trans a3
          have rkk1 := (g3 (ma (8 + kk)) (H.inj (i := 8 + kk) (j := 6) (by omega) (by omega) (by omega))).trans rkk1
          refine z_aload_n dMod_goes_78 rfl ?_
          refine z_iload dMod_goes_79 rfl ?_
          refine z_iald dMod_goes_81 (by assumption) (by refine ⟨?_, ?_, ?_⟩ <;> omega) ?_
          rw [rkk3 _ (by omega), ← zAt_eq (by omega) (by omega)]
          refine z_iret rfl rfl dMod_goes_82 ?_
          first
            | exact Or.inr ⟨by omega, rfl, rfl⟩
            | (refine Or.inl ⟨by omega, rfl, ?_, fun z z5 z6 => (g3 z z6).trans (g2 z z5)⟩
               have hmc : zMcu G h3 ma (zup S.2.1 c (zCv (S.2.1 c 0) (S.2.1 c 1) (kk : Int) (S.2.1 c 3 + 1) ((S.2.1 c 3)))) := zMcu.up b1 b2 b3 b4 b5 a1 a2 a3 a4 a5 zid_u zid_u zid_u zup_u zup_u b1c b2c ⟨b3c.1, fun _ => e3.trans ek⟩ (zup_w (by omega) rfl) (zup_w (by omega) rfl)
               exact H.cus hmc (fun i hi hr => (g3 _ (H.inj hi (by omega) (by omega))).trans (g2 _ (H.inj hi (by omega) (by omega)))))
      · refine z_sipush dMod_goes_47 rfl ?_
        refine z_iret rfl rfl dMod_goes_50 ?_
        first
          | exact Or.inr ⟨by omega, rfl, rfl⟩
          | (refine Or.inl ⟨by omega, rfl, ?_, fun z z5 z6 => (g3 z z6).trans (g2 z z5)⟩
             have hmc : zMcu G h3 ma (zup S.2.1 c (zCv (S.2.1 c 0) (S.2.1 c 1) (kk : Int) (S.2.1 c 3 + 1) ((S.2.1 c 3)))) := zMcu.up b1 b2 b3 b4 b5 a1 a2 a3 a4 a5 zid_u zid_u zid_u zup_u zup_u b1c b2c ⟨b3c.1, fun _ => e3.trans ek⟩ (zup_w (by omega) rfl) (zup_w (by omega) rfl)
             exact H.cus hmc (fun i hi hr => (g3 _ (H.inj hi (by omega) (by omega))).trans (g2 _ (H.inj hi (by omega) (by omega)))))
theorem k_Mod_goesB {c kk : Nat} (H : zMod G h ma S th) (hc : c < 3) (hth : S.2.1 c 0 = 1) (ek : S.2.1 c 2 = (kk : Int)) (hkk : kk < 4) (h16 : ∀ k, k < 4 → (S.1 k).length ≤ 16) (hix : 0 ≤ S.2.1 c 3 ∧ S.2.1 c 3 ≤ 16) : zM G l hMod_goes yMod_goes 1 [.ref (ma 0), zi (c : Int), zi 0] h (fun v h' => ((0 ≤ (S.2.1 c 3 - 1) ∧ (S.2.1 c 3 - 1) < ((S.1 (S.2.1 c 2).toNat).length : Int)) ∧ v = some (zi (zAt (S.1 (S.2.1 c 2).toNat) (S.2.1 c 3 - 1))) ∧ zMod G h' ma (zsC S (zup S.2.1 c (zCv (S.2.1 c 0) (S.2.1 c 1) (S.2.1 c 2) ((S.2.1 c 3 - 1)) (S.2.1 c 3 - 1)))) th ∧ (∀ z, z ≠ ma 5 → z ≠ ma 6 → h' z = h z)) ∨ (¬ (0 ≤ (S.2.1 c 3 - 1) ∧ (S.2.1 c 3 - 1) < ((S.1 (S.2.1 c 2).toNat).length : Int)) ∧ v = some (zi 10000) ∧ h = h')) zNo 0 0 := by
  obtain ⟨m1, m2, ⟨g, m3, m3a⟩, m4, ⟨f6, m5, m5a⟩, m6, m7⟩ := id H
  unfold zMfs at m2
  obtain ⟨⟨v1, a1, b1⟩, ⟨v2, a2, b2⟩, ⟨v3, a3, b3⟩, ⟨v4, a4, b4⟩, ⟨v5, a5, b5⟩⟩ := id m4
  have b1c := b1 c (by omega)
  have b2c := b2 c (by omega)
  have b3c := b3 c (by omega)
  have b4c := b4 c (by omega)
  have b5c := b5 c (by omega)
  have e2 := b2c.2 hth
  have e3 := b3c.2 hth
  have e4 := b4c.2 hth
  have e5 := b5c.2 hth
  have h16k := h16 kk hkk
  rw [ek, Int.toNat_natCast]
  obtain ⟨frkk, rkk1, rkk2, rkk3, rkk4⟩ := id (m6 kk (hkk))
  refine zM.of [some (.ref (ma 0)), some (zi (c : Int)), some (zi 0), none, none] (by decide +kernel) rfl (by decide) rfl (Nat.le_of_ble_eq_true rfl) rfl ?_
  refine z_aload_n dMod_goes_0 rfl ?_
  refine z_get (k := 0) fd_Mod (by decide) fl_Mod_11 dMod_goes_1 (by assumption) (by rfl) ?_
  refine z_aload_n dMod_goes_4 rfl ?_
  refine z_get (k := 3) fd_Mod (by decide) fl_Mod_21 dMod_goes_5 (by assumption) (by rfl) ?_
  refine z_iload_n dMod_goes_8 rfl ?_
  refine z_iald dMod_goes_9 (by assumption) (by refine ⟨?_, ?_, ?_⟩ <;> omega) ?_
  rw [Int.toNat_natCast]
  rw [e3, ek]
  refine z_aald (t := 4) (ty := .array .int) rfl rfl dMod_goes_10 m3 (by refine ⟨?_, ?_, ?_⟩ <;> omega) ?_
  rw [show (kk : Int).toNat = kk from rfl, m3a kk (by omega)]
  refine z_astore_n dMod_goes_11 (Nat.le_of_ble_eq_true rfl) ?_
  refine z_iload_n dMod_goes_12 rfl ?_
  refine z_if_eq (tgt := 25) dMod_goes_13 (by decide) (by omega) (fun c13 => ?_) (fun c13 => ?_)
  · refine z_aload_n dMod_goes_25 rfl ?_
    refine z_get (k := 4) fd_Mod (by decide) fl_Mod_25 dMod_goes_26 (by assumption) (by rfl) ?_
    refine z_iload_n dMod_goes_29 rfl ?_
    refine z_iald dMod_goes_30 (by assumption) (by refine ⟨?_, ?_, ?_⟩ <;> omega) ?_
    rw [Int.toNat_natCast]
    rw [e4]
    refine z_iconst dMod_goes_31 ?_
    refine z_isub dMod_goes_32 ?_
    refine z_istore dMod_goes_33 (Nat.le_of_ble_eq_true rfl) ?_
    refine z_iload dMod_goes_35 rfl ?_
    refine z_if_lt (tgt := 47) dMod_goes_37 (by decide) (by omega) (fun c37 => ?_) (fun c37 => ?_)
    · refine z_sipush dMod_goes_47 rfl ?_
      refine z_iret rfl rfl dMod_goes_50 ?_
      first
        | exact Or.inr ⟨by omega, rfl, rfl⟩
        | (refine Or.inl ⟨by omega, rfl, ?_, fun z z5 z6 => (g3 z z6).trans (g2 z z5)⟩
           have hmc : zMcu G h3 ma (zup S.2.1 c (zCv (S.2.1 c 0) (S.2.1 c 1) (kk : Int) ((S.2.1 c 3 - 1)) ((S.2.1 c 3 - 1)))) := zMcu.up b1 b2 b3 b4 b5 a1 a2 a3 a4 a5 zid_u zid_u zid_u zup_u zup_u b1c b2c ⟨b3c.1, fun _ => e3.trans ek⟩ (zup_w (by omega) rfl) (zup_w (by omega) rfl)
           exact H.cus hmc (fun i hi hr => (g3 _ (H.inj hi (by omega) (by omega))).trans (g2 _ (H.inj hi (by omega) (by omega)))))
    · refine z_iload dMod_goes_40 rfl ?_
      refine z_aload_n dMod_goes_42 rfl ?_
      refine z_alenI dMod_goes_43 (by assumption) ?_
      refine z_icmp_lt (tgt := 51) dMod_goes_44 (by decide) (by omega) (by omega) (fun c44 => ?_) (fun c44 => ?_)
      · refine z_aload_n dMod_goes_51 rfl ?_
        refine z_get (k := 4) fd_Mod (by decide) fl_Mod_25 dMod_goes_52 (by assumption) (by rfl) ?_
        refine z_iload_n dMod_goes_55 rfl ?_
        refine z_iload_n dMod_goes_56 rfl ?_
        refine z_if_eq (tgt := 67) dMod_goes_57 (by decide) (by omega) (fun c57 => ?_) (fun c57 => ?_)
        · refine z_iload dMod_goes_67 rfl ?_
          refine z_iast dMod_goes_69 (by assumption) (by refine ⟨?_, ?_, ?_⟩ <;> omega) ?_
          refine z_hx (fun h2 p2 g2 => ?_)
          rw [Int.toNat_natCast] at p2
          have m2 := (g2 (ma (0)) (H.inj (i := 0) (j := 5) (by omega) (by omega) (by omega))).trans m2
          have a5 := (g2 (ma (6)) (H.inj (i := 6) (j := 5) (by omega) (by omega) (by omega))).trans a5
          have a4 := p2
          have a1 := (g2 (ma (2)) (H.inj (i := 2) (j := 5) (by omega) (by omega) (by omega))).trans a1
          have a2 := (g2 (ma (3)) (H.inj (i := 3) (j := 5) (by omega) (by omega) (by omega))).trans a2
          have a3 := (g2 (ma (4)) (H.inj (i := 4) (j := 5) (by omega) (by omega) (by omega))).trans a3
          have rkk1 := (g2 (ma (8 + kk)) (H.inj (i := 8 + kk) (j := 5) (by omega) (by omega) (by omega))).trans rkk1
          refine z_aload_n dMod_goes_70 rfl ?_
          refine z_get (k := 5) fd_Mod (by decide) fl_Mod_28 dMod_goes_71 (by assumption) (by rfl) ?_
          refine z_iload_n dMod_goes_74 rfl ?_
          refine z_iload dMod_goes_75 rfl ?_
          refine z_iast dMod_goes_77 (by assumption) (by refine ⟨?_, ?_, ?_⟩ <;> omega) ?_
          refine z_hx (fun h3 p3 g3 => ?_)
          rw [Int.toNat_natCast] at p3
          have m2 := (g3 (ma (0)) (H.inj (i := 0) (j := 6) (by omega) (by omega) (by omega))).trans m2
          have a5 := p3
          have a4 := (g3 (ma (5)) (H.inj (i := 5) (j := 6) (by omega) (by omega) (by omega))).trans a4
          have a1 := (g3 (ma (2)) (H.inj (i := 2) (j := 6) (by omega) (by omega) (by omega))).trans a1
          have a2 := (g3 (ma (3)) (H.inj (i := 3) (j := 6) (by omega) (by omega) (by omega))).trans a2
          have a3 := (g3 (ma (4)) (H.inj (i := 4) (j := 6) (by omega) (by omega) (by omega))).trans a3
          have rkk1 := (g3 (ma (8 + kk)) (H.inj (i := 8 + kk) (j := 6) (by omega) (by omega) (by omega))).trans rkk1
          refine z_aload_n dMod_goes_78 rfl ?_
          refine z_iload dMod_goes_79 rfl ?_
          refine z_iald dMod_goes_81 (by assumption) (by refine ⟨?_, ?_, ?_⟩ <;> omega) ?_
          rw [rkk3 _ (by omega), ← zAt_eq (by omega) (by omega)]
          refine z_iret rfl rfl dMod_goes_82 ?_
          first
            | exact Or.inr ⟨by omega, rfl, rfl⟩
            | (refine Or.inl ⟨by omega, rfl, ?_, fun z z5 z6 => (g3 z z6).trans (g2 z z5)⟩
               have hmc : zMcu G h3 ma (zup S.2.1 c (zCv (S.2.1 c 0) (S.2.1 c 1) (kk : Int) ((S.2.1 c 3 - 1)) ((S.2.1 c 3 - 1)))) := zMcu.up b1 b2 b3 b4 b5 a1 a2 a3 a4 a5 zid_u zid_u zid_u zup_u zup_u b1c b2c ⟨b3c.1, fun _ => e3.trans ek⟩ (zup_w (by omega) rfl) (zup_w (by omega) rfl)
               exact H.cus hmc (fun i hi hr => (g3 _ (H.inj hi (by omega) (by omega))).trans (g2 _ (H.inj hi (by omega) (by omega)))))
        · exfalso; omega
      · refine z_sipush dMod_goes_47 rfl ?_
        refine z_iret rfl rfl dMod_goes_50 ?_
        first
          | exact Or.inr ⟨by omega, rfl, rfl⟩
          | (refine Or.inl ⟨by omega, rfl, ?_, fun z z5 z6 => (g3 z z6).trans (g2 z z5)⟩
             have hmc : zMcu G h3 ma (zup S.2.1 c (zCv (S.2.1 c 0) (S.2.1 c 1) (kk : Int) ((S.2.1 c 3 - 1)) ((S.2.1 c 3 - 1)))) := zMcu.up b1 b2 b3 b4 b5 a1 a2 a3 a4 a5 zid_u zid_u zid_u zup_u zup_u b1c b2c ⟨b3c.1, fun _ => e3.trans ek⟩ (zup_w (by omega) rfl) (zup_w (by omega) rfl)
             exact H.cus hmc (fun i hi hr => (g3 _ (H.inj hi (by omega) (by omega))).trans (g2 _ (H.inj hi (by omega) (by omega)))))
  · exfalso; omega
theorem k_Mod_asksOn1 {p : Int} (H : zMod G h ma S th) (hp : zI32 p) (hO : zOk S) (h16 : ∀ k, k < 4 → (S.1 k).length ≤ 16) : zM G l hMod_asksOn yMod_asksOn 4 [.ref (ma 0), zi p, zi 1] h (zQm G ma h 1 9 2 (sp_forth S p)) zNo 0 0 := by
  obtain ⟨m1, m2, ⟨g, m3, m3a⟩, m4, ⟨f6, m5, m5a⟩, m6, m7⟩ := id H
  unfold zMfs at m2
  refine zM.of [some (.ref (ma 0)), some (zi p), some (zi 1)] (by decide +kernel) rfl (by decide) rfl (Nat.le_of_ble_eq_true rfl) rfl ?_
  refine z_aload_n dMod_asksOn_0 rfl ?_
  refine z_iload_n dMod_asksOn_1 rfl ?_
  refine z_callS MS_Mod_isNoCursor lk_Mod_141 dMod_asksOn_2 (k_Mod_isNoCursor (by omega)) rfl rfl (Nat.le_of_ble_eq_true rfl)  (Nat.le_of_ble_eq_true rfl) (Nat.le_of_ble_eq_true rfl) (Nat.le_of_eq (Nat.zero_add _)) (Nat.le_of_eq (Nat.zero_add _)) (fun _ _ q => q.elim) ?_
  rintro _ _ ⟨n9c, rfl, (⟨rfl, hn9c⟩ | ⟨rfl, hn9c⟩), rfl⟩
  · refine z_aload_n dMod_asksOn_5 rfl ?_
    refine z_iload_n dMod_asksOn_6 rfl ?_
    refine z_callV MV_Mod_isNotThere lk_Mod_144 dMod_asksOn_7 (k_Mod_isNotThere H (by omega)) rfl rfl (Nat.le_of_ble_eq_true rfl) rfl (by assumption) (Nat.le_of_ble_eq_true rfl) (Nat.le_of_ble_eq_true rfl) (Nat.le_of_eq (Nat.zero_add _)) (Nat.le_of_eq (Nat.zero_add _)) (fun _ _ q => q.elim) ?_
    rintro _ _ ⟨t8, rfl, ht8, rfl⟩
    try simp only [Int.toNat_natCast] at ht8
    refine z_iconst dMod_asksOn_10 ?_
    refine z_callV MV_Mod_fails lk_Mod_88 dMod_asksOn_11 (k_Mod_fails (by assumption) rfl (by omega) (by omega) (by omega)) rfl rfl (Nat.le_of_ble_eq_true rfl) rfl (by assumption) (Nat.le_of_ble_eq_true rfl) (Nat.le_of_ble_eq_true rfl) (Nat.le_of_eq (Nat.zero_add _)) (Nat.le_of_eq (Nat.zero_add _)) (fun _ _ q => q.elim) ?_
    rintro _ h1 ⟨t9, b8, rfl, ht, p1, g1⟩
    have H1 : zMod G h1 ma S t9 := H.obj (nu := S.2.2.2.2) (th' := t9) p1 g1
    have fz1 : zMfr ma h h1 := zMfr.of0 g1
    obtain ⟨-, n2, ⟨gg, n3, n3a⟩, n4, ⟨f61, n5, n5a⟩, n6, n7⟩ := id H1
    unfold zMfs at n2
    refine z_if_eq (tgt := 19) dMod_asksOn_14 (by decide) (by omega) (fun c14 => ?_) (fun c14 => ?_)
    · exfalso; omega
    · refine z_iconst dMod_asksOn_17 ?_
      refine z_iret rfl rfl dMod_asksOn_18 ?_
      rcases (show t9 = 0 ∨ t9 = 1 ∨ t9 = 2 ∨ t9 = 3 by omega) with t0 | t0 | t0 | t0
      all_goals first
        | (exfalso; omega)
        | exact zQm.ok H3 (by omega) (by assumption) (by unfold sp_forth; (try unfold spPut); (try simp only [Int.toNat_natCast]); (repeat (first | rw [if_pos (by omega)] | rw [if_neg (by omega)] | rw [if_pos (by assumption)] | rw [if_neg (by assumption)] | rw [if_pos (True.intro : True)])); (try (first | rfl | (congr 2; omega) | (congr 1; congr 1; omega))); done)
        | exact zQm.b1 H3 (by omega) (by assumption) (by unfold sp_forth; (try unfold spPut); (try simp only [Int.toNat_natCast]); (repeat (first | rw [if_pos (by omega)] | rw [if_neg (by omega)] | rw [if_pos (by assumption)] | rw [if_neg (by assumption)] | rw [if_pos (True.intro : True)])); (try (first | rfl | (congr 2; omega) | (congr 1; congr 1; omega))); done)
        | exact zQm.b2 H3 (by omega) (by assumption) (by unfold sp_forth; (try unfold spPut); (try simp only [Int.toNat_natCast]); (repeat (first | rw [if_pos (by omega)] | rw [if_neg (by omega)] | rw [if_pos (by assumption)] | rw [if_neg (by assumption)] | rw [if_pos (True.intro : True)])); (try (first | rfl | (congr 2; omega) | (congr 1; congr 1; omega))); done)
        | exact zQm.b3 H3 (by omega) (by assumption) (by unfold sp_forth; (try unfold spPut); (try simp only [Int.toNat_natCast]); (repeat (first | rw [if_pos (by omega)] | rw [if_neg (by omega)] | rw [if_pos (by assumption)] | rw [if_neg (by assumption)] | rw [if_pos (True.intro : True)])); (try (first | rfl | (congr 2; omega) | (congr 1; congr 1; omega))); done)
        | exact zQm.ok H2 (by omega) (by assumption) (by unfold sp_forth; (try unfold spPut); (try simp only [Int.toNat_natCast]); (repeat (first | rw [if_pos (by omega)] | rw [if_neg (by omega)] | rw [if_pos (by assumption)] | rw [if_neg (by assumption)] | rw [if_pos (True.intro : True)])); (try (first | rfl | (congr 2; omega) | (congr 1; congr 1; omega))); done)
        | exact zQm.b1 H2 (by omega) (by assumption) (by unfold sp_forth; (try unfold spPut); (try simp only [Int.toNat_natCast]); (repeat (first | rw [if_pos (by omega)] | rw [if_neg (by omega)] | rw [if_pos (by assumption)] | rw [if_neg (by assumption)] | rw [if_pos (True.intro : True)])); (try (first | rfl | (congr 2; omega) | (congr 1; congr 1; omega))); done)
        | exact zQm.b2 H2 (by omega) (by assumption) (by unfold sp_forth; (try unfold spPut); (try simp only [Int.toNat_natCast]); (repeat (first | rw [if_pos (by omega)] | rw [if_neg (by omega)] | rw [if_pos (by assumption)] | rw [if_neg (by assumption)] | rw [if_pos (True.intro : True)])); (try (first | rfl | (congr 2; omega) | (congr 1; congr 1; omega))); done)
        | exact zQm.b3 H2 (by omega) (by assumption) (by unfold sp_forth; (try unfold spPut); (try simp only [Int.toNat_natCast]); (repeat (first | rw [if_pos (by omega)] | rw [if_neg (by omega)] | rw [if_pos (by assumption)] | rw [if_neg (by assumption)] | rw [if_pos (True.intro : True)])); (try (first | rfl | (congr 2; omega) | (congr 1; congr 1; omega))); done)
        | exact zQm.ok H1 (by omega) (by assumption) (by unfold sp_forth; (try unfold spPut); (try simp only [Int.toNat_natCast]); (repeat (first | rw [if_pos (by omega)] | rw [if_neg (by omega)] | rw [if_pos (by assumption)] | rw [if_neg (by assumption)] | rw [if_pos (True.intro : True)])); (try (first | rfl | (congr 2; omega) | (congr 1; congr 1; omega))); done)
        | exact zQm.b1 H1 (by omega) (by assumption) (by unfold sp_forth; (try unfold spPut); (try simp only [Int.toNat_natCast]); (repeat (first | rw [if_pos (by omega)] | rw [if_neg (by omega)] | rw [if_pos (by assumption)] | rw [if_neg (by assumption)] | rw [if_pos (True.intro : True)])); (try (first | rfl | (congr 2; omega) | (congr 1; congr 1; omega))); done)
        | exact zQm.b2 H1 (by omega) (by assumption) (by unfold sp_forth; (try unfold spPut); (try simp only [Int.toNat_natCast]); (repeat (first | rw [if_pos (by omega)] | rw [if_neg (by omega)] | rw [if_pos (by assumption)] | rw [if_neg (by assumption)] | rw [if_pos (True.intro : True)])); (try (first | rfl | (congr 2; omega) | (congr 1; congr 1; omega))); done)
        | exact zQm.b3 H1 (by omega) (by assumption) (by unfold sp_forth; (try unfold spPut); (try simp only [Int.toNat_natCast]); (repeat (first | rw [if_pos (by omega)] | rw [if_neg (by omega)] | rw [if_pos (by assumption)] | rw [if_neg (by assumption)] | rw [if_pos (True.intro : True)])); (try (first | rfl | (congr 2; omega) | (congr 1; congr 1; omega))); done)
  · obtain ⟨c, rfl⟩ := Int.eq_ofNat_of_zero_le (show 0 ≤ p by omega)
    have hc : c < 3 := by omega
    refine z_aload_n dMod_asksOn_5 rfl ?_
    refine z_iload_n dMod_asksOn_6 rfl ?_
    refine z_callV MV_Mod_isNotThere lk_Mod_144 dMod_asksOn_7 (k_Mod_isNotThere H (by omega)) rfl rfl (Nat.le_of_ble_eq_true rfl) rfl (by assumption) (Nat.le_of_ble_eq_true rfl) (Nat.le_of_ble_eq_true rfl) (Nat.le_of_eq (Nat.zero_add _)) (Nat.le_of_eq (Nat.zero_add _)) (fun _ _ q => q.elim) ?_
    rintro _ _ ⟨t8, rfl, ht8, rfl⟩
    try simp only [Int.toNat_natCast] at ht8
    refine z_iconst dMod_asksOn_10 ?_
    refine z_callV MV_Mod_fails lk_Mod_88 dMod_asksOn_11 (k_Mod_fails (by assumption) rfl (by omega) (by omega) (by omega)) rfl rfl (Nat.le_of_ble_eq_true rfl) rfl (by assumption) (Nat.le_of_ble_eq_true rfl) (Nat.le_of_ble_eq_true rfl) (Nat.le_of_eq (Nat.zero_add _)) (Nat.le_of_eq (Nat.zero_add _)) (fun _ _ q => q.elim) ?_
    rintro _ h1 ⟨t9, b8, rfl, ht, p1, g1⟩
    have H1 : zMod G h1 ma S t9 := H.obj (nu := S.2.2.2.2) (th' := t9) p1 g1
    have fz1 : zMfr ma h h1 := zMfr.of0 g1
    obtain ⟨-, n2, ⟨gg, n3, n3a⟩, n4, ⟨f61, n5, n5a⟩, n6, n7⟩ := id H1
    unfold zMfs at n2
    refine z_if_eq (tgt := 19) dMod_asksOn_14 (by decide) (by omega) (fun c14 => ?_) (fun c14 => ?_)
    · obtain ⟨⟨v1, a1, b1⟩, ⟨v2, a2, b2⟩, ⟨v3, a3, b3⟩, ⟨v4, a4, b4⟩, ⟨v5, a5, b5⟩⟩ := id n4
      have hth : S.2.1 c 0 = 1 := by omega
      have b1c := b1 c (by omega)
      have b2c := b2 c (by omega)
      have b3c := b3 c (by omega)
      have b4c := b4 c (by omega)
      have b5c := b5 c (by omega)
      have e2 := b2c.2 hth
      have e3 := b3c.2 hth
      have e4 := b4c.2 hth
      have e5 := b5c.2 hth
      have ok9 := hO.1 c (by omega) hth
      obtain ⟨kk, ek⟩ := Int.eq_ofNat_of_zero_le ok9.1.1
      refine z_aload_n dMod_asksOn_19 rfl ?_
      refine z_get (k := 2) fd_Mod (by decide) fl_Mod_18 dMod_asksOn_20 (by assumption) (by rfl) ?_
      refine z_iload_n dMod_asksOn_23 rfl ?_
      refine z_zald dMod_asksOn_24 (by assumption) (by refine ⟨?_, ?_, ?_⟩ <;> omega) ?_
      rw [Int.toNat_natCast]
      rw [e2]
      refine z_if_eq (tgt := 35) dMod_asksOn_25 (by decide) (by omega) (fun c25 => ?_) (fun c25 => ?_)
      · refine z_aload_n dMod_asksOn_35 rfl ?_
        refine z_iload_n dMod_asksOn_36 rfl ?_
        refine z_iload_n dMod_asksOn_37 rfl ?_
        refine z_callV MV_Mod_goes lk_Mod_147 dMod_asksOn_38 (k_Mod_goesF H1 hc hth ek (by omega) h16 (by omega)) rfl rfl (Nat.le_of_ble_eq_true rfl) rfl (by assumption) (Nat.le_of_ble_eq_true rfl) (Nat.le_of_ble_eq_true rfl) (Nat.le_of_eq (Nat.zero_add _)) (Nat.le_of_eq (Nat.zero_add _)) (fun _ _ q => q.elim) ?_
        rintro _ h3 (⟨hP, rfl, H3, g3⟩ | ⟨hP, rfl, rfl⟩)
        · have fz3 : zMfr ma h h3 := fz1.tr (zMfr.of2 (i := 5) (j := 6) (by omega) (by omega) g3)
          refine z_iret rfl rfl dMod_asksOn_41 ?_
          rcases (show t9 = 0 ∨ t9 = 1 ∨ t9 = 2 ∨ t9 = 3 by omega) with t0 | t0 | t0 | t0
          all_goals first
            | (exfalso; omega)
            | exact zQm.ok H3 (by omega) (by assumption) (by unfold sp_forth; (try unfold spPut); (try simp only [Int.toNat_natCast]); (repeat (first | rw [if_pos (by omega)] | rw [if_neg (by omega)] | rw [if_pos (by assumption)] | rw [if_neg (by assumption)] | rw [if_pos (True.intro : True)])); (try (first | rfl | (congr 2; omega) | (congr 1; congr 1; omega))); done)
            | exact zQm.b1 H3 (by omega) (by assumption) (by unfold sp_forth; (try unfold spPut); (try simp only [Int.toNat_natCast]); (repeat (first | rw [if_pos (by omega)] | rw [if_neg (by omega)] | rw [if_pos (by assumption)] | rw [if_neg (by assumption)] | rw [if_pos (True.intro : True)])); (try (first | rfl | (congr 2; omega) | (congr 1; congr 1; omega))); done)
            | exact zQm.b2 H3 (by omega) (by assumption) (by unfold sp_forth; (try unfold spPut); (try simp only [Int.toNat_natCast]); (repeat (first | rw [if_pos (by omega)] | rw [if_neg (by omega)] | rw [if_pos (by assumption)] | rw [if_neg (by assumption)] | rw [if_pos (True.intro : True)])); (try (first | rfl | (congr 2; omega) | (congr 1; congr 1; omega))); done)
            | exact zQm.b3 H3 (by omega) (by assumption) (by unfold sp_forth; (try unfold spPut); (try simp only [Int.toNat_natCast]); (repeat (first | rw [if_pos (by omega)] | rw [if_neg (by omega)] | rw [if_pos (by assumption)] | rw [if_neg (by assumption)] | rw [if_pos (True.intro : True)])); (try (first | rfl | (congr 2; omega) | (congr 1; congr 1; omega))); done)
            | exact zQm.ok H2 (by omega) (by assumption) (by unfold sp_forth; (try unfold spPut); (try simp only [Int.toNat_natCast]); (repeat (first | rw [if_pos (by omega)] | rw [if_neg (by omega)] | rw [if_pos (by assumption)] | rw [if_neg (by assumption)] | rw [if_pos (True.intro : True)])); (try (first | rfl | (congr 2; omega) | (congr 1; congr 1; omega))); done)
            | exact zQm.b1 H2 (by omega) (by assumption) (by unfold sp_forth; (try unfold spPut); (try simp only [Int.toNat_natCast]); (repeat (first | rw [if_pos (by omega)] | rw [if_neg (by omega)] | rw [if_pos (by assumption)] | rw [if_neg (by assumption)] | rw [if_pos (True.intro : True)])); (try (first | rfl | (congr 2; omega) | (congr 1; congr 1; omega))); done)
            | exact zQm.b2 H2 (by omega) (by assumption) (by unfold sp_forth; (try unfold spPut); (try simp only [Int.toNat_natCast]); (repeat (first | rw [if_pos (by omega)] | rw [if_neg (by omega)] | rw [if_pos (by assumption)] | rw [if_neg (by assumption)] | rw [if_pos (True.intro : True)])); (try (first | rfl | (congr 2; omega) | (congr 1; congr 1; omega))); done)
            | exact zQm.b3 H2 (by omega) (by assumption) (by unfold sp_forth; (try unfold spPut); (try simp only [Int.toNat_natCast]); (repeat (first | rw [if_pos (by omega)] | rw [if_neg (by omega)] | rw [if_pos (by assumption)] | rw [if_neg (by assumption)] | rw [if_pos (True.intro : True)])); (try (first | rfl | (congr 2; omega) | (congr 1; congr 1; omega))); done)
            | exact zQm.ok H1 (by omega) (by assumption) (by unfold sp_forth; (try unfold spPut); (try simp only [Int.toNat_natCast]); (repeat (first | rw [if_pos (by omega)] | rw [if_neg (by omega)] | rw [if_pos (by assumption)] | rw [if_neg (by assumption)] | rw [if_pos (True.intro : True)])); (try (first | rfl | (congr 2; omega) | (congr 1; congr 1; omega))); done)
            | exact zQm.b1 H1 (by omega) (by assumption) (by unfold sp_forth; (try unfold spPut); (try simp only [Int.toNat_natCast]); (repeat (first | rw [if_pos (by omega)] | rw [if_neg (by omega)] | rw [if_pos (by assumption)] | rw [if_neg (by assumption)] | rw [if_pos (True.intro : True)])); (try (first | rfl | (congr 2; omega) | (congr 1; congr 1; omega))); done)
            | exact zQm.b2 H1 (by omega) (by assumption) (by unfold sp_forth; (try unfold spPut); (try simp only [Int.toNat_natCast]); (repeat (first | rw [if_pos (by omega)] | rw [if_neg (by omega)] | rw [if_pos (by assumption)] | rw [if_neg (by assumption)] | rw [if_pos (True.intro : True)])); (try (first | rfl | (congr 2; omega) | (congr 1; congr 1; omega))); done)
            | exact zQm.b3 H1 (by omega) (by assumption) (by unfold sp_forth; (try unfold spPut); (try simp only [Int.toNat_natCast]); (repeat (first | rw [if_pos (by omega)] | rw [if_neg (by omega)] | rw [if_pos (by assumption)] | rw [if_neg (by assumption)] | rw [if_pos (True.intro : True)])); (try (first | rfl | (congr 2; omega) | (congr 1; congr 1; omega))); done)
        · refine z_iret rfl rfl dMod_asksOn_41 ?_
          rcases (show t9 = 0 ∨ t9 = 1 ∨ t9 = 2 ∨ t9 = 3 by omega) with t0 | t0 | t0 | t0
          all_goals first
            | (exfalso; omega)
            | exact zQm.ok H3 (by omega) (by assumption) (by unfold sp_forth; (try unfold spPut); (try simp only [Int.toNat_natCast]); (repeat (first | rw [if_pos (by omega)] | rw [if_neg (by omega)] | rw [if_pos (by assumption)] | rw [if_neg (by assumption)] | rw [if_pos (True.intro : True)])); (try (first | rfl | (congr 2; omega) | (congr 1; congr 1; omega))); done)
            | exact zQm.b1 H3 (by omega) (by assumption) (by unfold sp_forth; (try unfold spPut); (try simp only [Int.toNat_natCast]); (repeat (first | rw [if_pos (by omega)] | rw [if_neg (by omega)] | rw [if_pos (by assumption)] | rw [if_neg (by assumption)] | rw [if_pos (True.intro : True)])); (try (first | rfl | (congr 2; omega) | (congr 1; congr 1; omega))); done)
            | exact zQm.b2 H3 (by omega) (by assumption) (by unfold sp_forth; (try unfold spPut); (try simp only [Int.toNat_natCast]); (repeat (first | rw [if_pos (by omega)] | rw [if_neg (by omega)] | rw [if_pos (by assumption)] | rw [if_neg (by assumption)] | rw [if_pos (True.intro : True)])); (try (first | rfl | (congr 2; omega) | (congr 1; congr 1; omega))); done)
            | exact zQm.b3 H3 (by omega) (by assumption) (by unfold sp_forth; (try unfold spPut); (try simp only [Int.toNat_natCast]); (repeat (first | rw [if_pos (by omega)] | rw [if_neg (by omega)] | rw [if_pos (by assumption)] | rw [if_neg (by assumption)] | rw [if_pos (True.intro : True)])); (try (first | rfl | (congr 2; omega) | (congr 1; congr 1; omega))); done)
            | exact zQm.ok H2 (by omega) (by assumption) (by unfold sp_forth; (try unfold spPut); (try simp only [Int.toNat_natCast]); (repeat (first | rw [if_pos (by omega)] | rw [if_neg (by omega)] | rw [if_pos (by assumption)] | rw [if_neg (by assumption)] | rw [if_pos (True.intro : True)])); (try (first | rfl | (congr 2; omega) | (congr 1; congr 1; omega))); done)
            | exact zQm.b1 H2 (by omega) (by assumption) (by unfold sp_forth; (try unfold spPut); (try simp only [Int.toNat_natCast]); (repeat (first | rw [if_pos (by omega)] | rw [if_neg (by omega)] | rw [if_pos (by assumption)] | rw [if_neg (by assumption)] | rw [if_pos (True.intro : True)])); (try (first | rfl | (congr 2; omega) | (congr 1; congr 1; omega))); done)
            | exact zQm.b2 H2 (by omega) (by assumption) (by unfold sp_forth; (try unfold spPut); (try simp only [Int.toNat_natCast]); (repeat (first | rw [if_pos (by omega)] | rw [if_neg (by omega)] | rw [if_pos (by assumption)] | rw [if_neg (by assumption)] | rw [if_pos (True.intro : True)])); (try (first | rfl | (congr 2; omega) | (congr 1; congr 1; omega))); done)
            | exact zQm.b3 H2 (by omega) (by assumption) (by unfold sp_forth; (try unfold spPut); (try simp only [Int.toNat_natCast]); (repeat (first | rw [if_pos (by omega)] | rw [if_neg (by omega)] | rw [if_pos (by assumption)] | rw [if_neg (by assumption)] | rw [if_pos (True.intro : True)])); (try (first | rfl | (congr 2; omega) | (congr 1; congr 1; omega))); done)
            | exact zQm.ok H1 (by omega) (by assumption) (by unfold sp_forth; (try unfold spPut); (try simp only [Int.toNat_natCast]); (repeat (first | rw [if_pos (by omega)] | rw [if_neg (by omega)] | rw [if_pos (by assumption)] | rw [if_neg (by assumption)] | rw [if_pos (True.intro : True)])); (try (first | rfl | (congr 2; omega) | (congr 1; congr 1; omega))); done)
            | exact zQm.b1 H1 (by omega) (by assumption) (by unfold sp_forth; (try unfold spPut); (try simp only [Int.toNat_natCast]); (repeat (first | rw [if_pos (by omega)] | rw [if_neg (by omega)] | rw [if_pos (by assumption)] | rw [if_neg (by assumption)] | rw [if_pos (True.intro : True)])); (try (first | rfl | (congr 2; omega) | (congr 1; congr 1; omega))); done)
            | exact zQm.b2 H1 (by omega) (by assumption) (by unfold sp_forth; (try unfold spPut); (try simp only [Int.toNat_natCast]); (repeat (first | rw [if_pos (by omega)] | rw [if_neg (by omega)] | rw [if_pos (by assumption)] | rw [if_neg (by assumption)] | rw [if_pos (True.intro : True)])); (try (first | rfl | (congr 2; omega) | (congr 1; congr 1; omega))); done)
            | exact zQm.b3 H1 (by omega) (by assumption) (by unfold sp_forth; (try unfold spPut); (try simp only [Int.toNat_natCast]); (repeat (first | rw [if_pos (by omega)] | rw [if_neg (by omega)] | rw [if_pos (by assumption)] | rw [if_neg (by assumption)] | rw [if_pos (True.intro : True)])); (try (first | rfl | (congr 2; omega) | (congr 1; congr 1; omega))); done)
      · refine z_aload_n dMod_asksOn_28 rfl ?_
        refine z_callV MV_Mod_refused lk_Mod_92 dMod_asksOn_29 (k_Mod_refused n2 rfl rfl) rfl rfl (Nat.le_of_ble_eq_true rfl) rfl (by assumption) (Nat.le_of_ble_eq_true rfl) (Nat.le_of_ble_eq_true rfl) (Nat.le_of_eq (Nat.zero_add _)) (Nat.le_of_eq (Nat.zero_add _)) (fun _ _ q => q.elim) ?_
        rintro _ h2 ⟨rfl, p2, g2⟩
        have H2 : zMod G h2 ma (zsRef S) t9 := H1.obj (nu := zup S.2.2.2.2 1 (S.2.2.2.2 1 + 1)) p2 g2
        have fz2 : zMfr ma h h2 := zMfr.of0 (fun q hq => (g2 q hq).trans (g1 q hq))
        refine z_goto (tgt := 41) dMod_asksOn_32 (by decide) ?_
        refine z_iret rfl rfl dMod_asksOn_41 ?_
        rcases (show t9 = 0 ∨ t9 = 1 ∨ t9 = 2 ∨ t9 = 3 by omega) with t0 | t0 | t0 | t0
        all_goals first
          | (exfalso; omega)
          | exact zQm.ok H3 (by omega) (by assumption) (by unfold sp_forth; (try unfold spPut); (try simp only [Int.toNat_natCast]); (repeat (first | rw [if_pos (by omega)] | rw [if_neg (by omega)] | rw [if_pos (by assumption)] | rw [if_neg (by assumption)] | rw [if_pos (True.intro : True)])); (try (first | rfl | (congr 2; omega) | (congr 1; congr 1; omega))); done)
          | exact zQm.b1 H3 (by omega) (by assumption) (by unfold sp_forth; (try unfold spPut); (try simp only [Int.toNat_natCast]); (repeat (first | rw [if_pos (by omega)] | rw [if_neg (by omega)] | rw [if_pos (by assumption)] | rw [if_neg (by assumption)] | rw [if_pos (True.intro : True)])); (try (first | rfl | (congr 2; omega) | (congr 1; congr 1; omega))); done)
          | exact zQm.b2 H3 (by omega) (by assumption) (by unfold sp_forth; (try unfold spPut); (try simp only [Int.toNat_natCast]); (repeat (first | rw [if_pos (by omega)] | rw [if_neg (by omega)] | rw [if_pos (by assumption)] | rw [if_neg (by assumption)] | rw [if_pos (True.intro : True)])); (try (first | rfl | (congr 2; omega) | (congr 1; congr 1; omega))); done)
          | exact zQm.b3 H3 (by omega) (by assumption) (by unfold sp_forth; (try unfold spPut); (try simp only [Int.toNat_natCast]); (repeat (first | rw [if_pos (by omega)] | rw [if_neg (by omega)] | rw [if_pos (by assumption)] | rw [if_neg (by assumption)] | rw [if_pos (True.intro : True)])); (try (first | rfl | (congr 2; omega) | (congr 1; congr 1; omega))); done)
          | exact zQm.ok H2 (by omega) (by assumption) (by unfold sp_forth; (try unfold spPut); (try simp only [Int.toNat_natCast]); (repeat (first | rw [if_pos (by omega)] | rw [if_neg (by omega)] | rw [if_pos (by assumption)] | rw [if_neg (by assumption)] | rw [if_pos (True.intro : True)])); (try (first | rfl | (congr 2; omega) | (congr 1; congr 1; omega))); done)
          | exact zQm.b1 H2 (by omega) (by assumption) (by unfold sp_forth; (try unfold spPut); (try simp only [Int.toNat_natCast]); (repeat (first | rw [if_pos (by omega)] | rw [if_neg (by omega)] | rw [if_pos (by assumption)] | rw [if_neg (by assumption)] | rw [if_pos (True.intro : True)])); (try (first | rfl | (congr 2; omega) | (congr 1; congr 1; omega))); done)
          | exact zQm.b2 H2 (by omega) (by assumption) (by unfold sp_forth; (try unfold spPut); (try simp only [Int.toNat_natCast]); (repeat (first | rw [if_pos (by omega)] | rw [if_neg (by omega)] | rw [if_pos (by assumption)] | rw [if_neg (by assumption)] | rw [if_pos (True.intro : True)])); (try (first | rfl | (congr 2; omega) | (congr 1; congr 1; omega))); done)
          | exact zQm.b3 H2 (by omega) (by assumption) (by unfold sp_forth; (try unfold spPut); (try simp only [Int.toNat_natCast]); (repeat (first | rw [if_pos (by omega)] | rw [if_neg (by omega)] | rw [if_pos (by assumption)] | rw [if_neg (by assumption)] | rw [if_pos (True.intro : True)])); (try (first | rfl | (congr 2; omega) | (congr 1; congr 1; omega))); done)
          | exact zQm.ok H1 (by omega) (by assumption) (by unfold sp_forth; (try unfold spPut); (try simp only [Int.toNat_natCast]); (repeat (first | rw [if_pos (by omega)] | rw [if_neg (by omega)] | rw [if_pos (by assumption)] | rw [if_neg (by assumption)] | rw [if_pos (True.intro : True)])); (try (first | rfl | (congr 2; omega) | (congr 1; congr 1; omega))); done)
          | exact zQm.b1 H1 (by omega) (by assumption) (by unfold sp_forth; (try unfold spPut); (try simp only [Int.toNat_natCast]); (repeat (first | rw [if_pos (by omega)] | rw [if_neg (by omega)] | rw [if_pos (by assumption)] | rw [if_neg (by assumption)] | rw [if_pos (True.intro : True)])); (try (first | rfl | (congr 2; omega) | (congr 1; congr 1; omega))); done)
          | exact zQm.b2 H1 (by omega) (by assumption) (by unfold sp_forth; (try unfold spPut); (try simp only [Int.toNat_natCast]); (repeat (first | rw [if_pos (by omega)] | rw [if_neg (by omega)] | rw [if_pos (by assumption)] | rw [if_neg (by assumption)] | rw [if_pos (True.intro : True)])); (try (first | rfl | (congr 2; omega) | (congr 1; congr 1; omega))); done)
          | exact zQm.b3 H1 (by omega) (by assumption) (by unfold sp_forth; (try unfold spPut); (try simp only [Int.toNat_natCast]); (repeat (first | rw [if_pos (by omega)] | rw [if_neg (by omega)] | rw [if_pos (by assumption)] | rw [if_neg (by assumption)] | rw [if_pos (True.intro : True)])); (try (first | rfl | (congr 2; omega) | (congr 1; congr 1; omega))); done)
    · refine z_iconst dMod_asksOn_17 ?_
      refine z_iret rfl rfl dMod_asksOn_18 ?_
      rcases (show t9 = 0 ∨ t9 = 1 ∨ t9 = 2 ∨ t9 = 3 by omega) with t0 | t0 | t0 | t0
      all_goals first
        | (exfalso; omega)
        | exact zQm.ok H3 (by omega) (by assumption) (by unfold sp_forth; (try unfold spPut); (try simp only [Int.toNat_natCast]); (repeat (first | rw [if_pos (by omega)] | rw [if_neg (by omega)] | rw [if_pos (by assumption)] | rw [if_neg (by assumption)] | rw [if_pos (True.intro : True)])); (try (first | rfl | (congr 2; omega) | (congr 1; congr 1; omega))); done)
        | exact zQm.b1 H3 (by omega) (by assumption) (by unfold sp_forth; (try unfold spPut); (try simp only [Int.toNat_natCast]); (repeat (first | rw [if_pos (by omega)] | rw [if_neg (by omega)] | rw [if_pos (by assumption)] | rw [if_neg (by assumption)] | rw [if_pos (True.intro : True)])); (try (first | rfl | (congr 2; omega) | (congr 1; congr 1; omega))); done)
        | exact zQm.b2 H3 (by omega) (by assumption) (by unfold sp_forth; (try unfold spPut); (try simp only [Int.toNat_natCast]); (repeat (first | rw [if_pos (by omega)] | rw [if_neg (by omega)] | rw [if_pos (by assumption)] | rw [if_neg (by assumption)] | rw [if_pos (True.intro : True)])); (try (first | rfl | (congr 2; omega) | (congr 1; congr 1; omega))); done)
        | exact zQm.b3 H3 (by omega) (by assumption) (by unfold sp_forth; (try unfold spPut); (try simp only [Int.toNat_natCast]); (repeat (first | rw [if_pos (by omega)] | rw [if_neg (by omega)] | rw [if_pos (by assumption)] | rw [if_neg (by assumption)] | rw [if_pos (True.intro : True)])); (try (first | rfl | (congr 2; omega) | (congr 1; congr 1; omega))); done)
        | exact zQm.ok H2 (by omega) (by assumption) (by unfold sp_forth; (try unfold spPut); (try simp only [Int.toNat_natCast]); (repeat (first | rw [if_pos (by omega)] | rw [if_neg (by omega)] | rw [if_pos (by assumption)] | rw [if_neg (by assumption)] | rw [if_pos (True.intro : True)])); (try (first | rfl | (congr 2; omega) | (congr 1; congr 1; omega))); done)
        | exact zQm.b1 H2 (by omega) (by assumption) (by unfold sp_forth; (try unfold spPut); (try simp only [Int.toNat_natCast]); (repeat (first | rw [if_pos (by omega)] | rw [if_neg (by omega)] | rw [if_pos (by assumption)] | rw [if_neg (by assumption)] | rw [if_pos (True.intro : True)])); (try (first | rfl | (congr 2; omega) | (congr 1; congr 1; omega))); done)
        | exact zQm.b2 H2 (by omega) (by assumption) (by unfold sp_forth; (try unfold spPut); (try simp only [Int.toNat_natCast]); (repeat (first | rw [if_pos (by omega)] | rw [if_neg (by omega)] | rw [if_pos (by assumption)] | rw [if_neg (by assumption)] | rw [if_pos (True.intro : True)])); (try (first | rfl | (congr 2; omega) | (congr 1; congr 1; omega))); done)
        | exact zQm.b3 H2 (by omega) (by assumption) (by unfold sp_forth; (try unfold spPut); (try simp only [Int.toNat_natCast]); (repeat (first | rw [if_pos (by omega)] | rw [if_neg (by omega)] | rw [if_pos (by assumption)] | rw [if_neg (by assumption)] | rw [if_pos (True.intro : True)])); (try (first | rfl | (congr 2; omega) | (congr 1; congr 1; omega))); done)
        | exact zQm.ok H1 (by omega) (by assumption) (by unfold sp_forth; (try unfold spPut); (try simp only [Int.toNat_natCast]); (repeat (first | rw [if_pos (by omega)] | rw [if_neg (by omega)] | rw [if_pos (by assumption)] | rw [if_neg (by assumption)] | rw [if_pos (True.intro : True)])); (try (first | rfl | (congr 2; omega) | (congr 1; congr 1; omega))); done)
        | exact zQm.b1 H1 (by omega) (by assumption) (by unfold sp_forth; (try unfold spPut); (try simp only [Int.toNat_natCast]); (repeat (first | rw [if_pos (by omega)] | rw [if_neg (by omega)] | rw [if_pos (by assumption)] | rw [if_neg (by assumption)] | rw [if_pos (True.intro : True)])); (try (first | rfl | (congr 2; omega) | (congr 1; congr 1; omega))); done)
        | exact zQm.b2 H1 (by omega) (by assumption) (by unfold sp_forth; (try unfold spPut); (try simp only [Int.toNat_natCast]); (repeat (first | rw [if_pos (by omega)] | rw [if_neg (by omega)] | rw [if_pos (by assumption)] | rw [if_neg (by assumption)] | rw [if_pos (True.intro : True)])); (try (first | rfl | (congr 2; omega) | (congr 1; congr 1; omega))); done)
        | exact zQm.b3 H1 (by omega) (by assumption) (by unfold sp_forth; (try unfold spPut); (try simp only [Int.toNat_natCast]); (repeat (first | rw [if_pos (by omega)] | rw [if_neg (by omega)] | rw [if_pos (by assumption)] | rw [if_neg (by assumption)] | rw [if_pos (True.intro : True)])); (try (first | rfl | (congr 2; omega) | (congr 1; congr 1; omega))); done)
theorem k_Mod_forth {p : Int} (H : zMod G h ma S th) (hp : zI32 p) (hO : zOk S) (h16 : ∀ k, k < 4 → (S.1 k).length ≤ 16) : zM G l hMod_forth yMod_forth 5 [.ref (ma 0), zi p] h (zQm G ma h 1 9 2 (sp_forth S p)) zNo 0 0 := by
  obtain ⟨m1, m2, ⟨g, m3, m3a⟩, m4, ⟨f6, m5, m5a⟩, m6, m7⟩ := id H
  unfold zMfs at m2
  refine zM.of [some (.ref (ma 0)), some (zi p)] (by decide +kernel) rfl (by decide) rfl (Nat.le_of_ble_eq_true rfl) rfl ?_
  refine z_aload_n dMod_forth_0 rfl ?_
  refine z_iload_n dMod_forth_1 rfl ?_
  refine z_iconst dMod_forth_2 ?_
  refine z_callV MV_Mod_asksOn lk_Mod_151 dMod_forth_3 (k_Mod_asksOn1 H hp hO h16) rfl rfl (Nat.le_of_ble_eq_true rfl) rfl (by assumption) (Nat.le_of_ble_eq_true rfl) (Nat.le_of_ble_eq_true rfl) (Nat.le_of_eq (Nat.zero_add _)) (Nat.le_of_eq (Nat.zero_add _)) (fun _ _ q => q.elim) ?_
  rintro _ h3 ⟨ma9, th9, z9, rfl, hq9⟩
  refine z_iret rfl rfl dMod_forth_6 ?_
  exact ⟨ma9, th9, z9, rfl, hq9⟩
theorem k_Mod_asksOn0 {p : Int} (H : zMod G h ma S th) (hp : zI32 p) (hO : zOk S) (h16 : ∀ k, k < 4 → (S.1 k).length ≤ 16) : zM G l hMod_asksOn yMod_asksOn 4 [.ref (ma 0), zi p, zi 0] h (zQm G ma h 1 9 2 (sp_back S p)) zNo 0 0 := by
  obtain ⟨m1, m2, ⟨g, m3, m3a⟩, m4, ⟨f6, m5, m5a⟩, m6, m7⟩ := id H
  unfold zMfs at m2
  refine zM.of [some (.ref (ma 0)), some (zi p), some (zi 0)] (by decide +kernel) rfl (by decide) rfl (Nat.le_of_ble_eq_true rfl) rfl ?_
  refine z_aload_n dMod_asksOn_0 rfl ?_
  refine z_iload_n dMod_asksOn_1 rfl ?_
  refine z_callS MS_Mod_isNoCursor lk_Mod_141 dMod_asksOn_2 (k_Mod_isNoCursor (by omega)) rfl rfl (Nat.le_of_ble_eq_true rfl)  (Nat.le_of_ble_eq_true rfl) (Nat.le_of_ble_eq_true rfl) (Nat.le_of_eq (Nat.zero_add _)) (Nat.le_of_eq (Nat.zero_add _)) (fun _ _ q => q.elim) ?_
  rintro _ _ ⟨n9c, rfl, (⟨rfl, hn9c⟩ | ⟨rfl, hn9c⟩), rfl⟩
  · refine z_aload_n dMod_asksOn_5 rfl ?_
    refine z_iload_n dMod_asksOn_6 rfl ?_
    refine z_callV MV_Mod_isNotThere lk_Mod_144 dMod_asksOn_7 (k_Mod_isNotThere H (by omega)) rfl rfl (Nat.le_of_ble_eq_true rfl) rfl (by assumption) (Nat.le_of_ble_eq_true rfl) (Nat.le_of_ble_eq_true rfl) (Nat.le_of_eq (Nat.zero_add _)) (Nat.le_of_eq (Nat.zero_add _)) (fun _ _ q => q.elim) ?_
    rintro _ _ ⟨t8, rfl, ht8, rfl⟩
    try simp only [Int.toNat_natCast] at ht8
    refine z_iconst dMod_asksOn_10 ?_
    refine z_callV MV_Mod_fails lk_Mod_88 dMod_asksOn_11 (k_Mod_fails (by assumption) rfl (by omega) (by omega) (by omega)) rfl rfl (Nat.le_of_ble_eq_true rfl) rfl (by assumption) (Nat.le_of_ble_eq_true rfl) (Nat.le_of_ble_eq_true rfl) (Nat.le_of_eq (Nat.zero_add _)) (Nat.le_of_eq (Nat.zero_add _)) (fun _ _ q => q.elim) ?_
    rintro _ h1 ⟨t9, b8, rfl, ht, p1, g1⟩
    have H1 : zMod G h1 ma S t9 := H.obj (nu := S.2.2.2.2) (th' := t9) p1 g1
    have fz1 : zMfr ma h h1 := zMfr.of0 g1
    obtain ⟨-, n2, ⟨gg, n3, n3a⟩, n4, ⟨f61, n5, n5a⟩, n6, n7⟩ := id H1
    unfold zMfs at n2
    refine z_if_eq (tgt := 19) dMod_asksOn_14 (by decide) (by omega) (fun c14 => ?_) (fun c14 => ?_)
    · exfalso; omega
    · refine z_iconst dMod_asksOn_17 ?_
      refine z_iret rfl rfl dMod_asksOn_18 ?_
      rcases (show t9 = 0 ∨ t9 = 1 ∨ t9 = 2 ∨ t9 = 3 by omega) with t0 | t0 | t0 | t0
      all_goals first
        | (exfalso; omega)
        | exact zQm.ok H3 (by omega) (by assumption) (by unfold sp_back; (try unfold spPut); (try simp only [Int.toNat_natCast]); (repeat (first | rw [if_pos (by omega)] | rw [if_neg (by omega)] | rw [if_pos (by assumption)] | rw [if_neg (by assumption)] | rw [if_pos (True.intro : True)])); (try (first | rfl | (congr 2; omega) | (congr 1; congr 1; omega))); done)
        | exact zQm.b1 H3 (by omega) (by assumption) (by unfold sp_back; (try unfold spPut); (try simp only [Int.toNat_natCast]); (repeat (first | rw [if_pos (by omega)] | rw [if_neg (by omega)] | rw [if_pos (by assumption)] | rw [if_neg (by assumption)] | rw [if_pos (True.intro : True)])); (try (first | rfl | (congr 2; omega) | (congr 1; congr 1; omega))); done)
        | exact zQm.b2 H3 (by omega) (by assumption) (by unfold sp_back; (try unfold spPut); (try simp only [Int.toNat_natCast]); (repeat (first | rw [if_pos (by omega)] | rw [if_neg (by omega)] | rw [if_pos (by assumption)] | rw [if_neg (by assumption)] | rw [if_pos (True.intro : True)])); (try (first | rfl | (congr 2; omega) | (congr 1; congr 1; omega))); done)
        | exact zQm.b3 H3 (by omega) (by assumption) (by unfold sp_back; (try unfold spPut); (try simp only [Int.toNat_natCast]); (repeat (first | rw [if_pos (by omega)] | rw [if_neg (by omega)] | rw [if_pos (by assumption)] | rw [if_neg (by assumption)] | rw [if_pos (True.intro : True)])); (try (first | rfl | (congr 2; omega) | (congr 1; congr 1; omega))); done)
        | exact zQm.ok H2 (by omega) (by assumption) (by unfold sp_back; (try unfold spPut); (try simp only [Int.toNat_natCast]); (repeat (first | rw [if_pos (by omega)] | rw [if_neg (by omega)] | rw [if_pos (by assumption)] | rw [if_neg (by assumption)] | rw [if_pos (True.intro : True)])); (try (first | rfl | (congr 2; omega) | (congr 1; congr 1; omega))); done)
        | exact zQm.b1 H2 (by omega) (by assumption) (by unfold sp_back; (try unfold spPut); (try simp only [Int.toNat_natCast]); (repeat (first | rw [if_pos (by omega)] | rw [if_neg (by omega)] | rw [if_pos (by assumption)] | rw [if_neg (by assumption)] | rw [if_pos (True.intro : True)])); (try (first | rfl | (congr 2; omega) | (congr 1; congr 1; omega))); done)
        | exact zQm.b2 H2 (by omega) (by assumption) (by unfold sp_back; (try unfold spPut); (try simp only [Int.toNat_natCast]); (repeat (first | rw [if_pos (by omega)] | rw [if_neg (by omega)] | rw [if_pos (by assumption)] | rw [if_neg (by assumption)] | rw [if_pos (True.intro : True)])); (try (first | rfl | (congr 2; omega) | (congr 1; congr 1; omega))); done)
        | exact zQm.b3 H2 (by omega) (by assumption) (by unfold sp_back; (try unfold spPut); (try simp only [Int.toNat_natCast]); (repeat (first | rw [if_pos (by omega)] | rw [if_neg (by omega)] | rw [if_pos (by assumption)] | rw [if_neg (by assumption)] | rw [if_pos (True.intro : True)])); (try (first | rfl | (congr 2; omega) | (congr 1; congr 1; omega))); done)
        | exact zQm.ok H1 (by omega) (by assumption) (by unfold sp_back; (try unfold spPut); (try simp only [Int.toNat_natCast]); (repeat (first | rw [if_pos (by omega)] | rw [if_neg (by omega)] | rw [if_pos (by assumption)] | rw [if_neg (by assumption)] | rw [if_pos (True.intro : True)])); (try (first | rfl | (congr 2; omega) | (congr 1; congr 1; omega))); done)
        | exact zQm.b1 H1 (by omega) (by assumption) (by unfold sp_back; (try unfold spPut); (try simp only [Int.toNat_natCast]); (repeat (first | rw [if_pos (by omega)] | rw [if_neg (by omega)] | rw [if_pos (by assumption)] | rw [if_neg (by assumption)] | rw [if_pos (True.intro : True)])); (try (first | rfl | (congr 2; omega) | (congr 1; congr 1; omega))); done)
        | exact zQm.b2 H1 (by omega) (by assumption) (by unfold sp_back; (try unfold spPut); (try simp only [Int.toNat_natCast]); (repeat (first | rw [if_pos (by omega)] | rw [if_neg (by omega)] | rw [if_pos (by assumption)] | rw [if_neg (by assumption)] | rw [if_pos (True.intro : True)])); (try (first | rfl | (congr 2; omega) | (congr 1; congr 1; omega))); done)
        | exact zQm.b3 H1 (by omega) (by assumption) (by unfold sp_back; (try unfold spPut); (try simp only [Int.toNat_natCast]); (repeat (first | rw [if_pos (by omega)] | rw [if_neg (by omega)] | rw [if_pos (by assumption)] | rw [if_neg (by assumption)] | rw [if_pos (True.intro : True)])); (try (first | rfl | (congr 2; omega) | (congr 1; congr 1; omega))); done)
  · obtain ⟨c, rfl⟩ := Int.eq_ofNat_of_zero_le (show 0 ≤ p by omega)
    have hc : c < 3 := by omega
    refine z_aload_n dMod_asksOn_5 rfl ?_
    refine z_iload_n dMod_asksOn_6 rfl ?_
    refine z_callV MV_Mod_isNotThere lk_Mod_144 dMod_asksOn_7 (k_Mod_isNotThere H (by omega)) rfl rfl (Nat.le_of_ble_eq_true rfl) rfl (by assumption) (Nat.le_of_ble_eq_true rfl) (Nat.le_of_ble_eq_true rfl) (Nat.le_of_eq (Nat.zero_add _)) (Nat.le_of_eq (Nat.zero_add _)) (fun _ _ q => q.elim) ?_
    rintro _ _ ⟨t8, rfl, ht8, rfl⟩
    try simp only [Int.toNat_natCast] at ht8
    refine z_iconst dMod_asksOn_10 ?_
    refine z_callV MV_Mod_fails lk_Mod_88 dMod_asksOn_11 (k_Mod_fails (by assumption) rfl (by omega) (by omega) (by omega)) rfl rfl (Nat.le_of_ble_eq_true rfl) rfl (by assumption) (Nat.le_of_ble_eq_true rfl) (Nat.le_of_ble_eq_true rfl) (Nat.le_of_eq (Nat.zero_add _)) (Nat.le_of_eq (Nat.zero_add _)) (fun _ _ q => q.elim) ?_
    rintro _ h1 ⟨t9, b8, rfl, ht, p1, g1⟩
    have H1 : zMod G h1 ma S t9 := H.obj (nu := S.2.2.2.2) (th' := t9) p1 g1
    have fz1 : zMfr ma h h1 := zMfr.of0 g1
    obtain ⟨-, n2, ⟨gg, n3, n3a⟩, n4, ⟨f61, n5, n5a⟩, n6, n7⟩ := id H1
    unfold zMfs at n2
    refine z_if_eq (tgt := 19) dMod_asksOn_14 (by decide) (by omega) (fun c14 => ?_) (fun c14 => ?_)
    · obtain ⟨⟨v1, a1, b1⟩, ⟨v2, a2, b2⟩, ⟨v3, a3, b3⟩, ⟨v4, a4, b4⟩, ⟨v5, a5, b5⟩⟩ := id n4
      have hth : S.2.1 c 0 = 1 := by omega
      have b1c := b1 c (by omega)
      have b2c := b2 c (by omega)
      have b3c := b3 c (by omega)
      have b4c := b4 c (by omega)
      have b5c := b5 c (by omega)
      have e2 := b2c.2 hth
      have e3 := b3c.2 hth
      have e4 := b4c.2 hth
      have e5 := b5c.2 hth
      have ok9 := hO.1 c (by omega) hth
      obtain ⟨kk, ek⟩ := Int.eq_ofNat_of_zero_le ok9.1.1
      refine z_aload_n dMod_asksOn_19 rfl ?_
      refine z_get (k := 2) fd_Mod (by decide) fl_Mod_18 dMod_asksOn_20 (by assumption) (by rfl) ?_
      refine z_iload_n dMod_asksOn_23 rfl ?_
      refine z_zald dMod_asksOn_24 (by assumption) (by refine ⟨?_, ?_, ?_⟩ <;> omega) ?_
      rw [Int.toNat_natCast]
      rw [e2]
      refine z_if_eq (tgt := 35) dMod_asksOn_25 (by decide) (by omega) (fun c25 => ?_) (fun c25 => ?_)
      · refine z_aload_n dMod_asksOn_35 rfl ?_
        refine z_iload_n dMod_asksOn_36 rfl ?_
        refine z_iload_n dMod_asksOn_37 rfl ?_
        refine z_callV MV_Mod_goes lk_Mod_147 dMod_asksOn_38 (k_Mod_goesB H1 hc hth ek (by omega) h16 (by omega)) rfl rfl (Nat.le_of_ble_eq_true rfl) rfl (by assumption) (Nat.le_of_ble_eq_true rfl) (Nat.le_of_ble_eq_true rfl) (Nat.le_of_eq (Nat.zero_add _)) (Nat.le_of_eq (Nat.zero_add _)) (fun _ _ q => q.elim) ?_
        rintro _ h3 (⟨hP, rfl, H3, g3⟩ | ⟨hP, rfl, rfl⟩)
        · have fz3 : zMfr ma h h3 := fz1.tr (zMfr.of2 (i := 5) (j := 6) (by omega) (by omega) g3)
          refine z_iret rfl rfl dMod_asksOn_41 ?_
          rcases (show t9 = 0 ∨ t9 = 1 ∨ t9 = 2 ∨ t9 = 3 by omega) with t0 | t0 | t0 | t0
          all_goals first
            | (exfalso; omega)
            | exact zQm.ok H3 (by omega) (by assumption) (by unfold sp_back; (try unfold spPut); (try simp only [Int.toNat_natCast]); (repeat (first | rw [if_pos (by omega)] | rw [if_neg (by omega)] | rw [if_pos (by assumption)] | rw [if_neg (by assumption)] | rw [if_pos (True.intro : True)])); (try (first | rfl | (congr 2; omega) | (congr 1; congr 1; omega))); done)
            | exact zQm.b1 H3 (by omega) (by assumption) (by unfold sp_back; (try unfold spPut); (try simp only [Int.toNat_natCast]); (repeat (first | rw [if_pos (by omega)] | rw [if_neg (by omega)] | rw [if_pos (by assumption)] | rw [if_neg (by assumption)] | rw [if_pos (True.intro : True)])); (try (first | rfl | (congr 2; omega) | (congr 1; congr 1; omega))); done)
            | exact zQm.b2 H3 (by omega) (by assumption) (by unfold sp_back; (try unfold spPut); (try simp only [Int.toNat_natCast]); (repeat (first | rw [if_pos (by omega)] | rw [if_neg (by omega)] | rw [if_pos (by assumption)] | rw [if_neg (by assumption)] | rw [if_pos (True.intro : True)])); (try (first | rfl | (congr 2; omega) | (congr 1; congr 1; omega))); done)
            | exact zQm.b3 H3 (by omega) (by assumption) (by unfold sp_back; (try unfold spPut); (try simp only [Int.toNat_natCast]); (repeat (first | rw [if_pos (by omega)] | rw [if_neg (by omega)] | rw [if_pos (by assumption)] | rw [if_neg (by assumption)] | rw [if_pos (True.intro : True)])); (try (first | rfl | (congr 2; omega) | (congr 1; congr 1; omega))); done)
            | exact zQm.ok H2 (by omega) (by assumption) (by unfold sp_back; (try unfold spPut); (try simp only [Int.toNat_natCast]); (repeat (first | rw [if_pos (by omega)] | rw [if_neg (by omega)] | rw [if_pos (by assumption)] | rw [if_neg (by assumption)] | rw [if_pos (True.intro : True)])); (try (first | rfl | (congr 2; omega) | (congr 1; congr 1; omega))); done)
            | exact zQm.b1 H2 (by omega) (by assumption) (by unfold sp_back; (try unfold spPut); (try simp only [Int.toNat_natCast]); (repeat (first | rw [if_pos (by omega)] | rw [if_neg (by omega)] | rw [if_pos (by assumption)] | rw [if_neg (by assumption)] | rw [if_pos (True.intro : True)])); (try (first | rfl | (congr 2; omega) | (congr 1; congr 1; omega))); done)
            | exact zQm.b2 H2 (by omega) (by assumption) (by unfold sp_back; (try unfold spPut); (try simp only [Int.toNat_natCast]); (repeat (first | rw [if_pos (by omega)] | rw [if_neg (by omega)] | rw [if_pos (by assumption)] | rw [if_neg (by assumption)] | rw [if_pos (True.intro : True)])); (try (first | rfl | (congr 2; omega) | (congr 1; congr 1; omega))); done)
            | exact zQm.b3 H2 (by omega) (by assumption) (by unfold sp_back; (try unfold spPut); (try simp only [Int.toNat_natCast]); (repeat (first | rw [if_pos (by omega)] | rw [if_neg (by omega)] | rw [if_pos (by assumption)] | rw [if_neg (by assumption)] | rw [if_pos (True.intro : True)])); (try (first | rfl | (congr 2; omega) | (congr 1; congr 1; omega))); done)
            | exact zQm.ok H1 (by omega) (by assumption) (by unfold sp_back; (try unfold spPut); (try simp only [Int.toNat_natCast]); (repeat (first | rw [if_pos (by omega)] | rw [if_neg (by omega)] | rw [if_pos (by assumption)] | rw [if_neg (by assumption)] | rw [if_pos (True.intro : True)])); (try (first | rfl | (congr 2; omega) | (congr 1; congr 1; omega))); done)
            | exact zQm.b1 H1 (by omega) (by assumption) (by unfold sp_back; (try unfold spPut); (try simp only [Int.toNat_natCast]); (repeat (first | rw [if_pos (by omega)] | rw [if_neg (by omega)] | rw [if_pos (by assumption)] | rw [if_neg (by assumption)] | rw [if_pos (True.intro : True)])); (try (first | rfl | (congr 2; omega) | (congr 1; congr 1; omega))); done)
            | exact zQm.b2 H1 (by omega) (by assumption) (by unfold sp_back; (try unfold spPut); (try simp only [Int.toNat_natCast]); (repeat (first | rw [if_pos (by omega)] | rw [if_neg (by omega)] | rw [if_pos (by assumption)] | rw [if_neg (by assumption)] | rw [if_pos (True.intro : True)])); (try (first | rfl | (congr 2; omega) | (congr 1; congr 1; omega))); done)
            | exact zQm.b3 H1 (by omega) (by assumption) (by unfold sp_back; (try unfold spPut); (try simp only [Int.toNat_natCast]); (repeat (first | rw [if_pos (by omega)] | rw [if_neg (by omega)] | rw [if_pos (by assumption)] | rw [if_neg (by assumption)] | rw [if_pos (True.intro : True)])); (try (first | rfl | (congr 2; omega) | (congr 1; congr 1; omega))); done)
        · refine z_iret rfl rfl dMod_asksOn_41 ?_
          rcases (show t9 = 0 ∨ t9 = 1 ∨ t9 = 2 ∨ t9 = 3 by omega) with t0 | t0 | t0 | t0
          all_goals first
            | (exfalso; omega)
            | exact zQm.ok H3 (by omega) (by assumption) (by unfold sp_back; (try unfold spPut); (try simp only [Int.toNat_natCast]); (repeat (first | rw [if_pos (by omega)] | rw [if_neg (by omega)] | rw [if_pos (by assumption)] | rw [if_neg (by assumption)] | rw [if_pos (True.intro : True)])); (try (first | rfl | (congr 2; omega) | (congr 1; congr 1; omega))); done)
            | exact zQm.b1 H3 (by omega) (by assumption) (by unfold sp_back; (try unfold spPut); (try simp only [Int.toNat_natCast]); (repeat (first | rw [if_pos (by omega)] | rw [if_neg (by omega)] | rw [if_pos (by assumption)] | rw [if_neg (by assumption)] | rw [if_pos (True.intro : True)])); (try (first | rfl | (congr 2; omega) | (congr 1; congr 1; omega))); done)
            | exact zQm.b2 H3 (by omega) (by assumption) (by unfold sp_back; (try unfold spPut); (try simp only [Int.toNat_natCast]); (repeat (first | rw [if_pos (by omega)] | rw [if_neg (by omega)] | rw [if_pos (by assumption)] | rw [if_neg (by assumption)] | rw [if_pos (True.intro : True)])); (try (first | rfl | (congr 2; omega) | (congr 1; congr 1; omega))); done)
            | exact zQm.b3 H3 (by omega) (by assumption) (by unfold sp_back; (try unfold spPut); (try simp only [Int.toNat_natCast]); (repeat (first | rw [if_pos (by omega)] | rw [if_neg (by omega)] | rw [if_pos (by assumption)] | rw [if_neg (by assumption)] | rw [if_pos (True.intro : True)])); (try (first | rfl | (congr 2; omega) | (congr 1; congr 1; omega))); done)
            | exact zQm.ok H2 (by omega) (by assumption) (by unfold sp_back; (try unfold spPut); (try simp only [Int.toNat_natCast]); (repeat (first | rw [if_pos (by omega)] | rw [if_neg (by omega)] | rw [if_pos (by assumption)] | rw [if_neg (by assumption)] | rw [if_pos (True.intro : True)])); (try (first | rfl | (congr 2; omega) | (congr 1; congr 1; omega))); done)
            | exact zQm.b1 H2 (by omega) (by assumption) (by unfold sp_back; (try unfold spPut); (try simp only [Int.toNat_natCast]); (repeat (first | rw [if_pos (by omega)] | rw [if_neg (by omega)] | rw [if_pos (by assumption)] | rw [if_neg (by assumption)] | rw [if_pos (True.intro : True)])); (try (first | rfl | (congr 2; omega) | (congr 1; congr 1; omega))); done)
            | exact zQm.b2 H2 (by omega) (by assumption) (by unfold sp_back; (try unfold spPut); (try simp only [Int.toNat_natCast]); (repeat (first | rw [if_pos (by omega)] | rw [if_neg (by omega)] | rw [if_pos (by assumption)] | rw [if_neg (by assumption)] | rw [if_pos (True.intro : True)])); (try (first | rfl | (congr 2; omega) | (congr 1; congr 1; omega))); done)
            | exact zQm.b3 H2 (by omega) (by assumption) (by unfold sp_back; (try unfold spPut); (try simp only [Int.toNat_natCast]); (repeat (first | rw [if_pos (by omega)] | rw [if_neg (by omega)] | rw [if_pos (by assumption)] | rw [if_neg (by assumption)] | rw [if_pos (True.intro : True)])); (try (first | rfl | (congr 2; omega) | (congr 1; congr 1; omega))); done)
            | exact zQm.ok H1 (by omega) (by assumption) (by unfold sp_back; (try unfold spPut); (try simp only [Int.toNat_natCast]); (repeat (first | rw [if_pos (by omega)] | rw [if_neg (by omega)] | rw [if_pos (by assumption)] | rw [if_neg (by assumption)] | rw [if_pos (True.intro : True)])); (try (first | rfl | (congr 2; omega) | (congr 1; congr 1; omega))); done)
            | exact zQm.b1 H1 (by omega) (by assumption) (by unfold sp_back; (try unfold spPut); (try simp only [Int.toNat_natCast]); (repeat (first | rw [if_pos (by omega)] | rw [if_neg (by omega)] | rw [if_pos (by assumption)] | rw [if_neg (by assumption)] | rw [if_pos (True.intro : True)])); (try (first | rfl | (congr 2; omega) | (congr 1; congr 1; omega))); done)
            | exact zQm.b2 H1 (by omega) (by assumption) (by unfold sp_back; (try unfold spPut); (try simp only [Int.toNat_natCast]); (repeat (first | rw [if_pos (by omega)] | rw [if_neg (by omega)] | rw [if_pos (by assumption)] | rw [if_neg (by assumption)] | rw [if_pos (True.intro : True)])); (try (first | rfl | (congr 2; omega) | (congr 1; congr 1; omega))); done)
            | exact zQm.b3 H1 (by omega) (by assumption) (by unfold sp_back; (try unfold spPut); (try simp only [Int.toNat_natCast]); (repeat (first | rw [if_pos (by omega)] | rw [if_neg (by omega)] | rw [if_pos (by assumption)] | rw [if_neg (by assumption)] | rw [if_pos (True.intro : True)])); (try (first | rfl | (congr 2; omega) | (congr 1; congr 1; omega))); done)
      · refine z_aload_n dMod_asksOn_28 rfl ?_
        refine z_callV MV_Mod_refused lk_Mod_92 dMod_asksOn_29 (k_Mod_refused n2 rfl rfl) rfl rfl (Nat.le_of_ble_eq_true rfl) rfl (by assumption) (Nat.le_of_ble_eq_true rfl) (Nat.le_of_ble_eq_true rfl) (Nat.le_of_eq (Nat.zero_add _)) (Nat.le_of_eq (Nat.zero_add _)) (fun _ _ q => q.elim) ?_
        rintro _ h2 ⟨rfl, p2, g2⟩
        have H2 : zMod G h2 ma (zsRef S) t9 := H1.obj (nu := zup S.2.2.2.2 1 (S.2.2.2.2 1 + 1)) p2 g2
        have fz2 : zMfr ma h h2 := zMfr.of0 (fun q hq => (g2 q hq).trans (g1 q hq))
        refine z_goto (tgt := 41) dMod_asksOn_32 (by decide) ?_
        refine z_iret rfl rfl dMod_asksOn_41 ?_
        rcases (show t9 = 0 ∨ t9 = 1 ∨ t9 = 2 ∨ t9 = 3 by omega) with t0 | t0 | t0 | t0
        all_goals first
          | (exfalso; omega)
          | exact zQm.ok H3 (by omega) (by assumption) (by unfold sp_back; (try unfold spPut); (try simp only [Int.toNat_natCast]); (repeat (first | rw [if_pos (by omega)] | rw [if_neg (by omega)] | rw [if_pos (by assumption)] | rw [if_neg (by assumption)] | rw [if_pos (True.intro : True)])); (try (first | rfl | (congr 2; omega) | (congr 1; congr 1; omega))); done)
          | exact zQm.b1 H3 (by omega) (by assumption) (by unfold sp_back; (try unfold spPut); (try simp only [Int.toNat_natCast]); (repeat (first | rw [if_pos (by omega)] | rw [if_neg (by omega)] | rw [if_pos (by assumption)] | rw [if_neg (by assumption)] | rw [if_pos (True.intro : True)])); (try (first | rfl | (congr 2; omega) | (congr 1; congr 1; omega))); done)
          | exact zQm.b2 H3 (by omega) (by assumption) (by unfold sp_back; (try unfold spPut); (try simp only [Int.toNat_natCast]); (repeat (first | rw [if_pos (by omega)] | rw [if_neg (by omega)] | rw [if_pos (by assumption)] | rw [if_neg (by assumption)] | rw [if_pos (True.intro : True)])); (try (first | rfl | (congr 2; omega) | (congr 1; congr 1; omega))); done)
          | exact zQm.b3 H3 (by omega) (by assumption) (by unfold sp_back; (try unfold spPut); (try simp only [Int.toNat_natCast]); (repeat (first | rw [if_pos (by omega)] | rw [if_neg (by omega)] | rw [if_pos (by assumption)] | rw [if_neg (by assumption)] | rw [if_pos (True.intro : True)])); (try (first | rfl | (congr 2; omega) | (congr 1; congr 1; omega))); done)
          | exact zQm.ok H2 (by omega) (by assumption) (by unfold sp_back; (try unfold spPut); (try simp only [Int.toNat_natCast]); (repeat (first | rw [if_pos (by omega)] | rw [if_neg (by omega)] | rw [if_pos (by assumption)] | rw [if_neg (by assumption)] | rw [if_pos (True.intro : True)])); (try (first | rfl | (congr 2; omega) | (congr 1; congr 1; omega))); done)
          | exact zQm.b1 H2 (by omega) (by assumption) (by unfold sp_back; (try unfold spPut); (try simp only [Int.toNat_natCast]); (repeat (first | rw [if_pos (by omega)] | rw [if_neg (by omega)] | rw [if_pos (by assumption)] | rw [if_neg (by assumption)] | rw [if_pos (True.intro : True)])); (try (first | rfl | (congr 2; omega) | (congr 1; congr 1; omega))); done)
          | exact zQm.b2 H2 (by omega) (by assumption) (by unfold sp_back; (try unfold spPut); (try simp only [Int.toNat_natCast]); (repeat (first | rw [if_pos (by omega)] | rw [if_neg (by omega)] | rw [if_pos (by assumption)] | rw [if_neg (by assumption)] | rw [if_pos (True.intro : True)])); (try (first | rfl | (congr 2; omega) | (congr 1; congr 1; omega))); done)
          | exact zQm.b3 H2 (by omega) (by assumption) (by unfold sp_back; (try unfold spPut); (try simp only [Int.toNat_natCast]); (repeat (first | rw [if_pos (by omega)] | rw [if_neg (by omega)] | rw [if_pos (by assumption)] | rw [if_neg (by assumption)] | rw [if_pos (True.intro : True)])); (try (first | rfl | (congr 2; omega) | (congr 1; congr 1; omega))); done)
          | exact zQm.ok H1 (by omega) (by assumption) (by unfold sp_back; (try unfold spPut); (try simp only [Int.toNat_natCast]); (repeat (first | rw [if_pos (by omega)] | rw [if_neg (by omega)] | rw [if_pos (by assumption)] | rw [if_neg (by assumption)] | rw [if_pos (True.intro : True)])); (try (first | rfl | (congr 2; omega) | (congr 1; congr 1; omega))); done)
          | exact zQm.b1 H1 (by omega) (by assumption) (by unfold sp_back; (try unfold spPut); (try simp only [Int.toNat_natCast]); (repeat (first | rw [if_pos (by omega)] | rw [if_neg (by omega)] | rw [if_pos (by assumption)] | rw [if_neg (by assumption)] | rw [if_pos (True.intro : True)])); (try (first | rfl | (congr 2; omega) | (congr 1; congr 1; omega))); done)
          | exact zQm.b2 H1 (by omega) (by assumption) (by unfold sp_back; (try unfold spPut); (try simp only [Int.toNat_natCast]); (repeat (first | rw [if_pos (by omega)] | rw [if_neg (by omega)] | rw [if_pos (by assumption)] | rw [if_neg (by assumption)] | rw [if_pos (True.intro : True)])); (try (first | rfl | (congr 2; omega) | (congr 1; congr 1; omega))); done)
          | exact zQm.b3 H1 (by omega) (by assumption) (by unfold sp_back; (try unfold spPut); (try simp only [Int.toNat_natCast]); (repeat (first | rw [if_pos (by omega)] | rw [if_neg (by omega)] | rw [if_pos (by assumption)] | rw [if_neg (by assumption)] | rw [if_pos (True.intro : True)])); (try (first | rfl | (congr 2; omega) | (congr 1; congr 1; omega))); done)
    · refine z_iconst dMod_asksOn_17 ?_
      refine z_iret rfl rfl dMod_asksOn_18 ?_
      rcases (show t9 = 0 ∨ t9 = 1 ∨ t9 = 2 ∨ t9 = 3 by omega) with t0 | t0 | t0 | t0
      all_goals first
        | (exfalso; omega)
        | exact zQm.ok H3 (by omega) (by assumption) (by unfold sp_back; (try unfold spPut); (try simp only [Int.toNat_natCast]); (repeat (first | rw [if_pos (by omega)] | rw [if_neg (by omega)] | rw [if_pos (by assumption)] | rw [if_neg (by assumption)] | rw [if_pos (True.intro : True)])); (try (first | rfl | (congr 2; omega) | (congr 1; congr 1; omega))); done)
        | exact zQm.b1 H3 (by omega) (by assumption) (by unfold sp_back; (try unfold spPut); (try simp only [Int.toNat_natCast]); (repeat (first | rw [if_pos (by omega)] | rw [if_neg (by omega)] | rw [if_pos (by assumption)] | rw [if_neg (by assumption)] | rw [if_pos (True.intro : True)])); (try (first | rfl | (congr 2; omega) | (congr 1; congr 1; omega))); done)
        | exact zQm.b2 H3 (by omega) (by assumption) (by unfold sp_back; (try unfold spPut); (try simp only [Int.toNat_natCast]); (repeat (first | rw [if_pos (by omega)] | rw [if_neg (by omega)] | rw [if_pos (by assumption)] | rw [if_neg (by assumption)] | rw [if_pos (True.intro : True)])); (try (first | rfl | (congr 2; omega) | (congr 1; congr 1; omega))); done)
        | exact zQm.b3 H3 (by omega) (by assumption) (by unfold sp_back; (try unfold spPut); (try simp only [Int.toNat_natCast]); (repeat (first | rw [if_pos (by omega)] | rw [if_neg (by omega)] | rw [if_pos (by assumption)] | rw [if_neg (by assumption)] | rw [if_pos (True.intro : True)])); (try (first | rfl | (congr 2; omega) | (congr 1; congr 1; omega))); done)
        | exact zQm.ok H2 (by omega) (by assumption) (by unfold sp_back; (try unfold spPut); (try simp only [Int.toNat_natCast]); (repeat (first | rw [if_pos (by omega)] | rw [if_neg (by omega)] | rw [if_pos (by assumption)] | rw [if_neg (by assumption)] | rw [if_pos (True.intro : True)])); (try (first | rfl | (congr 2; omega) | (congr 1; congr 1; omega))); done)
        | exact zQm.b1 H2 (by omega) (by assumption) (by unfold sp_back; (try unfold spPut); (try simp only [Int.toNat_natCast]); (repeat (first | rw [if_pos (by omega)] | rw [if_neg (by omega)] | rw [if_pos (by assumption)] | rw [if_neg (by assumption)] | rw [if_pos (True.intro : True)])); (try (first | rfl | (congr 2; omega) | (congr 1; congr 1; omega))); done)
        | exact zQm.b2 H2 (by omega) (by assumption) (by unfold sp_back; (try unfold spPut); (try simp only [Int.toNat_natCast]); (repeat (first | rw [if_pos (by omega)] | rw [if_neg (by omega)] | rw [if_pos (by assumption)] | rw [if_neg (by assumption)] | rw [if_pos (True.intro : True)])); (try (first | rfl | (congr 2; omega) | (congr 1; congr 1; omega))); done)
        | exact zQm.b3 H2 (by omega) (by assumption) (by unfold sp_back; (try unfold spPut); (try simp only [Int.toNat_natCast]); (repeat (first | rw [if_pos (by omega)] | rw [if_neg (by omega)] | rw [if_pos (by assumption)] | rw [if_neg (by assumption)] | rw [if_pos (True.intro : True)])); (try (first | rfl | (congr 2; omega) | (congr 1; congr 1; omega))); done)
        | exact zQm.ok H1 (by omega) (by assumption) (by unfold sp_back; (try unfold spPut); (try simp only [Int.toNat_natCast]); (repeat (first | rw [if_pos (by omega)] | rw [if_neg (by omega)] | rw [if_pos (by assumption)] | rw [if_neg (by assumption)] | rw [if_pos (True.intro : True)])); (try (first | rfl | (congr 2; omega) | (congr 1; congr 1; omega))); done)
        | exact zQm.b1 H1 (by omega) (by assumption) (by unfold sp_back; (try unfold spPut); (try simp only [Int.toNat_natCast]); (repeat (first | rw [if_pos (by omega)] | rw [if_neg (by omega)] | rw [if_pos (by assumption)] | rw [if_neg (by assumption)] | rw [if_pos (True.intro : True)])); (try (first | rfl | (congr 2; omega) | (congr 1; congr 1; omega))); done)
        | exact zQm.b2 H1 (by omega) (by assumption) (by unfold sp_back; (try unfold spPut); (try simp only [Int.toNat_natCast]); (repeat (first | rw [if_pos (by omega)] | rw [if_neg (by omega)] | rw [if_pos (by assumption)] | rw [if_neg (by assumption)] | rw [if_pos (True.intro : True)])); (try (first | rfl | (congr 2; omega) | (congr 1; congr 1; omega))); done)
        | exact zQm.b3 H1 (by omega) (by assumption) (by unfold sp_back; (try unfold spPut); (try simp only [Int.toNat_natCast]); (repeat (first | rw [if_pos (by omega)] | rw [if_neg (by omega)] | rw [if_pos (by assumption)] | rw [if_neg (by assumption)] | rw [if_pos (True.intro : True)])); (try (first | rfl | (congr 2; omega) | (congr 1; congr 1; omega))); done)
theorem k_Mod_back {p : Int} (H : zMod G h ma S th) (hp : zI32 p) (hO : zOk S) (h16 : ∀ k, k < 4 → (S.1 k).length ≤ 16) : zM G l hMod_back yMod_back 5 [.ref (ma 0), zi p] h (zQm G ma h 1 9 2 (sp_back S p)) zNo 0 0 := by
  obtain ⟨m1, m2, ⟨g, m3, m3a⟩, m4, ⟨f6, m5, m5a⟩, m6, m7⟩ := id H
  unfold zMfs at m2
  refine zM.of [some (.ref (ma 0)), some (zi p)] (by decide +kernel) rfl (by decide) rfl (Nat.le_of_ble_eq_true rfl) rfl ?_
  refine z_aload_n dMod_back_0 rfl ?_
  refine z_iload_n dMod_back_1 rfl ?_
  refine z_iconst dMod_back_2 ?_
  refine z_callV MV_Mod_asksOn lk_Mod_151 dMod_back_3 (k_Mod_asksOn0 H hp hO h16) rfl rfl (Nat.le_of_ble_eq_true rfl) rfl (by assumption) (Nat.le_of_ble_eq_true rfl) (Nat.le_of_ble_eq_true rfl) (Nat.le_of_eq (Nat.zero_add _)) (Nat.le_of_eq (Nat.zero_add _)) (fun _ _ q => q.elim) ?_
  rintro _ h3 ⟨ma9, th9, z9, rfl, hq9⟩
  refine z_iret rfl rfl dMod_back_6 ?_
  exact ⟨ma9, th9, z9, rfl, hq9⟩
end MOD14
end
section
section MOD15
variable {G : zG} {l : Launch} {h h' h'' : zHp} {ma : Nat → Nat} {S : zSt} {th : Int}
theorem zMfr.cu (hf : ∀ z, (∀ i, 2 ≤ i → i ≤ 6 → z ≠ ma i) → h' z = h z) : zMfr ma h h' := fun q e he hq => (hf q (fun i _ h6 => hq i (by omega))).trans he
theorem zMod.cusF {cu' : Nat → Nat → Int} (H : zMod G h ma S th) (hc : zMcu G h' ma cu') (hf : ∀ z, (∀ i, 2 ≤ i → i ≤ 6 → z ≠ ma i) → h' z = h z) : zMod G h' ma (zsC S cu') th := H.cus hc (fun i hi hr => hf _ (fun j h2 h6 => H.inj hi (by omega) (by omega)))
theorem zsSt_cur (S : zSt) (k : Int) (c : Nat) (X : Nat → Int) : zsC (zsStale S k c) (zup (zsStale S k c).2.1 c X) = zsStale (zsC S (zup S.2.1 c X)) k c := by
  have e : zup (zsStale S k c).2.1 c X = (zsStale (zsC S (zup S.2.1 c X)) k c).2.1 := by
    funext j f
    by_cases e : j = c
    · subst e
      rw [zup_same]
      show X f = if j < 3 ∧ f = 1 ∧ zup S.2.1 j X j 0 = 1 ∧ zup S.2.1 j X j 2 = k ∧ (j : Int) ≠ (j : Int) then 1 else zup S.2.1 j X j f
      rw [if_neg (fun z => z.2.2.2.2 rfl), zup_same]
    · rw [zup_ne e]
      show (if j < 3 ∧ f = 1 ∧ S.2.1 j 0 = 1 ∧ S.2.1 j 2 = k ∧ (j : Int) ≠ (c : Int) then 1 else S.2.1 j f) = if j < 3 ∧ f = 1 ∧ zup S.2.1 c X j 0 = 1 ∧ zup S.2.1 c X j 2 = k ∧ (j : Int) ≠ (c : Int) then 1 else zup S.2.1 c X j f
      rw [zup_ne e]
  rw [e]
  rfl
theorem zstc (S : zSt) (k : Int) (c f : Nat) : (zsStale S k c).2.1 c f = S.2.1 c f := if_neg (fun z => z.2.2.2.2 rfl)
theorem k_Mod_open {c p q : Int} (H : zMod G h ma S th) (z_c : zI32 c) (z_p : zI32 p) (z_q : zI32 q) (h16 : ∀ k, k < 4 → (S.1 k).length ≤ 16) : zM G l hMod_open yMod_open 4 [.ref (ma 0), zi c, zi p, zi q] h (zQm G ma h (1) (9) (9) (sp_open S c p q)) zNo 0 0 := by
  obtain ⟨m1, m2, ⟨g, m3, m3a⟩, m4, ⟨f6, m5, m5a⟩, m6, m7⟩ := id H
  unfold zMfs at m2
  refine zM.of [some (.ref (ma 0)), some (zi c), some (zi p), some (zi q)] (by decide +kernel) rfl (by decide) rfl (Nat.le_of_ble_eq_true rfl) rfl ?_
  refine z_aload_n dMod_open_0 rfl ?_
  refine z_iload_n dMod_open_1 rfl ?_
  refine z_callS MS_Mod_isNoCursor lk_Mod_141 dMod_open_2 (k_Mod_isNoCursor (by omega)) rfl rfl (Nat.le_of_ble_eq_true rfl)  (Nat.le_of_ble_eq_true rfl) (Nat.le_of_ble_eq_true rfl) (Nat.le_of_eq (Nat.zero_add _)) (Nat.le_of_eq (Nat.zero_add _)) (fun _ _ q => q.elim) ?_
  rintro _ _ ⟨n9c, rfl, (⟨rfl, hn9c⟩ | ⟨rfl, hn9c⟩), rfl⟩
  · refine z_if_ne (tgt := 30) dMod_open_5 (by decide) (by omega) (fun c5 => ?_) (fun c5 => ?_)
    · refine z_iconst dMod_open_30 ?_
      refine z_goto (tgt := 35) dMod_open_31 (by decide) ?_
      refine z_iconst dMod_open_35 ?_
      refine z_iconst dMod_open_36 ?_
      refine z_callV MV_Mod_fails lk_Mod_88 dMod_open_37 (k_Mod_fails (by assumption) rfl (by omega) (by omega) (by omega)) rfl rfl (Nat.le_of_ble_eq_true rfl) rfl (by assumption) (Nat.le_of_ble_eq_true rfl) (Nat.le_of_ble_eq_true rfl) (Nat.le_of_eq (Nat.zero_add _)) (Nat.le_of_eq (Nat.zero_add _)) (fun _ _ q => q.elim) ?_
      rintro _ h1 ⟨t9, b8, rfl, ht, p1, g1⟩
      have H1 : zMod G h1 ma S t9 := H.obj (nu := S.2.2.2.2) (th' := t9) p1 g1
      have fz1 : zMfr ma h h1 := zMfr.of0 g1
      obtain ⟨-, n2, ⟨gg, n3, n3a⟩, n4, ⟨f61, n5, n5a⟩, n6, n7⟩ := id H1
      unfold zMfs at n2
      refine z_if_eq (tgt := 45) dMod_open_40 (by decide) (by omega) (fun c40 => ?_) (fun c40 => ?_)
      · exfalso; omega
      · refine z_iconst dMod_open_43 ?_
        refine z_iret rfl rfl dMod_open_44 ?_
        rcases (show t9 = 0 ∨ t9 = 1 ∨ t9 = 2 ∨ t9 = 3 by omega) with t0 | t0 | t0 | t0
        all_goals first
          | (exfalso; omega)
          | exact zQm.ok H6 (by omega) (by assumption) (by unfold sp_open; (try unfold spPut); (try simp only [Int.toNat_natCast]); (repeat (first | rw [if_pos (by omega)] | rw [if_neg (by omega)] | rw [if_pos (by assumption)] | rw [if_neg (by assumption)] | rw [if_pos (True.intro : True)])); (try (first | rfl | (congr 2; omega) | (congr 1; congr 1; omega))); done)
          | exact zQm.b1 H6 (by omega) (by assumption) (by unfold sp_open; (try unfold spPut); (try simp only [Int.toNat_natCast]); (repeat (first | rw [if_pos (by omega)] | rw [if_neg (by omega)] | rw [if_pos (by assumption)] | rw [if_neg (by assumption)] | rw [if_pos (True.intro : True)])); (try (first | rfl | (congr 2; omega) | (congr 1; congr 1; omega))); done)
          | exact zQm.b2 H6 (by omega) (by assumption) (by unfold sp_open; (try unfold spPut); (try simp only [Int.toNat_natCast]); (repeat (first | rw [if_pos (by omega)] | rw [if_neg (by omega)] | rw [if_pos (by assumption)] | rw [if_neg (by assumption)] | rw [if_pos (True.intro : True)])); (try (first | rfl | (congr 2; omega) | (congr 1; congr 1; omega))); done)
          | exact zQm.b3 H6 (by omega) (by assumption) (by unfold sp_open; (try unfold spPut); (try simp only [Int.toNat_natCast]); (repeat (first | rw [if_pos (by omega)] | rw [if_neg (by omega)] | rw [if_pos (by assumption)] | rw [if_neg (by assumption)] | rw [if_pos (True.intro : True)])); (try (first | rfl | (congr 2; omega) | (congr 1; congr 1; omega))); done)
          | exact zQm.ok H1 (by omega) (by assumption) (by unfold sp_open; (try unfold spPut); (try simp only [Int.toNat_natCast]); (repeat (first | rw [if_pos (by omega)] | rw [if_neg (by omega)] | rw [if_pos (by assumption)] | rw [if_neg (by assumption)] | rw [if_pos (True.intro : True)])); (try (first | rfl | (congr 2; omega) | (congr 1; congr 1; omega))); done)
          | exact zQm.b1 H1 (by omega) (by assumption) (by unfold sp_open; (try unfold spPut); (try simp only [Int.toNat_natCast]); (repeat (first | rw [if_pos (by omega)] | rw [if_neg (by omega)] | rw [if_pos (by assumption)] | rw [if_neg (by assumption)] | rw [if_pos (True.intro : True)])); (try (first | rfl | (congr 2; omega) | (congr 1; congr 1; omega))); done)
          | exact zQm.b2 H1 (by omega) (by assumption) (by unfold sp_open; (try unfold spPut); (try simp only [Int.toNat_natCast]); (repeat (first | rw [if_pos (by omega)] | rw [if_neg (by omega)] | rw [if_pos (by assumption)] | rw [if_neg (by assumption)] | rw [if_pos (True.intro : True)])); (try (first | rfl | (congr 2; omega) | (congr 1; congr 1; omega))); done)
          | exact zQm.b3 H1 (by omega) (by assumption) (by unfold sp_open; (try unfold spPut); (try simp only [Int.toNat_natCast]); (repeat (first | rw [if_pos (by omega)] | rw [if_neg (by omega)] | rw [if_pos (by assumption)] | rw [if_neg (by assumption)] | rw [if_pos (True.intro : True)])); (try (first | rfl | (congr 2; omega) | (congr 1; congr 1; omega))); done)
    · exfalso; omega
  · obtain ⟨cc, rfl⟩ := Int.eq_ofNat_of_zero_le (show 0 ≤ c by omega)
    have hcc : cc < 3 := by omega
    refine z_if_ne (tgt := 30) dMod_open_5 (by decide) (by omega) (fun c5 => ?_) (fun c5 => ?_)
    · exfalso; omega
    · refine z_iload_n dMod_open_8 rfl ?_
      refine z_callS MS_Mod_isNo lk_Mod_81 dMod_open_9 (k_Mod_isNo (by omega)) rfl rfl (Nat.le_of_ble_eq_true rfl)  (Nat.le_of_ble_eq_true rfl) (Nat.le_of_ble_eq_true rfl) (Nat.le_of_eq (Nat.zero_add _)) (Nat.le_of_eq (Nat.zero_add _)) (fun _ _ q => q.elim) ?_
      rintro _ _ ⟨n9k, rfl, (⟨rfl, hn9k⟩ | ⟨rfl, hn9k⟩), rfl⟩
      · refine z_if_ne (tgt := 30) dMod_open_12 (by decide) (by omega) (fun c12 => ?_) (fun c12 => ?_)
        · refine z_iconst dMod_open_30 ?_
          refine z_goto (tgt := 35) dMod_open_31 (by decide) ?_
          refine z_iconst dMod_open_35 ?_
          refine z_iconst dMod_open_36 ?_
          refine z_callV MV_Mod_fails lk_Mod_88 dMod_open_37 (k_Mod_fails (by assumption) rfl (by omega) (by omega) (by omega)) rfl rfl (Nat.le_of_ble_eq_true rfl) rfl (by assumption) (Nat.le_of_ble_eq_true rfl) (Nat.le_of_ble_eq_true rfl) (Nat.le_of_eq (Nat.zero_add _)) (Nat.le_of_eq (Nat.zero_add _)) (fun _ _ q => q.elim) ?_
          rintro _ h1 ⟨t9, b8, rfl, ht, p1, g1⟩
          have H1 : zMod G h1 ma S t9 := H.obj (nu := S.2.2.2.2) (th' := t9) p1 g1
          have fz1 : zMfr ma h h1 := zMfr.of0 g1
          obtain ⟨-, n2, ⟨gg, n3, n3a⟩, n4, ⟨f61, n5, n5a⟩, n6, n7⟩ := id H1
          unfold zMfs at n2
          refine z_if_eq (tgt := 45) dMod_open_40 (by decide) (by omega) (fun c40 => ?_) (fun c40 => ?_)
          · exfalso; omega
          · refine z_iconst dMod_open_43 ?_
            refine z_iret rfl rfl dMod_open_44 ?_
            rcases (show t9 = 0 ∨ t9 = 1 ∨ t9 = 2 ∨ t9 = 3 by omega) with t0 | t0 | t0 | t0
            all_goals first
              | (exfalso; omega)
              | exact zQm.ok H6 (by omega) (by assumption) (by unfold sp_open; (try unfold spPut); (try simp only [Int.toNat_natCast]); (repeat (first | rw [if_pos (by omega)] | rw [if_neg (by omega)] | rw [if_pos (by assumption)] | rw [if_neg (by assumption)] | rw [if_pos (True.intro : True)])); (try (first | rfl | (congr 2; omega) | (congr 1; congr 1; omega))); done)
              | exact zQm.b1 H6 (by omega) (by assumption) (by unfold sp_open; (try unfold spPut); (try simp only [Int.toNat_natCast]); (repeat (first | rw [if_pos (by omega)] | rw [if_neg (by omega)] | rw [if_pos (by assumption)] | rw [if_neg (by assumption)] | rw [if_pos (True.intro : True)])); (try (first | rfl | (congr 2; omega) | (congr 1; congr 1; omega))); done)
              | exact zQm.b2 H6 (by omega) (by assumption) (by unfold sp_open; (try unfold spPut); (try simp only [Int.toNat_natCast]); (repeat (first | rw [if_pos (by omega)] | rw [if_neg (by omega)] | rw [if_pos (by assumption)] | rw [if_neg (by assumption)] | rw [if_pos (True.intro : True)])); (try (first | rfl | (congr 2; omega) | (congr 1; congr 1; omega))); done)
              | exact zQm.b3 H6 (by omega) (by assumption) (by unfold sp_open; (try unfold spPut); (try simp only [Int.toNat_natCast]); (repeat (first | rw [if_pos (by omega)] | rw [if_neg (by omega)] | rw [if_pos (by assumption)] | rw [if_neg (by assumption)] | rw [if_pos (True.intro : True)])); (try (first | rfl | (congr 2; omega) | (congr 1; congr 1; omega))); done)
              | exact zQm.ok H1 (by omega) (by assumption) (by unfold sp_open; (try unfold spPut); (try simp only [Int.toNat_natCast]); (repeat (first | rw [if_pos (by omega)] | rw [if_neg (by omega)] | rw [if_pos (by assumption)] | rw [if_neg (by assumption)] | rw [if_pos (True.intro : True)])); (try (first | rfl | (congr 2; omega) | (congr 1; congr 1; omega))); done)
              | exact zQm.b1 H1 (by omega) (by assumption) (by unfold sp_open; (try unfold spPut); (try simp only [Int.toNat_natCast]); (repeat (first | rw [if_pos (by omega)] | rw [if_neg (by omega)] | rw [if_pos (by assumption)] | rw [if_neg (by assumption)] | rw [if_pos (True.intro : True)])); (try (first | rfl | (congr 2; omega) | (congr 1; congr 1; omega))); done)
              | exact zQm.b2 H1 (by omega) (by assumption) (by unfold sp_open; (try unfold spPut); (try simp only [Int.toNat_natCast]); (repeat (first | rw [if_pos (by omega)] | rw [if_neg (by omega)] | rw [if_pos (by assumption)] | rw [if_neg (by assumption)] | rw [if_pos (True.intro : True)])); (try (first | rfl | (congr 2; omega) | (congr 1; congr 1; omega))); done)
              | exact zQm.b3 H1 (by omega) (by assumption) (by unfold sp_open; (try unfold spPut); (try simp only [Int.toNat_natCast]); (repeat (first | rw [if_pos (by omega)] | rw [if_neg (by omega)] | rw [if_pos (by assumption)] | rw [if_neg (by assumption)] | rw [if_pos (True.intro : True)])); (try (first | rfl | (congr 2; omega) | (congr 1; congr 1; omega))); done)
        · exfalso; omega
      · obtain ⟨k, rfl⟩ := Int.eq_ofNat_of_zero_le (show 0 ≤ p by omega)
        have hkk : k < 4 := by omega
        refine z_if_ne (tgt := 30) dMod_open_12 (by decide) (by omega) (fun c12 => ?_) (fun c12 => ?_)
        · exfalso; omega
        · obtain ⟨frk, rk1, rk2, rk3, rk4⟩ := id (m6 k (by omega))
          refine z_iload_n dMod_open_15 rfl ?_
          refine z_iconst dMod_open_16 ?_
          refine z_aload_n dMod_open_17 rfl ?_
          refine z_get (k := 0) fd_Mod (by decide) fl_Mod_11 dMod_open_18 (by assumption) (by rfl) ?_
          refine z_iload_n dMod_open_21 rfl ?_
          refine z_aald (t := 4) (ty := .array .int) rfl rfl dMod_open_22 m3 (by refine ⟨?_, ?_, ?_⟩ <;> omega) ?_
          rw [show (k : Int).toNat = k from rfl, m3a k (by omega)]
          refine z_alenI dMod_open_23 (by assumption) ?_
          refine z_callS MS_Mod_isOut lk_Mod_41 dMod_open_24 (k_Mod_isOut (by omega) (by omega) (by omega)) rfl rfl (Nat.le_of_ble_eq_true rfl)  (Nat.le_of_ble_eq_true rfl) (Nat.le_of_ble_eq_true rfl) (Nat.le_of_eq (Nat.zero_add _)) (Nat.le_of_eq (Nat.zero_add _)) (fun _ _ q => q.elim) ?_
          rintro _ _ ⟨o9, rfl, (⟨rfl, ho9⟩ | ⟨rfl, ho9⟩), rfl⟩
          · refine z_if_eq (tgt := 34) dMod_open_27 (by decide) (by omega) (fun c27 => ?_) (fun c27 => ?_)
            · exfalso; omega
            · refine z_iconst dMod_open_30 ?_
              refine z_goto (tgt := 35) dMod_open_31 (by decide) ?_
              refine z_iconst dMod_open_35 ?_
              refine z_iconst dMod_open_36 ?_
              refine z_callV MV_Mod_fails lk_Mod_88 dMod_open_37 (k_Mod_fails (by assumption) rfl (by omega) (by omega) (by omega)) rfl rfl (Nat.le_of_ble_eq_true rfl) rfl (by assumption) (Nat.le_of_ble_eq_true rfl) (Nat.le_of_ble_eq_true rfl) (Nat.le_of_eq (Nat.zero_add _)) (Nat.le_of_eq (Nat.zero_add _)) (fun _ _ q => q.elim) ?_
              rintro _ h1 ⟨t9, b8, rfl, ht, p1, g1⟩
              have H1 : zMod G h1 ma S t9 := H.obj (nu := S.2.2.2.2) (th' := t9) p1 g1
              have fz1 : zMfr ma h h1 := zMfr.of0 g1
              obtain ⟨-, n2, ⟨gg, n3, n3a⟩, n4, ⟨f61, n5, n5a⟩, n6, n7⟩ := id H1
              unfold zMfs at n2
              refine z_if_eq (tgt := 45) dMod_open_40 (by decide) (by omega) (fun c40 => ?_) (fun c40 => ?_)
              · exfalso; omega
              · refine z_iconst dMod_open_43 ?_
                refine z_iret rfl rfl dMod_open_44 ?_
                rcases (show t9 = 0 ∨ t9 = 1 ∨ t9 = 2 ∨ t9 = 3 by omega) with t0 | t0 | t0 | t0
                all_goals first
                  | (exfalso; omega)
                  | exact zQm.ok H6 (by omega) (by assumption) (by unfold sp_open; (try unfold spPut); (try simp only [Int.toNat_natCast]); (repeat (first | rw [if_pos (by omega)] | rw [if_neg (by omega)] | rw [if_pos (by assumption)] | rw [if_neg (by assumption)] | rw [if_pos (True.intro : True)])); (try (first | rfl | (congr 2; omega) | (congr 1; congr 1; omega))); done)
                  | exact zQm.b1 H6 (by omega) (by assumption) (by unfold sp_open; (try unfold spPut); (try simp only [Int.toNat_natCast]); (repeat (first | rw [if_pos (by omega)] | rw [if_neg (by omega)] | rw [if_pos (by assumption)] | rw [if_neg (by assumption)] | rw [if_pos (True.intro : True)])); (try (first | rfl | (congr 2; omega) | (congr 1; congr 1; omega))); done)
                  | exact zQm.b2 H6 (by omega) (by assumption) (by unfold sp_open; (try unfold spPut); (try simp only [Int.toNat_natCast]); (repeat (first | rw [if_pos (by omega)] | rw [if_neg (by omega)] | rw [if_pos (by assumption)] | rw [if_neg (by assumption)] | rw [if_pos (True.intro : True)])); (try (first | rfl | (congr 2; omega) | (congr 1; congr 1; omega))); done)
                  | exact zQm.b3 H6 (by omega) (by assumption) (by unfold sp_open; (try unfold spPut); (try simp only [Int.toNat_natCast]); (repeat (first | rw [if_pos (by omega)] | rw [if_neg (by omega)] | rw [if_pos (by assumption)] | rw [if_neg (by assumption)] | rw [if_pos (True.intro : True)])); (try (first | rfl | (congr 2; omega) | (congr 1; congr 1; omega))); done)
                  | exact zQm.ok H1 (by omega) (by assumption) (by unfold sp_open; (try unfold spPut); (try simp only [Int.toNat_natCast]); (repeat (first | rw [if_pos (by omega)] | rw [if_neg (by omega)] | rw [if_pos (by assumption)] | rw [if_neg (by assumption)] | rw [if_pos (True.intro : True)])); (try (first | rfl | (congr 2; omega) | (congr 1; congr 1; omega))); done)
                  | exact zQm.b1 H1 (by omega) (by assumption) (by unfold sp_open; (try unfold spPut); (try simp only [Int.toNat_natCast]); (repeat (first | rw [if_pos (by omega)] | rw [if_neg (by omega)] | rw [if_pos (by assumption)] | rw [if_neg (by assumption)] | rw [if_pos (True.intro : True)])); (try (first | rfl | (congr 2; omega) | (congr 1; congr 1; omega))); done)
                  | exact zQm.b2 H1 (by omega) (by assumption) (by unfold sp_open; (try unfold spPut); (try simp only [Int.toNat_natCast]); (repeat (first | rw [if_pos (by omega)] | rw [if_neg (by omega)] | rw [if_pos (by assumption)] | rw [if_neg (by assumption)] | rw [if_pos (True.intro : True)])); (try (first | rfl | (congr 2; omega) | (congr 1; congr 1; omega))); done)
                  | exact zQm.b3 H1 (by omega) (by assumption) (by unfold sp_open; (try unfold spPut); (try simp only [Int.toNat_natCast]); (repeat (first | rw [if_pos (by omega)] | rw [if_neg (by omega)] | rw [if_pos (by assumption)] | rw [if_neg (by assumption)] | rw [if_pos (True.intro : True)])); (try (first | rfl | (congr 2; omega) | (congr 1; congr 1; omega))); done)
          · refine z_if_eq (tgt := 34) dMod_open_27 (by decide) (by omega) (fun c27 => ?_) (fun c27 => ?_)
            · refine z_iconst dMod_open_34 ?_
              refine z_iconst dMod_open_35 ?_
              refine z_iconst dMod_open_36 ?_
              refine z_callV MV_Mod_fails lk_Mod_88 dMod_open_37 (k_Mod_fails (by assumption) rfl (by omega) (by omega) (by omega)) rfl rfl (Nat.le_of_ble_eq_true rfl) rfl (by assumption) (Nat.le_of_ble_eq_true rfl) (Nat.le_of_ble_eq_true rfl) (Nat.le_of_eq (Nat.zero_add _)) (Nat.le_of_eq (Nat.zero_add _)) (fun _ _ q => q.elim) ?_
              rintro _ h1 ⟨t9, b8, rfl, ht, p1, g1⟩
              have H1 : zMod G h1 ma S t9 := H.obj (nu := S.2.2.2.2) (th' := t9) p1 g1
              have fz1 : zMfr ma h h1 := zMfr.of0 g1
              obtain ⟨-, n2, ⟨gg, n3, n3a⟩, n4, ⟨f61, n5, n5a⟩, n6, n7⟩ := id H1
              unfold zMfs at n2
              refine z_if_eq (tgt := 45) dMod_open_40 (by decide) (by omega) (fun c40 => ?_) (fun c40 => ?_)
              · obtain ⟨frk, rk1, rk2, rk3, rk4⟩ := id (n6 k (by omega))
                have h16k := h16 k (by omega)
                have ezk : ∀ i : Int, 0 ≤ i → i < ((S.1 k).length : Int) → frk i.toNat = zAt (S.1 k) i := fun i x1 x2 => by rw [rk3 _ (by omega), zAt_eq x1 x2]
                obtain ⟨⟨v1, a1, b1⟩, ⟨v2, a2, b2⟩, ⟨v3, a3, b3⟩, ⟨v4, a4, b4⟩, ⟨v5, a5, b5⟩⟩ := id n4
                refine z_aload_n dMod_open_45 rfl ?_
                refine z_get (k := 1) fd_Mod (by decide) fl_Mod_14 dMod_open_46 (by assumption) (by rfl) ?_
                refine z_iload_n dMod_open_49 rfl ?_
                refine z_iconst dMod_open_50 ?_
                refine z_zast (by rfl) dMod_open_51 (by assumption) (by refine ⟨?_, ?_, ?_⟩ <;> omega) ?_
                refine z_hx (fun h2 p2 g2 => ?_)
                rw [Int.toNat_natCast] at p2
                have n2 := (g2 (ma (0)) (H1.inj (i := 0) (j := 2) (by omega) (by omega) (by omega))).trans n2
                have n3 := (g2 (ma (1)) (H1.inj (i := 1) (j := 2) (by omega) (by omega) (by omega))).trans n3
                have a1 := p2
                have a2 := (g2 (ma (3)) (H1.inj (i := 3) (j := 2) (by omega) (by omega) (by omega))).trans a2
                have a3 := (g2 (ma (4)) (H1.inj (i := 4) (j := 2) (by omega) (by omega) (by omega))).trans a3
                have a4 := (g2 (ma (5)) (H1.inj (i := 5) (j := 2) (by omega) (by omega) (by omega))).trans a4
                have a5 := (g2 (ma (6)) (H1.inj (i := 6) (j := 2) (by omega) (by omega) (by omega))).trans a5
                have rk1 := (g2 (ma (8 + k)) (H1.inj (i := 8 + k) (j := 2) (by omega) (by omega) (by omega))).trans rk1
                refine z_aload_n dMod_open_52 rfl ?_
                refine z_get (k := 2) fd_Mod (by decide) fl_Mod_18 dMod_open_53 (by assumption) (by rfl) ?_
                refine z_iload_n dMod_open_56 rfl ?_
                refine z_iconst dMod_open_57 ?_
                refine z_zast (by rfl) dMod_open_58 (by assumption) (by refine ⟨?_, ?_, ?_⟩ <;> omega) ?_
                refine z_hx (fun h3 p3 g3 => ?_)
                rw [Int.toNat_natCast] at p3
                have n2 := (g3 (ma (0)) (H1.inj (i := 0) (j := 3) (by omega) (by omega) (by omega))).trans n2
                have n3 := (g3 (ma (1)) (H1.inj (i := 1) (j := 3) (by omega) (by omega) (by omega))).trans n3
                have a1 := (g3 (ma (2)) (H1.inj (i := 2) (j := 3) (by omega) (by omega) (by omega))).trans a1
                have a2 := p3
                have a3 := (g3 (ma (4)) (H1.inj (i := 4) (j := 3) (by omega) (by omega) (by omega))).trans a3
                have a4 := (g3 (ma (5)) (H1.inj (i := 5) (j := 3) (by omega) (by omega) (by omega))).trans a4
                have a5 := (g3 (ma (6)) (H1.inj (i := 6) (j := 3) (by omega) (by omega) (by omega))).trans a5
                have rk1 := (g3 (ma (8 + k)) (H1.inj (i := 8 + k) (j := 3) (by omega) (by omega) (by omega))).trans rk1
                refine z_aload_n dMod_open_59 rfl ?_
                refine z_get (k := 3) fd_Mod (by decide) fl_Mod_21 dMod_open_60 (by assumption) (by rfl) ?_
                refine z_iload_n dMod_open_63 rfl ?_
                refine z_iload_n dMod_open_64 rfl ?_
                refine z_iast dMod_open_65 (by assumption) (by refine ⟨?_, ?_, ?_⟩ <;> omega) ?_
                refine z_hx (fun h4 p4 g4 => ?_)
                rw [Int.toNat_natCast] at p4
                have n2 := (g4 (ma (0)) (H1.inj (i := 0) (j := 4) (by omega) (by omega) (by omega))).trans n2
                have n3 := (g4 (ma (1)) (H1.inj (i := 1) (j := 4) (by omega) (by omega) (by omega))).trans n3
                have a1 := (g4 (ma (2)) (H1.inj (i := 2) (j := 4) (by omega) (by omega) (by omega))).trans a1
                have a2 := (g4 (ma (3)) (H1.inj (i := 3) (j := 4) (by omega) (by omega) (by omega))).trans a2
                have a3 := p4
                have a4 := (g4 (ma (5)) (H1.inj (i := 5) (j := 4) (by omega) (by omega) (by omega))).trans a4
                have a5 := (g4 (ma (6)) (H1.inj (i := 6) (j := 4) (by omega) (by omega) (by omega))).trans a5
                have rk1 := (g4 (ma (8 + k)) (H1.inj (i := 8 + k) (j := 4) (by omega) (by omega) (by omega))).trans rk1
                refine z_aload_n dMod_open_66 rfl ?_
                refine z_get (k := 4) fd_Mod (by decide) fl_Mod_25 dMod_open_67 (by assumption) (by rfl) ?_
                refine z_iload_n dMod_open_70 rfl ?_
                refine z_iload_n dMod_open_71 rfl ?_
                refine z_iast dMod_open_72 (by assumption) (by refine ⟨?_, ?_, ?_⟩ <;> omega) ?_
                refine z_hx (fun h5 p5 g5 => ?_)
                rw [Int.toNat_natCast] at p5
                have n2 := (g5 (ma (0)) (H1.inj (i := 0) (j := 5) (by omega) (by omega) (by omega))).trans n2
                have n3 := (g5 (ma (1)) (H1.inj (i := 1) (j := 5) (by omega) (by omega) (by omega))).trans n3
                have a1 := (g5 (ma (2)) (H1.inj (i := 2) (j := 5) (by omega) (by omega) (by omega))).trans a1
                have a2 := (g5 (ma (3)) (H1.inj (i := 3) (j := 5) (by omega) (by omega) (by omega))).trans a2
                have a3 := (g5 (ma (4)) (H1.inj (i := 4) (j := 5) (by omega) (by omega) (by omega))).trans a3
                have a4 := p5
                have a5 := (g5 (ma (6)) (H1.inj (i := 6) (j := 5) (by omega) (by omega) (by omega))).trans a5
                have rk1 := (g5 (ma (8 + k)) (H1.inj (i := 8 + k) (j := 5) (by omega) (by omega) (by omega))).trans rk1
                refine z_aload_n dMod_open_73 rfl ?_
                refine z_get (k := 5) fd_Mod (by decide) fl_Mod_28 dMod_open_74 (by assumption) (by rfl) ?_
                refine z_iload_n dMod_open_77 rfl ?_
                refine z_iconst dMod_open_78 ?_
                refine z_iast dMod_open_79 (by assumption) (by refine ⟨?_, ?_, ?_⟩ <;> omega) ?_
                refine z_hx (fun h6 p6 g6 => ?_)
                rw [Int.toNat_natCast] at p6
                have n2 := (g6 (ma (0)) (H1.inj (i := 0) (j := 6) (by omega) (by omega) (by omega))).trans n2
                have n3 := (g6 (ma (1)) (H1.inj (i := 1) (j := 6) (by omega) (by omega) (by omega))).trans n3
                have a1 := (g6 (ma (2)) (H1.inj (i := 2) (j := 6) (by omega) (by omega) (by omega))).trans a1
                have a2 := (g6 (ma (3)) (H1.inj (i := 3) (j := 6) (by omega) (by omega) (by omega))).trans a2
                have a3 := (g6 (ma (4)) (H1.inj (i := 4) (j := 6) (by omega) (by omega) (by omega))).trans a3
                have a4 := (g6 (ma (5)) (H1.inj (i := 5) (j := 6) (by omega) (by omega) (by omega))).trans a4
                have a5 := p6
                have rk1 := (g6 (ma (8 + k)) (H1.inj (i := 8 + k) (j := 6) (by omega) (by omega) (by omega))).trans rk1
                have F6 : ∀ z, (∀ i, 2 ≤ i → i ≤ 6 → z ≠ ma i) → h6 z = h1 z := fun z hz => (((((g6 z (hz 6 (by omega) (by omega))).trans (g5 z (hz 5 (by omega) (by omega)))).trans (g4 z (hz 4 (by omega) (by omega)))).trans (g3 z (hz 3 (by omega) (by omega)))).trans (g2 z (hz 2 (by omega) (by omega))))
                have hmc : zMcu G h6 ma (zup S.2.1 cc (zCv 1 0 (k : Int) q (-1))) := zMcu.up b1 b2 b3 b4 b5 a1 a2 a3 a4 a5 zup_u zup_u zup_u zup_u zup_u ⟨zup_same _ _ _, Or.inr rfl⟩ ⟨Or.inl (zup_same _ _ _), fun _ => zup_same _ _ _⟩ (zup_w (by omega) rfl) (zup_w (by omega) rfl) (zup_w (by omega) rfl)
                have H6 := H1.cusF hmc F6
                have fz6 : zMfr ma h h6 := fz1.tr (zMfr.cu F6)
                refine z_aload_n dMod_open_80 rfl ?_
                refine z_get (k := 0) fd_Mod (by decide) fl_Mod_11 dMod_open_81 (by assumption) (by rfl) ?_
                refine z_iload_n dMod_open_84 rfl ?_
                refine z_aald (t := 4) (ty := .array .int) rfl rfl dMod_open_85 n3 (by refine ⟨?_, ?_, ?_⟩ <;> omega) ?_
                rw [show (k : Int).toNat = k from rfl, n3a k (by omega)]
                refine z_alenI dMod_open_86 (by assumption) ?_
                refine z_iload_n dMod_open_87 rfl ?_
                refine z_isub dMod_open_88 ?_
                refine z_iret rfl rfl dMod_open_89 ?_
                rcases (show t9 = 0 ∨ t9 = 1 ∨ t9 = 2 ∨ t9 = 3 by omega) with t0 | t0 | t0 | t0
                all_goals first
                  | (exfalso; omega)
                  | exact zQm.ok H6 (by omega) (by assumption) (by unfold sp_open; (try unfold spPut); (try simp only [Int.toNat_natCast]); (repeat (first | rw [if_pos (by omega)] | rw [if_neg (by omega)] | rw [if_pos (by assumption)] | rw [if_neg (by assumption)] | rw [if_pos (True.intro : True)])); (try (first | rfl | (congr 2; omega) | (congr 1; congr 1; omega))); done)
                  | exact zQm.b1 H6 (by omega) (by assumption) (by unfold sp_open; (try unfold spPut); (try simp only [Int.toNat_natCast]); (repeat (first | rw [if_pos (by omega)] | rw [if_neg (by omega)] | rw [if_pos (by assumption)] | rw [if_neg (by assumption)] | rw [if_pos (True.intro : True)])); (try (first | rfl | (congr 2; omega) | (congr 1; congr 1; omega))); done)
                  | exact zQm.b2 H6 (by omega) (by assumption) (by unfold sp_open; (try unfold spPut); (try simp only [Int.toNat_natCast]); (repeat (first | rw [if_pos (by omega)] | rw [if_neg (by omega)] | rw [if_pos (by assumption)] | rw [if_neg (by assumption)] | rw [if_pos (True.intro : True)])); (try (first | rfl | (congr 2; omega) | (congr 1; congr 1; omega))); done)
                  | exact zQm.b3 H6 (by omega) (by assumption) (by unfold sp_open; (try unfold spPut); (try simp only [Int.toNat_natCast]); (repeat (first | rw [if_pos (by omega)] | rw [if_neg (by omega)] | rw [if_pos (by assumption)] | rw [if_neg (by assumption)] | rw [if_pos (True.intro : True)])); (try (first | rfl | (congr 2; omega) | (congr 1; congr 1; omega))); done)
                  | exact zQm.ok H1 (by omega) (by assumption) (by unfold sp_open; (try unfold spPut); (try simp only [Int.toNat_natCast]); (repeat (first | rw [if_pos (by omega)] | rw [if_neg (by omega)] | rw [if_pos (by assumption)] | rw [if_neg (by assumption)] | rw [if_pos (True.intro : True)])); (try (first | rfl | (congr 2; omega) | (congr 1; congr 1; omega))); done)
                  | exact zQm.b1 H1 (by omega) (by assumption) (by unfold sp_open; (try unfold spPut); (try simp only [Int.toNat_natCast]); (repeat (first | rw [if_pos (by omega)] | rw [if_neg (by omega)] | rw [if_pos (by assumption)] | rw [if_neg (by assumption)] | rw [if_pos (True.intro : True)])); (try (first | rfl | (congr 2; omega) | (congr 1; congr 1; omega))); done)
                  | exact zQm.b2 H1 (by omega) (by assumption) (by unfold sp_open; (try unfold spPut); (try simp only [Int.toNat_natCast]); (repeat (first | rw [if_pos (by omega)] | rw [if_neg (by omega)] | rw [if_pos (by assumption)] | rw [if_neg (by assumption)] | rw [if_pos (True.intro : True)])); (try (first | rfl | (congr 2; omega) | (congr 1; congr 1; omega))); done)
                  | exact zQm.b3 H1 (by omega) (by assumption) (by unfold sp_open; (try unfold spPut); (try simp only [Int.toNat_natCast]); (repeat (first | rw [if_pos (by omega)] | rw [if_neg (by omega)] | rw [if_pos (by assumption)] | rw [if_neg (by assumption)] | rw [if_pos (True.intro : True)])); (try (first | rfl | (congr 2; omega) | (congr 1; congr 1; omega))); done)
              · refine z_iconst dMod_open_43 ?_
                refine z_iret rfl rfl dMod_open_44 ?_
                rcases (show t9 = 0 ∨ t9 = 1 ∨ t9 = 2 ∨ t9 = 3 by omega) with t0 | t0 | t0 | t0
                all_goals first
                  | (exfalso; omega)
                  | exact zQm.ok H6 (by omega) (by assumption) (by unfold sp_open; (try unfold spPut); (try simp only [Int.toNat_natCast]); (repeat (first | rw [if_pos (by omega)] | rw [if_neg (by omega)] | rw [if_pos (by assumption)] | rw [if_neg (by assumption)] | rw [if_pos (True.intro : True)])); (try (first | rfl | (congr 2; omega) | (congr 1; congr 1; omega))); done)
                  | exact zQm.b1 H6 (by omega) (by assumption) (by unfold sp_open; (try unfold spPut); (try simp only [Int.toNat_natCast]); (repeat (first | rw [if_pos (by omega)] | rw [if_neg (by omega)] | rw [if_pos (by assumption)] | rw [if_neg (by assumption)] | rw [if_pos (True.intro : True)])); (try (first | rfl | (congr 2; omega) | (congr 1; congr 1; omega))); done)
                  | exact zQm.b2 H6 (by omega) (by assumption) (by unfold sp_open; (try unfold spPut); (try simp only [Int.toNat_natCast]); (repeat (first | rw [if_pos (by omega)] | rw [if_neg (by omega)] | rw [if_pos (by assumption)] | rw [if_neg (by assumption)] | rw [if_pos (True.intro : True)])); (try (first | rfl | (congr 2; omega) | (congr 1; congr 1; omega))); done)
                  | exact zQm.b3 H6 (by omega) (by assumption) (by unfold sp_open; (try unfold spPut); (try simp only [Int.toNat_natCast]); (repeat (first | rw [if_pos (by omega)] | rw [if_neg (by omega)] | rw [if_pos (by assumption)] | rw [if_neg (by assumption)] | rw [if_pos (True.intro : True)])); (try (first | rfl | (congr 2; omega) | (congr 1; congr 1; omega))); done)
                  | exact zQm.ok H1 (by omega) (by assumption) (by unfold sp_open; (try unfold spPut); (try simp only [Int.toNat_natCast]); (repeat (first | rw [if_pos (by omega)] | rw [if_neg (by omega)] | rw [if_pos (by assumption)] | rw [if_neg (by assumption)] | rw [if_pos (True.intro : True)])); (try (first | rfl | (congr 2; omega) | (congr 1; congr 1; omega))); done)
                  | exact zQm.b1 H1 (by omega) (by assumption) (by unfold sp_open; (try unfold spPut); (try simp only [Int.toNat_natCast]); (repeat (first | rw [if_pos (by omega)] | rw [if_neg (by omega)] | rw [if_pos (by assumption)] | rw [if_neg (by assumption)] | rw [if_pos (True.intro : True)])); (try (first | rfl | (congr 2; omega) | (congr 1; congr 1; omega))); done)
                  | exact zQm.b2 H1 (by omega) (by assumption) (by unfold sp_open; (try unfold spPut); (try simp only [Int.toNat_natCast]); (repeat (first | rw [if_pos (by omega)] | rw [if_neg (by omega)] | rw [if_pos (by assumption)] | rw [if_neg (by assumption)] | rw [if_pos (True.intro : True)])); (try (first | rfl | (congr 2; omega) | (congr 1; congr 1; omega))); done)
                  | exact zQm.b3 H1 (by omega) (by assumption) (by unfold sp_open; (try unfold spPut); (try simp only [Int.toNat_natCast]); (repeat (first | rw [if_pos (by omega)] | rw [if_neg (by omega)] | rw [if_pos (by assumption)] | rw [if_neg (by assumption)] | rw [if_pos (True.intro : True)])); (try (first | rfl | (congr 2; omega) | (congr 1; congr 1; omega))); done)
            · exfalso; omega
theorem k_Mod_shut {c : Int} (H : zMod G h ma S th) (z_c : zI32 c) (h16 : ∀ k, k < 4 → (S.1 k).length ≤ 16) : zM G l hMod_shut yMod_shut 4 [.ref (ma 0), zi c] h (zQm G ma h (1) (9) (9) (sp_shut S c)) zNo 0 0 := by
  obtain ⟨m1, m2, ⟨g, m3, m3a⟩, m4, ⟨f6, m5, m5a⟩, m6, m7⟩ := id H
  unfold zMfs at m2
  refine zM.of [some (.ref (ma 0)), some (zi c), none] (by decide +kernel) rfl (by decide) rfl (Nat.le_of_ble_eq_true rfl) rfl ?_
  refine z_aload_n dMod_shut_0 rfl ?_
  refine z_iload_n dMod_shut_1 rfl ?_
  refine z_callS MS_Mod_isNoCursor lk_Mod_141 dMod_shut_2 (k_Mod_isNoCursor (by omega)) rfl rfl (Nat.le_of_ble_eq_true rfl)  (Nat.le_of_ble_eq_true rfl) (Nat.le_of_ble_eq_true rfl) (Nat.le_of_eq (Nat.zero_add _)) (Nat.le_of_eq (Nat.zero_add _)) (fun _ _ q => q.elim) ?_
  rintro _ _ ⟨n9c, rfl, (⟨rfl, hn9c⟩ | ⟨rfl, hn9c⟩), rfl⟩
  · refine z_iconst dMod_shut_5 ?_
    refine z_iconst dMod_shut_6 ?_
    refine z_callV MV_Mod_fails lk_Mod_88 dMod_shut_7 (k_Mod_fails (by assumption) rfl (by omega) (by omega) (by omega)) rfl rfl (Nat.le_of_ble_eq_true rfl) rfl (by assumption) (Nat.le_of_ble_eq_true rfl) (Nat.le_of_ble_eq_true rfl) (Nat.le_of_eq (Nat.zero_add _)) (Nat.le_of_eq (Nat.zero_add _)) (fun _ _ q => q.elim) ?_
    rintro _ h1 ⟨t9, b8, rfl, ht, p1, g1⟩
    have H1 : zMod G h1 ma S t9 := H.obj (nu := S.2.2.2.2) (th' := t9) p1 g1
    have fz1 : zMfr ma h h1 := zMfr.of0 g1
    obtain ⟨-, n2, ⟨gg, n3, n3a⟩, n4, ⟨f61, n5, n5a⟩, n6, n7⟩ := id H1
    unfold zMfs at n2
    refine z_if_eq (tgt := 15) dMod_shut_10 (by decide) (by omega) (fun c10 => ?_) (fun c10 => ?_)
    · exfalso; omega
    · refine z_iconst dMod_shut_13 ?_
      refine z_iret rfl (by first | rfl | (rcases b1c.2 with e9 | e9 <;> (rw [e9]; rfl))) dMod_shut_14 ?_
      rcases (show t9 = 0 ∨ t9 = 1 ∨ t9 = 2 ∨ t9 = 3 by omega) with t0 | t0 | t0 | t0
      all_goals first
        | (exfalso; omega)
        | exact zQm.ok H3 (by omega) (by assumption) (by unfold sp_shut; (try unfold spPut); (try simp only [Int.toNat_natCast]); (repeat (first | rw [if_pos (by omega)] | rw [if_neg (by omega)] | rw [if_pos (by assumption)] | rw [if_neg (by assumption)] | rw [if_pos (True.intro : True)])); (try (first | rfl | (congr 2; omega) | (congr 1; congr 1; omega))); done)
        | exact zQm.b1 H3 (by omega) (by assumption) (by unfold sp_shut; (try unfold spPut); (try simp only [Int.toNat_natCast]); (repeat (first | rw [if_pos (by omega)] | rw [if_neg (by omega)] | rw [if_pos (by assumption)] | rw [if_neg (by assumption)] | rw [if_pos (True.intro : True)])); (try (first | rfl | (congr 2; omega) | (congr 1; congr 1; omega))); done)
        | exact zQm.b2 H3 (by omega) (by assumption) (by unfold sp_shut; (try unfold spPut); (try simp only [Int.toNat_natCast]); (repeat (first | rw [if_pos (by omega)] | rw [if_neg (by omega)] | rw [if_pos (by assumption)] | rw [if_neg (by assumption)] | rw [if_pos (True.intro : True)])); (try (first | rfl | (congr 2; omega) | (congr 1; congr 1; omega))); done)
        | exact zQm.b3 H3 (by omega) (by assumption) (by unfold sp_shut; (try unfold spPut); (try simp only [Int.toNat_natCast]); (repeat (first | rw [if_pos (by omega)] | rw [if_neg (by omega)] | rw [if_pos (by assumption)] | rw [if_neg (by assumption)] | rw [if_pos (True.intro : True)])); (try (first | rfl | (congr 2; omega) | (congr 1; congr 1; omega))); done)
        | exact zQm.ok H1 (by omega) (by assumption) (by unfold sp_shut; (try unfold spPut); (try simp only [Int.toNat_natCast]); (repeat (first | rw [if_pos (by omega)] | rw [if_neg (by omega)] | rw [if_pos (by assumption)] | rw [if_neg (by assumption)] | rw [if_pos (True.intro : True)])); (try (first | rfl | (congr 2; omega) | (congr 1; congr 1; omega))); done)
        | exact zQm.b1 H1 (by omega) (by assumption) (by unfold sp_shut; (try unfold spPut); (try simp only [Int.toNat_natCast]); (repeat (first | rw [if_pos (by omega)] | rw [if_neg (by omega)] | rw [if_pos (by assumption)] | rw [if_neg (by assumption)] | rw [if_pos (True.intro : True)])); (try (first | rfl | (congr 2; omega) | (congr 1; congr 1; omega))); done)
        | exact zQm.b2 H1 (by omega) (by assumption) (by unfold sp_shut; (try unfold spPut); (try simp only [Int.toNat_natCast]); (repeat (first | rw [if_pos (by omega)] | rw [if_neg (by omega)] | rw [if_pos (by assumption)] | rw [if_neg (by assumption)] | rw [if_pos (True.intro : True)])); (try (first | rfl | (congr 2; omega) | (congr 1; congr 1; omega))); done)
        | exact zQm.b3 H1 (by omega) (by assumption) (by unfold sp_shut; (try unfold spPut); (try simp only [Int.toNat_natCast]); (repeat (first | rw [if_pos (by omega)] | rw [if_neg (by omega)] | rw [if_pos (by assumption)] | rw [if_neg (by assumption)] | rw [if_pos (True.intro : True)])); (try (first | rfl | (congr 2; omega) | (congr 1; congr 1; omega))); done)
  · obtain ⟨cc, rfl⟩ := Int.eq_ofNat_of_zero_le (show 0 ≤ c by omega)
    have hcc : cc < 3 := by omega
    refine z_iconst dMod_shut_5 ?_
    refine z_iconst dMod_shut_6 ?_
    refine z_callV MV_Mod_fails lk_Mod_88 dMod_shut_7 (k_Mod_fails (by assumption) rfl (by omega) (by omega) (by omega)) rfl rfl (Nat.le_of_ble_eq_true rfl) rfl (by assumption) (Nat.le_of_ble_eq_true rfl) (Nat.le_of_ble_eq_true rfl) (Nat.le_of_eq (Nat.zero_add _)) (Nat.le_of_eq (Nat.zero_add _)) (fun _ _ q => q.elim) ?_
    rintro _ h1 ⟨t9, b8, rfl, ht, p1, g1⟩
    have H1 : zMod G h1 ma S t9 := H.obj (nu := S.2.2.2.2) (th' := t9) p1 g1
    have fz1 : zMfr ma h h1 := zMfr.of0 g1
    obtain ⟨-, n2, ⟨gg, n3, n3a⟩, n4, ⟨f61, n5, n5a⟩, n6, n7⟩ := id H1
    unfold zMfs at n2
    refine z_if_eq (tgt := 15) dMod_shut_10 (by decide) (by omega) (fun c10 => ?_) (fun c10 => ?_)
    · obtain ⟨⟨v1, a1, b1⟩, ⟨v2, a2, b2⟩, ⟨v3, a3, b3⟩, ⟨v4, a4, b4⟩, ⟨v5, a5, b5⟩⟩ := id n4
      have b1c := b1 cc (by omega)
      have b2c := b2 cc (by omega)
      have b3c := b3 cc (by omega)
      have b4c := b4 cc (by omega)
      have b5c := b5 cc (by omega)
      refine z_aload_n dMod_shut_15 rfl ?_
      refine z_get (k := 1) fd_Mod (by decide) fl_Mod_14 dMod_shut_16 (by assumption) (by rfl) ?_
      refine z_iload_n dMod_shut_19 rfl ?_
      refine z_zald dMod_shut_20 (by assumption) (by refine ⟨?_, ?_, ?_⟩ <;> omega) ?_
      rw [Int.toNat_natCast]
      rw [b1c.1]
      refine z_istore_n dMod_shut_21 (Nat.le_of_ble_eq_true rfl) ?_
      refine z_aload_n dMod_shut_22 rfl ?_
      refine z_get (k := 1) fd_Mod (by decide) fl_Mod_14 dMod_shut_23 (by assumption) (by rfl) ?_
      refine z_iload_n dMod_shut_26 rfl ?_
      refine z_iconst dMod_shut_27 ?_
      refine z_zast (by rfl) dMod_shut_28 (by assumption) (by refine ⟨?_, ?_, ?_⟩ <;> omega) ?_
      refine z_hx (fun h2 p2 g2 => ?_)
      rw [Int.toNat_natCast] at p2
      have n2 := (g2 (ma (0)) (H1.inj (i := 0) (j := 2) (by omega) (by omega) (by omega))).trans n2
      have n3 := (g2 (ma (1)) (H1.inj (i := 1) (j := 2) (by omega) (by omega) (by omega))).trans n3
      have a1 := p2
      have a2 := (g2 (ma (3)) (H1.inj (i := 3) (j := 2) (by omega) (by omega) (by omega))).trans a2
      have a3 := (g2 (ma (4)) (H1.inj (i := 4) (j := 2) (by omega) (by omega) (by omega))).trans a3
      have a4 := (g2 (ma (5)) (H1.inj (i := 5) (j := 2) (by omega) (by omega) (by omega))).trans a4
      have a5 := (g2 (ma (6)) (H1.inj (i := 6) (j := 2) (by omega) (by omega) (by omega))).trans a5
      refine z_aload_n dMod_shut_29 rfl ?_
      refine z_get (k := 2) fd_Mod (by decide) fl_Mod_18 dMod_shut_30 (by assumption) (by rfl) ?_
      refine z_iload_n dMod_shut_33 rfl ?_
      refine z_iconst dMod_shut_34 ?_
      refine z_zast (by rfl) dMod_shut_35 (by assumption) (by refine ⟨?_, ?_, ?_⟩ <;> omega) ?_
      refine z_hx (fun h3 p3 g3 => ?_)
      rw [Int.toNat_natCast] at p3
      have n2 := (g3 (ma (0)) (H1.inj (i := 0) (j := 3) (by omega) (by omega) (by omega))).trans n2
      have n3 := (g3 (ma (1)) (H1.inj (i := 1) (j := 3) (by omega) (by omega) (by omega))).trans n3
      have a1 := (g3 (ma (2)) (H1.inj (i := 2) (j := 3) (by omega) (by omega) (by omega))).trans a1
      have a2 := p3
      have a3 := (g3 (ma (4)) (H1.inj (i := 4) (j := 3) (by omega) (by omega) (by omega))).trans a3
      have a4 := (g3 (ma (5)) (H1.inj (i := 5) (j := 3) (by omega) (by omega) (by omega))).trans a4
      have a5 := (g3 (ma (6)) (H1.inj (i := 6) (j := 3) (by omega) (by omega) (by omega))).trans a5
      have F3 : ∀ z, (∀ i, 2 ≤ i → i ≤ 6 → z ≠ ma i) → h3 z = h1 z := fun z hz => ((g3 z (hz 3 (by omega) (by omega))).trans (g2 z (hz 2 (by omega) (by omega))))
      have hmc : zMcu G h3 ma (zup S.2.1 cc (zCv 0 0 0 0 0)) := zMcu.up b1 b2 b3 b4 b5 a1 a2 a3 a4 a5 zup_u zup_u zid_u zid_u zid_u ⟨zup_same _ _ _, Or.inl rfl⟩ ⟨Or.inl (zup_same _ _ _), fun q => absurd q (by decide)⟩ ⟨b3c.1, fun q => absurd q (by decide)⟩ ⟨b4c.1, fun q => absurd q (by decide)⟩ ⟨b5c.1, fun q => absurd q (by decide)⟩
      have H3 := H1.cusF hmc F3
      have fz3 : zMfr ma h h3 := fz1.tr (zMfr.cu F3)
      refine z_iload_n dMod_shut_36 rfl ?_
      refine z_iret rfl (by first | rfl | (rcases b1c.2 with e9 | e9 <;> (rw [e9]; rfl))) dMod_shut_37 ?_
      rcases (show t9 = 0 ∨ t9 = 1 ∨ t9 = 2 ∨ t9 = 3 by omega) with t0 | t0 | t0 | t0
      all_goals first
        | (exfalso; omega)
        | exact zQm.ok H3 (by omega) (by assumption) (by unfold sp_shut; (try unfold spPut); (try simp only [Int.toNat_natCast]); (repeat (first | rw [if_pos (by omega)] | rw [if_neg (by omega)] | rw [if_pos (by assumption)] | rw [if_neg (by assumption)] | rw [if_pos (True.intro : True)])); (try (first | rfl | (congr 2; omega) | (congr 1; congr 1; omega))); done)
        | exact zQm.b1 H3 (by omega) (by assumption) (by unfold sp_shut; (try unfold spPut); (try simp only [Int.toNat_natCast]); (repeat (first | rw [if_pos (by omega)] | rw [if_neg (by omega)] | rw [if_pos (by assumption)] | rw [if_neg (by assumption)] | rw [if_pos (True.intro : True)])); (try (first | rfl | (congr 2; omega) | (congr 1; congr 1; omega))); done)
        | exact zQm.b2 H3 (by omega) (by assumption) (by unfold sp_shut; (try unfold spPut); (try simp only [Int.toNat_natCast]); (repeat (first | rw [if_pos (by omega)] | rw [if_neg (by omega)] | rw [if_pos (by assumption)] | rw [if_neg (by assumption)] | rw [if_pos (True.intro : True)])); (try (first | rfl | (congr 2; omega) | (congr 1; congr 1; omega))); done)
        | exact zQm.b3 H3 (by omega) (by assumption) (by unfold sp_shut; (try unfold spPut); (try simp only [Int.toNat_natCast]); (repeat (first | rw [if_pos (by omega)] | rw [if_neg (by omega)] | rw [if_pos (by assumption)] | rw [if_neg (by assumption)] | rw [if_pos (True.intro : True)])); (try (first | rfl | (congr 2; omega) | (congr 1; congr 1; omega))); done)
        | exact zQm.ok H1 (by omega) (by assumption) (by unfold sp_shut; (try unfold spPut); (try simp only [Int.toNat_natCast]); (repeat (first | rw [if_pos (by omega)] | rw [if_neg (by omega)] | rw [if_pos (by assumption)] | rw [if_neg (by assumption)] | rw [if_pos (True.intro : True)])); (try (first | rfl | (congr 2; omega) | (congr 1; congr 1; omega))); done)
        | exact zQm.b1 H1 (by omega) (by assumption) (by unfold sp_shut; (try unfold spPut); (try simp only [Int.toNat_natCast]); (repeat (first | rw [if_pos (by omega)] | rw [if_neg (by omega)] | rw [if_pos (by assumption)] | rw [if_neg (by assumption)] | rw [if_pos (True.intro : True)])); (try (first | rfl | (congr 2; omega) | (congr 1; congr 1; omega))); done)
        | exact zQm.b2 H1 (by omega) (by assumption) (by unfold sp_shut; (try unfold spPut); (try simp only [Int.toNat_natCast]); (repeat (first | rw [if_pos (by omega)] | rw [if_neg (by omega)] | rw [if_pos (by assumption)] | rw [if_neg (by assumption)] | rw [if_pos (True.intro : True)])); (try (first | rfl | (congr 2; omega) | (congr 1; congr 1; omega))); done)
        | exact zQm.b3 H1 (by omega) (by assumption) (by unfold sp_shut; (try unfold spPut); (try simp only [Int.toNat_natCast]); (repeat (first | rw [if_pos (by omega)] | rw [if_neg (by omega)] | rw [if_pos (by assumption)] | rw [if_neg (by assumption)] | rw [if_pos (True.intro : True)])); (try (first | rfl | (congr 2; omega) | (congr 1; congr 1; omega))); done)
    · refine z_iconst dMod_shut_13 ?_
      refine z_iret rfl (by first | rfl | (rcases b1c.2 with e9 | e9 <;> (rw [e9]; rfl))) dMod_shut_14 ?_
      rcases (show t9 = 0 ∨ t9 = 1 ∨ t9 = 2 ∨ t9 = 3 by omega) with t0 | t0 | t0 | t0
      all_goals first
        | (exfalso; omega)
        | exact zQm.ok H3 (by omega) (by assumption) (by unfold sp_shut; (try unfold spPut); (try simp only [Int.toNat_natCast]); (repeat (first | rw [if_pos (by omega)] | rw [if_neg (by omega)] | rw [if_pos (by assumption)] | rw [if_neg (by assumption)] | rw [if_pos (True.intro : True)])); (try (first | rfl | (congr 2; omega) | (congr 1; congr 1; omega))); done)
        | exact zQm.b1 H3 (by omega) (by assumption) (by unfold sp_shut; (try unfold spPut); (try simp only [Int.toNat_natCast]); (repeat (first | rw [if_pos (by omega)] | rw [if_neg (by omega)] | rw [if_pos (by assumption)] | rw [if_neg (by assumption)] | rw [if_pos (True.intro : True)])); (try (first | rfl | (congr 2; omega) | (congr 1; congr 1; omega))); done)
        | exact zQm.b2 H3 (by omega) (by assumption) (by unfold sp_shut; (try unfold spPut); (try simp only [Int.toNat_natCast]); (repeat (first | rw [if_pos (by omega)] | rw [if_neg (by omega)] | rw [if_pos (by assumption)] | rw [if_neg (by assumption)] | rw [if_pos (True.intro : True)])); (try (first | rfl | (congr 2; omega) | (congr 1; congr 1; omega))); done)
        | exact zQm.b3 H3 (by omega) (by assumption) (by unfold sp_shut; (try unfold spPut); (try simp only [Int.toNat_natCast]); (repeat (first | rw [if_pos (by omega)] | rw [if_neg (by omega)] | rw [if_pos (by assumption)] | rw [if_neg (by assumption)] | rw [if_pos (True.intro : True)])); (try (first | rfl | (congr 2; omega) | (congr 1; congr 1; omega))); done)
        | exact zQm.ok H1 (by omega) (by assumption) (by unfold sp_shut; (try unfold spPut); (try simp only [Int.toNat_natCast]); (repeat (first | rw [if_pos (by omega)] | rw [if_neg (by omega)] | rw [if_pos (by assumption)] | rw [if_neg (by assumption)] | rw [if_pos (True.intro : True)])); (try (first | rfl | (congr 2; omega) | (congr 1; congr 1; omega))); done)
        | exact zQm.b1 H1 (by omega) (by assumption) (by unfold sp_shut; (try unfold spPut); (try simp only [Int.toNat_natCast]); (repeat (first | rw [if_pos (by omega)] | rw [if_neg (by omega)] | rw [if_pos (by assumption)] | rw [if_neg (by assumption)] | rw [if_pos (True.intro : True)])); (try (first | rfl | (congr 2; omega) | (congr 1; congr 1; omega))); done)
        | exact zQm.b2 H1 (by omega) (by assumption) (by unfold sp_shut; (try unfold spPut); (try simp only [Int.toNat_natCast]); (repeat (first | rw [if_pos (by omega)] | rw [if_neg (by omega)] | rw [if_pos (by assumption)] | rw [if_neg (by assumption)] | rw [if_pos (True.intro : True)])); (try (first | rfl | (congr 2; omega) | (congr 1; congr 1; omega))); done)
        | exact zQm.b3 H1 (by omega) (by assumption) (by unfold sp_shut; (try unfold spPut); (try simp only [Int.toNat_natCast]); (repeat (first | rw [if_pos (by omega)] | rw [if_neg (by omega)] | rw [if_pos (by assumption)] | rw [if_neg (by assumption)] | rw [if_pos (True.intro : True)])); (try (first | rfl | (congr 2; omega) | (congr 1; congr 1; omega))); done)
theorem k_Mod_changes {p x : Int} (H : zMod G h ma S th) (z_p : zI32 p) (z_x : zI32 x) (hO : zOk S) (h16 : ∀ k, k < 4 → (S.1 k).length ≤ 16) : zM G l hMod_changes yMod_changes 4 [.ref (ma 0), zi p, zi x] h (zQm G ma h (1) (2) (3) (sp_changes S p x)) zNo 0 0 := by
  obtain ⟨m1, m2, ⟨g, m3, m3a⟩, m4, ⟨f6, m5, m5a⟩, m6, m7⟩ := id H
  unfold zMfs at m2
  refine zM.of [some (.ref (ma 0)), some (zi p), some (zi x)] (by decide +kernel) rfl (by decide) rfl (Nat.le_of_ble_eq_true rfl) rfl ?_
  refine z_aload_n dMod_changes_0 rfl ?_
  refine z_iload_n dMod_changes_1 rfl ?_
  refine z_callS MS_Mod_isNoCursor lk_Mod_141 dMod_changes_2 (k_Mod_isNoCursor (by omega)) rfl rfl (Nat.le_of_ble_eq_true rfl)  (Nat.le_of_ble_eq_true rfl) (Nat.le_of_ble_eq_true rfl) (Nat.le_of_eq (Nat.zero_add _)) (Nat.le_of_eq (Nat.zero_add _)) (fun _ _ q => q.elim) ?_
  rintro _ _ ⟨n9c, rfl, (⟨rfl, hn9c⟩ | ⟨rfl, hn9c⟩), rfl⟩
  · refine z_iload_n dMod_changes_5 rfl ?_
    refine z_callS MS_Mod_isNoItem lk_Mod_85 dMod_changes_6 (k_Mod_isNoItem (by omega)) rfl rfl (Nat.le_of_ble_eq_true rfl)  (Nat.le_of_ble_eq_true rfl) (Nat.le_of_ble_eq_true rfl) (Nat.le_of_eq (Nat.zero_add _)) (Nat.le_of_eq (Nat.zero_add _)) (fun _ _ q => q.elim) ?_
    rintro _ _ ⟨i9, rfl, hi9, rfl⟩
    refine z_aload_n dMod_changes_9 rfl ?_
    refine z_iload_n dMod_changes_10 rfl ?_
    refine z_callV MV_Mod_isNotThere lk_Mod_144 dMod_changes_11 (k_Mod_isNotThere H (by omega)) rfl rfl (Nat.le_of_ble_eq_true rfl) rfl (by assumption) (Nat.le_of_ble_eq_true rfl) (Nat.le_of_ble_eq_true rfl) (Nat.le_of_eq (Nat.zero_add _)) (Nat.le_of_eq (Nat.zero_add _)) (fun _ _ q => q.elim) ?_
    rintro _ _ ⟨t8, rfl, ht8, rfl⟩
    try simp only [Int.toNat_natCast] at ht8
    refine z_callV MV_Mod_fails lk_Mod_88 dMod_changes_14 (k_Mod_fails (by assumption) rfl (by omega) (by omega) (by omega)) rfl rfl (Nat.le_of_ble_eq_true rfl) rfl (by assumption) (Nat.le_of_ble_eq_true rfl) (Nat.le_of_ble_eq_true rfl) (Nat.le_of_eq (Nat.zero_add _)) (Nat.le_of_eq (Nat.zero_add _)) (fun _ _ q => q.elim) ?_
    rintro _ h1 ⟨t9, b8, rfl, ht, p1, g1⟩
    have H1 : zMod G h1 ma S t9 := H.obj (nu := S.2.2.2.2) (th' := t9) p1 g1
    have fz1 : zMfr ma h h1 := zMfr.of0 g1
    obtain ⟨-, n2, ⟨gg, n3, n3a⟩, n4, ⟨f61, n5, n5a⟩, n6, n7⟩ := id H1
    unfold zMfs at n2
    refine z_if_eq (tgt := 22) dMod_changes_17 (by decide) (by omega) (fun c17 => ?_) (fun c17 => ?_)
    · exfalso; omega
    · refine z_iconst dMod_changes_20 ?_
      refine z_iret rfl rfl dMod_changes_21 ?_
      rcases (show t9 = 0 ∨ t9 = 1 ∨ t9 = 2 ∨ t9 = 3 by omega) with t0 | t0 | t0 | t0
      all_goals first
        | (exfalso; omega)
        | exact zQm.ok H2 (by omega) (by assumption) (by unfold sp_changes; (try unfold spPut); (try simp only [Int.toNat_natCast]); (try simp only [ek, Int.toNat_natCast]); (repeat (first | rw [if_pos (by omega)] | rw [if_neg (by omega)] | rw [if_pos (by assumption)] | rw [if_neg (by assumption)] | rw [if_pos (True.intro : True)])); (try (first | rfl | (congr 2; omega) | (congr 1; congr 1; omega))); done)
        | exact zQm.b1 H2 (by omega) (by assumption) (by unfold sp_changes; (try unfold spPut); (try simp only [Int.toNat_natCast]); (try simp only [ek, Int.toNat_natCast]); (repeat (first | rw [if_pos (by omega)] | rw [if_neg (by omega)] | rw [if_pos (by assumption)] | rw [if_neg (by assumption)] | rw [if_pos (True.intro : True)])); (try (first | rfl | (congr 2; omega) | (congr 1; congr 1; omega))); done)
        | exact zQm.b2 H2 (by omega) (by assumption) (by unfold sp_changes; (try unfold spPut); (try simp only [Int.toNat_natCast]); (try simp only [ek, Int.toNat_natCast]); (repeat (first | rw [if_pos (by omega)] | rw [if_neg (by omega)] | rw [if_pos (by assumption)] | rw [if_neg (by assumption)] | rw [if_pos (True.intro : True)])); (try (first | rfl | (congr 2; omega) | (congr 1; congr 1; omega))); done)
        | exact zQm.b3 H2 (by omega) (by assumption) (by unfold sp_changes; (try unfold spPut); (try simp only [Int.toNat_natCast]); (try simp only [ek, Int.toNat_natCast]); (repeat (first | rw [if_pos (by omega)] | rw [if_neg (by omega)] | rw [if_pos (by assumption)] | rw [if_neg (by assumption)] | rw [if_pos (True.intro : True)])); (try (first | rfl | (congr 2; omega) | (congr 1; congr 1; omega))); done)
        | exact zQm.ok H1 (by omega) (by assumption) (by unfold sp_changes; (try unfold spPut); (try simp only [Int.toNat_natCast]); (try simp only [ek, Int.toNat_natCast]); (repeat (first | rw [if_pos (by omega)] | rw [if_neg (by omega)] | rw [if_pos (by assumption)] | rw [if_neg (by assumption)] | rw [if_pos (True.intro : True)])); (try (first | rfl | (congr 2; omega) | (congr 1; congr 1; omega))); done)
        | exact zQm.b1 H1 (by omega) (by assumption) (by unfold sp_changes; (try unfold spPut); (try simp only [Int.toNat_natCast]); (try simp only [ek, Int.toNat_natCast]); (repeat (first | rw [if_pos (by omega)] | rw [if_neg (by omega)] | rw [if_pos (by assumption)] | rw [if_neg (by assumption)] | rw [if_pos (True.intro : True)])); (try (first | rfl | (congr 2; omega) | (congr 1; congr 1; omega))); done)
        | exact zQm.b2 H1 (by omega) (by assumption) (by unfold sp_changes; (try unfold spPut); (try simp only [Int.toNat_natCast]); (try simp only [ek, Int.toNat_natCast]); (repeat (first | rw [if_pos (by omega)] | rw [if_neg (by omega)] | rw [if_pos (by assumption)] | rw [if_neg (by assumption)] | rw [if_pos (True.intro : True)])); (try (first | rfl | (congr 2; omega) | (congr 1; congr 1; omega))); done)
        | exact zQm.b3 H1 (by omega) (by assumption) (by unfold sp_changes; (try unfold spPut); (try simp only [Int.toNat_natCast]); (try simp only [ek, Int.toNat_natCast]); (repeat (first | rw [if_pos (by omega)] | rw [if_neg (by omega)] | rw [if_pos (by assumption)] | rw [if_neg (by assumption)] | rw [if_pos (True.intro : True)])); (try (first | rfl | (congr 2; omega) | (congr 1; congr 1; omega))); done)
  · obtain ⟨c, rfl⟩ := Int.eq_ofNat_of_zero_le (show 0 ≤ p by omega)
    have hc : c < 3 := by omega
    refine z_iload_n dMod_changes_5 rfl ?_
    refine z_callS MS_Mod_isNoItem lk_Mod_85 dMod_changes_6 (k_Mod_isNoItem (by omega)) rfl rfl (Nat.le_of_ble_eq_true rfl)  (Nat.le_of_ble_eq_true rfl) (Nat.le_of_ble_eq_true rfl) (Nat.le_of_eq (Nat.zero_add _)) (Nat.le_of_eq (Nat.zero_add _)) (fun _ _ q => q.elim) ?_
    rintro _ _ ⟨i9, rfl, hi9, rfl⟩
    refine z_aload_n dMod_changes_9 rfl ?_
    refine z_iload_n dMod_changes_10 rfl ?_
    refine z_callV MV_Mod_isNotThere lk_Mod_144 dMod_changes_11 (k_Mod_isNotThere H (by omega)) rfl rfl (Nat.le_of_ble_eq_true rfl) rfl (by assumption) (Nat.le_of_ble_eq_true rfl) (Nat.le_of_ble_eq_true rfl) (Nat.le_of_eq (Nat.zero_add _)) (Nat.le_of_eq (Nat.zero_add _)) (fun _ _ q => q.elim) ?_
    rintro _ _ ⟨t8, rfl, ht8, rfl⟩
    try simp only [Int.toNat_natCast] at ht8
    refine z_callV MV_Mod_fails lk_Mod_88 dMod_changes_14 (k_Mod_fails (by assumption) rfl (by omega) (by omega) (by omega)) rfl rfl (Nat.le_of_ble_eq_true rfl) rfl (by assumption) (Nat.le_of_ble_eq_true rfl) (Nat.le_of_ble_eq_true rfl) (Nat.le_of_eq (Nat.zero_add _)) (Nat.le_of_eq (Nat.zero_add _)) (fun _ _ q => q.elim) ?_
    rintro _ h1 ⟨t9, b8, rfl, ht, p1, g1⟩
    have H1 : zMod G h1 ma S t9 := H.obj (nu := S.2.2.2.2) (th' := t9) p1 g1
    have fz1 : zMfr ma h h1 := zMfr.of0 g1
    obtain ⟨-, n2, ⟨gg, n3, n3a⟩, n4, ⟨f61, n5, n5a⟩, n6, n7⟩ := id H1
    unfold zMfs at n2
    refine z_if_eq (tgt := 22) dMod_changes_17 (by decide) (by omega) (fun c17 => ?_) (fun c17 => ?_)
    · obtain ⟨⟨v1, a1, b1⟩, ⟨v2, a2, b2⟩, ⟨v3, a3, b3⟩, ⟨v4, a4, b4⟩, ⟨v5, a5, b5⟩⟩ := id n4
      have hth : S.2.1 c 0 = 1 := by omega
      have b1c := b1 c (by omega)
      have b2c := b2 c (by omega)
      have b3c := b3 c (by omega)
      have b4c := b4 c (by omega)
      have b5c := b5 c (by omega)
      have e2 := b2c.2 hth
      have e3 := b3c.2 hth
      have e4 := b4c.2 hth
      have e5 := b5c.2 hth
      have ok9 := hO.1 c (by omega) hth
      obtain ⟨kk, ek⟩ := Int.eq_ofNat_of_zero_le ok9.1.1
      have hkk : kk < 4 := by omega
      have ok8 := ok9.2.2.2
      rw [ek, Int.toNat_natCast] at ok8
      have h16k := h16 kk hkk
      obtain ⟨frkk, rkk1, rkk2, rkk3, rkk4⟩ := id (n6 kk hkk)
      refine z_aload_n dMod_changes_22 rfl ?_
      refine z_get (k := 2) fd_Mod (by decide) fl_Mod_18 dMod_changes_23 (by assumption) (by rfl) ?_
      refine z_iload_n dMod_changes_26 rfl ?_
      refine z_zald dMod_changes_27 (by assumption) (by refine ⟨?_, ?_, ?_⟩ <;> omega) ?_
      rw [Int.toNat_natCast]
      rw [e2]
      refine z_if_ne (tgt := 41) dMod_changes_28 (by decide) (by omega) (fun c28 => ?_) (fun c28 => ?_)
      · refine z_aload_n dMod_changes_41 rfl ?_
        refine z_callV MV_Mod_refused lk_Mod_92 dMod_changes_42 (k_Mod_refused n2 rfl rfl) rfl rfl (Nat.le_of_ble_eq_true rfl) rfl (by assumption) (Nat.le_of_ble_eq_true rfl) (Nat.le_of_ble_eq_true rfl) (Nat.le_of_eq (Nat.zero_add _)) (Nat.le_of_eq (Nat.zero_add _)) (fun _ _ q => q.elim) ?_
        rintro _ h2 ⟨rfl, p2, g2⟩
        have H2 : zMod G h2 ma (zsRef S) t9 := H1.obj (nu := zup S.2.2.2.2 1 (S.2.2.2.2 1 + 1)) p2 g2
        have fz2 : zMfr ma h h2 := zMfr.of0 (fun q hq => (g2 q hq).trans (g1 q hq))
        refine z_iret rfl rfl dMod_changes_45 ?_
        rcases (show t9 = 0 ∨ t9 = 1 ∨ t9 = 2 ∨ t9 = 3 by omega) with t0 | t0 | t0 | t0
        all_goals first
          | (exfalso; omega)
          | exact zQm.ok H2 (by omega) (by assumption) (by unfold sp_changes; (try unfold spPut); (try simp only [Int.toNat_natCast]); (try simp only [ek, Int.toNat_natCast]); (repeat (first | rw [if_pos (by omega)] | rw [if_neg (by omega)] | rw [if_pos (by assumption)] | rw [if_neg (by assumption)] | rw [if_pos (True.intro : True)])); (try (first | rfl | (congr 2; omega) | (congr 1; congr 1; omega))); done)
          | exact zQm.b1 H2 (by omega) (by assumption) (by unfold sp_changes; (try unfold spPut); (try simp only [Int.toNat_natCast]); (try simp only [ek, Int.toNat_natCast]); (repeat (first | rw [if_pos (by omega)] | rw [if_neg (by omega)] | rw [if_pos (by assumption)] | rw [if_neg (by assumption)] | rw [if_pos (True.intro : True)])); (try (first | rfl | (congr 2; omega) | (congr 1; congr 1; omega))); done)
          | exact zQm.b2 H2 (by omega) (by assumption) (by unfold sp_changes; (try unfold spPut); (try simp only [Int.toNat_natCast]); (try simp only [ek, Int.toNat_natCast]); (repeat (first | rw [if_pos (by omega)] | rw [if_neg (by omega)] | rw [if_pos (by assumption)] | rw [if_neg (by assumption)] | rw [if_pos (True.intro : True)])); (try (first | rfl | (congr 2; omega) | (congr 1; congr 1; omega))); done)
          | exact zQm.b3 H2 (by omega) (by assumption) (by unfold sp_changes; (try unfold spPut); (try simp only [Int.toNat_natCast]); (try simp only [ek, Int.toNat_natCast]); (repeat (first | rw [if_pos (by omega)] | rw [if_neg (by omega)] | rw [if_pos (by assumption)] | rw [if_neg (by assumption)] | rw [if_pos (True.intro : True)])); (try (first | rfl | (congr 2; omega) | (congr 1; congr 1; omega))); done)
          | exact zQm.ok H1 (by omega) (by assumption) (by unfold sp_changes; (try unfold spPut); (try simp only [Int.toNat_natCast]); (try simp only [ek, Int.toNat_natCast]); (repeat (first | rw [if_pos (by omega)] | rw [if_neg (by omega)] | rw [if_pos (by assumption)] | rw [if_neg (by assumption)] | rw [if_pos (True.intro : True)])); (try (first | rfl | (congr 2; omega) | (congr 1; congr 1; omega))); done)
          | exact zQm.b1 H1 (by omega) (by assumption) (by unfold sp_changes; (try unfold spPut); (try simp only [Int.toNat_natCast]); (try simp only [ek, Int.toNat_natCast]); (repeat (first | rw [if_pos (by omega)] | rw [if_neg (by omega)] | rw [if_pos (by assumption)] | rw [if_neg (by assumption)] | rw [if_pos (True.intro : True)])); (try (first | rfl | (congr 2; omega) | (congr 1; congr 1; omega))); done)
          | exact zQm.b2 H1 (by omega) (by assumption) (by unfold sp_changes; (try unfold spPut); (try simp only [Int.toNat_natCast]); (try simp only [ek, Int.toNat_natCast]); (repeat (first | rw [if_pos (by omega)] | rw [if_neg (by omega)] | rw [if_pos (by assumption)] | rw [if_neg (by assumption)] | rw [if_pos (True.intro : True)])); (try (first | rfl | (congr 2; omega) | (congr 1; congr 1; omega))); done)
          | exact zQm.b3 H1 (by omega) (by assumption) (by unfold sp_changes; (try unfold spPut); (try simp only [Int.toNat_natCast]); (try simp only [ek, Int.toNat_natCast]); (repeat (first | rw [if_pos (by omega)] | rw [if_neg (by omega)] | rw [if_pos (by assumption)] | rw [if_neg (by assumption)] | rw [if_pos (True.intro : True)])); (try (first | rfl | (congr 2; omega) | (congr 1; congr 1; omega))); done)
      · refine z_aload_n dMod_changes_31 rfl ?_
        refine z_get (k := 5) fd_Mod (by decide) fl_Mod_28 dMod_changes_32 (by assumption) (by rfl) ?_
        refine z_iload_n dMod_changes_35 rfl ?_
        refine z_iald dMod_changes_36 (by assumption) (by refine ⟨?_, ?_, ?_⟩ <;> omega) ?_
        rw [Int.toNat_natCast]
        rw [e5]
        refine z_iconst dMod_changes_37 ?_
        refine z_icmp_ne (tgt := 46) dMod_changes_38 (by decide) (by omega) (by omega) (fun c38 => ?_) (fun c38 => ?_)
        · refine z_aload_n dMod_changes_46 rfl ?_
          refine z_get (k := 0) fd_Mod (by decide) fl_Mod_11 dMod_changes_47 (by assumption) (by rfl) ?_
          refine z_aload_n dMod_changes_50 rfl ?_
          refine z_get (k := 3) fd_Mod (by decide) fl_Mod_21 dMod_changes_51 (by assumption) (by rfl) ?_
          refine z_iload_n dMod_changes_54 rfl ?_
          refine z_iald dMod_changes_55 (by assumption) (by refine ⟨?_, ?_, ?_⟩ <;> omega) ?_
          rw [Int.toNat_natCast]
          rw [e3, ek]
          refine z_aald (t := 4) (ty := .array .int) rfl rfl dMod_changes_56 n3 (by refine ⟨?_, ?_, ?_⟩ <;> omega) ?_
          rw [show (kk : Int).toNat = kk from rfl, n3a kk (by omega)]
          refine z_aload_n dMod_changes_57 rfl ?_
          refine z_get (k := 5) fd_Mod (by decide) fl_Mod_28 dMod_changes_58 (by assumption) (by rfl) ?_
          refine z_iload_n dMod_changes_61 rfl ?_
          refine z_iald dMod_changes_62 (by assumption) (by refine ⟨?_, ?_, ?_⟩ <;> omega) ?_
          rw [Int.toNat_natCast]
          rw [e5]
          refine z_iload_n dMod_changes_63 rfl ?_
          refine z_iast dMod_changes_64 (by assumption) (by refine ⟨?_, ?_, ?_⟩ <;> omega) ?_
          refine z_hx (fun h2 p2 g2 => ?_)
          have r2 : zAr G h2 (ma (8 + kk)) (zSet (S.1 kk) (S.2.1 c 4) x) := zAr.st p2 rkk2 rkk3 rkk4 (by omega) (by omega)
          have H2 : zMod G h2 ma (zsL S kk (zSet (S.1 kk) (S.2.1 c 4) x)) t9 := H1.row1 hkk r2 g2
          have fz2 : zMfr ma h h2 := fz1.tr (zMfr.of1 (i := 8 + kk) (by omega) g2)
          have n2 := (g2 _ (H1.inj (i := 0) (j := 8 + kk) (by omega) (by omega) (by omega))).trans n2
          have a4 := (g2 _ (H1.inj (i := 5) (j := 8 + kk) (by omega) (by omega) (by omega))).trans a4
          refine z_aload_n dMod_changes_65 rfl ?_
          refine z_get (k := 4) fd_Mod (by decide) fl_Mod_25 dMod_changes_66 (by assumption) (by rfl) ?_
          refine z_iload_n dMod_changes_69 rfl ?_
          refine z_iald dMod_changes_70 (by assumption) (by refine ⟨?_, ?_, ?_⟩ <;> omega) ?_
          rw [Int.toNat_natCast]
          rw [e4]
          refine z_iret rfl rfl dMod_changes_71 ?_
          rcases (show t9 = 0 ∨ t9 = 1 ∨ t9 = 2 ∨ t9 = 3 by omega) with t0 | t0 | t0 | t0
          all_goals first
            | (exfalso; omega)
            | exact zQm.ok H2 (by omega) (by assumption) (by unfold sp_changes; (try unfold spPut); (try simp only [Int.toNat_natCast]); (try simp only [ek, Int.toNat_natCast]); (repeat (first | rw [if_pos (by omega)] | rw [if_neg (by omega)] | rw [if_pos (by assumption)] | rw [if_neg (by assumption)] | rw [if_pos (True.intro : True)])); (try (first | rfl | (congr 2; omega) | (congr 1; congr 1; omega))); done)
            | exact zQm.b1 H2 (by omega) (by assumption) (by unfold sp_changes; (try unfold spPut); (try simp only [Int.toNat_natCast]); (try simp only [ek, Int.toNat_natCast]); (repeat (first | rw [if_pos (by omega)] | rw [if_neg (by omega)] | rw [if_pos (by assumption)] | rw [if_neg (by assumption)] | rw [if_pos (True.intro : True)])); (try (first | rfl | (congr 2; omega) | (congr 1; congr 1; omega))); done)
            | exact zQm.b2 H2 (by omega) (by assumption) (by unfold sp_changes; (try unfold spPut); (try simp only [Int.toNat_natCast]); (try simp only [ek, Int.toNat_natCast]); (repeat (first | rw [if_pos (by omega)] | rw [if_neg (by omega)] | rw [if_pos (by assumption)] | rw [if_neg (by assumption)] | rw [if_pos (True.intro : True)])); (try (first | rfl | (congr 2; omega) | (congr 1; congr 1; omega))); done)
            | exact zQm.b3 H2 (by omega) (by assumption) (by unfold sp_changes; (try unfold spPut); (try simp only [Int.toNat_natCast]); (try simp only [ek, Int.toNat_natCast]); (repeat (first | rw [if_pos (by omega)] | rw [if_neg (by omega)] | rw [if_pos (by assumption)] | rw [if_neg (by assumption)] | rw [if_pos (True.intro : True)])); (try (first | rfl | (congr 2; omega) | (congr 1; congr 1; omega))); done)
            | exact zQm.ok H1 (by omega) (by assumption) (by unfold sp_changes; (try unfold spPut); (try simp only [Int.toNat_natCast]); (try simp only [ek, Int.toNat_natCast]); (repeat (first | rw [if_pos (by omega)] | rw [if_neg (by omega)] | rw [if_pos (by assumption)] | rw [if_neg (by assumption)] | rw [if_pos (True.intro : True)])); (try (first | rfl | (congr 2; omega) | (congr 1; congr 1; omega))); done)
            | exact zQm.b1 H1 (by omega) (by assumption) (by unfold sp_changes; (try unfold spPut); (try simp only [Int.toNat_natCast]); (try simp only [ek, Int.toNat_natCast]); (repeat (first | rw [if_pos (by omega)] | rw [if_neg (by omega)] | rw [if_pos (by assumption)] | rw [if_neg (by assumption)] | rw [if_pos (True.intro : True)])); (try (first | rfl | (congr 2; omega) | (congr 1; congr 1; omega))); done)
            | exact zQm.b2 H1 (by omega) (by assumption) (by unfold sp_changes; (try unfold spPut); (try simp only [Int.toNat_natCast]); (try simp only [ek, Int.toNat_natCast]); (repeat (first | rw [if_pos (by omega)] | rw [if_neg (by omega)] | rw [if_pos (by assumption)] | rw [if_neg (by assumption)] | rw [if_pos (True.intro : True)])); (try (first | rfl | (congr 2; omega) | (congr 1; congr 1; omega))); done)
            | exact zQm.b3 H1 (by omega) (by assumption) (by unfold sp_changes; (try unfold spPut); (try simp only [Int.toNat_natCast]); (try simp only [ek, Int.toNat_natCast]); (repeat (first | rw [if_pos (by omega)] | rw [if_neg (by omega)] | rw [if_pos (by assumption)] | rw [if_neg (by assumption)] | rw [if_pos (True.intro : True)])); (try (first | rfl | (congr 2; omega) | (congr 1; congr 1; omega))); done)
        · refine z_aload_n dMod_changes_41 rfl ?_
          refine z_callV MV_Mod_refused lk_Mod_92 dMod_changes_42 (k_Mod_refused n2 rfl rfl) rfl rfl (Nat.le_of_ble_eq_true rfl) rfl (by assumption) (Nat.le_of_ble_eq_true rfl) (Nat.le_of_ble_eq_true rfl) (Nat.le_of_eq (Nat.zero_add _)) (Nat.le_of_eq (Nat.zero_add _)) (fun _ _ q => q.elim) ?_
          rintro _ h2 ⟨rfl, p2, g2⟩
          have H2 : zMod G h2 ma (zsRef S) t9 := H1.obj (nu := zup S.2.2.2.2 1 (S.2.2.2.2 1 + 1)) p2 g2
          have fz2 : zMfr ma h h2 := zMfr.of0 (fun q hq => (g2 q hq).trans (g1 q hq))
          refine z_iret rfl rfl dMod_changes_45 ?_
          rcases (show t9 = 0 ∨ t9 = 1 ∨ t9 = 2 ∨ t9 = 3 by omega) with t0 | t0 | t0 | t0
          all_goals first
            | (exfalso; omega)
            | exact zQm.ok H2 (by omega) (by assumption) (by unfold sp_changes; (try unfold spPut); (try simp only [Int.toNat_natCast]); (try simp only [ek, Int.toNat_natCast]); (repeat (first | rw [if_pos (by omega)] | rw [if_neg (by omega)] | rw [if_pos (by assumption)] | rw [if_neg (by assumption)] | rw [if_pos (True.intro : True)])); (try (first | rfl | (congr 2; omega) | (congr 1; congr 1; omega))); done)
            | exact zQm.b1 H2 (by omega) (by assumption) (by unfold sp_changes; (try unfold spPut); (try simp only [Int.toNat_natCast]); (try simp only [ek, Int.toNat_natCast]); (repeat (first | rw [if_pos (by omega)] | rw [if_neg (by omega)] | rw [if_pos (by assumption)] | rw [if_neg (by assumption)] | rw [if_pos (True.intro : True)])); (try (first | rfl | (congr 2; omega) | (congr 1; congr 1; omega))); done)
            | exact zQm.b2 H2 (by omega) (by assumption) (by unfold sp_changes; (try unfold spPut); (try simp only [Int.toNat_natCast]); (try simp only [ek, Int.toNat_natCast]); (repeat (first | rw [if_pos (by omega)] | rw [if_neg (by omega)] | rw [if_pos (by assumption)] | rw [if_neg (by assumption)] | rw [if_pos (True.intro : True)])); (try (first | rfl | (congr 2; omega) | (congr 1; congr 1; omega))); done)
            | exact zQm.b3 H2 (by omega) (by assumption) (by unfold sp_changes; (try unfold spPut); (try simp only [Int.toNat_natCast]); (try simp only [ek, Int.toNat_natCast]); (repeat (first | rw [if_pos (by omega)] | rw [if_neg (by omega)] | rw [if_pos (by assumption)] | rw [if_neg (by assumption)] | rw [if_pos (True.intro : True)])); (try (first | rfl | (congr 2; omega) | (congr 1; congr 1; omega))); done)
            | exact zQm.ok H1 (by omega) (by assumption) (by unfold sp_changes; (try unfold spPut); (try simp only [Int.toNat_natCast]); (try simp only [ek, Int.toNat_natCast]); (repeat (first | rw [if_pos (by omega)] | rw [if_neg (by omega)] | rw [if_pos (by assumption)] | rw [if_neg (by assumption)] | rw [if_pos (True.intro : True)])); (try (first | rfl | (congr 2; omega) | (congr 1; congr 1; omega))); done)
            | exact zQm.b1 H1 (by omega) (by assumption) (by unfold sp_changes; (try unfold spPut); (try simp only [Int.toNat_natCast]); (try simp only [ek, Int.toNat_natCast]); (repeat (first | rw [if_pos (by omega)] | rw [if_neg (by omega)] | rw [if_pos (by assumption)] | rw [if_neg (by assumption)] | rw [if_pos (True.intro : True)])); (try (first | rfl | (congr 2; omega) | (congr 1; congr 1; omega))); done)
            | exact zQm.b2 H1 (by omega) (by assumption) (by unfold sp_changes; (try unfold spPut); (try simp only [Int.toNat_natCast]); (try simp only [ek, Int.toNat_natCast]); (repeat (first | rw [if_pos (by omega)] | rw [if_neg (by omega)] | rw [if_pos (by assumption)] | rw [if_neg (by assumption)] | rw [if_pos (True.intro : True)])); (try (first | rfl | (congr 2; omega) | (congr 1; congr 1; omega))); done)
            | exact zQm.b3 H1 (by omega) (by assumption) (by unfold sp_changes; (try unfold spPut); (try simp only [Int.toNat_natCast]); (try simp only [ek, Int.toNat_natCast]); (repeat (first | rw [if_pos (by omega)] | rw [if_neg (by omega)] | rw [if_pos (by assumption)] | rw [if_neg (by assumption)] | rw [if_pos (True.intro : True)])); (try (first | rfl | (congr 2; omega) | (congr 1; congr 1; omega))); done)
    · refine z_iconst dMod_changes_20 ?_
      refine z_iret rfl rfl dMod_changes_21 ?_
      rcases (show t9 = 0 ∨ t9 = 1 ∨ t9 = 2 ∨ t9 = 3 by omega) with t0 | t0 | t0 | t0
      all_goals first
        | (exfalso; omega)
        | exact zQm.ok H2 (by omega) (by assumption) (by unfold sp_changes; (try unfold spPut); (try simp only [Int.toNat_natCast]); (try simp only [ek, Int.toNat_natCast]); (repeat (first | rw [if_pos (by omega)] | rw [if_neg (by omega)] | rw [if_pos (by assumption)] | rw [if_neg (by assumption)] | rw [if_pos (True.intro : True)])); (try (first | rfl | (congr 2; omega) | (congr 1; congr 1; omega))); done)
        | exact zQm.b1 H2 (by omega) (by assumption) (by unfold sp_changes; (try unfold spPut); (try simp only [Int.toNat_natCast]); (try simp only [ek, Int.toNat_natCast]); (repeat (first | rw [if_pos (by omega)] | rw [if_neg (by omega)] | rw [if_pos (by assumption)] | rw [if_neg (by assumption)] | rw [if_pos (True.intro : True)])); (try (first | rfl | (congr 2; omega) | (congr 1; congr 1; omega))); done)
        | exact zQm.b2 H2 (by omega) (by assumption) (by unfold sp_changes; (try unfold spPut); (try simp only [Int.toNat_natCast]); (try simp only [ek, Int.toNat_natCast]); (repeat (first | rw [if_pos (by omega)] | rw [if_neg (by omega)] | rw [if_pos (by assumption)] | rw [if_neg (by assumption)] | rw [if_pos (True.intro : True)])); (try (first | rfl | (congr 2; omega) | (congr 1; congr 1; omega))); done)
        | exact zQm.b3 H2 (by omega) (by assumption) (by unfold sp_changes; (try unfold spPut); (try simp only [Int.toNat_natCast]); (try simp only [ek, Int.toNat_natCast]); (repeat (first | rw [if_pos (by omega)] | rw [if_neg (by omega)] | rw [if_pos (by assumption)] | rw [if_neg (by assumption)] | rw [if_pos (True.intro : True)])); (try (first | rfl | (congr 2; omega) | (congr 1; congr 1; omega))); done)
        | exact zQm.ok H1 (by omega) (by assumption) (by unfold sp_changes; (try unfold spPut); (try simp only [Int.toNat_natCast]); (try simp only [ek, Int.toNat_natCast]); (repeat (first | rw [if_pos (by omega)] | rw [if_neg (by omega)] | rw [if_pos (by assumption)] | rw [if_neg (by assumption)] | rw [if_pos (True.intro : True)])); (try (first | rfl | (congr 2; omega) | (congr 1; congr 1; omega))); done)
        | exact zQm.b1 H1 (by omega) (by assumption) (by unfold sp_changes; (try unfold spPut); (try simp only [Int.toNat_natCast]); (try simp only [ek, Int.toNat_natCast]); (repeat (first | rw [if_pos (by omega)] | rw [if_neg (by omega)] | rw [if_pos (by assumption)] | rw [if_neg (by assumption)] | rw [if_pos (True.intro : True)])); (try (first | rfl | (congr 2; omega) | (congr 1; congr 1; omega))); done)
        | exact zQm.b2 H1 (by omega) (by assumption) (by unfold sp_changes; (try unfold spPut); (try simp only [Int.toNat_natCast]); (try simp only [ek, Int.toNat_natCast]); (repeat (first | rw [if_pos (by omega)] | rw [if_neg (by omega)] | rw [if_pos (by assumption)] | rw [if_neg (by assumption)] | rw [if_pos (True.intro : True)])); (try (first | rfl | (congr 2; omega) | (congr 1; congr 1; omega))); done)
        | exact zQm.b3 H1 (by omega) (by assumption) (by unfold sp_changes; (try unfold spPut); (try simp only [Int.toNat_natCast]); (try simp only [ek, Int.toNat_natCast]); (repeat (first | rw [if_pos (by omega)] | rw [if_neg (by omega)] | rw [if_pos (by assumption)] | rw [if_neg (by assumption)] | rw [if_pos (True.intro : True)])); (try (first | rfl | (congr 2; omega) | (congr 1; congr 1; omega))); done)
theorem k_Mod_puts {p x : Int} (H : zMod G h ma S th) (z_p : zI32 p) (z_x : zI32 x) (hO : zOk S) (h16 : ∀ k, k < 4 → (S.1 k).length ≤ 16) : zM G l hMod_puts yMod_puts 4 [.ref (ma 0), zi p, zi x] h (zQm G ma h (1) (2) (3) (sp_puts S p x)) zNo 1 61 := by
  obtain ⟨m1, m2, ⟨g, m3, m3a⟩, m4, ⟨f6, m5, m5a⟩, m6, m7⟩ := id H
  unfold zMfs at m2
  refine zM.of [some (.ref (ma 0)), some (zi p), some (zi x)] (by decide +kernel) rfl (by decide) rfl (Nat.le_of_ble_eq_true rfl) rfl ?_
  refine z_aload_n dMod_puts_0 rfl ?_
  refine z_iload_n dMod_puts_1 rfl ?_
  refine z_callS MS_Mod_isNoCursor lk_Mod_141 dMod_puts_2 (k_Mod_isNoCursor (by omega)) rfl rfl (Nat.le_of_ble_eq_true rfl)  (Nat.le_of_ble_eq_true rfl) (Nat.le_of_ble_eq_true rfl) (Nat.le_of_eq (Nat.zero_add _)) (Nat.le_of_eq (Nat.zero_add _)) (fun _ _ q => q.elim) ?_
  rintro _ _ ⟨n9c, rfl, (⟨rfl, hn9c⟩ | ⟨rfl, hn9c⟩), rfl⟩
  · refine z_iload_n dMod_puts_5 rfl ?_
    refine z_callS MS_Mod_isNoItem lk_Mod_85 dMod_puts_6 (k_Mod_isNoItem (by omega)) rfl rfl (Nat.le_of_ble_eq_true rfl)  (Nat.le_of_ble_eq_true rfl) (Nat.le_of_ble_eq_true rfl) (Nat.le_of_eq (Nat.zero_add _)) (Nat.le_of_eq (Nat.zero_add _)) (fun _ _ q => q.elim) ?_
    rintro _ _ ⟨i9, rfl, hi9, rfl⟩
    refine z_aload_n dMod_puts_9 rfl ?_
    refine z_iload_n dMod_puts_10 rfl ?_
    refine z_callV MV_Mod_isNotThere lk_Mod_144 dMod_puts_11 (k_Mod_isNotThere H (by omega)) rfl rfl (Nat.le_of_ble_eq_true rfl) rfl (by assumption) (Nat.le_of_ble_eq_true rfl) (Nat.le_of_ble_eq_true rfl) (Nat.le_of_eq (Nat.zero_add _)) (Nat.le_of_eq (Nat.zero_add _)) (fun _ _ q => q.elim) ?_
    rintro _ _ ⟨t8, rfl, ht8, rfl⟩
    try simp only [Int.toNat_natCast] at ht8
    refine z_callV MV_Mod_fails lk_Mod_88 dMod_puts_14 (k_Mod_fails (by assumption) rfl (by omega) (by omega) (by omega)) rfl rfl (Nat.le_of_ble_eq_true rfl) rfl (by assumption) (Nat.le_of_ble_eq_true rfl) (Nat.le_of_ble_eq_true rfl) (Nat.le_of_eq (Nat.zero_add _)) (Nat.le_of_eq (Nat.zero_add _)) (fun _ _ q => q.elim) ?_
    rintro _ h1 ⟨t9, b8, rfl, ht, p1, g1⟩
    have H1 : zMod G h1 ma S t9 := H.obj (nu := S.2.2.2.2) (th' := t9) p1 g1
    have fz1 : zMfr ma h h1 := zMfr.of0 g1
    obtain ⟨-, n2, ⟨gg, n3, n3a⟩, n4, ⟨f61, n5, n5a⟩, n6, n7⟩ := id H1
    unfold zMfs at n2
    refine z_if_eq (tgt := 22) dMod_puts_17 (by decide) (by omega) (fun c17 => ?_) (fun c17 => ?_)
    · exfalso; omega
    · refine z_iconst dMod_puts_20 ?_
      refine z_iret rfl rfl dMod_puts_21 ?_
      rcases (show t9 = 0 ∨ t9 = 1 ∨ t9 = 2 ∨ t9 = 3 by omega) with t0 | t0 | t0 | t0
      all_goals first
        | (exfalso; omega)
        | exact zQm.okB H9 (Or.inr ⟨dq2, gq2⟩) (by omega) (by assumption) (by unfold sp_puts; (try unfold spPut); (try simp only [Int.toNat_natCast]); (try simp only [ek, Int.toNat_natCast]); (repeat (first | rw [if_pos (by omega)] | rw [if_neg (by omega)] | rw [if_pos (by assumption)] | rw [if_neg (by assumption)] | rw [if_pos (True.intro : True)])); (try (first | rfl | (congr 2; omega) | (congr 1; congr 1; omega))); done)
        | exact zQm.ok H2 (by omega) (by assumption) (by unfold sp_puts; (try unfold spPut); (try simp only [Int.toNat_natCast]); (try simp only [ek, Int.toNat_natCast]); (repeat (first | rw [if_pos (by omega)] | rw [if_neg (by omega)] | rw [if_pos (by assumption)] | rw [if_neg (by assumption)] | rw [if_pos (True.intro : True)])); (try (first | rfl | (congr 2; omega) | (congr 1; congr 1; omega))); done)
        | exact zQm.b1 H2 (by omega) (by assumption) (by unfold sp_puts; (try unfold spPut); (try simp only [Int.toNat_natCast]); (try simp only [ek, Int.toNat_natCast]); (repeat (first | rw [if_pos (by omega)] | rw [if_neg (by omega)] | rw [if_pos (by assumption)] | rw [if_neg (by assumption)] | rw [if_pos (True.intro : True)])); (try (first | rfl | (congr 2; omega) | (congr 1; congr 1; omega))); done)
        | exact zQm.b2 H2 (by omega) (by assumption) (by unfold sp_puts; (try unfold spPut); (try simp only [Int.toNat_natCast]); (try simp only [ek, Int.toNat_natCast]); (repeat (first | rw [if_pos (by omega)] | rw [if_neg (by omega)] | rw [if_pos (by assumption)] | rw [if_neg (by assumption)] | rw [if_pos (True.intro : True)])); (try (first | rfl | (congr 2; omega) | (congr 1; congr 1; omega))); done)
        | exact zQm.b3 H2 (by omega) (by assumption) (by unfold sp_puts; (try unfold spPut); (try simp only [Int.toNat_natCast]); (try simp only [ek, Int.toNat_natCast]); (repeat (first | rw [if_pos (by omega)] | rw [if_neg (by omega)] | rw [if_pos (by assumption)] | rw [if_neg (by assumption)] | rw [if_pos (True.intro : True)])); (try (first | rfl | (congr 2; omega) | (congr 1; congr 1; omega))); done)
        | exact zQm.ok H1 (by omega) (by assumption) (by unfold sp_puts; (try unfold spPut); (try simp only [Int.toNat_natCast]); (try simp only [ek, Int.toNat_natCast]); (repeat (first | rw [if_pos (by omega)] | rw [if_neg (by omega)] | rw [if_pos (by assumption)] | rw [if_neg (by assumption)] | rw [if_pos (True.intro : True)])); (try (first | rfl | (congr 2; omega) | (congr 1; congr 1; omega))); done)
        | exact zQm.b1 H1 (by omega) (by assumption) (by unfold sp_puts; (try unfold spPut); (try simp only [Int.toNat_natCast]); (try simp only [ek, Int.toNat_natCast]); (repeat (first | rw [if_pos (by omega)] | rw [if_neg (by omega)] | rw [if_pos (by assumption)] | rw [if_neg (by assumption)] | rw [if_pos (True.intro : True)])); (try (first | rfl | (congr 2; omega) | (congr 1; congr 1; omega))); done)
        | exact zQm.b2 H1 (by omega) (by assumption) (by unfold sp_puts; (try unfold spPut); (try simp only [Int.toNat_natCast]); (try simp only [ek, Int.toNat_natCast]); (repeat (first | rw [if_pos (by omega)] | rw [if_neg (by omega)] | rw [if_pos (by assumption)] | rw [if_neg (by assumption)] | rw [if_pos (True.intro : True)])); (try (first | rfl | (congr 2; omega) | (congr 1; congr 1; omega))); done)
        | exact zQm.b3 H1 (by omega) (by assumption) (by unfold sp_puts; (try unfold spPut); (try simp only [Int.toNat_natCast]); (try simp only [ek, Int.toNat_natCast]); (repeat (first | rw [if_pos (by omega)] | rw [if_neg (by omega)] | rw [if_pos (by assumption)] | rw [if_neg (by assumption)] | rw [if_pos (True.intro : True)])); (try (first | rfl | (congr 2; omega) | (congr 1; congr 1; omega))); done)
  · obtain ⟨c, rfl⟩ := Int.eq_ofNat_of_zero_le (show 0 ≤ p by omega)
    have hc : c < 3 := by omega
    refine z_iload_n dMod_puts_5 rfl ?_
    refine z_callS MS_Mod_isNoItem lk_Mod_85 dMod_puts_6 (k_Mod_isNoItem (by omega)) rfl rfl (Nat.le_of_ble_eq_true rfl)  (Nat.le_of_ble_eq_true rfl) (Nat.le_of_ble_eq_true rfl) (Nat.le_of_eq (Nat.zero_add _)) (Nat.le_of_eq (Nat.zero_add _)) (fun _ _ q => q.elim) ?_
    rintro _ _ ⟨i9, rfl, hi9, rfl⟩
    refine z_aload_n dMod_puts_9 rfl ?_
    refine z_iload_n dMod_puts_10 rfl ?_
    refine z_callV MV_Mod_isNotThere lk_Mod_144 dMod_puts_11 (k_Mod_isNotThere H (by omega)) rfl rfl (Nat.le_of_ble_eq_true rfl) rfl (by assumption) (Nat.le_of_ble_eq_true rfl) (Nat.le_of_ble_eq_true rfl) (Nat.le_of_eq (Nat.zero_add _)) (Nat.le_of_eq (Nat.zero_add _)) (fun _ _ q => q.elim) ?_
    rintro _ _ ⟨t8, rfl, ht8, rfl⟩
    try simp only [Int.toNat_natCast] at ht8
    refine z_callV MV_Mod_fails lk_Mod_88 dMod_puts_14 (k_Mod_fails (by assumption) rfl (by omega) (by omega) (by omega)) rfl rfl (Nat.le_of_ble_eq_true rfl) rfl (by assumption) (Nat.le_of_ble_eq_true rfl) (Nat.le_of_ble_eq_true rfl) (Nat.le_of_eq (Nat.zero_add _)) (Nat.le_of_eq (Nat.zero_add _)) (fun _ _ q => q.elim) ?_
    rintro _ h1 ⟨t9, b8, rfl, ht, p1, g1⟩
    have H1 : zMod G h1 ma S t9 := H.obj (nu := S.2.2.2.2) (th' := t9) p1 g1
    have fz1 : zMfr ma h h1 := zMfr.of0 g1
    obtain ⟨-, n2, ⟨gg, n3, n3a⟩, n4, ⟨f61, n5, n5a⟩, n6, n7⟩ := id H1
    unfold zMfs at n2
    refine z_if_eq (tgt := 22) dMod_puts_17 (by decide) (by omega) (fun c17 => ?_) (fun c17 => ?_)
    · obtain ⟨⟨v1, a1, b1⟩, ⟨v2, a2, b2⟩, ⟨v3, a3, b3⟩, ⟨v4, a4, b4⟩, ⟨v5, a5, b5⟩⟩ := id n4
      have hth : S.2.1 c 0 = 1 := by omega
      have b1c := b1 c (by omega)
      have b2c := b2 c (by omega)
      have b3c := b3 c (by omega)
      have b4c := b4 c (by omega)
      have b5c := b5 c (by omega)
      have e2 := b2c.2 hth
      have e3 := b3c.2 hth
      have e4 := b4c.2 hth
      have e5 := b5c.2 hth
      have ok9 := hO.1 c (by omega) hth
      obtain ⟨kk, ek⟩ := Int.eq_ofNat_of_zero_le ok9.1.1
      have hkk : kk < 4 := by omega
      have ok8 := ok9.2.2.2
      rw [ek, Int.toNat_natCast] at ok8
      have h16k := h16 kk hkk
      obtain ⟨frkk, rkk1, rkk2, rkk3, rkk4⟩ := id (n6 kk hkk)
      refine z_aload_n dMod_puts_22 rfl ?_
      refine z_get (k := 2) fd_Mod (by decide) fl_Mod_18 dMod_puts_23 (by assumption) (by rfl) ?_
      refine z_iload_n dMod_puts_26 rfl ?_
      refine z_zald dMod_puts_27 (by assumption) (by refine ⟨?_, ?_, ?_⟩ <;> omega) ?_
      rw [Int.toNat_natCast]
      rw [e2]
      refine z_if_ne (tgt := 48) dMod_puts_28 (by decide) (by omega) (fun c28 => ?_) (fun c28 => ?_)
      · refine z_aload_n dMod_puts_48 rfl ?_
        refine z_callV MV_Mod_refused lk_Mod_92 dMod_puts_49 (k_Mod_refused n2 rfl rfl) rfl rfl (Nat.le_of_ble_eq_true rfl) rfl (by assumption) (Nat.le_of_ble_eq_true rfl) (Nat.le_of_ble_eq_true rfl) (Nat.le_of_eq (Nat.zero_add _)) (Nat.le_of_eq (Nat.zero_add _)) (fun _ _ q => q.elim) ?_
        rintro _ h2 ⟨rfl, p2, g2⟩
        have H2 : zMod G h2 ma (zsRef S) t9 := H1.obj (nu := zup S.2.2.2.2 1 (S.2.2.2.2 1 + 1)) p2 g2
        have fz2 : zMfr ma h h2 := zMfr.of0 (fun q hq => (g2 q hq).trans (g1 q hq))
        refine z_iret rfl rfl dMod_puts_52 ?_
        rcases (show t9 = 0 ∨ t9 = 1 ∨ t9 = 2 ∨ t9 = 3 by omega) with t0 | t0 | t0 | t0
        all_goals first
          | (exfalso; omega)
          | exact zQm.okB H9 (Or.inr ⟨dq2, gq2⟩) (by omega) (by assumption) (by unfold sp_puts; (try unfold spPut); (try simp only [Int.toNat_natCast]); (try simp only [ek, Int.toNat_natCast]); (repeat (first | rw [if_pos (by omega)] | rw [if_neg (by omega)] | rw [if_pos (by assumption)] | rw [if_neg (by assumption)] | rw [if_pos (True.intro : True)])); (try (first | rfl | (congr 2; omega) | (congr 1; congr 1; omega))); done)
          | exact zQm.ok H2 (by omega) (by assumption) (by unfold sp_puts; (try unfold spPut); (try simp only [Int.toNat_natCast]); (try simp only [ek, Int.toNat_natCast]); (repeat (first | rw [if_pos (by omega)] | rw [if_neg (by omega)] | rw [if_pos (by assumption)] | rw [if_neg (by assumption)] | rw [if_pos (True.intro : True)])); (try (first | rfl | (congr 2; omega) | (congr 1; congr 1; omega))); done)
          | exact zQm.b1 H2 (by omega) (by assumption) (by unfold sp_puts; (try unfold spPut); (try simp only [Int.toNat_natCast]); (try simp only [ek, Int.toNat_natCast]); (repeat (first | rw [if_pos (by omega)] | rw [if_neg (by omega)] | rw [if_pos (by assumption)] | rw [if_neg (by assumption)] | rw [if_pos (True.intro : True)])); (try (first | rfl | (congr 2; omega) | (congr 1; congr 1; omega))); done)
          | exact zQm.b2 H2 (by omega) (by assumption) (by unfold sp_puts; (try unfold spPut); (try simp only [Int.toNat_natCast]); (try simp only [ek, Int.toNat_natCast]); (repeat (first | rw [if_pos (by omega)] | rw [if_neg (by omega)] | rw [if_pos (by assumption)] | rw [if_neg (by assumption)] | rw [if_pos (True.intro : True)])); (try (first | rfl | (congr 2; omega) | (congr 1; congr 1; omega))); done)
          | exact zQm.b3 H2 (by omega) (by assumption) (by unfold sp_puts; (try unfold spPut); (try simp only [Int.toNat_natCast]); (try simp only [ek, Int.toNat_natCast]); (repeat (first | rw [if_pos (by omega)] | rw [if_neg (by omega)] | rw [if_pos (by assumption)] | rw [if_neg (by assumption)] | rw [if_pos (True.intro : True)])); (try (first | rfl | (congr 2; omega) | (congr 1; congr 1; omega))); done)
          | exact zQm.ok H1 (by omega) (by assumption) (by unfold sp_puts; (try unfold spPut); (try simp only [Int.toNat_natCast]); (try simp only [ek, Int.toNat_natCast]); (repeat (first | rw [if_pos (by omega)] | rw [if_neg (by omega)] | rw [if_pos (by assumption)] | rw [if_neg (by assumption)] | rw [if_pos (True.intro : True)])); (try (first | rfl | (congr 2; omega) | (congr 1; congr 1; omega))); done)
          | exact zQm.b1 H1 (by omega) (by assumption) (by unfold sp_puts; (try unfold spPut); (try simp only [Int.toNat_natCast]); (try simp only [ek, Int.toNat_natCast]); (repeat (first | rw [if_pos (by omega)] | rw [if_neg (by omega)] | rw [if_pos (by assumption)] | rw [if_neg (by assumption)] | rw [if_pos (True.intro : True)])); (try (first | rfl | (congr 2; omega) | (congr 1; congr 1; omega))); done)
          | exact zQm.b2 H1 (by omega) (by assumption) (by unfold sp_puts; (try unfold spPut); (try simp only [Int.toNat_natCast]); (try simp only [ek, Int.toNat_natCast]); (repeat (first | rw [if_pos (by omega)] | rw [if_neg (by omega)] | rw [if_pos (by assumption)] | rw [if_neg (by assumption)] | rw [if_pos (True.intro : True)])); (try (first | rfl | (congr 2; omega) | (congr 1; congr 1; omega))); done)
          | exact zQm.b3 H1 (by omega) (by assumption) (by unfold sp_puts; (try unfold spPut); (try simp only [Int.toNat_natCast]); (try simp only [ek, Int.toNat_natCast]); (repeat (first | rw [if_pos (by omega)] | rw [if_neg (by omega)] | rw [if_pos (by assumption)] | rw [if_neg (by assumption)] | rw [if_pos (True.intro : True)])); (try (first | rfl | (congr 2; omega) | (congr 1; congr 1; omega))); done)
      · refine z_aload_n dMod_puts_31 rfl ?_
        refine z_get (k := 0) fd_Mod (by decide) fl_Mod_11 dMod_puts_32 (by assumption) (by rfl) ?_
        refine z_aload_n dMod_puts_35 rfl ?_
        refine z_get (k := 3) fd_Mod (by decide) fl_Mod_21 dMod_puts_36 (by assumption) (by rfl) ?_
        refine z_iload_n dMod_puts_39 rfl ?_
        refine z_iald dMod_puts_40 (by assumption) (by refine ⟨?_, ?_, ?_⟩ <;> omega) ?_
        rw [Int.toNat_natCast]
        rw [e3, ek]
        refine z_aald (t := 4) (ty := .array .int) rfl rfl dMod_puts_41 n3 (by refine ⟨?_, ?_, ?_⟩ <;> omega) ?_
        rw [show (kk : Int).toNat = kk from rfl, n3a kk (by omega)]
        refine z_alenI dMod_puts_42 (by assumption) ?_
        refine z_bipush dMod_puts_43 rfl ?_
        refine z_icmp_ne (tgt := 53) dMod_puts_45 (by decide) (by omega) (by omega) (fun c45 => ?_) (fun c45 => ?_)
        · refine z_aload_n dMod_puts_53 rfl ?_
          refine z_aload_n dMod_puts_54 rfl ?_
          refine z_get (k := 3) fd_Mod (by decide) fl_Mod_21 dMod_puts_55 (by assumption) (by rfl) ?_
          refine z_iload_n dMod_puts_58 rfl ?_
          refine z_iald dMod_puts_59 (by assumption) (by refine ⟨?_, ?_, ?_⟩ <;> omega) ?_
          rw [Int.toNat_natCast]
          rw [e3, ek]
          refine z_aload_n dMod_puts_60 rfl ?_
          refine z_get (k := 0) fd_Mod (by decide) fl_Mod_11 dMod_puts_61 (by assumption) (by rfl) ?_
          refine z_aload_n dMod_puts_64 rfl ?_
          refine z_get (k := 3) fd_Mod (by decide) fl_Mod_21 dMod_puts_65 (by assumption) (by rfl) ?_
          refine z_iload_n dMod_puts_68 rfl ?_
          refine z_iald dMod_puts_69 (by assumption) (by refine ⟨?_, ?_, ?_⟩ <;> omega) ?_
          rw [Int.toNat_natCast]
          rw [e3, ek]
          refine z_aald (t := 4) (ty := .array .int) rfl rfl dMod_puts_70 n3 (by refine ⟨?_, ?_, ?_⟩ <;> omega) ?_
          rw [show (kk : Int).toNat = kk from rfl, n3a kk (by omega)]
          refine z_aload_n dMod_puts_71 rfl ?_
          refine z_get (k := 4) fd_Mod (by decide) fl_Mod_25 dMod_puts_72 (by assumption) (by rfl) ?_
          refine z_iload_n dMod_puts_75 rfl ?_
          refine z_iald dMod_puts_76 (by assumption) (by refine ⟨?_, ?_, ?_⟩ <;> omega) ?_
          rw [Int.toNat_natCast]
          rw [e4]
          refine z_iload_n dMod_puts_77 rfl ?_
          refine z_callS (bc' := 0) (bs' := 0) MS_Mod_with lk_Mod_49 dMod_puts_78 (k_Mod_with (n6 kk hkk) (by omega) (by omega) (by omega)) rfl rfl (Nat.le_of_ble_eq_true rfl)  (Nat.le_of_ble_eq_true rfl) (Nat.le_of_ble_eq_true rfl) (by decide) (by decide) (fun _ _ q => q.elim) ?_
          rintro _ h2 ⟨q2, rfl, hq2, gq2, r2, F2⟩
          have H2 : zMod G h2 ma S t9 := H1.keep hq2 F2
          have fz2 : zMfr ma h h2 := fz1.tr (zMfr.new hq2 F2)
          have dq2 : zDm h q2 := hq2.up H1 fz1
          have oc2 := H2.2.1
          have hzl := zIns_len (S.1 kk) (S.2.1 c 3) x
          refine z_iload_n dMod_puts_81 rfl ?_
          refine z_callV MV_Mod_become lk_Mod_77 dMod_puts_82 (k_Mod_become H2 hkk r2 (fun i hi _ => H1.nq hq2 hi) (by omega)) rfl rfl (Nat.le_of_ble_eq_true rfl) rfl (by assumption) (Nat.le_of_ble_eq_true rfl) (Nat.le_of_ble_eq_true rfl) (Nat.le_of_eq (Nat.zero_add _)) (Nat.le_of_eq (Nat.zero_add _)) (fun _ _ q => q.elim) ?_
          rintro _ h3 ⟨rfl, H3, F3⟩
          have fz3 : zMfr ma h h3 := fz2.tr (zMfr.bec F3)
          obtain ⟨mb, hmb⟩ : ∃ mb, zup ma (8 + kk) q2 = mb := ⟨_, rfl⟩
          rw [hmb] at H3
          have eb : ∀ i, i < 8 → mb i = ma i := fun i hi => by rw [← hmb]; exact zup_ne (by omega)
          obtain ⟨-, w2, -, w4, -⟩ := id H3
          unfold zMfs at w2
          rw [eb 0 (by omega)] at w2
          obtain ⟨⟨v1, a1, b1⟩, ⟨v2, a2, b2⟩, ⟨v3, a3, b3⟩, ⟨v4, a4, b4⟩, ⟨v5, a5, b5⟩⟩ := id w4
          have sc : ∀ f : Nat, (zsStale (zsL S kk (zIns (S.1 kk) (S.2.1 c 3) x)) (kk : Int) c).2.1 c f = S.2.1 c f := fun f => zstc (zsL S kk (zIns (S.1 kk) (S.2.1 c 3) x)) (kk : Int) c f
          have hth' := (sc 0).trans hth
          have x1 := (b1 c (by omega)).1.trans (sc 0)
          have x2 := ((b2 c (by omega)).2 hth').trans (sc 1)
          have x2b := (b2 c (by omega)).1
          have x3 := ((b3 c (by omega)).2 hth').trans ((sc 2).trans ek)
          have x4 := ((b4 c (by omega)).2 hth').trans (sc 3)
          have x5 := ((b5 c (by omega)).2 hth').trans (sc 4)
          refine z_aload_n dMod_puts_85 rfl ?_
          refine z_get (k := 4) fd_Mod (by decide) fl_Mod_25 dMod_puts_86 (by assumption) (by rfl) ?_
          refine z_iload_n dMod_puts_89 rfl ?_
          refine z_dup2 rfl rfl dMod_puts_90 ?_
          refine z_iald dMod_puts_91 (by assumption) (by refine ⟨?_, ?_, ?_⟩ <;> omega) ?_
          rw [Int.toNat_natCast]
          rw [x4]
          refine z_iconst dMod_puts_92 ?_
          refine z_iadd dMod_puts_93 ?_
          refine z_iast dMod_puts_94 (by assumption) (by refine ⟨?_, ?_, ?_⟩ <;> omega) ?_
          refine z_hx (fun h4 p4 g4 => ?_)
          rw [Int.toNat_natCast] at p4
          have w2 := (g4 (ma 0) (by rw [← eb 0 (by omega)]; exact H3.inj (by omega) (by omega) (by omega))).trans w2
          have a1 := (g4 (mb 2) (H3.inj (i := 2) (j := 5) (by omega) (by omega) (by omega))).trans a1
          have a2 := (g4 (mb 3) (H3.inj (i := 3) (j := 5) (by omega) (by omega) (by omega))).trans a2
          have a3 := (g4 (mb 4) (H3.inj (i := 4) (j := 5) (by omega) (by omega) (by omega))).trans a3
          have a4 := p4
          have a5 := (g4 (mb 6) (H3.inj (i := 6) (j := 5) (by omega) (by omega) (by omega))).trans a5
          refine z_aload_n dMod_puts_95 rfl ?_
          refine z_get (k := 5) fd_Mod (by decide) fl_Mod_28 dMod_puts_96 (by assumption) (by rfl) ?_
          refine z_iload_n dMod_puts_99 rfl ?_
          refine z_iconst dMod_puts_100 ?_
          refine z_iast dMod_puts_101 (by assumption) (by refine ⟨?_, ?_, ?_⟩ <;> omega) ?_
          refine z_hx (fun h5 p5 g5 => ?_)
          rw [Int.toNat_natCast] at p5
          have w2 := (g5 (ma 0) (by rw [← eb 0 (by omega)]; exact H3.inj (by omega) (by omega) (by omega))).trans w2
          have a1 := (g5 (mb 2) (H3.inj (i := 2) (j := 6) (by omega) (by omega) (by omega))).trans a1
          have a2 := (g5 (mb 3) (H3.inj (i := 3) (j := 6) (by omega) (by omega) (by omega))).trans a2
          have a3 := (g5 (mb 4) (H3.inj (i := 4) (j := 6) (by omega) (by omega) (by omega))).trans a3
          have a4 := (g5 (mb 5) (H3.inj (i := 5) (j := 6) (by omega) (by omega) (by omega))).trans a4
          have a5 := p5
          refine z_aload_n dMod_puts_102 rfl ?_
          refine z_get (k := 4) fd_Mod (by decide) fl_Mod_25 dMod_puts_103 (by assumption) (by rfl) ?_
          refine z_iload_n dMod_puts_106 rfl ?_
          refine z_iald dMod_puts_107 (by assumption) (by refine ⟨?_, ?_, ?_⟩ <;> omega) ?_
          rw [Int.toNat_natCast]
          rw [zup_same]
          have F9 : ∀ z, (∀ i, 2 ≤ i → i ≤ 6 → z ≠ mb i) → h5 z = h3 z := fun z hz => (g5 z (hz 6 (by omega) (by omega))).trans (g4 z (hz 5 (by omega) (by omega)))
          have hmc : zMcu G h5 mb (zup (zsStale (zsL S kk (zIns (S.1 kk) (S.2.1 c 3) x)) kk c).2.1 c (zCv (S.2.1 c 0) (S.2.1 c 1) (kk : Int) (S.2.1 c 3 + 1) (-1))) := zMcu.up b1 b2 b3 b4 b5 a1 a2 a3 a4 a5 zid_u zid_u zid_u zup_u zup_u ⟨x1, b1c.2⟩ ⟨x2b, fun _ => x2⟩ ⟨by omega, fun _ => x3⟩ (zup_w (by omega) rfl) (zup_w (by omega) rfl)
          have H9 := H3.cusF hmc F9
          rw [zsSt_cur] at H9
          have fz9 : zMfr ma h h5 := fz3.tr (fun q e he hq => (F9 q (fun i i2 i6 => by rw [eb i (by omega)]; exact hq i (by omega))).trans he)
          subst hmb
          refine z_iret rfl rfl dMod_puts_108 ?_
          rcases (show t9 = 0 ∨ t9 = 1 ∨ t9 = 2 ∨ t9 = 3 by omega) with t0 | t0 | t0 | t0
          all_goals first
            | (exfalso; omega)
            | exact zQm.okB H9 (Or.inr ⟨dq2, gq2⟩) (by omega) (by assumption) (by unfold sp_puts; (try unfold spPut); (try simp only [Int.toNat_natCast]); (try simp only [ek, Int.toNat_natCast]); (repeat (first | rw [if_pos (by omega)] | rw [if_neg (by omega)] | rw [if_pos (by assumption)] | rw [if_neg (by assumption)] | rw [if_pos (True.intro : True)])); (try (first | rfl | (congr 2; omega) | (congr 1; congr 1; omega))); done)
            | exact zQm.ok H2 (by omega) (by assumption) (by unfold sp_puts; (try unfold spPut); (try simp only [Int.toNat_natCast]); (try simp only [ek, Int.toNat_natCast]); (repeat (first | rw [if_pos (by omega)] | rw [if_neg (by omega)] | rw [if_pos (by assumption)] | rw [if_neg (by assumption)] | rw [if_pos (True.intro : True)])); (try (first | rfl | (congr 2; omega) | (congr 1; congr 1; omega))); done)
            | exact zQm.b1 H2 (by omega) (by assumption) (by unfold sp_puts; (try unfold spPut); (try simp only [Int.toNat_natCast]); (try simp only [ek, Int.toNat_natCast]); (repeat (first | rw [if_pos (by omega)] | rw [if_neg (by omega)] | rw [if_pos (by assumption)] | rw [if_neg (by assumption)] | rw [if_pos (True.intro : True)])); (try (first | rfl | (congr 2; omega) | (congr 1; congr 1; omega))); done)
            | exact zQm.b2 H2 (by omega) (by assumption) (by unfold sp_puts; (try unfold spPut); (try simp only [Int.toNat_natCast]); (try simp only [ek, Int.toNat_natCast]); (repeat (first | rw [if_pos (by omega)] | rw [if_neg (by omega)] | rw [if_pos (by assumption)] | rw [if_neg (by assumption)] | rw [if_pos (True.intro : True)])); (try (first | rfl | (congr 2; omega) | (congr 1; congr 1; omega))); done)
            | exact zQm.b3 H2 (by omega) (by assumption) (by unfold sp_puts; (try unfold spPut); (try simp only [Int.toNat_natCast]); (try simp only [ek, Int.toNat_natCast]); (repeat (first | rw [if_pos (by omega)] | rw [if_neg (by omega)] | rw [if_pos (by assumption)] | rw [if_neg (by assumption)] | rw [if_pos (True.intro : True)])); (try (first | rfl | (congr 2; omega) | (congr 1; congr 1; omega))); done)
            | exact zQm.ok H1 (by omega) (by assumption) (by unfold sp_puts; (try unfold spPut); (try simp only [Int.toNat_natCast]); (try simp only [ek, Int.toNat_natCast]); (repeat (first | rw [if_pos (by omega)] | rw [if_neg (by omega)] | rw [if_pos (by assumption)] | rw [if_neg (by assumption)] | rw [if_pos (True.intro : True)])); (try (first | rfl | (congr 2; omega) | (congr 1; congr 1; omega))); done)
            | exact zQm.b1 H1 (by omega) (by assumption) (by unfold sp_puts; (try unfold spPut); (try simp only [Int.toNat_natCast]); (try simp only [ek, Int.toNat_natCast]); (repeat (first | rw [if_pos (by omega)] | rw [if_neg (by omega)] | rw [if_pos (by assumption)] | rw [if_neg (by assumption)] | rw [if_pos (True.intro : True)])); (try (first | rfl | (congr 2; omega) | (congr 1; congr 1; omega))); done)
            | exact zQm.b2 H1 (by omega) (by assumption) (by unfold sp_puts; (try unfold spPut); (try simp only [Int.toNat_natCast]); (try simp only [ek, Int.toNat_natCast]); (repeat (first | rw [if_pos (by omega)] | rw [if_neg (by omega)] | rw [if_pos (by assumption)] | rw [if_neg (by assumption)] | rw [if_pos (True.intro : True)])); (try (first | rfl | (congr 2; omega) | (congr 1; congr 1; omega))); done)
            | exact zQm.b3 H1 (by omega) (by assumption) (by unfold sp_puts; (try unfold spPut); (try simp only [Int.toNat_natCast]); (try simp only [ek, Int.toNat_natCast]); (repeat (first | rw [if_pos (by omega)] | rw [if_neg (by omega)] | rw [if_pos (by assumption)] | rw [if_neg (by assumption)] | rw [if_pos (True.intro : True)])); (try (first | rfl | (congr 2; omega) | (congr 1; congr 1; omega))); done)
        · refine z_aload_n dMod_puts_48 rfl ?_
          refine z_callV MV_Mod_refused lk_Mod_92 dMod_puts_49 (k_Mod_refused n2 rfl rfl) rfl rfl (Nat.le_of_ble_eq_true rfl) rfl (by assumption) (Nat.le_of_ble_eq_true rfl) (Nat.le_of_ble_eq_true rfl) (Nat.le_of_eq (Nat.zero_add _)) (Nat.le_of_eq (Nat.zero_add _)) (fun _ _ q => q.elim) ?_
          rintro _ h2 ⟨rfl, p2, g2⟩
          have H2 : zMod G h2 ma (zsRef S) t9 := H1.obj (nu := zup S.2.2.2.2 1 (S.2.2.2.2 1 + 1)) p2 g2
          have fz2 : zMfr ma h h2 := zMfr.of0 (fun q hq => (g2 q hq).trans (g1 q hq))
          refine z_iret rfl rfl dMod_puts_52 ?_
          rcases (show t9 = 0 ∨ t9 = 1 ∨ t9 = 2 ∨ t9 = 3 by omega) with t0 | t0 | t0 | t0
          all_goals first
            | (exfalso; omega)
            | exact zQm.okB H9 (Or.inr ⟨dq2, gq2⟩) (by omega) (by assumption) (by unfold sp_puts; (try unfold spPut); (try simp only [Int.toNat_natCast]); (try simp only [ek, Int.toNat_natCast]); (repeat (first | rw [if_pos (by omega)] | rw [if_neg (by omega)] | rw [if_pos (by assumption)] | rw [if_neg (by assumption)] | rw [if_pos (True.intro : True)])); (try (first | rfl | (congr 2; omega) | (congr 1; congr 1; omega))); done)
            | exact zQm.ok H2 (by omega) (by assumption) (by unfold sp_puts; (try unfold spPut); (try simp only [Int.toNat_natCast]); (try simp only [ek, Int.toNat_natCast]); (repeat (first | rw [if_pos (by omega)] | rw [if_neg (by omega)] | rw [if_pos (by assumption)] | rw [if_neg (by assumption)] | rw [if_pos (True.intro : True)])); (try (first | rfl | (congr 2; omega) | (congr 1; congr 1; omega))); done)
            | exact zQm.b1 H2 (by omega) (by assumption) (by unfold sp_puts; (try unfold spPut); (try simp only [Int.toNat_natCast]); (try simp only [ek, Int.toNat_natCast]); (repeat (first | rw [if_pos (by omega)] | rw [if_neg (by omega)] | rw [if_pos (by assumption)] | rw [if_neg (by assumption)] | rw [if_pos (True.intro : True)])); (try (first | rfl | (congr 2; omega) | (congr 1; congr 1; omega))); done)
            | exact zQm.b2 H2 (by omega) (by assumption) (by unfold sp_puts; (try unfold spPut); (try simp only [Int.toNat_natCast]); (try simp only [ek, Int.toNat_natCast]); (repeat (first | rw [if_pos (by omega)] | rw [if_neg (by omega)] | rw [if_pos (by assumption)] | rw [if_neg (by assumption)] | rw [if_pos (True.intro : True)])); (try (first | rfl | (congr 2; omega) | (congr 1; congr 1; omega))); done)
            | exact zQm.b3 H2 (by omega) (by assumption) (by unfold sp_puts; (try unfold spPut); (try simp only [Int.toNat_natCast]); (try simp only [ek, Int.toNat_natCast]); (repeat (first | rw [if_pos (by omega)] | rw [if_neg (by omega)] | rw [if_pos (by assumption)] | rw [if_neg (by assumption)] | rw [if_pos (True.intro : True)])); (try (first | rfl | (congr 2; omega) | (congr 1; congr 1; omega))); done)
            | exact zQm.ok H1 (by omega) (by assumption) (by unfold sp_puts; (try unfold spPut); (try simp only [Int.toNat_natCast]); (try simp only [ek, Int.toNat_natCast]); (repeat (first | rw [if_pos (by omega)] | rw [if_neg (by omega)] | rw [if_pos (by assumption)] | rw [if_neg (by assumption)] | rw [if_pos (True.intro : True)])); (try (first | rfl | (congr 2; omega) | (congr 1; congr 1; omega))); done)
            | exact zQm.b1 H1 (by omega) (by assumption) (by unfold sp_puts; (try unfold spPut); (try simp only [Int.toNat_natCast]); (try simp only [ek, Int.toNat_natCast]); (repeat (first | rw [if_pos (by omega)] | rw [if_neg (by omega)] | rw [if_pos (by assumption)] | rw [if_neg (by assumption)] | rw [if_pos (True.intro : True)])); (try (first | rfl | (congr 2; omega) | (congr 1; congr 1; omega))); done)
            | exact zQm.b2 H1 (by omega) (by assumption) (by unfold sp_puts; (try unfold spPut); (try simp only [Int.toNat_natCast]); (try simp only [ek, Int.toNat_natCast]); (repeat (first | rw [if_pos (by omega)] | rw [if_neg (by omega)] | rw [if_pos (by assumption)] | rw [if_neg (by assumption)] | rw [if_pos (True.intro : True)])); (try (first | rfl | (congr 2; omega) | (congr 1; congr 1; omega))); done)
            | exact zQm.b3 H1 (by omega) (by assumption) (by unfold sp_puts; (try unfold spPut); (try simp only [Int.toNat_natCast]); (try simp only [ek, Int.toNat_natCast]); (repeat (first | rw [if_pos (by omega)] | rw [if_neg (by omega)] | rw [if_pos (by assumption)] | rw [if_neg (by assumption)] | rw [if_pos (True.intro : True)])); (try (first | rfl | (congr 2; omega) | (congr 1; congr 1; omega))); done)
    · refine z_iconst dMod_puts_20 ?_
      refine z_iret rfl rfl dMod_puts_21 ?_
      rcases (show t9 = 0 ∨ t9 = 1 ∨ t9 = 2 ∨ t9 = 3 by omega) with t0 | t0 | t0 | t0
      all_goals first
        | (exfalso; omega)
        | exact zQm.okB H9 (Or.inr ⟨dq2, gq2⟩) (by omega) (by assumption) (by unfold sp_puts; (try unfold spPut); (try simp only [Int.toNat_natCast]); (try simp only [ek, Int.toNat_natCast]); (repeat (first | rw [if_pos (by omega)] | rw [if_neg (by omega)] | rw [if_pos (by assumption)] | rw [if_neg (by assumption)] | rw [if_pos (True.intro : True)])); (try (first | rfl | (congr 2; omega) | (congr 1; congr 1; omega))); done)
        | exact zQm.ok H2 (by omega) (by assumption) (by unfold sp_puts; (try unfold spPut); (try simp only [Int.toNat_natCast]); (try simp only [ek, Int.toNat_natCast]); (repeat (first | rw [if_pos (by omega)] | rw [if_neg (by omega)] | rw [if_pos (by assumption)] | rw [if_neg (by assumption)] | rw [if_pos (True.intro : True)])); (try (first | rfl | (congr 2; omega) | (congr 1; congr 1; omega))); done)
        | exact zQm.b1 H2 (by omega) (by assumption) (by unfold sp_puts; (try unfold spPut); (try simp only [Int.toNat_natCast]); (try simp only [ek, Int.toNat_natCast]); (repeat (first | rw [if_pos (by omega)] | rw [if_neg (by omega)] | rw [if_pos (by assumption)] | rw [if_neg (by assumption)] | rw [if_pos (True.intro : True)])); (try (first | rfl | (congr 2; omega) | (congr 1; congr 1; omega))); done)
        | exact zQm.b2 H2 (by omega) (by assumption) (by unfold sp_puts; (try unfold spPut); (try simp only [Int.toNat_natCast]); (try simp only [ek, Int.toNat_natCast]); (repeat (first | rw [if_pos (by omega)] | rw [if_neg (by omega)] | rw [if_pos (by assumption)] | rw [if_neg (by assumption)] | rw [if_pos (True.intro : True)])); (try (first | rfl | (congr 2; omega) | (congr 1; congr 1; omega))); done)
        | exact zQm.b3 H2 (by omega) (by assumption) (by unfold sp_puts; (try unfold spPut); (try simp only [Int.toNat_natCast]); (try simp only [ek, Int.toNat_natCast]); (repeat (first | rw [if_pos (by omega)] | rw [if_neg (by omega)] | rw [if_pos (by assumption)] | rw [if_neg (by assumption)] | rw [if_pos (True.intro : True)])); (try (first | rfl | (congr 2; omega) | (congr 1; congr 1; omega))); done)
        | exact zQm.ok H1 (by omega) (by assumption) (by unfold sp_puts; (try unfold spPut); (try simp only [Int.toNat_natCast]); (try simp only [ek, Int.toNat_natCast]); (repeat (first | rw [if_pos (by omega)] | rw [if_neg (by omega)] | rw [if_pos (by assumption)] | rw [if_neg (by assumption)] | rw [if_pos (True.intro : True)])); (try (first | rfl | (congr 2; omega) | (congr 1; congr 1; omega))); done)
        | exact zQm.b1 H1 (by omega) (by assumption) (by unfold sp_puts; (try unfold spPut); (try simp only [Int.toNat_natCast]); (try simp only [ek, Int.toNat_natCast]); (repeat (first | rw [if_pos (by omega)] | rw [if_neg (by omega)] | rw [if_pos (by assumption)] | rw [if_neg (by assumption)] | rw [if_pos (True.intro : True)])); (try (first | rfl | (congr 2; omega) | (congr 1; congr 1; omega))); done)
        | exact zQm.b2 H1 (by omega) (by assumption) (by unfold sp_puts; (try unfold spPut); (try simp only [Int.toNat_natCast]); (try simp only [ek, Int.toNat_natCast]); (repeat (first | rw [if_pos (by omega)] | rw [if_neg (by omega)] | rw [if_pos (by assumption)] | rw [if_neg (by assumption)] | rw [if_pos (True.intro : True)])); (try (first | rfl | (congr 2; omega) | (congr 1; congr 1; omega))); done)
        | exact zQm.b3 H1 (by omega) (by assumption) (by unfold sp_puts; (try unfold spPut); (try simp only [Int.toNat_natCast]); (try simp only [ek, Int.toNat_natCast]); (repeat (first | rw [if_pos (by omega)] | rw [if_neg (by omega)] | rw [if_pos (by assumption)] | rw [if_neg (by assumption)] | rw [if_pos (True.intro : True)])); (try (first | rfl | (congr 2; omega) | (congr 1; congr 1; omega))); done)
theorem k_Mod_cuts {p : Int} (H : zMod G h ma S th) (z_p : zI32 p) (hO : zOk S) (h16 : ∀ k, k < 4 → (S.1 k).length ≤ 16) : zM G l hMod_cuts yMod_cuts 4 [.ref (ma 0), zi p] h (zQm G ma h (1) (9) (2) (sp_cuts S p)) zNo 1 60 := by
  obtain ⟨m1, m2, ⟨g, m3, m3a⟩, m4, ⟨f6, m5, m5a⟩, m6, m7⟩ := id H
  unfold zMfs at m2
  refine zM.of [some (.ref (ma 0)), some (zi p)] (by decide +kernel) rfl (by decide) rfl (Nat.le_of_ble_eq_true rfl) rfl ?_
  refine z_aload_n dMod_cuts_0 rfl ?_
  refine z_iload_n dMod_cuts_1 rfl ?_
  refine z_callS MS_Mod_isNoCursor lk_Mod_141 dMod_cuts_2 (k_Mod_isNoCursor (by omega)) rfl rfl (Nat.le_of_ble_eq_true rfl)  (Nat.le_of_ble_eq_true rfl) (Nat.le_of_ble_eq_true rfl) (Nat.le_of_eq (Nat.zero_add _)) (Nat.le_of_eq (Nat.zero_add _)) (fun _ _ q => q.elim) ?_
  rintro _ _ ⟨n9c, rfl, (⟨rfl, hn9c⟩ | ⟨rfl, hn9c⟩), rfl⟩
  · refine z_aload_n dMod_cuts_5 rfl ?_
    refine z_iload_n dMod_cuts_6 rfl ?_
    refine z_callV MV_Mod_isNotThere lk_Mod_144 dMod_cuts_7 (k_Mod_isNotThere H (by omega)) rfl rfl (Nat.le_of_ble_eq_true rfl) rfl (by assumption) (Nat.le_of_ble_eq_true rfl) (Nat.le_of_ble_eq_true rfl) (Nat.le_of_eq (Nat.zero_add _)) (Nat.le_of_eq (Nat.zero_add _)) (fun _ _ q => q.elim) ?_
    rintro _ _ ⟨t8, rfl, ht8, rfl⟩
    try simp only [Int.toNat_natCast] at ht8
    refine z_iconst dMod_cuts_10 ?_
    refine z_callV MV_Mod_fails lk_Mod_88 dMod_cuts_11 (k_Mod_fails (by assumption) rfl (by omega) (by omega) (by omega)) rfl rfl (Nat.le_of_ble_eq_true rfl) rfl (by assumption) (Nat.le_of_ble_eq_true rfl) (Nat.le_of_ble_eq_true rfl) (Nat.le_of_eq (Nat.zero_add _)) (Nat.le_of_eq (Nat.zero_add _)) (fun _ _ q => q.elim) ?_
    rintro _ h1 ⟨t9, b8, rfl, ht, p1, g1⟩
    have H1 : zMod G h1 ma S t9 := H.obj (nu := S.2.2.2.2) (th' := t9) p1 g1
    have fz1 : zMfr ma h h1 := zMfr.of0 g1
    obtain ⟨-, n2, ⟨gg, n3, n3a⟩, n4, ⟨f61, n5, n5a⟩, n6, n7⟩ := id H1
    unfold zMfs at n2
    refine z_if_eq (tgt := 19) dMod_cuts_14 (by decide) (by omega) (fun c14 => ?_) (fun c14 => ?_)
    · exfalso; omega
    · refine z_iconst dMod_cuts_17 ?_
      refine z_iret rfl rfl dMod_cuts_18 ?_
      rcases (show t9 = 0 ∨ t9 = 1 ∨ t9 = 2 ∨ t9 = 3 by omega) with t0 | t0 | t0 | t0
      all_goals first
        | (exfalso; omega)
        | exact zQm.ok H1 (by omega) (by assumption) (by unfold sp_cuts; (try unfold spPut); (try simp only [Int.toNat_natCast]); (try simp only [ek, Int.toNat_natCast]); (repeat (first | rw [if_pos (by omega)] | rw [if_neg (by omega)] | rw [if_pos (by assumption)] | rw [if_neg (by assumption)] | rw [if_pos (True.intro : True)])); (try (first | rfl | (congr 2; omega) | (congr 1; congr 1; omega))); done)
        | exact zQm.b1 H1 (by omega) (by assumption) (by unfold sp_cuts; (try unfold spPut); (try simp only [Int.toNat_natCast]); (try simp only [ek, Int.toNat_natCast]); (repeat (first | rw [if_pos (by omega)] | rw [if_neg (by omega)] | rw [if_pos (by assumption)] | rw [if_neg (by assumption)] | rw [if_pos (True.intro : True)])); (try (first | rfl | (congr 2; omega) | (congr 1; congr 1; omega))); done)
        | exact zQm.b2 H1 (by omega) (by assumption) (by unfold sp_cuts; (try unfold spPut); (try simp only [Int.toNat_natCast]); (try simp only [ek, Int.toNat_natCast]); (repeat (first | rw [if_pos (by omega)] | rw [if_neg (by omega)] | rw [if_pos (by assumption)] | rw [if_neg (by assumption)] | rw [if_pos (True.intro : True)])); (try (first | rfl | (congr 2; omega) | (congr 1; congr 1; omega))); done)
        | exact zQm.b3 H1 (by omega) (by assumption) (by unfold sp_cuts; (try unfold spPut); (try simp only [Int.toNat_natCast]); (try simp only [ek, Int.toNat_natCast]); (repeat (first | rw [if_pos (by omega)] | rw [if_neg (by omega)] | rw [if_pos (by assumption)] | rw [if_neg (by assumption)] | rw [if_pos (True.intro : True)])); (try (first | rfl | (congr 2; omega) | (congr 1; congr 1; omega))); done)
        | exact zQm.ok H2 (by omega) (by assumption) (by unfold sp_cuts; (try unfold spPut); (try simp only [Int.toNat_natCast]); (try simp only [ek, Int.toNat_natCast]); (repeat (first | rw [if_pos (by omega)] | rw [if_neg (by omega)] | rw [if_pos (by assumption)] | rw [if_neg (by assumption)] | rw [if_pos (True.intro : True)])); (try (first | rfl | (congr 2; omega) | (congr 1; congr 1; omega))); done)
        | exact zQm.b1 H2 (by omega) (by assumption) (by unfold sp_cuts; (try unfold spPut); (try simp only [Int.toNat_natCast]); (try simp only [ek, Int.toNat_natCast]); (repeat (first | rw [if_pos (by omega)] | rw [if_neg (by omega)] | rw [if_pos (by assumption)] | rw [if_neg (by assumption)] | rw [if_pos (True.intro : True)])); (try (first | rfl | (congr 2; omega) | (congr 1; congr 1; omega))); done)
        | exact zQm.b2 H2 (by omega) (by assumption) (by unfold sp_cuts; (try unfold spPut); (try simp only [Int.toNat_natCast]); (try simp only [ek, Int.toNat_natCast]); (repeat (first | rw [if_pos (by omega)] | rw [if_neg (by omega)] | rw [if_pos (by assumption)] | rw [if_neg (by assumption)] | rw [if_pos (True.intro : True)])); (try (first | rfl | (congr 2; omega) | (congr 1; congr 1; omega))); done)
        | exact zQm.b3 H2 (by omega) (by assumption) (by unfold sp_cuts; (try unfold spPut); (try simp only [Int.toNat_natCast]); (try simp only [ek, Int.toNat_natCast]); (repeat (first | rw [if_pos (by omega)] | rw [if_neg (by omega)] | rw [if_pos (by assumption)] | rw [if_neg (by assumption)] | rw [if_pos (True.intro : True)])); (try (first | rfl | (congr 2; omega) | (congr 1; congr 1; omega))); done)
  · obtain ⟨c, rfl⟩ := Int.eq_ofNat_of_zero_le (show 0 ≤ p by omega)
    have hc : c < 3 := by omega
    refine z_aload_n dMod_cuts_5 rfl ?_
    refine z_iload_n dMod_cuts_6 rfl ?_
    refine z_callV MV_Mod_isNotThere lk_Mod_144 dMod_cuts_7 (k_Mod_isNotThere H (by omega)) rfl rfl (Nat.le_of_ble_eq_true rfl) rfl (by assumption) (Nat.le_of_ble_eq_true rfl) (Nat.le_of_ble_eq_true rfl) (Nat.le_of_eq (Nat.zero_add _)) (Nat.le_of_eq (Nat.zero_add _)) (fun _ _ q => q.elim) ?_
    rintro _ _ ⟨t8, rfl, ht8, rfl⟩
    try simp only [Int.toNat_natCast] at ht8
    refine z_iconst dMod_cuts_10 ?_
    refine z_callV MV_Mod_fails lk_Mod_88 dMod_cuts_11 (k_Mod_fails (by assumption) rfl (by omega) (by omega) (by omega)) rfl rfl (Nat.le_of_ble_eq_true rfl) rfl (by assumption) (Nat.le_of_ble_eq_true rfl) (Nat.le_of_ble_eq_true rfl) (Nat.le_of_eq (Nat.zero_add _)) (Nat.le_of_eq (Nat.zero_add _)) (fun _ _ q => q.elim) ?_
    rintro _ h1 ⟨t9, b8, rfl, ht, p1, g1⟩
    have H1 : zMod G h1 ma S t9 := H.obj (nu := S.2.2.2.2) (th' := t9) p1 g1
    have fz1 : zMfr ma h h1 := zMfr.of0 g1
    obtain ⟨-, n2, ⟨gg, n3, n3a⟩, n4, ⟨f61, n5, n5a⟩, n6, n7⟩ := id H1
    unfold zMfs at n2
    refine z_if_eq (tgt := 19) dMod_cuts_14 (by decide) (by omega) (fun c14 => ?_) (fun c14 => ?_)
    · obtain ⟨⟨v1, a1, b1⟩, ⟨v2, a2, b2⟩, ⟨v3, a3, b3⟩, ⟨v4, a4, b4⟩, ⟨v5, a5, b5⟩⟩ := id n4
      have hth : S.2.1 c 0 = 1 := by omega
      have b1c := b1 c (by omega)
      have b2c := b2 c (by omega)
      have b3c := b3 c (by omega)
      have b4c := b4 c (by omega)
      have b5c := b5 c (by omega)
      have e2 := b2c.2 hth
      have e3 := b3c.2 hth
      have e4 := b4c.2 hth
      have e5 := b5c.2 hth
      have ok9 := hO.1 c (by omega) hth
      obtain ⟨kk, ek⟩ := Int.eq_ofNat_of_zero_le ok9.1.1
      have hkk : kk < 4 := by omega
      have ok8 := ok9.2.2.2
      rw [ek, Int.toNat_natCast] at ok8
      have h16k := h16 kk hkk
      obtain ⟨frkk, rkk1, rkk2, rkk3, rkk4⟩ := id (n6 kk hkk)
      refine z_aload_n dMod_cuts_19 rfl ?_
      refine z_get (k := 2) fd_Mod (by decide) fl_Mod_18 dMod_cuts_20 (by assumption) (by rfl) ?_
      refine z_iload_n dMod_cuts_23 rfl ?_
      refine z_zald dMod_cuts_24 (by assumption) (by refine ⟨?_, ?_, ?_⟩ <;> omega) ?_
      rw [Int.toNat_natCast]
      rw [e2]
      refine z_if_ne (tgt := 38) dMod_cuts_25 (by decide) (by omega) (fun c25 => ?_) (fun c25 => ?_)
      · refine z_aload_n dMod_cuts_38 rfl ?_
        refine z_callV MV_Mod_refused lk_Mod_92 dMod_cuts_39 (k_Mod_refused n2 rfl rfl) rfl rfl (Nat.le_of_ble_eq_true rfl) rfl (by assumption) (Nat.le_of_ble_eq_true rfl) (Nat.le_of_ble_eq_true rfl) (Nat.le_of_eq (Nat.zero_add _)) (Nat.le_of_eq (Nat.zero_add _)) (fun _ _ q => q.elim) ?_
        rintro _ h2 ⟨rfl, p2, g2⟩
        have H2 : zMod G h2 ma (zsRef S) t9 := H1.obj (nu := zup S.2.2.2.2 1 (S.2.2.2.2 1 + 1)) p2 g2
        have fz2 : zMfr ma h h2 := zMfr.of0 (fun q hq => (g2 q hq).trans (g1 q hq))
        refine z_iret rfl rfl dMod_cuts_42 ?_
        rcases (show t9 = 0 ∨ t9 = 1 ∨ t9 = 2 ∨ t9 = 3 by omega) with t0 | t0 | t0 | t0
        all_goals first
          | (exfalso; omega)
          | exact zQm.ok H1 (by omega) (by assumption) (by unfold sp_cuts; (try unfold spPut); (try simp only [Int.toNat_natCast]); (try simp only [ek, Int.toNat_natCast]); (repeat (first | rw [if_pos (by omega)] | rw [if_neg (by omega)] | rw [if_pos (by assumption)] | rw [if_neg (by assumption)] | rw [if_pos (True.intro : True)])); (try (first | rfl | (congr 2; omega) | (congr 1; congr 1; omega))); done)
          | exact zQm.b1 H1 (by omega) (by assumption) (by unfold sp_cuts; (try unfold spPut); (try simp only [Int.toNat_natCast]); (try simp only [ek, Int.toNat_natCast]); (repeat (first | rw [if_pos (by omega)] | rw [if_neg (by omega)] | rw [if_pos (by assumption)] | rw [if_neg (by assumption)] | rw [if_pos (True.intro : True)])); (try (first | rfl | (congr 2; omega) | (congr 1; congr 1; omega))); done)
          | exact zQm.b2 H1 (by omega) (by assumption) (by unfold sp_cuts; (try unfold spPut); (try simp only [Int.toNat_natCast]); (try simp only [ek, Int.toNat_natCast]); (repeat (first | rw [if_pos (by omega)] | rw [if_neg (by omega)] | rw [if_pos (by assumption)] | rw [if_neg (by assumption)] | rw [if_pos (True.intro : True)])); (try (first | rfl | (congr 2; omega) | (congr 1; congr 1; omega))); done)
          | exact zQm.b3 H1 (by omega) (by assumption) (by unfold sp_cuts; (try unfold spPut); (try simp only [Int.toNat_natCast]); (try simp only [ek, Int.toNat_natCast]); (repeat (first | rw [if_pos (by omega)] | rw [if_neg (by omega)] | rw [if_pos (by assumption)] | rw [if_neg (by assumption)] | rw [if_pos (True.intro : True)])); (try (first | rfl | (congr 2; omega) | (congr 1; congr 1; omega))); done)
          | exact zQm.ok H2 (by omega) (by assumption) (by unfold sp_cuts; (try unfold spPut); (try simp only [Int.toNat_natCast]); (try simp only [ek, Int.toNat_natCast]); (repeat (first | rw [if_pos (by omega)] | rw [if_neg (by omega)] | rw [if_pos (by assumption)] | rw [if_neg (by assumption)] | rw [if_pos (True.intro : True)])); (try (first | rfl | (congr 2; omega) | (congr 1; congr 1; omega))); done)
          | exact zQm.b1 H2 (by omega) (by assumption) (by unfold sp_cuts; (try unfold spPut); (try simp only [Int.toNat_natCast]); (try simp only [ek, Int.toNat_natCast]); (repeat (first | rw [if_pos (by omega)] | rw [if_neg (by omega)] | rw [if_pos (by assumption)] | rw [if_neg (by assumption)] | rw [if_pos (True.intro : True)])); (try (first | rfl | (congr 2; omega) | (congr 1; congr 1; omega))); done)
          | exact zQm.b2 H2 (by omega) (by assumption) (by unfold sp_cuts; (try unfold spPut); (try simp only [Int.toNat_natCast]); (try simp only [ek, Int.toNat_natCast]); (repeat (first | rw [if_pos (by omega)] | rw [if_neg (by omega)] | rw [if_pos (by assumption)] | rw [if_neg (by assumption)] | rw [if_pos (True.intro : True)])); (try (first | rfl | (congr 2; omega) | (congr 1; congr 1; omega))); done)
          | exact zQm.b3 H2 (by omega) (by assumption) (by unfold sp_cuts; (try unfold spPut); (try simp only [Int.toNat_natCast]); (try simp only [ek, Int.toNat_natCast]); (repeat (first | rw [if_pos (by omega)] | rw [if_neg (by omega)] | rw [if_pos (by assumption)] | rw [if_neg (by assumption)] | rw [if_pos (True.intro : True)])); (try (first | rfl | (congr 2; omega) | (congr 1; congr 1; omega))); done)
      · refine z_aload_n dMod_cuts_28 rfl ?_
        refine z_get (k := 5) fd_Mod (by decide) fl_Mod_28 dMod_cuts_29 (by assumption) (by rfl) ?_
        refine z_iload_n dMod_cuts_32 rfl ?_
        refine z_iald dMod_cuts_33 (by assumption) (by refine ⟨?_, ?_, ?_⟩ <;> omega) ?_
        rw [Int.toNat_natCast]
        rw [e5]
        refine z_iconst dMod_cuts_34 ?_
        refine z_icmp_ne (tgt := 43) dMod_cuts_35 (by decide) (by omega) (by omega) (fun c35 => ?_) (fun c35 => ?_)
        · refine z_aload_n dMod_cuts_43 rfl ?_
          refine z_aload_n dMod_cuts_44 rfl ?_
          refine z_get (k := 3) fd_Mod (by decide) fl_Mod_21 dMod_cuts_45 (by assumption) (by rfl) ?_
          refine z_iload_n dMod_cuts_48 rfl ?_
          refine z_iald dMod_cuts_49 (by assumption) (by refine ⟨?_, ?_, ?_⟩ <;> omega) ?_
          rw [Int.toNat_natCast]
          rw [e3, ek]
          refine z_aload_n dMod_cuts_50 rfl ?_
          refine z_get (k := 0) fd_Mod (by decide) fl_Mod_11 dMod_cuts_51 (by assumption) (by rfl) ?_
          refine z_aload_n dMod_cuts_54 rfl ?_
          refine z_get (k := 3) fd_Mod (by decide) fl_Mod_21 dMod_cuts_55 (by assumption) (by rfl) ?_
          refine z_iload_n dMod_cuts_58 rfl ?_
          refine z_iald dMod_cuts_59 (by assumption) (by refine ⟨?_, ?_, ?_⟩ <;> omega) ?_
          rw [Int.toNat_natCast]
          rw [e3, ek]
          refine z_aald (t := 4) (ty := .array .int) rfl rfl dMod_cuts_60 n3 (by refine ⟨?_, ?_, ?_⟩ <;> omega) ?_
          rw [show (kk : Int).toNat = kk from rfl, n3a kk (by omega)]
          refine z_aload_n dMod_cuts_61 rfl ?_
          refine z_get (k := 5) fd_Mod (by decide) fl_Mod_28 dMod_cuts_62 (by assumption) (by rfl) ?_
          refine z_iload_n dMod_cuts_65 rfl ?_
          refine z_iald dMod_cuts_66 (by assumption) (by refine ⟨?_, ?_, ?_⟩ <;> omega) ?_
          rw [Int.toNat_natCast]
          rw [e5]
          refine z_callS (bc' := 0) (bs' := 0) MS_Mod_without lk_Mod_102 dMod_cuts_67 (k_Mod_without (n6 kk hkk) (by omega) (by omega)) rfl rfl (Nat.le_of_ble_eq_true rfl)  (Nat.le_of_ble_eq_true rfl) (Nat.le_of_ble_eq_true rfl) (by decide) (by decide) (fun _ _ q => q.elim) ?_
          rintro _ h2 ⟨q2, rfl, hq2, gq2, r2, F2⟩
          have H2 : zMod G h2 ma S t9 := H1.keep hq2 F2
          have fz2 : zMfr ma h h2 := fz1.tr (zMfr.new hq2 F2)
          have dq2 : zDm h q2 := hq2.up H1 fz1
          have oc2 := H2.2.1
          refine z_iload_n dMod_cuts_70 rfl ?_
          refine z_callV MV_Mod_become lk_Mod_77 dMod_cuts_71 (k_Mod_become H2 hkk r2 (fun i hi _ => H1.nq hq2 hi) (by omega)) rfl rfl (Nat.le_of_ble_eq_true rfl) rfl (by assumption) (Nat.le_of_ble_eq_true rfl) (Nat.le_of_ble_eq_true rfl) (Nat.le_of_eq (Nat.zero_add _)) (Nat.le_of_eq (Nat.zero_add _)) (fun _ _ q => q.elim) ?_
          rintro _ h3 ⟨rfl, H3, F3⟩
          have fz3 : zMfr ma h h3 := fz2.tr (zMfr.bec F3)
          obtain ⟨mb, hmb⟩ : ∃ mb, zup ma (8 + kk) q2 = mb := ⟨_, rfl⟩
          rw [hmb] at H3
          have eb : ∀ i, i < 8 → mb i = ma i := fun i hi => by rw [← hmb]; exact zup_ne (by omega)
          obtain ⟨-, w2, -, w4, -⟩ := id H3
          unfold zMfs at w2
          rw [eb 0 (by omega)] at w2
          obtain ⟨⟨v1, a1, b1⟩, ⟨v2, a2, b2⟩, ⟨v3, a3, b3⟩, ⟨v4, a4, b4⟩, ⟨v5, a5, b5⟩⟩ := id w4
          have sc : ∀ f : Nat, (zsStale (zsL S kk (zDel (S.1 kk) (S.2.1 c 4))) (kk : Int) c).2.1 c f = S.2.1 c f := fun f => zstc (zsL S kk (zDel (S.1 kk) (S.2.1 c 4))) (kk : Int) c f
          have hth' := (sc 0).trans hth
          have x1 := (b1 c (by omega)).1.trans (sc 0)
          have x2 := ((b2 c (by omega)).2 hth').trans (sc 1)
          have x2b := (b2 c (by omega)).1
          have x3 := ((b3 c (by omega)).2 hth').trans ((sc 2).trans ek)
          have x4 := ((b4 c (by omega)).2 hth').trans (sc 3)
          have x5 := ((b5 c (by omega)).2 hth').trans (sc 4)
          refine z_aload_n dMod_cuts_74 rfl ?_
          refine z_get (k := 5) fd_Mod (by decide) fl_Mod_28 dMod_cuts_75 (by assumption) (by rfl) ?_
          refine z_iload_n dMod_cuts_78 rfl ?_
          refine z_iald dMod_cuts_79 (by assumption) (by refine ⟨?_, ?_, ?_⟩ <;> omega) ?_
          rw [Int.toNat_natCast]
          rw [x5]
          refine z_aload_n dMod_cuts_80 rfl ?_
          refine z_get (k := 4) fd_Mod (by decide) fl_Mod_25 dMod_cuts_81 (by assumption) (by rfl) ?_
          refine z_iload_n dMod_cuts_84 rfl ?_
          refine z_iald dMod_cuts_85 (by assumption) (by refine ⟨?_, ?_, ?_⟩ <;> omega) ?_
          rw [Int.toNat_natCast]
          rw [x4]
          refine z_icmp_ge (tgt := 99) dMod_cuts_86 (by decide) (by omega) (by omega) (fun c86 => ?_) (fun c86 => ?_)
          · refine z_aload_n dMod_cuts_99 rfl ?_
            refine z_get (k := 5) fd_Mod (by decide) fl_Mod_28 dMod_cuts_100 (by assumption) (by rfl) ?_
            refine z_iload_n dMod_cuts_103 rfl ?_
            refine z_iconst dMod_cuts_104 ?_
            refine z_iast dMod_cuts_105 (by assumption) (by refine ⟨?_, ?_, ?_⟩ <;> omega) ?_
            refine z_hx (fun h4 p4 g4 => ?_)
            rw [Int.toNat_natCast] at p4
            have w2 := (g4 (ma 0) (by rw [← eb 0 (by omega)]; exact H3.inj (by omega) (by omega) (by omega))).trans w2
            have a1 := (g4 (mb 2) (H3.inj (i := 2) (j := 6) (by omega) (by omega) (by omega))).trans a1
            have a2 := (g4 (mb 3) (H3.inj (i := 3) (j := 6) (by omega) (by omega) (by omega))).trans a2
            have a3 := (g4 (mb 4) (H3.inj (i := 4) (j := 6) (by omega) (by omega) (by omega))).trans a3
            have a4 := (g4 (mb 5) (H3.inj (i := 5) (j := 6) (by omega) (by omega) (by omega))).trans a4
            have a5 := p4
            refine z_aload_n dMod_cuts_106 rfl ?_
            refine z_get (k := 4) fd_Mod (by decide) fl_Mod_25 dMod_cuts_107 (by assumption) (by rfl) ?_
            refine z_iload_n dMod_cuts_110 rfl ?_
            refine z_iald dMod_cuts_111 (by assumption) (by refine ⟨?_, ?_, ?_⟩ <;> omega) ?_
            rw [Int.toNat_natCast]
            rw [x4]
            have F9 : ∀ z, (∀ i, 2 ≤ i → i ≤ 6 → z ≠ mb i) → h4 z = h3 z := fun z hz => g4 z (hz 6 (by omega) (by omega))
            have hmc : zMcu G h4 mb (zup (zsStale (zsL S kk (zDel (S.1 kk) (S.2.1 c 4))) kk c).2.1 c (zCv (S.2.1 c 0) (S.2.1 c 1) (kk : Int) (S.2.1 c 3) (-1))) := zMcu.up b1 b2 b3 b4 b5 a1 a2 a3 a4 a5 zid_u zid_u zid_u zid_u zup_u ⟨x1, b1c.2⟩ ⟨x2b, fun _ => x2⟩ ⟨by omega, fun _ => x3⟩ ⟨by omega, fun _ => x4⟩ (zup_w (by omega) rfl)
            have H9 := H3.cusF hmc F9
            rw [zsSt_cur] at H9
            have fz9 : zMfr ma h h4 := fz3.tr (fun q e he hq => (F9 q (fun i i2 i6 => by rw [eb i (by omega)]; exact hq i (by omega))).trans he)
            subst hmb
            refine z_iret rfl rfl dMod_cuts_112 ?_
            rcases (show t9 = 0 ∨ t9 = 1 ∨ t9 = 2 ∨ t9 = 3 by omega) with t0 | t0 | t0 | t0
            all_goals first
              | (exfalso; omega)
              | exact zQm.okB H9 (Or.inr ⟨dq2, gq2⟩) (by omega) (by assumption) (by unfold sp_cuts; (try unfold spPut); (try simp only [Int.toNat_natCast]); (try simp only [ek, Int.toNat_natCast]); (repeat (first | rw [if_pos (by omega)] | rw [if_neg (by omega)] | rw [if_pos (by assumption)] | rw [if_neg (by assumption)] | rw [if_pos (True.intro : True)])); (try (first | rfl | (congr 2; omega) | (congr 1; congr 1; omega))); done)
              | exact zQm.ok H2 (by omega) (by assumption) (by unfold sp_cuts; (try unfold spPut); (try simp only [Int.toNat_natCast]); (try simp only [ek, Int.toNat_natCast]); (repeat (first | rw [if_pos (by omega)] | rw [if_neg (by omega)] | rw [if_pos (by assumption)] | rw [if_neg (by assumption)] | rw [if_pos (True.intro : True)])); (try (first | rfl | (congr 2; omega) | (congr 1; congr 1; omega))); done)
              | exact zQm.b1 H2 (by omega) (by assumption) (by unfold sp_cuts; (try unfold spPut); (try simp only [Int.toNat_natCast]); (try simp only [ek, Int.toNat_natCast]); (repeat (first | rw [if_pos (by omega)] | rw [if_neg (by omega)] | rw [if_pos (by assumption)] | rw [if_neg (by assumption)] | rw [if_pos (True.intro : True)])); (try (first | rfl | (congr 2; omega) | (congr 1; congr 1; omega))); done)
              | exact zQm.b2 H2 (by omega) (by assumption) (by unfold sp_cuts; (try unfold spPut); (try simp only [Int.toNat_natCast]); (try simp only [ek, Int.toNat_natCast]); (repeat (first | rw [if_pos (by omega)] | rw [if_neg (by omega)] | rw [if_pos (by assumption)] | rw [if_neg (by assumption)] | rw [if_pos (True.intro : True)])); (try (first | rfl | (congr 2; omega) | (congr 1; congr 1; omega))); done)
              | exact zQm.b3 H2 (by omega) (by assumption) (by unfold sp_cuts; (try unfold spPut); (try simp only [Int.toNat_natCast]); (try simp only [ek, Int.toNat_natCast]); (repeat (first | rw [if_pos (by omega)] | rw [if_neg (by omega)] | rw [if_pos (by assumption)] | rw [if_neg (by assumption)] | rw [if_pos (True.intro : True)])); (try (first | rfl | (congr 2; omega) | (congr 1; congr 1; omega))); done)
              | exact zQm.ok H1 (by omega) (by assumption) (by unfold sp_cuts; (try unfold spPut); (try simp only [Int.toNat_natCast]); (try simp only [ek, Int.toNat_natCast]); (repeat (first | rw [if_pos (by omega)] | rw [if_neg (by omega)] | rw [if_pos (by assumption)] | rw [if_neg (by assumption)] | rw [if_pos (True.intro : True)])); (try (first | rfl | (congr 2; omega) | (congr 1; congr 1; omega))); done)
              | exact zQm.b1 H1 (by omega) (by assumption) (by unfold sp_cuts; (try unfold spPut); (try simp only [Int.toNat_natCast]); (try simp only [ek, Int.toNat_natCast]); (repeat (first | rw [if_pos (by omega)] | rw [if_neg (by omega)] | rw [if_pos (by assumption)] | rw [if_neg (by assumption)] | rw [if_pos (True.intro : True)])); (try (first | rfl | (congr 2; omega) | (congr 1; congr 1; omega))); done)
              | exact zQm.b2 H1 (by omega) (by assumption) (by unfold sp_cuts; (try unfold spPut); (try simp only [Int.toNat_natCast]); (try simp only [ek, Int.toNat_natCast]); (repeat (first | rw [if_pos (by omega)] | rw [if_neg (by omega)] | rw [if_pos (by assumption)] | rw [if_neg (by assumption)] | rw [if_pos (True.intro : True)])); (try (first | rfl | (congr 2; omega) | (congr 1; congr 1; omega))); done)
              | exact zQm.b3 H1 (by omega) (by assumption) (by unfold sp_cuts; (try unfold spPut); (try simp only [Int.toNat_natCast]); (try simp only [ek, Int.toNat_natCast]); (repeat (first | rw [if_pos (by omega)] | rw [if_neg (by omega)] | rw [if_pos (by assumption)] | rw [if_neg (by assumption)] | rw [if_pos (True.intro : True)])); (try (first | rfl | (congr 2; omega) | (congr 1; congr 1; omega))); done)
          · refine z_aload_n dMod_cuts_89 rfl ?_
            refine z_get (k := 4) fd_Mod (by decide) fl_Mod_25 dMod_cuts_90 (by assumption) (by rfl) ?_
            refine z_iload_n dMod_cuts_93 rfl ?_
            refine z_dup2 rfl rfl dMod_cuts_94 ?_
            refine z_iald dMod_cuts_95 (by assumption) (by refine ⟨?_, ?_, ?_⟩ <;> omega) ?_
            rw [Int.toNat_natCast]
            rw [x4]
            refine z_iconst dMod_cuts_96 ?_
            refine z_isub dMod_cuts_97 ?_
            refine z_iast dMod_cuts_98 (by assumption) (by refine ⟨?_, ?_, ?_⟩ <;> omega) ?_
            refine z_hx (fun h4 p4 g4 => ?_)
            rw [Int.toNat_natCast] at p4
            have w2 := (g4 (ma 0) (by rw [← eb 0 (by omega)]; exact H3.inj (by omega) (by omega) (by omega))).trans w2
            have a1 := (g4 (mb 2) (H3.inj (i := 2) (j := 5) (by omega) (by omega) (by omega))).trans a1
            have a2 := (g4 (mb 3) (H3.inj (i := 3) (j := 5) (by omega) (by omega) (by omega))).trans a2
            have a3 := (g4 (mb 4) (H3.inj (i := 4) (j := 5) (by omega) (by omega) (by omega))).trans a3
            have a4 := p4
            have a5 := (g4 (mb 6) (H3.inj (i := 6) (j := 5) (by omega) (by omega) (by omega))).trans a5
            refine z_aload_n dMod_cuts_99 rfl ?_
            refine z_get (k := 5) fd_Mod (by decide) fl_Mod_28 dMod_cuts_100 (by assumption) (by rfl) ?_
            refine z_iload_n dMod_cuts_103 rfl ?_
            refine z_iconst dMod_cuts_104 ?_
            refine z_iast dMod_cuts_105 (by assumption) (by refine ⟨?_, ?_, ?_⟩ <;> omega) ?_
            refine z_hx (fun h5 p5 g5 => ?_)
            rw [Int.toNat_natCast] at p5
            have w2 := (g5 (ma 0) (by rw [← eb 0 (by omega)]; exact H3.inj (by omega) (by omega) (by omega))).trans w2
            have a1 := (g5 (mb 2) (H3.inj (i := 2) (j := 6) (by omega) (by omega) (by omega))).trans a1
            have a2 := (g5 (mb 3) (H3.inj (i := 3) (j := 6) (by omega) (by omega) (by omega))).trans a2
            have a3 := (g5 (mb 4) (H3.inj (i := 4) (j := 6) (by omega) (by omega) (by omega))).trans a3
            have a4 := (g5 (mb 5) (H3.inj (i := 5) (j := 6) (by omega) (by omega) (by omega))).trans a4
            have a5 := p5
            refine z_aload_n dMod_cuts_106 rfl ?_
            refine z_get (k := 4) fd_Mod (by decide) fl_Mod_25 dMod_cuts_107 (by assumption) (by rfl) ?_
            refine z_iload_n dMod_cuts_110 rfl ?_
            refine z_iald dMod_cuts_111 (by assumption) (by refine ⟨?_, ?_, ?_⟩ <;> omega) ?_
            rw [Int.toNat_natCast]
            rw [zup_same]
            have F9 : ∀ z, (∀ i, 2 ≤ i → i ≤ 6 → z ≠ mb i) → h5 z = h3 z := fun z hz => (g5 z (hz 6 (by omega) (by omega))).trans (g4 z (hz 5 (by omega) (by omega)))
            have hmc : zMcu G h5 mb (zup (zsStale (zsL S kk (zDel (S.1 kk) (S.2.1 c 4))) kk c).2.1 c (zCv (S.2.1 c 0) (S.2.1 c 1) (kk : Int) (S.2.1 c 3 - 1) (-1))) := zMcu.up b1 b2 b3 b4 b5 a1 a2 a3 a4 a5 zid_u zid_u zid_u zup_u zup_u ⟨x1, b1c.2⟩ ⟨x2b, fun _ => x2⟩ ⟨by omega, fun _ => x3⟩ (zup_w (by omega) rfl) (zup_w (by omega) rfl)
            have H9 := H3.cusF hmc F9
            rw [zsSt_cur] at H9
            have fz9 : zMfr ma h h5 := fz3.tr (fun q e he hq => (F9 q (fun i i2 i6 => by rw [eb i (by omega)]; exact hq i (by omega))).trans he)
            subst hmb
            refine z_iret rfl rfl dMod_cuts_112 ?_
            rcases (show t9 = 0 ∨ t9 = 1 ∨ t9 = 2 ∨ t9 = 3 by omega) with t0 | t0 | t0 | t0
            all_goals first
              | (exfalso; omega)
              | exact zQm.okB H9 (Or.inr ⟨dq2, gq2⟩) (by omega) (by assumption) (by unfold sp_cuts; (try unfold spPut); (try simp only [Int.toNat_natCast]); (try simp only [ek, Int.toNat_natCast]); (repeat (first | rw [if_pos (by omega)] | rw [if_neg (by omega)] | rw [if_pos (by assumption)] | rw [if_neg (by assumption)] | rw [if_pos (True.intro : True)])); (try (first | rfl | (congr 2; omega) | (congr 1; congr 1; omega))); done)
              | exact zQm.ok H2 (by omega) (by assumption) (by unfold sp_cuts; (try unfold spPut); (try simp only [Int.toNat_natCast]); (try simp only [ek, Int.toNat_natCast]); (repeat (first | rw [if_pos (by omega)] | rw [if_neg (by omega)] | rw [if_pos (by assumption)] | rw [if_neg (by assumption)] | rw [if_pos (True.intro : True)])); (try (first | rfl | (congr 2; omega) | (congr 1; congr 1; omega))); done)
              | exact zQm.b1 H2 (by omega) (by assumption) (by unfold sp_cuts; (try unfold spPut); (try simp only [Int.toNat_natCast]); (try simp only [ek, Int.toNat_natCast]); (repeat (first | rw [if_pos (by omega)] | rw [if_neg (by omega)] | rw [if_pos (by assumption)] | rw [if_neg (by assumption)] | rw [if_pos (True.intro : True)])); (try (first | rfl | (congr 2; omega) | (congr 1; congr 1; omega))); done)
              | exact zQm.b2 H2 (by omega) (by assumption) (by unfold sp_cuts; (try unfold spPut); (try simp only [Int.toNat_natCast]); (try simp only [ek, Int.toNat_natCast]); (repeat (first | rw [if_pos (by omega)] | rw [if_neg (by omega)] | rw [if_pos (by assumption)] | rw [if_neg (by assumption)] | rw [if_pos (True.intro : True)])); (try (first | rfl | (congr 2; omega) | (congr 1; congr 1; omega))); done)
              | exact zQm.b3 H2 (by omega) (by assumption) (by unfold sp_cuts; (try unfold spPut); (try simp only [Int.toNat_natCast]); (try simp only [ek, Int.toNat_natCast]); (repeat (first | rw [if_pos (by omega)] | rw [if_neg (by omega)] | rw [if_pos (by assumption)] | rw [if_neg (by assumption)] | rw [if_pos (True.intro : True)])); (try (first | rfl | (congr 2; omega) | (congr 1; congr 1; omega))); done)
              | exact zQm.ok H1 (by omega) (by assumption) (by unfold sp_cuts; (try unfold spPut); (try simp only [Int.toNat_natCast]); (try simp only [ek, Int.toNat_natCast]); (repeat (first | rw [if_pos (by omega)] | rw [if_neg (by omega)] | rw [if_pos (by assumption)] | rw [if_neg (by assumption)] | rw [if_pos (True.intro : True)])); (try (first | rfl | (congr 2; omega) | (congr 1; congr 1; omega))); done)
              | exact zQm.b1 H1 (by omega) (by assumption) (by unfold sp_cuts; (try unfold spPut); (try simp only [Int.toNat_natCast]); (try simp only [ek, Int.toNat_natCast]); (repeat (first | rw [if_pos (by omega)] | rw [if_neg (by omega)] | rw [if_pos (by assumption)] | rw [if_neg (by assumption)] | rw [if_pos (True.intro : True)])); (try (first | rfl | (congr 2; omega) | (congr 1; congr 1; omega))); done)
              | exact zQm.b2 H1 (by omega) (by assumption) (by unfold sp_cuts; (try unfold spPut); (try simp only [Int.toNat_natCast]); (try simp only [ek, Int.toNat_natCast]); (repeat (first | rw [if_pos (by omega)] | rw [if_neg (by omega)] | rw [if_pos (by assumption)] | rw [if_neg (by assumption)] | rw [if_pos (True.intro : True)])); (try (first | rfl | (congr 2; omega) | (congr 1; congr 1; omega))); done)
              | exact zQm.b3 H1 (by omega) (by assumption) (by unfold sp_cuts; (try unfold spPut); (try simp only [Int.toNat_natCast]); (try simp only [ek, Int.toNat_natCast]); (repeat (first | rw [if_pos (by omega)] | rw [if_neg (by omega)] | rw [if_pos (by assumption)] | rw [if_neg (by assumption)] | rw [if_pos (True.intro : True)])); (try (first | rfl | (congr 2; omega) | (congr 1; congr 1; omega))); done)
        · refine z_aload_n dMod_cuts_38 rfl ?_
          refine z_callV MV_Mod_refused lk_Mod_92 dMod_cuts_39 (k_Mod_refused n2 rfl rfl) rfl rfl (Nat.le_of_ble_eq_true rfl) rfl (by assumption) (Nat.le_of_ble_eq_true rfl) (Nat.le_of_ble_eq_true rfl) (Nat.le_of_eq (Nat.zero_add _)) (Nat.le_of_eq (Nat.zero_add _)) (fun _ _ q => q.elim) ?_
          rintro _ h2 ⟨rfl, p2, g2⟩
          have H2 : zMod G h2 ma (zsRef S) t9 := H1.obj (nu := zup S.2.2.2.2 1 (S.2.2.2.2 1 + 1)) p2 g2
          have fz2 : zMfr ma h h2 := zMfr.of0 (fun q hq => (g2 q hq).trans (g1 q hq))
          refine z_iret rfl rfl dMod_cuts_42 ?_
          rcases (show t9 = 0 ∨ t9 = 1 ∨ t9 = 2 ∨ t9 = 3 by omega) with t0 | t0 | t0 | t0
          all_goals first
            | (exfalso; omega)
            | exact zQm.ok H1 (by omega) (by assumption) (by unfold sp_cuts; (try unfold spPut); (try simp only [Int.toNat_natCast]); (try simp only [ek, Int.toNat_natCast]); (repeat (first | rw [if_pos (by omega)] | rw [if_neg (by omega)] | rw [if_pos (by assumption)] | rw [if_neg (by assumption)] | rw [if_pos (True.intro : True)])); (try (first | rfl | (congr 2; omega) | (congr 1; congr 1; omega))); done)
            | exact zQm.b1 H1 (by omega) (by assumption) (by unfold sp_cuts; (try unfold spPut); (try simp only [Int.toNat_natCast]); (try simp only [ek, Int.toNat_natCast]); (repeat (first | rw [if_pos (by omega)] | rw [if_neg (by omega)] | rw [if_pos (by assumption)] | rw [if_neg (by assumption)] | rw [if_pos (True.intro : True)])); (try (first | rfl | (congr 2; omega) | (congr 1; congr 1; omega))); done)
            | exact zQm.b2 H1 (by omega) (by assumption) (by unfold sp_cuts; (try unfold spPut); (try simp only [Int.toNat_natCast]); (try simp only [ek, Int.toNat_natCast]); (repeat (first | rw [if_pos (by omega)] | rw [if_neg (by omega)] | rw [if_pos (by assumption)] | rw [if_neg (by assumption)] | rw [if_pos (True.intro : True)])); (try (first | rfl | (congr 2; omega) | (congr 1; congr 1; omega))); done)
            | exact zQm.b3 H1 (by omega) (by assumption) (by unfold sp_cuts; (try unfold spPut); (try simp only [Int.toNat_natCast]); (try simp only [ek, Int.toNat_natCast]); (repeat (first | rw [if_pos (by omega)] | rw [if_neg (by omega)] | rw [if_pos (by assumption)] | rw [if_neg (by assumption)] | rw [if_pos (True.intro : True)])); (try (first | rfl | (congr 2; omega) | (congr 1; congr 1; omega))); done)
            | exact zQm.ok H2 (by omega) (by assumption) (by unfold sp_cuts; (try unfold spPut); (try simp only [Int.toNat_natCast]); (try simp only [ek, Int.toNat_natCast]); (repeat (first | rw [if_pos (by omega)] | rw [if_neg (by omega)] | rw [if_pos (by assumption)] | rw [if_neg (by assumption)] | rw [if_pos (True.intro : True)])); (try (first | rfl | (congr 2; omega) | (congr 1; congr 1; omega))); done)
            | exact zQm.b1 H2 (by omega) (by assumption) (by unfold sp_cuts; (try unfold spPut); (try simp only [Int.toNat_natCast]); (try simp only [ek, Int.toNat_natCast]); (repeat (first | rw [if_pos (by omega)] | rw [if_neg (by omega)] | rw [if_pos (by assumption)] | rw [if_neg (by assumption)] | rw [if_pos (True.intro : True)])); (try (first | rfl | (congr 2; omega) | (congr 1; congr 1; omega))); done)
            | exact zQm.b2 H2 (by omega) (by assumption) (by unfold sp_cuts; (try unfold spPut); (try simp only [Int.toNat_natCast]); (try simp only [ek, Int.toNat_natCast]); (repeat (first | rw [if_pos (by omega)] | rw [if_neg (by omega)] | rw [if_pos (by assumption)] | rw [if_neg (by assumption)] | rw [if_pos (True.intro : True)])); (try (first | rfl | (congr 2; omega) | (congr 1; congr 1; omega))); done)
            | exact zQm.b3 H2 (by omega) (by assumption) (by unfold sp_cuts; (try unfold spPut); (try simp only [Int.toNat_natCast]); (try simp only [ek, Int.toNat_natCast]); (repeat (first | rw [if_pos (by omega)] | rw [if_neg (by omega)] | rw [if_pos (by assumption)] | rw [if_neg (by assumption)] | rw [if_pos (True.intro : True)])); (try (first | rfl | (congr 2; omega) | (congr 1; congr 1; omega))); done)
    · refine z_iconst dMod_cuts_17 ?_
      refine z_iret rfl rfl dMod_cuts_18 ?_
      rcases (show t9 = 0 ∨ t9 = 1 ∨ t9 = 2 ∨ t9 = 3 by omega) with t0 | t0 | t0 | t0
      all_goals first
        | (exfalso; omega)
        | exact zQm.ok H1 (by omega) (by assumption) (by unfold sp_cuts; (try unfold spPut); (try simp only [Int.toNat_natCast]); (try simp only [ek, Int.toNat_natCast]); (repeat (first | rw [if_pos (by omega)] | rw [if_neg (by omega)] | rw [if_pos (by assumption)] | rw [if_neg (by assumption)] | rw [if_pos (True.intro : True)])); (try (first | rfl | (congr 2; omega) | (congr 1; congr 1; omega))); done)
        | exact zQm.b1 H1 (by omega) (by assumption) (by unfold sp_cuts; (try unfold spPut); (try simp only [Int.toNat_natCast]); (try simp only [ek, Int.toNat_natCast]); (repeat (first | rw [if_pos (by omega)] | rw [if_neg (by omega)] | rw [if_pos (by assumption)] | rw [if_neg (by assumption)] | rw [if_pos (True.intro : True)])); (try (first | rfl | (congr 2; omega) | (congr 1; congr 1; omega))); done)
        | exact zQm.b2 H1 (by omega) (by assumption) (by unfold sp_cuts; (try unfold spPut); (try simp only [Int.toNat_natCast]); (try simp only [ek, Int.toNat_natCast]); (repeat (first | rw [if_pos (by omega)] | rw [if_neg (by omega)] | rw [if_pos (by assumption)] | rw [if_neg (by assumption)] | rw [if_pos (True.intro : True)])); (try (first | rfl | (congr 2; omega) | (congr 1; congr 1; omega))); done)
        | exact zQm.b3 H1 (by omega) (by assumption) (by unfold sp_cuts; (try unfold spPut); (try simp only [Int.toNat_natCast]); (try simp only [ek, Int.toNat_natCast]); (repeat (first | rw [if_pos (by omega)] | rw [if_neg (by omega)] | rw [if_pos (by assumption)] | rw [if_neg (by assumption)] | rw [if_pos (True.intro : True)])); (try (first | rfl | (congr 2; omega) | (congr 1; congr 1; omega))); done)
        | exact zQm.ok H2 (by omega) (by assumption) (by unfold sp_cuts; (try unfold spPut); (try simp only [Int.toNat_natCast]); (try simp only [ek, Int.toNat_natCast]); (repeat (first | rw [if_pos (by omega)] | rw [if_neg (by omega)] | rw [if_pos (by assumption)] | rw [if_neg (by assumption)] | rw [if_pos (True.intro : True)])); (try (first | rfl | (congr 2; omega) | (congr 1; congr 1; omega))); done)
        | exact zQm.b1 H2 (by omega) (by assumption) (by unfold sp_cuts; (try unfold spPut); (try simp only [Int.toNat_natCast]); (try simp only [ek, Int.toNat_natCast]); (repeat (first | rw [if_pos (by omega)] | rw [if_neg (by omega)] | rw [if_pos (by assumption)] | rw [if_neg (by assumption)] | rw [if_pos (True.intro : True)])); (try (first | rfl | (congr 2; omega) | (congr 1; congr 1; omega))); done)
        | exact zQm.b2 H2 (by omega) (by assumption) (by unfold sp_cuts; (try unfold spPut); (try simp only [Int.toNat_natCast]); (try simp only [ek, Int.toNat_natCast]); (repeat (first | rw [if_pos (by omega)] | rw [if_neg (by omega)] | rw [if_pos (by assumption)] | rw [if_neg (by assumption)] | rw [if_pos (True.intro : True)])); (try (first | rfl | (congr 2; omega) | (congr 1; congr 1; omega))); done)
        | exact zQm.b3 H2 (by omega) (by assumption) (by unfold sp_cuts; (try unfold spPut); (try simp only [Int.toNat_natCast]); (try simp only [ek, Int.toNat_natCast]); (repeat (first | rw [if_pos (by omega)] | rw [if_neg (by omega)] | rw [if_pos (by assumption)] | rw [if_neg (by assumption)] | rw [if_pos (True.intro : True)])); (try (first | rfl | (congr 2; omega) | (congr 1; congr 1; omega))); done)
end MOD15
end
