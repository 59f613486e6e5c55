/-! ===== the model: its arrays ===== -/
section MOD1
variable {G : zG} {l : Launch} {h h' : zHp}
theorem z_alenI {J : zJ} {bc bs pc a n : Nat} {f : Nat → Int} {ls : List (Option Value)} {st : List Value} (hd : decode J.1.2.1 pc = .ok (.arraylength, 1)) (hh : h a = some (zInts G n f)) (kk : zR G l J bc bs h (pc + 1) ls (zi (n : Int) :: st)) : zR G l J bc bs h pc ls (.ref a :: st) := z_alen (i := 0) rfl hd hh kk
theorem z_newI {J : zJ} {bc bs pc : Nat} {n : Nat} {ls : List (Option Value)} {st : List Value} {bc' bs' : Nat} {m : Int} (hm : m = n) (hd : decode J.1.2.1 pc = .ok (.newarray .int, 2)) (hn : n ≤ 1000) (hb1 : bc' + 1 ≤ bc) (hb2 : bs' + n ≤ bs)
    (kk : ∀ (q : Nat) (h1 : zHp), zDm h q → G.2.2 ≤ q → h1 q = some (zInts G n (fun _ => 0)) → (∀ x, x ≠ q → h1 x = h x) → zR G l J bc' bs' h1 (pc + 2) ls (.ref q :: st)) : zR G l J bc bs h pc ls (zi m :: st) := by
  subst hm
  refine z_newa (at9 := .int) (ty := .int) (t := 0) (x := .inl (fun _ => zI 0)) rfl trivial rfl ac_int (fun cA => by rw [vp_cell_i]; rfl) ⟨by omega, by rw [Int.toNat_natCast]; show n * 4 ≤ 536870912; omega, by omega⟩ hd hb1 (by rw [Int.toNat_natCast]; exact hb2) (fun q hq hg => ?_)
  rw [Int.toNat_natCast]
  exact kk q _ hq hg (zup_same _ _ _) (fun x hx => zup_ne hx)
/-- an int array holds the list L -/
def zAr (G : zG) (h : zHp) (a : Nat) (L : List Int) : Prop := ∃ f : Nat → Int, h a = some (zInts G L.length f) ∧ L.length ≤ 99 ∧ (∀ j, j < L.length → f j = L.getD j 0) ∧ ∀ j, j < L.length → zIn (L.getD j 0)
theorem zAr.kept {a : Nat} {L : List Int} (H : zAr G h a L) (e : h' a = h a) : zAr G h' a L := by
  obtain ⟨f, e1, e2⟩ := H
  exact ⟨f, e.trans e1, e2⟩
theorem zAr.item {a : Nat} {L : List Int} (H : zAr G h a L) {j : Nat} (hj : j < L.length) : zIn (L.getD j 0) := by
  obtain ⟨f, e1, e2, e3, e4⟩ := H
  exact e4 j hj
theorem k_Mod_isOut {p lo hi : Int} (hp : zI32 p) (h1 : zI32 lo) (h2 : zI32 hi) : zM G l hMod_isOut yMod_isOut 1 [zi p, zi lo, zi hi] h (fun v h' => ∃ b9 : Int, v = some (zi b9) ∧ ((b9 = 1 ∧ (p < lo ∨ hi < p)) ∨ (b9 = 0 ∧ ¬ (p < lo ∨ hi < p))) ∧ h = h') zNo 0 0 := by
  refine zM.of [some (zi p), some (zi lo), some (zi hi)] (by decide +kernel) rfl (by decide) rfl (Nat.le_of_ble_eq_true rfl) rfl ?_
  refine z_iload_n dMod_isOut_0 rfl ?_
  refine z_iload_n dMod_isOut_1 rfl ?_
  refine z_icmp_lt (tgt := 10) dMod_isOut_2 (by decide) (by omega) (by omega) (fun c2 => ?_) (fun c2 => ?_)
  · refine z_iconst dMod_isOut_10 ?_
    refine z_goto (tgt := 15) dMod_isOut_11 (by decide) ?_
    refine z_iret rfl rfl dMod_isOut_15 ?_
    exact ⟨_, rfl, by omega, rfl⟩
  · refine z_iload_n dMod_isOut_5 rfl ?_
    refine z_iload_n dMod_isOut_6 rfl ?_
    refine z_icmp_le (tgt := 14) dMod_isOut_7 (by decide) (by omega) (by omega) (fun c7 => ?_) (fun c7 => ?_)
    · refine z_iconst dMod_isOut_14 ?_
      refine z_iret rfl rfl dMod_isOut_15 ?_
      exact ⟨_, rfl, by omega, rfl⟩
    · refine z_iconst dMod_isOut_10 ?_
      refine z_goto (tgt := 15) dMod_isOut_11 (by decide) ?_
      refine z_iret rfl rfl dMod_isOut_15 ?_
      exact ⟨_, rfl, by omega, rfl⟩
theorem k_Mod_isNo {p : Int} (hp : zI32 p) : zM G l hMod_isNo yMod_isNo 2 [zi p] h (fun v h' => ∃ b9 : Int, v = some (zi b9) ∧ ((b9 = 1 ∧ (¬ (0 ≤ p ∧ p ≤ 3))) ∨ (b9 = 0 ∧ ¬ (¬ (0 ≤ p ∧ p ≤ 3)))) ∧ h = h') zNo 0 0 := by
  refine zM.of [some (zi p)] (by decide +kernel) rfl (by decide) rfl (Nat.le_of_ble_eq_true rfl) rfl ?_
  refine z_iload_n dMod_isNo_0 rfl ?_
  refine z_iconst dMod_isNo_1 ?_
  refine z_iconst dMod_isNo_2 ?_
  refine z_callS MS_Mod_isOut lk_Mod_41 dMod_isNo_3 (k_Mod_isOut hp (by omega) (by omega)) rfl rfl (Nat.le_of_ble_eq_true rfl)  (Nat.le_of_ble_eq_true rfl) (Nat.le_of_ble_eq_true rfl) (Nat.le_of_eq (Nat.zero_add _)) (Nat.le_of_eq (Nat.zero_add _)) (fun _ _ q => q.elim) ?_
  rintro _ _ ⟨b9, rfl, hb9, rfl⟩
  refine z_iret rfl (by rcases hb9 with ⟨rfl, -⟩ | ⟨rfl, -⟩ <;> rfl) dMod_isNo_6 ?_
  exact ⟨_, rfl, by omega, rfl⟩
theorem k_Mod_isNoCursor {p : Int} (hp : zI32 p) : zM G l hMod_isNoCursor yMod_isNoCursor 2 [zi p] h (fun v h' => ∃ b9 : Int, v = some (zi b9) ∧ ((b9 = 1 ∧ (¬ (0 ≤ p ∧ p ≤ 2))) ∨ (b9 = 0 ∧ ¬ (¬ (0 ≤ p ∧ p ≤ 2)))) ∧ h = h') zNo 0 0 := by
  refine zM.of [some (zi p)] (by decide +kernel) rfl (by decide) rfl (Nat.le_of_ble_eq_true rfl) rfl ?_
  refine z_iload_n dMod_isNoCursor_0 rfl ?_
  refine z_iconst dMod_isNoCursor_1 ?_
  refine z_iconst dMod_isNoCursor_2 ?_
  refine z_callS MS_Mod_isOut lk_Mod_41 dMod_isNoCursor_3 (k_Mod_isOut hp (by omega) (by omega)) rfl rfl (Nat.le_of_ble_eq_true rfl)  (Nat.le_of_ble_eq_true rfl) (Nat.le_of_ble_eq_true rfl) (Nat.le_of_eq (Nat.zero_add _)) (Nat.le_of_eq (Nat.zero_add _)) (fun _ _ q => q.elim) ?_
  rintro _ _ ⟨b9, rfl, hb9, rfl⟩
  refine z_iret rfl (by rcases hb9 with ⟨rfl, -⟩ | ⟨rfl, -⟩ <;> rfl) dMod_isNoCursor_6 ?_
  exact ⟨_, rfl, by omega, rfl⟩
theorem k_Mod_isNoItem {p : Int} (hp : zI32 p) : zM G l hMod_isNoItem yMod_isNoItem 2 [zi p] h (fun v h' => ∃ b9 : Int, v = some (zi b9) ∧ ((b9 = 1 ∧ (¬ (-9999 ≤ p ∧ p ≤ 9999))) ∨ (b9 = 0 ∧ ¬ (¬ (-9999 ≤ p ∧ p ≤ 9999)))) ∧ h = h') zNo 0 0 := by
  refine zM.of [some (zi p)] (by decide +kernel) rfl (by decide) rfl (Nat.le_of_ble_eq_true rfl) rfl ?_
  refine z_iload_n dMod_isNoItem_0 rfl ?_
  refine z_sipush dMod_isNoItem_1 rfl ?_
  refine z_sipush dMod_isNoItem_4 rfl ?_
  refine z_callS MS_Mod_isOut lk_Mod_41 dMod_isNoItem_7 (k_Mod_isOut hp (by omega) (by omega)) rfl rfl (Nat.le_of_ble_eq_true rfl)  (Nat.le_of_ble_eq_true rfl) (Nat.le_of_ble_eq_true rfl) (Nat.le_of_eq (Nat.zero_add _)) (Nat.le_of_eq (Nat.zero_add _)) (fun _ _ q => q.elim) ?_
  rintro _ _ ⟨b9, rfl, hb9, rfl⟩
  refine z_iret rfl (by rcases hb9 with ⟨rfl, -⟩ | ⟨rfl, -⟩ <;> rfl) dMod_isNoItem_10 ?_
  exact ⟨_, rfl, by omega, rfl⟩
theorem l_Mod_with {d mc ms bc bs : Nat} {Qn : Option Value → zHp → Prop} {Qx : String → zHp → Prop} {a q : Nat} {L : List Int} {p x : Int} (hr : zAr G h a L) (hp : 0 ≤ p ∧ p ≤ L.length) (hx : zIn x) (hL : L.length ≤ 60) (haq : a ≠ q)
    (K : ∀ (h1 : zHp) y, zAr G h1 q (zIns L p x) → (∀ z, z ≠ q → h1 z = h z) → zR G l (zMJ G hMod_with d Qn Qx mc ms) bc bs h1 56 [some (.ref a), some (zi p), some (zi x), some (.ref q), y] []) :
    ∀ (n : Nat) (m : Nat) (h1 : zHp) (g : Nat → Int), L.length + 1 - m < n → m ≤ L.length + 1 → h1 q = some (zInts G (L.length + 1) g) → (∀ j, j < m → g j = (zIns L p x).getD j 0) → (∀ z, z ≠ q → h1 z = h z) → zR G l (zMJ G hMod_with d Qn Qx mc ms) bc bs h1 10 [some (.ref a), some (zi p), some (zi x), some (.ref q), some (zi (m : Int))] [] := by
  intro n
  induction n with
  | zero => intro m h1 g q1 q2 e1 e2 hf; omega
  | succ n ih =>
  intro m h1 g q1 q2 e1 e2 hf
  obtain ⟨f, d1, d2, d3, d4⟩ := id hr
  have b1 := (hf a haq).trans d1
  have hln := zIns_len L p x
  refine z_iload dMod_with_10 rfl ?_
  refine z_aload_n dMod_with_12 rfl ?_
  refine z_alenI dMod_with_13 (by assumption) ?_
  refine z_icmp_ge (tgt := 56) dMod_with_14 (by decide) (by omega) (by omega) (fun c14 => ?_) (fun c14 => ?_)
  · have em : m = L.length + 1 := by omega
    subst em
    refine K h1 _ ⟨g, by rw [hln]; exact e1, by omega, fun j hj => e2 j (by omega), fun j hj => ?_⟩ hf
    rw [zIns_at (by omega)]
    split
    · exact d4 j (by omega)
    · split
      · exact hx
      · exact d4 _ (by omega)
  · refine z_aload_n dMod_with_17 rfl ?_
    refine z_iload dMod_with_18 rfl ?_
    refine z_iload dMod_with_20 rfl ?_
    refine z_iload_n dMod_with_22 rfl ?_
    refine z_icmp_ge (tgt := 33) dMod_with_23 (by decide) (by omega) (by omega) (fun c23 => ?_) (fun c23 => ?_)
    · refine z_iload dMod_with_33 rfl ?_
      refine z_iload_n dMod_with_35 rfl ?_
      refine z_icmp_ne (tgt := 43) dMod_with_36 (by decide) (by omega) (by omega) (fun c36 => ?_) (fun c36 => ?_)
      · refine z_aload_n dMod_with_43 rfl ?_
        refine z_iload dMod_with_44 rfl ?_
        refine z_iconst dMod_with_46 ?_
        refine z_isub dMod_with_47 ?_
        refine z_iald dMod_with_48 (by assumption) (by refine ⟨?_, ?_, ?_⟩ <;> omega) ?_
        refine z_iast dMod_with_49 (by assumption) (by refine ⟨?_, ?_, ?_⟩ <;> omega) ?_
        refine z_hx (fun h2 p2 f2 => ?_)
        refine z_iinc dMod_with_50 rfl (Nat.le_of_ble_eq_true rfl) ?_
        refine z_goto (tgt := 10) dMod_with_53 (by decide) ?_
        refine ih (m + 1) h2 _ (by omega) (by omega) p2 (fun j hj => ?_) (fun z hz => (f2 z hz).trans (hf z hz))
        by_cases e9 : j = m
        · subst e9
          rw [zIns_at (by omega), Int.toNat_natCast, zup_same]
          first
            | (rw [if_pos (by omega)]; exact d3 j (by omega))
            | (rw [if_neg (by omega), if_pos (by omega)])
            | (rw [if_neg (by omega), if_neg (by omega), show ((j : Int) - 1).toNat = j - 1 by omega]; exact d3 _ (by omega))
        · rw [Int.toNat_natCast, zup_ne e9]
          exact e2 j (by omega)
      · refine z_iload_n dMod_with_39 rfl ?_
        refine z_goto (tgt := 49) dMod_with_40 (by decide) ?_
        refine z_iast dMod_with_49 (by assumption) (by refine ⟨?_, ?_, ?_⟩ <;> omega) ?_
        refine z_hx (fun h2 p2 f2 => ?_)
        refine z_iinc dMod_with_50 rfl (Nat.le_of_ble_eq_true rfl) ?_
        refine z_goto (tgt := 10) dMod_with_53 (by decide) ?_
        refine ih (m + 1) h2 _ (by omega) (by omega) p2 (fun j hj => ?_) (fun z hz => (f2 z hz).trans (hf z hz))
        by_cases e9 : j = m
        · subst e9
          rw [zIns_at (by omega), Int.toNat_natCast, zup_same]
          first
            | (rw [if_pos (by omega)]; exact d3 j (by omega))
            | (rw [if_neg (by omega), if_pos (by omega)])
            | (rw [if_neg (by omega), if_neg (by omega), show ((j : Int) - 1).toNat = j - 1 by omega]; exact d3 _ (by omega))
        · rw [Int.toNat_natCast, zup_ne e9]
          exact e2 j (by omega)
    · refine z_aload_n dMod_with_26 rfl ?_
      refine z_iload dMod_with_27 rfl ?_
      refine z_iald dMod_with_29 (by assumption) (by refine ⟨?_, ?_, ?_⟩ <;> omega) ?_
      refine z_goto (tgt := 49) dMod_with_30 (by decide) ?_
      refine z_iast dMod_with_49 (by assumption) (by refine ⟨?_, ?_, ?_⟩ <;> omega) ?_
      refine z_hx (fun h2 p2 f2 => ?_)
      refine z_iinc dMod_with_50 rfl (Nat.le_of_ble_eq_true rfl) ?_
      refine z_goto (tgt := 10) dMod_with_53 (by decide) ?_
      refine ih (m + 1) h2 _ (by omega) (by omega) p2 (fun j hj => ?_) (fun z hz => (f2 z hz).trans (hf z hz))
      by_cases e9 : j = m
      · subst e9
        rw [zIns_at (by omega), Int.toNat_natCast, zup_same]
        first
          | (rw [if_pos (by omega)]; exact d3 j (by omega))
          | (rw [if_neg (by omega), if_pos (by omega)])
          | (rw [if_neg (by omega), if_neg (by omega), show ((j : Int) - 1).toNat = j - 1 by omega]; exact d3 _ (by omega))
      · rw [Int.toNat_natCast, zup_ne e9]
        exact e2 j (by omega)
theorem k_Mod_with {a : Nat} {L : List Int} {p x : Int} (hr : zAr G h a L) (hp : 0 ≤ p ∧ p ≤ L.length) (hx : zIn x) (hL : L.length ≤ 60) : zM G l hMod_with yMod_with 1 [.ref a, zi p, zi x] h (fun v h' => ∃ q, v = some (.ref q) ∧ zDm h q ∧ G.2.2 ≤ q ∧ zAr G h' q (zIns L p x) ∧ ∀ z, z ≠ q → h' z = h z) zNo 1 61 := by
  obtain ⟨f, d1, d2, d3, d4⟩ := id hr
  refine zM.of [some (.ref a), some (zi p), some (zi x), none, none] (by decide +kernel) rfl (by decide) rfl (Nat.le_of_ble_eq_true rfl) rfl ?_
  refine z_aload_n dMod_with_0 rfl ?_
  refine z_alenI dMod_with_1 (by assumption) ?_
  refine z_iconst dMod_with_2 ?_
  refine z_iadd dMod_with_3 ?_
  refine z_newI (n := L.length + 1) (bc' := 0) (bs' := 0) (by omega) dMod_with_4 (by omega) (by decide) (by omega) (fun q h1 hq gq e1 f1 => ?_)
  have haq : a ≠ q := Nat.ne_of_lt (hq a _ d1)
  refine z_astore_n dMod_with_6 (Nat.le_of_ble_eq_true rfl) ?_
  refine z_iconst dMod_with_7 ?_
  refine z_istore dMod_with_8 (Nat.le_of_ble_eq_true rfl) ?_
  refine l_Mod_with hr hp hx hL haq (fun h2 y r2 f2 => ?_) (L.length + 2) 0 h1 _ (by omega) (by omega) e1 (fun j hj => absurd hj (by omega)) f1
  refine z_aload_n dMod_with_56 rfl ?_
  refine z_aret rfl (Or.inr ⟨_, rfl⟩) (Or.inr ⟨_, rfl⟩) dMod_with_57 ?_
  exact ⟨q, rfl, hq, gq, r2, f2⟩
theorem l_Mod_without {d mc ms bc bs : Nat} {Qn : Option Value → zHp → Prop} {Qx : String → zHp → Prop} {a q : Nat} {L : List Int} {p : Int} (hr : zAr G h a L) (hp : 0 ≤ p ∧ p < L.length) (haq : a ≠ q)
    (K : ∀ (h1 : zHp) y, zAr G h1 q (zDel L p) → (∀ z, z ≠ q → h1 z = h z) → zR G l (zMJ G hMod_without d Qn Qx mc ms) bc bs h1 38 [some (.ref a), some (zi p), some (.ref q), y] []) :
    ∀ (n : Nat) (m : Nat) (h1 : zHp) (g : Nat → Int), L.length - 1 - m < n → m ≤ L.length - 1 → h1 q = some (zInts G (L.length - 1) g) → (∀ j, j < m → g j = (zDel L p).getD j 0) → (∀ z, z ≠ q → h1 z = h z) → zR G l (zMJ G hMod_without d Qn Qx mc ms) bc bs h1 9 [some (.ref a), some (zi p), some (.ref q), some (zi (m : Int))] [] := by
  intro n
  induction n with
  | zero => intro m h1 g q1 q2 e1 e2 hf; omega
  | succ n ih =>
  intro m h1 g q1 q2 e1 e2 hf
  obtain ⟨f, d1, d2, d3, d4⟩ := id hr
  have b1 := (hf a haq).trans d1
  have hln := zDel_len L p
  refine z_iload_n dMod_without_9 rfl ?_
  refine z_aload_n dMod_without_10 rfl ?_
  refine z_alenI dMod_without_11 (by assumption) ?_
  refine z_icmp_ge (tgt := 38) dMod_without_12 (by decide) (by omega) (by omega) (fun c12 => ?_) (fun c12 => ?_)
  · have em : m = L.length - 1 := by omega
    subst em
    refine K h1 _ ⟨g, by rw [hln]; exact e1, by omega, fun j hj => e2 j (by omega), fun j hj => ?_⟩ hf
    rw [zDel_at (by omega)]
    split
    · exact d4 j (by omega)
    · exact d4 _ (by omega)
  · refine z_aload_n dMod_without_15 rfl ?_
    refine z_iload_n dMod_without_16 rfl ?_
    refine z_aload_n dMod_without_17 rfl ?_
    refine z_iload_n dMod_without_18 rfl ?_
    refine z_iload_n dMod_without_19 rfl ?_
    refine z_icmp_ge (tgt := 27) dMod_without_20 (by decide) (by omega) (by omega) (fun c20 => ?_) (fun c20 => ?_)
    · refine z_iload_n dMod_without_27 rfl ?_
      refine z_iconst dMod_without_28 ?_
      refine z_iadd dMod_without_29 ?_
      refine z_iald dMod_without_30 (by assumption) (by refine ⟨?_, ?_, ?_⟩ <;> omega) ?_
      refine z_iast dMod_without_31 (by assumption) (by refine ⟨?_, ?_, ?_⟩ <;> omega) ?_
      refine z_hx (fun h2 p2 f2 => ?_)
      refine z_iinc dMod_without_32 rfl (Nat.le_of_ble_eq_true rfl) ?_
      refine z_goto (tgt := 9) dMod_without_35 (by decide) ?_
      refine ih (m + 1) h2 _ (by omega) (by omega) p2 (fun j hj => ?_) (fun z hz => (f2 z hz).trans (hf z hz))
      by_cases e9 : j = m
      · subst e9
        rw [zDel_at (by omega), Int.toNat_natCast, zup_same]
        first
          | (rw [if_pos (by omega)]; exact d3 j (by omega))
          | (rw [if_neg (by omega), show ((j : Int) + 1).toNat = j + 1 by omega]; exact d3 _ (by omega))
      · rw [Int.toNat_natCast, zup_ne e9]
        exact e2 j (by omega)
    · refine z_iload_n dMod_without_23 rfl ?_
      refine z_goto (tgt := 30) dMod_without_24 (by decide) ?_
      refine z_iald dMod_without_30 (by assumption) (by refine ⟨?_, ?_, ?_⟩ <;> omega) ?_
      refine z_iast dMod_without_31 (by assumption) (by refine ⟨?_, ?_, ?_⟩ <;> omega) ?_
      refine z_hx (fun h2 p2 f2 => ?_)
      refine z_iinc dMod_without_32 rfl (Nat.le_of_ble_eq_true rfl) ?_
      refine z_goto (tgt := 9) dMod_without_35 (by decide) ?_
      refine ih (m + 1) h2 _ (by omega) (by omega) p2 (fun j hj => ?_) (fun z hz => (f2 z hz).trans (hf z hz))
      by_cases e9 : j = m
      · subst e9
        rw [zDel_at (by omega), Int.toNat_natCast, zup_same]
        first
          | (rw [if_pos (by omega)]; exact d3 j (by omega))
          | (rw [if_neg (by omega), show ((j : Int) + 1).toNat = j + 1 by omega]; exact d3 _ (by omega))
      · rw [Int.toNat_natCast, zup_ne e9]
        exact e2 j (by omega)
theorem k_Mod_without {a : Nat} {L : List Int} {p : Int} (hr : zAr G h a L) (hp : 0 ≤ p ∧ p < L.length) (hL : L.length ≤ 61) : zM G l hMod_without yMod_without 1 [.ref a, zi p] h (fun v h' => ∃ q, v = some (.ref q) ∧ zDm h q ∧ G.2.2 ≤ q ∧ zAr G h' q (zDel L p) ∧ ∀ z, z ≠ q → h' z = h z) zNo 1 60 := by
  obtain ⟨f, d1, d2, d3, d4⟩ := id hr
  refine zM.of [some (.ref a), some (zi p), none, none] (by decide +kernel) rfl (by decide) rfl (Nat.le_of_ble_eq_true rfl) rfl ?_
  refine z_aload_n dMod_without_0 rfl ?_
  refine z_alenI dMod_without_1 (by assumption) ?_
  refine z_iconst dMod_without_2 ?_
  refine z_isub dMod_without_3 ?_
  refine z_newI (n := L.length - 1) (bc' := 0) (bs' := 0) (by omega) dMod_without_4 (by omega) (by decide) (by omega) (fun q h1 hq gq e1 f1 => ?_)
  have haq : a ≠ q := Nat.ne_of_lt (hq a _ d1)
  refine z_astore_n dMod_without_6 (Nat.le_of_ble_eq_true rfl) ?_
  refine z_iconst dMod_without_7 ?_
  refine z_istore_n dMod_without_8 (Nat.le_of_ble_eq_true rfl) ?_
  refine l_Mod_without hr hp haq (fun h2 y r2 f2 => ?_) (L.length + 2) 0 h1 _ (by omega) (by omega) e1 (fun j hj => absurd hj (by omega)) f1
  refine z_aload_n dMod_without_38 rfl ?_
  refine z_aret rfl (Or.inr ⟨_, rfl⟩) (Or.inr ⟨_, rfl⟩) dMod_without_39 ?_
  exact ⟨q, rfl, hq, gq, r2, f2⟩
theorem l_Mod_turned {d mc ms bc bs : Nat} {Qn : Option Value → zHp → Prop} {Qx : String → zHp → Prop} {a q : Nat} {L : List Int} (hr : zAr G h a L) (haq : a ≠ q)
    (K : ∀ (h1 : zHp) y, zAr G h1 q (zRev L) → (∀ z, z ≠ q → h1 z = h z) → zR G l (zMJ G hMod_turned d Qn Qx mc ms) bc bs h1 30 [some (.ref a), some (.ref q), y] []) :
    ∀ (n : Nat) (m : Nat) (h1 : zHp) (g : Nat → Int), L.length - m < n → m ≤ L.length → h1 q = some (zInts G L.length g) → (∀ j, j < m → g j = (zRev L).getD j 0) → (∀ z, z ≠ q → h1 z = h z) → zR G l (zMJ G hMod_turned d Qn Qx mc ms) bc bs h1 7 [some (.ref a), some (.ref q), some (zi (m : Int))] [] := by
  intro n
  induction n with
  | zero => intro m h1 g q1 q2 e1 e2 hf; omega
  | succ n ih =>
  intro m h1 g q1 q2 e1 e2 hf
  obtain ⟨f, d1, d2, d3, d4⟩ := id hr
  have b1 := (hf a haq).trans d1
  have hln : (zRev L).length = L.length := zmk_len _ _
  refine z_iload_n dMod_turned_7 rfl ?_
  refine z_aload_n dMod_turned_8 rfl ?_
  refine z_alenI dMod_turned_9 (by assumption) ?_
  refine z_icmp_ge (tgt := 30) dMod_turned_10 (by decide) (by omega) (by omega) (fun c10 => ?_) (fun c10 => ?_)
  · have em : m = L.length := by omega
    subst em
    refine K h1 _ ⟨g, by rw [hln]; exact e1, by omega, fun j hj => e2 j (by omega), fun j hj => ?_⟩ hf
    rw [show (zRev L).getD j 0 = L.getD (L.length - 1 - j) 0 from zmk_at _ (by omega)]
    exact d4 _ (by omega)
  · refine z_aload_n dMod_turned_13 rfl ?_
    refine z_iload_n dMod_turned_14 rfl ?_
    refine z_aload_n dMod_turned_15 rfl ?_
    refine z_aload_n dMod_turned_16 rfl ?_
    refine z_alenI dMod_turned_17 (by assumption) ?_
    refine z_iconst dMod_turned_18 ?_
    refine z_isub dMod_turned_19 ?_
    refine z_iload_n dMod_turned_20 rfl ?_
    refine z_isub dMod_turned_21 ?_
    refine z_iald dMod_turned_22 (by assumption) (by refine ⟨?_, ?_, ?_⟩ <;> omega) ?_
    refine z_iast dMod_turned_23 (by assumption) (by refine ⟨?_, ?_, ?_⟩ <;> omega) ?_
    refine z_hx (fun h2 p2 f2 => ?_)
    refine z_iinc dMod_turned_24 rfl (Nat.le_of_ble_eq_true rfl) ?_
    refine z_goto (tgt := 7) dMod_turned_27 (by decide) ?_
    refine ih (m + 1) h2 _ (by omega) (by omega) p2 (fun j hj => ?_) (fun z hz => (f2 z hz).trans (hf z hz))
    by_cases e9 : j = m
    · subst e9
      rw [show (zRev L).getD j 0 = L.getD (L.length - 1 - j) 0 from zmk_at _ (by omega), Int.toNat_natCast, zup_same, show ((L.length : Int) - 1 - j).toNat = L.length - 1 - j by omega]
      exact d3 _ (by omega)
    · rw [Int.toNat_natCast, zup_ne e9]
      exact e2 j (by omega)
theorem k_Mod_turned {a : Nat} {L : List Int} (hr : zAr G h a L) (hL : L.length ≤ 61) : zM G l hMod_turned yMod_turned 1 [.ref a] h (fun v h' => ∃ q, v = some (.ref q) ∧ zDm h q ∧ G.2.2 ≤ q ∧ zAr G h' q (zRev L) ∧ ∀ z, z ≠ q → h' z = h z) zNo 1 61 := by
  obtain ⟨f, d1, d2, d3, d4⟩ := id hr
  refine zM.of [some (.ref a), none, none] (by decide +kernel) rfl (by decide) rfl (Nat.le_of_ble_eq_true rfl) rfl ?_
  refine z_aload_n dMod_turned_0 rfl ?_
  refine z_alenI dMod_turned_1 (by assumption) ?_
  refine z_newI (n := L.length) (bc' := 0) (bs' := 0) rfl dMod_turned_2 (by omega) (by decide) (by omega) (fun q h1 hq gq e1 f1 => ?_)
  have haq : a ≠ q := Nat.ne_of_lt (hq a _ d1)
  refine z_astore_n dMod_turned_4 (Nat.le_of_ble_eq_true rfl) ?_
  refine z_iconst dMod_turned_5 ?_
  refine z_istore_n dMod_turned_6 (Nat.le_of_ble_eq_true rfl) ?_
  refine l_Mod_turned hr haq (fun h2 y r2 f2 => ?_) (L.length + 2) 0 h1 _ (by omega) (by omega) e1 (fun j hj => absurd hj (by omega)) f1
  refine z_aload_n dMod_turned_30 rfl ?_
  refine z_aret rfl (Or.inr ⟨_, rfl⟩) (Or.inr ⟨_, rfl⟩) dMod_turned_31 ?_
  exact ⟨q, rfl, hq, gq, r2, f2⟩
theorem k_Mod_refused {o : Nat} {fs : List Value} {r : Int} (e : h o = some (.inr (zkMod, fs))) (hl : fs.length = 13) (hr : fs[10]? = some (zi r)) : zM G l hMod_refused yMod_refused 1 [.ref o] h (fun v h' => v = some (zi (-1000009)) ∧ h' o = some (.inr (zkMod, fs.set 10 (zi (r + 1)))) ∧ ∀ z, z ≠ o → h' z = h z) zNo 0 0 := by
  refine zM.of [some (.ref o)] (by decide +kernel) rfl (by decide) rfl (Nat.le_of_ble_eq_true rfl) rfl ?_
  refine z_aload_n dMod_refused_0 rfl ?_
  refine z_dup rfl dMod_refused_1 ?_
  refine z_get (k := 10) fd_Mod (by decide) fl_Mod_45 dMod_refused_2 e hr ?_
  refine z_iconst dMod_refused_5 ?_
  refine z_iadd dMod_refused_6 ?_
  refine z_put (k := 10) fd_Mod (by decide) fl_Mod_45 rfl dMod_refused_7 e (by omega) rfl rfl ?_
  refine z_hx (fun h1 p1 f1 => ?_)
  refine z_ldc (v := (-1000009 : Int32)) dMod_refused_10 (-1000009) (by decide) ct_Mod_48 ?_
  refine z_iret rfl rfl dMod_refused_12 ?_
  exact ⟨rfl, p1, f1⟩
theorem k_Mod_fails {o : Nat} {fs : List Value} {x y z : Int} (e : h o = some (.inr (zkMod, fs))) (hl : fs.length = 13) (hx : x = 0 ∨ x = 1) (hy : y = 0 ∨ y = 1) (hz : z = 0 ∨ z = 1) : zM G l hMod_fails yMod_fails 1 [.ref o, zi x, zi y, zi z] h (fun v h' => ∃ t b : Int, v = some (zi b) ∧ ((b = 0 ∧ t = 0 ∧ x = 0 ∧ y = 0 ∧ z = 0) ∨ (b = 1 ∧ ((t = 1 ∧ x = 1) ∨ (t = 2 ∧ x = 0 ∧ y = 1) ∨ (t = 3 ∧ x = 0 ∧ y = 0 ∧ z = 1)))) ∧ h' o = some (.inr (zkMod, fs.set 12 (zi t))) ∧ ∀ q, q ≠ o → h' q = h q) zNo 0 0 := by
  refine zM.of [some (.ref o), some (zi x), some (zi y), some (zi z)] (by decide +kernel) rfl (by decide) rfl (Nat.le_of_ble_eq_true rfl) rfl ?_
  refine z_aload_n dMod_fails_0 rfl ?_
  refine z_iload_n dMod_fails_1 rfl ?_
  refine z_if_eq (tgt := 9) dMod_fails_2 (by decide) (by omega) (fun c2 => ?_) (fun c2 => ?_)
  · refine z_iload_n dMod_fails_9 rfl ?_
    refine z_if_eq (tgt := 17) dMod_fails_10 (by decide) (by omega) (fun c10 => ?_) (fun c10 => ?_)
    · refine z_iload_n dMod_fails_17 rfl ?_
      refine z_if_eq (tgt := 25) dMod_fails_18 (by decide) (by omega) (fun c18 => ?_) (fun c18 => ?_)
      · refine z_iconst dMod_fails_25 ?_
        refine z_put (k := 12) fd_Mod (by decide) fl_Mod_37 rfl dMod_fails_26 e (by omega) rfl rfl ?_
        refine z_hx (fun h1 p1 f1 => ?_)
        refine z_aload_n dMod_fails_29 rfl ?_
        refine z_get (k := 12) fd_Mod (by decide) fl_Mod_37 dMod_fails_30 p1 (by rw [List.getElem?_set_self (by omega)]) ?_
        refine z_if_le (tgt := 40) dMod_fails_33 (by decide) (by omega) (fun c33 => ?_) (fun c33 => ?_)
        · refine z_iconst dMod_fails_40 ?_
          refine z_iret rfl rfl dMod_fails_41 ?_
          first
            | (exfalso; omega)
            | exact ⟨_, _, rfl, by omega, p1, f1⟩
        · refine z_iconst dMod_fails_36 ?_
          refine z_goto (tgt := 41) dMod_fails_37 (by decide) ?_
          refine z_iret rfl rfl dMod_fails_41 ?_
          first
            | (exfalso; omega)
            | exact ⟨_, _, rfl, by omega, p1, f1⟩
      · refine z_iconst dMod_fails_21 ?_
        refine z_goto (tgt := 26) dMod_fails_22 (by decide) ?_
        refine z_put (k := 12) fd_Mod (by decide) fl_Mod_37 rfl dMod_fails_26 e (by omega) rfl rfl ?_
        refine z_hx (fun h1 p1 f1 => ?_)
        refine z_aload_n dMod_fails_29 rfl ?_
        refine z_get (k := 12) fd_Mod (by decide) fl_Mod_37 dMod_fails_30 p1 (by rw [List.getElem?_set_self (by omega)]) ?_
        refine z_if_le (tgt := 40) dMod_fails_33 (by decide) (by omega) (fun c33 => ?_) (fun c33 => ?_)
        · refine z_iconst dMod_fails_40 ?_
          refine z_iret rfl rfl dMod_fails_41 ?_
          first
            | (exfalso; omega)
            | exact ⟨_, _, rfl, by omega, p1, f1⟩
        · refine z_iconst dMod_fails_36 ?_
          refine z_goto (tgt := 41) dMod_fails_37 (by decide) ?_
          refine z_iret rfl rfl dMod_fails_41 ?_
          first
            | (exfalso; omega)
            | exact ⟨_, _, rfl, by omega, p1, f1⟩
    · refine z_iconst dMod_fails_13 ?_
      refine z_goto (tgt := 26) dMod_fails_14 (by decide) ?_
      refine z_put (k := 12) fd_Mod (by decide) fl_Mod_37 rfl dMod_fails_26 e (by omega) rfl rfl ?_
      refine z_hx (fun h1 p1 f1 => ?_)
      refine z_aload_n dMod_fails_29 rfl ?_
      refine z_get (k := 12) fd_Mod (by decide) fl_Mod_37 dMod_fails_30 p1 (by rw [List.getElem?_set_self (by omega)]) ?_
      refine z_if_le (tgt := 40) dMod_fails_33 (by decide) (by omega) (fun c33 => ?_) (fun c33 => ?_)
      · refine z_iconst dMod_fails_40 ?_
        refine z_iret rfl rfl dMod_fails_41 ?_
        first
          | (exfalso; omega)
          | exact ⟨_, _, rfl, by omega, p1, f1⟩
      · refine z_iconst dMod_fails_36 ?_
        refine z_goto (tgt := 41) dMod_fails_37 (by decide) ?_
        refine z_iret rfl rfl dMod_fails_41 ?_
        first
          | (exfalso; omega)
          | exact ⟨_, _, rfl, by omega, p1, f1⟩
  · refine z_iconst dMod_fails_5 ?_
    refine z_goto (tgt := 26) dMod_fails_6 (by decide) ?_
    refine z_put (k := 12) fd_Mod (by decide) fl_Mod_37 rfl dMod_fails_26 e (by omega) rfl rfl ?_
    refine z_hx (fun h1 p1 f1 => ?_)
    refine z_aload_n dMod_fails_29 rfl ?_
    refine z_get (k := 12) fd_Mod (by decide) fl_Mod_37 dMod_fails_30 p1 (by rw [List.getElem?_set_self (by omega)]) ?_
    refine z_if_le (tgt := 40) dMod_fails_33 (by decide) (by omega) (fun c33 => ?_) (fun c33 => ?_)
    · refine z_iconst dMod_fails_40 ?_
      refine z_iret rfl rfl dMod_fails_41 ?_
      first
        | (exfalso; omega)
        | exact ⟨_, _, rfl, by omega, p1, f1⟩
    · refine z_iconst dMod_fails_36 ?_
      refine z_goto (tgt := 41) dMod_fails_37 (by decide) ?_
      refine z_iret rfl rfl dMod_fails_41 ?_
      first
        | (exfalso; omega)
        | exact ⟨_, _, rfl, by omega, p1, f1⟩
end MOD1
