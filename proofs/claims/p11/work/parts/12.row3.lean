/-! ===== Math ===== -/
theorem zI_div {a b : Int} (ha : 0 ≤ a ∧ a ≤ 2147483647) (hb : 0 < b ∧ b ≤ 2147483647) : zI a / zI b = zI (a / b) := by
  have h1 : zI a = nI a.toNat := by rw [nI, zI_nat]; congr 1; omega
  have h2 : zI b = nI b.toNat := by rw [nI, zI_nat]; congr 1; omega
  rw [h1, h2, pk_div (by omega) (by omega) (by omega), nI, zI_nat]
  congr 1
  rw [Int.natCast_ediv]
  congr 1 <;> omega
theorem zI_rem {a b : Int} (ha : -2147483648 ≤ a ∧ a ≤ 2147483647) (hb : 0 < b ∧ b ≤ 2147483647) : zI a - zI a / zI b * zI b = zI (a.tmod b) := by
  rw [irem_eq_mod]
  apply Int32.toInt_inj.mp
  have h1 := Int.lt_tmod_of_pos a hb.1
  have h2 := Int.tmod_lt_of_pos a hb.1
  rw [Int32.toInt_mod, zI_toInt ha, zI_toInt (by omega), zI_toInt (by omega)]
theorem zI_xor (a b : Int) : zI a ^^^ zI b = zI (zI a ^^^ zI b).toInt := (zI_of _).symm
theorem zI_range (x : Int32) : -2147483648 ≤ x.toInt ∧ x.toInt ≤ 2147483647 := by
  have h1 := Int32.le_toInt x
  have h2 := Int32.toInt_lt x
  omega
theorem zxor_neg (x y : Int32) : (x ^^^ y).toInt < 0 ↔ (x.toInt < 0 ↔ ¬ y.toInt < 0) := by
  have h1 : ∀ z : Int32, (z.toInt < 0) ↔ z.toBitVec.msb = true := by
    intro z
    rw [BitVec.msb_eq_toInt]
    simp
  rw [h1, h1, h1, Int32.toBitVec_xor, BitVec.msb_xor]
  cases x.toBitVec.msb <;> cases y.toBitVec.msb <;> simp
theorem zmod_pos {a b : Int} (hb : 0 < b) : a.tmod b = if a < 0 ∧ a % b ≠ 0 then a % b - b else a % b := by
  by_cases h : 0 ≤ a
  · rw [Int.tmod_eq_emod_of_nonneg h, if_neg (by omega)]
  · have h1 : a.tmod b = -((-a).tmod b) := by rw [Int.neg_tmod]; omega
    have h2 : (-a).tmod b = (-a) % b := Int.tmod_eq_emod_of_nonneg (by omega)
    rw [h1, h2]
    have h3 := Int.emod_nonneg a (show b ≠ 0 by omega)
    have h4 := Int.emod_lt_of_pos a hb
    have h5 := Int.emod_nonneg (-a) (show b ≠ 0 by omega)
    have h6 := Int.emod_lt_of_pos (-a) hb
    have h7 : b ∣ (-a) % b + a % b := by
      have e1 := Int.mul_ediv_add_emod a b
      have e2 := Int.mul_ediv_add_emod (-a) b
      exact ⟨-(a / b) - (-a) / b, by rw [Int.mul_sub, Int.mul_neg]; omega⟩
    obtain ⟨k, hk⟩ := h7
    split
    · rename_i hc
      have : k = 1 := by
        rcases (show k ≤ 0 ∨ k = 1 ∨ 2 ≤ k by omega) with q | q | q
        · have := Int.mul_le_mul_of_nonneg_left q (show 0 ≤ b by omega); omega
        · exact q
        · have := Int.mul_le_mul_of_nonneg_left q (show 0 ≤ b by omega); omega
      subst this
      omega
    · rename_i hc
      have : k = 0 := by
        rcases (show k ≤ 0 ∨ 1 ≤ k by omega) with q | q
        · rcases (show k = 0 ∨ k ≤ -1 by omega) with q2 | q2
          · exact q2
          · have := Int.mul_le_mul_of_nonneg_left q2 (show 0 ≤ b by omega); omega
        · have := Int.mul_le_mul_of_nonneg_left q (show 0 ≤ b by omega); omega
      subst this
      omega
section ROW3
variable {G : zG} {l : Launch} {h : zHp} {r a : Nat} {L : List Int} {p x : Int}
theorem k_Mth_floorMod {b : Int} (hp : -2147483648 ≤ p ∧ p ≤ 2147483647) (hb : 0 < b ∧ b ≤ 2147483647) : zM G l hMth_floorMod_7cf53 yMth_floorMod_7cf53 1 [zi p, zi b] h (fun v h' => v = some (zi (p % b)) ∧ h = h') zNo 0 0 := by
  have hz := zmod_pos (a := p) hb.1
  have h3 := Int.emod_nonneg p (show b ≠ 0 by omega)
  have h4 := Int.emod_lt_of_pos p hb.1
  have hx := zxor_neg (zI p) (zI b)
  rw [zI_toInt hp, zI_toInt (by omega)] at hx
  have hxr := zI_range (zI p ^^^ zI b)
  refine zM.of [some (zi p), some (zi b), none] (by decide +kernel) rfl (by decide) rfl (Nat.le_of_ble_eq_true rfl) rfl ?_
  refine z_iload_n dMth_floorMod_7cf53_0 rfl ?_
  refine z_iload_n dMth_floorMod_7cf53_1 rfl ?_
  refine z_irem _ (zI_rem hp hb) (fun q => by have := (zI_eq (by omega) (by omega)).mp (show zI b = zI 0 from q); omega) dMth_floorMod_7cf53_2 ?_
  refine z_istore_n dMth_floorMod_7cf53_3 (Nat.le_of_ble_eq_true rfl) ?_
  refine z_iload_n dMth_floorMod_7cf53_4 rfl ?_
  refine z_iload_n dMth_floorMod_7cf53_5 rfl ?_
  refine z_ixor _ (zI_xor _ _) dMth_floorMod_7cf53_6 ?_
  refine z_if_ge (tgt := 18) dMth_floorMod_7cf53_7 (by decide) (by omega) (fun c7 => ?_) (fun c7 => ?_)
  · refine z_iload_n dMth_floorMod_7cf53_18 rfl ?_
    refine z_iret rfl rfl dMth_floorMod_7cf53_19 ?_
    refine ⟨?_, rfl⟩
    congr 2
    congr 1
    generalize p.tmod b = t at *
    generalize p % b = m at *
    split at hz <;> omega
  · refine z_iload_n dMth_floorMod_7cf53_10 rfl ?_
    refine z_if_eq (tgt := 18) dMth_floorMod_7cf53_11 (by decide) (by omega) (fun c11 => ?_) (fun c11 => ?_)
    · refine z_iload_n dMth_floorMod_7cf53_18 rfl ?_
      refine z_iret rfl rfl dMth_floorMod_7cf53_19 ?_
      refine ⟨?_, rfl⟩
      congr 2
      congr 1
      generalize p.tmod b = t at *
      generalize p % b = m at *
      split at hz <;> omega
    · refine z_iload_n dMth_floorMod_7cf53_14 rfl ?_
      refine z_iload_n dMth_floorMod_7cf53_15 rfl ?_
      refine z_iadd dMth_floorMod_7cf53_16 ?_
      refine z_iret rfl rfl dMth_floorMod_7cf53_17 ?_
      refine ⟨?_, rfl⟩
      congr 2
      congr 1
      generalize p.tmod b = t at *
      generalize p % b = m at *
      split at hz <;> omega
theorem z_max {J : zJ} {bc bs : Nat} {pc : Nat} {ls : List (Option Value)} {st : List Value} {a b : Int} {i : Nat} (hw : Cond.methodLink J.1.1 i Lib.Math.max.name ∈ zWS) (hs : Cond.static Lib.Math.max.name ∈ zWS) (hi : Cond.initialized "java/lang/Math" ∈ zWS) (hc : Cond.code Lib.Math.max.name Lib.Math.max.code 2 (some .int) ∈ zWS) (hd : decode J.1.2.1 pc = .ok (.invokestatic i, 3)) (ha : -2147483648 ≤ a ∧ a ≤ 2147483647) (hb : -2147483648 ≤ b ∧ b ≤ 2147483647) (hcat : (st.map fun v => v.category).sum ≤ 8) (hfr : 1 ≤ J.2.1.frames) (hlo : 64 ≤ J.2.1.locals)
    (kk : zR G l J bc bs h (pc + 3) ls (zi (if a < b then b else a) :: st)) : zR G l J bc bs h pc ls (zi b :: zi a :: st) := by
  intro p e s m args below meth c H locs cells slots ls0 C0 hP hS hL h1 h2
  have hts := C0.2.2.2.2.2.2.2.1
  refine va_mmax C0.1 C0.2.1 (C0.2.2.1.trans hL.1.symm) C0.2.2.2.2.2.2.1 (hts _ hw) (hts _ hs) (hts _ hi) (hts _ hc) hfr (by omega) (by omega) (by omega) hd ?_
  have e9 : (if zI a < zI b then zI b else zI a) = zI (if a < b then b else a) := by
    by_cases q : a < b
    · rw [if_pos ((zI_lt ha hb).mpr q), if_pos q]
    · rw [if_neg (fun z => q ((zI_lt ha hb).mp z)), if_neg q]
  rw [e9]
  exact kk p e s m args below meth c H locs cells slots ls0 C0 hP hS hL h1 h2
def zSwp (L : List Int) (i j : Int) : List Int := zSet (zSet L i (zAt L j)) j (zAt L i)
theorem zSwp_len (L : List Int) (i j : Int) : (zSwp L i j).length = L.length := by unfold zSwp; rw [zSet_len, zSet_len]
theorem k_Row_exchange {i j : Int} (hr : zRow G h r a L) (hi : -2147483648 ≤ i ∧ i ≤ 2147483647) (hj : -2147483648 ≤ j ∧ j ≤ 2147483647) : zM G l hRow_exchange yRow_exchange 3 [.ref r, zi i, zi j] h (fun v h' => v = none ∧ zRow G h' r a (zSwp L i j) ∧ ∀ q, q ≠ r → q ≠ a → h' q = h q) zNo 0 0 := by
  obtain ⟨f, e1, e2, e3, e4, e5⟩ := id hr
  refine zM.of [some (.ref r), some (zi i), some (zi j), none] (by decide +kernel) rfl (by decide) rfl (Nat.le_of_ble_eq_true rfl) rfl ?_
  refine z_aload_n dRow_exchange_0 rfl ?_
  refine z_iload_n dRow_exchange_1 rfl ?_
  refine z_callV MV_Row_itemAt lk_Row_40 dRow_exchange_2 (k_Row_itemAt hr (by omega)) rfl rfl (Nat.le_of_ble_eq_true rfl) rfl (by assumption) (Nat.le_of_ble_eq_true rfl) (Nat.le_of_ble_eq_true rfl) (Nat.le_of_eq (Nat.zero_add _)) (Nat.le_of_eq (Nat.zero_add _)) (fun _ _ q => q.elim) ?_
  rintro _ _ ⟨rfl, rfl⟩
  refine z_istore_n dRow_exchange_5 (Nat.le_of_ble_eq_true rfl) ?_
  refine z_aload_n dRow_exchange_6 rfl ?_
  refine z_iload_n dRow_exchange_7 rfl ?_
  refine z_aload_n dRow_exchange_8 rfl ?_
  refine z_iload_n dRow_exchange_9 rfl ?_
  refine z_callV MV_Row_itemAt lk_Row_40 dRow_exchange_10 (k_Row_itemAt hr (by omega)) rfl rfl (Nat.le_of_ble_eq_true rfl) rfl (by assumption) (Nat.le_of_ble_eq_true rfl) (Nat.le_of_ble_eq_true rfl) (Nat.le_of_eq (Nat.zero_add _)) (Nat.le_of_eq (Nat.zero_add _)) (fun _ _ q => q.elim) ?_
  rintro _ _ ⟨rfl, rfl⟩
  refine z_callV MV_Row_changeAt lk_Row_44 dRow_exchange_13 (k_Row_changeAt hr (by omega) (zAt_in hr j)) rfl rfl (Nat.le_of_ble_eq_true rfl) rfl (by assumption) (Nat.le_of_ble_eq_true rfl) (Nat.le_of_ble_eq_true rfl) (Nat.le_of_eq (Nat.zero_add _)) (Nat.le_of_eq (Nat.zero_add _)) (fun _ _ q => q.elim) ?_
  rintro _ h1 ⟨rfl, hr1, f1⟩
  obtain ⟨g, d1, d2, d3, d4, d5⟩ := id hr1
  refine z_aload_n dRow_exchange_16 rfl ?_
  refine z_iload_n dRow_exchange_17 rfl ?_
  refine z_iload_n dRow_exchange_18 rfl ?_
  refine z_callV MV_Row_changeAt lk_Row_44 dRow_exchange_19 (k_Row_changeAt hr1 (by omega) (zAt_in hr i)) rfl rfl (Nat.le_of_ble_eq_true rfl) rfl (by assumption) (Nat.le_of_ble_eq_true rfl) (Nat.le_of_ble_eq_true rfl) (Nat.le_of_eq (Nat.zero_add _)) (Nat.le_of_eq (Nat.zero_add _)) (fun _ _ q => q.elim) ?_
  rintro _ h2 ⟨rfl, hr2, f2⟩
  refine z_vret rfl dRow_exchange_22 ?_
  exact ⟨rfl, hr2, fun q q1 q2 => (f2 q q1 q2).trans (f1 q q1 q2)⟩
def zRev (L : List Int) : List Int := zmk L.length (fun j => L.getD (L.length - 1 - j) 0)
theorem zRev_len (L : List Int) : (zRev L).length = L.length := zmk_len _ _
theorem zRev_at {L : List Int} {j : Nat} (h : j < L.length) : (zRev L).getD j 0 = L.getD (L.length - 1 - j) 0 := zmk_at _ h
theorem zAt_nat {L : List Int} {i : Nat} (h : i < L.length) : zAt L (i : Int) = L.getD i 0 := by
  unfold zAt
  rw [if_pos (by omega), Int.toNat_natCast]
theorem zSwp_at {L : List Int} {i k j : Nat} (hi : i < L.length) (hk : k < L.length) (hj : j < L.length) : (zSwp L i k).getD j 0 = if j = k then L.getD i 0 else if j = i then L.getD k 0 else L.getD j 0 := by
  unfold zSwp
  rw [zSet_at _ _ _ (by rw [zSet_len]; exact hj), zSet_at _ _ _ hj]
  rw [zAt_nat hi, zAt_nat hk]
  simp only [Int.natCast_inj]
theorem l_Row_turnRound {d mc ms bc bs : Nat} {Qn : Option Value → zHp → Prop} {Qx : String → zHp → Prop} (hl : L.length ≤ 16)
    (K : ∀ (h1 : zHp) x, zRow G h1 r a (zRev L) → (∀ q, q ≠ r → q ≠ a → h1 q = h q) → zR G l (zMJ G hRow_turnRound d Qn Qx mc ms) bc bs h1 31 [some (.ref r), x] []) (hd : 4 ≤ d) :
    ∀ (n : Nat) (m : Nat) (h1 : zHp) (M : List Int), L.length - m < n → 2 * m ≤ L.length → M.length = L.length → zRow G h1 r a M → (∀ q, q ≠ r → q ≠ a → h1 q = h q) → (∀ j, j < L.length → M.getD j 0 = if j < m ∨ L.length - m ≤ j then L.getD (L.length - 1 - j) 0 else L.getD j 0) →
      zR G l (zMJ G hRow_turnRound d Qn Qx mc ms) bc bs h1 2 [some (.ref r), some (zi (m : Int))] [] := by
  intro n
  induction n with
  | zero => intro m h1 M q1 q2 q3 hr1 g2 g3; omega
  | succ n ih =>
  intro m h1 M q1 q2 q3 hr1 g2 g3
  obtain ⟨f, e1, e2, e3, e4, e5⟩ := id hr1
  rw [q3] at e1
  refine z_iload_n dRow_turnRound_2 rfl ?_
  refine z_aload_n dRow_turnRound_3 rfl ?_
  refine z_get (k := 1) fd_Row (by decide) fl_Row_15 dRow_turnRound_4 (by assumption) (by rfl) ?_
  refine z_iconst dRow_turnRound_7 ?_
  refine z_idiv _ (zI_div (by omega) (by omega)) (by decide) dRow_turnRound_8 ?_
  refine z_icmp_ge (tgt := 31) dRow_turnRound_9 (by decide) (by omega) (by omega) (fun c9 => ?_) (fun c9 => ?_)
  · have em : M = zRev L := zl_ext (by rw [q3, zRev_len]) (fun j hj => by
      rw [g3 j (by omega), zRev_at (by omega)]
      split
      · rfl
      · congr 1
        omega)
    rw [em] at hr1
    exact K h1 _ hr1 g2
  · refine z_aload_n dRow_turnRound_12 rfl ?_
    refine z_iload_n dRow_turnRound_13 rfl ?_
    refine z_aload_n dRow_turnRound_14 rfl ?_
    refine z_get (k := 1) fd_Row (by decide) fl_Row_15 dRow_turnRound_15 (by assumption) (by rfl) ?_
    refine z_iconst dRow_turnRound_18 ?_
    refine z_isub dRow_turnRound_19 ?_
    refine z_iload_n dRow_turnRound_20 rfl ?_
    refine z_isub dRow_turnRound_21 ?_
    refine z_callV MV_Row_exchange lk_Row_48 dRow_turnRound_22 (k_Row_exchange hr1 (by omega) (by omega)) rfl rfl (Nat.le_of_ble_eq_true rfl) rfl (by assumption) (by show 4 ≤ d; omega) (by show 3 * 64 + 64 ≤ d * 64; omega) (Nat.le_of_eq (Nat.zero_add _)) (Nat.le_of_eq (Nat.zero_add _)) (fun _ _ q => q.elim) ?_
    rintro _ h2 ⟨rfl, hr2, f2⟩
    refine z_iinc dRow_turnRound_25 rfl (Nat.le_of_ble_eq_true rfl) ?_
    refine z_goto (tgt := 2) dRow_turnRound_28 (by decide) ?_
    rw [show (L.length : Int) - 1 - (m : Int) = ((L.length - 1 - m : Nat) : Int) by omega] at hr2
    refine ih (m + 1) h2 _ (by omega) (by omega) (by rw [zSwp_len, q3]) hr2 (fun q h3 h4 => (f2 q h3 h4).trans (g2 q h3 h4)) (fun j hj => ?_)
    rw [zSwp_at (by omega) (by omega) (by omega), g3 j hj, g3 m (by omega), g3 (L.length - 1 - m) (by omega)]
    by_cases e9 : j = L.length - 1 - m
    · rw [if_pos e9, if_neg (by omega), if_pos (by omega)]
      congr 1
      omega
    · rw [if_neg e9]
      by_cases e8 : j = m
      · rw [if_pos e8, if_neg (by omega), if_pos (by omega), e8]
      · rw [if_neg e8]
        by_cases e7 : j < m ∨ L.length - m ≤ j
        · rw [if_pos e7, if_pos (by omega)]
        · rw [if_neg e7, if_neg (by omega)]
theorem k_Row_turnRound (hr : zRow G h r a L) : zM G l hRow_turnRound yRow_turnRound 4 [.ref r] h (fun v h' => v = none ∧ zRow G h' r a (zRev L) ∧ ∀ q, q ≠ r → q ≠ a → h' q = h q) zNo 0 0 := by
  refine zM.of [some (.ref r), none] (by decide +kernel) rfl (by decide) rfl (Nat.le_of_ble_eq_true rfl) rfl ?_
  refine z_iconst dRow_turnRound_0 ?_
  refine z_istore_n dRow_turnRound_1 (Nat.le_of_ble_eq_true rfl) ?_
  refine l_Row_turnRound (h := h) (L := L) (a := a) hr.len (fun h1 x hr1 f1 => ?_) (by omega) 17 0 h L (by have := hr.len; omega) (by omega) rfl hr (fun _ _ _ => rfl) (fun j hj => by rw [if_neg (by omega)])
  refine z_vret rfl dRow_turnRound_31 ?_
  exact ⟨rfl, hr1, f1⟩
theorem zIns_end (L : List Int) (x : Int) : zIns L L.length x = L ++ [x] := by
  apply zl_ext
  · rw [zIns_len]; simp
  · intro j hj
    rw [zIns_len] at hj
    rw [zIns_at hj]
    by_cases e : j < L.length
    · rw [if_pos (by omega)]
      simp [List.getElem?_append, e]
    · have e2 : j = L.length := by omega
      rw [if_neg (by omega), if_pos (by omega), e2]
      simp
theorem zmk_succ (n : Nat) (g : Nat → Int) : zmk (n + 1) g = zmk n g ++ [g n] := by simp [zmk, List.range_succ]
theorem k_Row_addBehind (hr : zRow G h r a L) (hx : -2147483648 ≤ x ∧ x ≤ 2147483647) : zM G l hRow_addBehind yRow_addBehind 3 [.ref r, zi x] h (fun v h' => (v = some (zi 1) ∧ zIn x ∧ L.length < 16 ∧ zRow G h' r a (L ++ [x]) ∧ ∀ q, q ≠ r → q ≠ a → h' q = h q) ∨ (v = some (zi 0) ∧ ¬ (zIn x ∧ L.length < 16) ∧ h = h')) zNo 0 0 := by
  obtain ⟨f, e1, e2, e3, e4, e5⟩ := id hr
  refine zM.of [some (.ref r), some (zi x)] (by decide +kernel) rfl (by decide) rfl (Nat.le_of_ble_eq_true rfl) rfl ?_
  refine z_iload_n dRow_addBehind_0 rfl ?_
  refine z_sipush dRow_addBehind_1 rfl ?_
  refine z_icmp_lt (tgt := 30) dRow_addBehind_4 (by decide) (by omega) (by omega) (fun c4 => ?_) (fun c4 => ?_)
  · refine z_iconst dRow_addBehind_30 ?_
    refine z_iret rfl rfl dRow_addBehind_31 ?_
    exact Or.inr ⟨rfl, fun q => by omega, rfl⟩
  · refine z_iload_n dRow_addBehind_7 rfl ?_
    refine z_sipush dRow_addBehind_8 rfl ?_
    refine z_icmp_gt (tgt := 30) dRow_addBehind_11 (by decide) (by omega) (by omega) (fun c11 => ?_) (fun c11 => ?_)
    · refine z_iconst dRow_addBehind_30 ?_
      refine z_iret rfl rfl dRow_addBehind_31 ?_
      exact Or.inr ⟨rfl, fun q => by omega, rfl⟩
    · refine z_aload_n dRow_addBehind_14 rfl ?_
      refine z_aload_n dRow_addBehind_15 rfl ?_
      refine z_get (k := 1) fd_Row (by decide) fl_Row_15 dRow_addBehind_16 (by assumption) (by rfl) ?_
      refine z_iload_n dRow_addBehind_19 rfl ?_
      refine z_callV MV_Row_putIn lk_Row_60 dRow_addBehind_20 (k_Row_putIn hr (by omega) (by omega)) rfl rfl (Nat.le_of_ble_eq_true rfl) rfl (by assumption) (Nat.le_of_ble_eq_true rfl) (Nat.le_of_ble_eq_true rfl) (Nat.le_of_eq (Nat.zero_add _)) (Nat.le_of_eq (Nat.zero_add _)) (fun _ _ q => q.elim) ?_
      rintro _ h1 (⟨rfl, k1, k2, k3, hr1, f1⟩ | ⟨rfl, k1, rfl⟩)
      · refine z_if_eq (tgt := 30) dRow_addBehind_23 (by decide) (by omega) (fun c => absurd c (by decide)) (fun _ => ?_)
        refine z_iconst dRow_addBehind_26 ?_
        refine z_goto (tgt := 31) dRow_addBehind_27 (by decide) ?_
        refine z_iret rfl rfl dRow_addBehind_31 ?_
        rw [zIns_end] at hr1
        exact Or.inl ⟨rfl, by omega, k1, hr1, f1⟩
      · refine z_if_eq (tgt := 30) dRow_addBehind_23 (by decide) (by omega) (fun _ => ?_) (fun c => absurd rfl c)
        refine z_iconst dRow_addBehind_30 ?_
        refine z_iret rfl rfl dRow_addBehind_31 ?_
        exact Or.inr ⟨rfl, fun q => k1 ⟨q.2, by omega, by omega⟩, rfl⟩
end ROW3
