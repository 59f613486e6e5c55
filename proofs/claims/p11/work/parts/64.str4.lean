section STR4
variable {G : zG} {l : Launch} {h h' h0 : zHp}
theorem zshr0 (x : Int32) : x >>> (zI 0 &&& 31) = x := by
  have e : (zI 0 &&& 31 : Int32) = 0 := by decide
  rw [e]
  simp
theorem zshl0 (x : Int32) : x <<< (zI 0 &&& 31) = x := by
  have e : (zI 0 &&& 31 : Int32) = 0 := by decide
  rw [e]
  simp
/-- a call of an instance method, its receiver whatever it is -/
theorem z_callVR {J : zJ} {bc bs pc : Nat} {ls : List (Option Value)} {st : List Value} {d mc ms i b n : Nat} {y : MethodName} {hd' : zHd} {As rest : List Value} {Qn : Option Value → zHp → Prop} {Qx : String → zHp → Prop} {bc' bs' : Nat} (M : zMV y hd' n) (hw : Cond.methodLink J.1.1 i y ∈ zWS) (hd : decode J.1.2.1 pc = .ok (.invokevirtual i, 3)) (hM : zM G l hd' y d (.ref b :: As) h Qn Qx mc ms) (hst : st = As.reverse ++ .ref b :: rest)
    (hn : As.length = n) (hcat : (rest.map fun v => v.category).sum ≤ 8) (hrv : ∀ (s : State) (H : Heap) (locs : List Loc), zS G s s.heap → zRel G h H → va_S (zA G) s.heap H locs → ∃ cell : Cell, H[b]? = some cell ∧ cell.vm.isStatics = false ∧ s.vm.findClass y.cls = some cell.cls) (hfr : d + 1 ≤ J.2.1.frames) (hlo : d * 64 + 64 ≤ J.2.1.locals) (hb1 : mc + bc' ≤ bc) (hb2 : ms + bs' ≤ bs)
    (kx : ∀ E h', Qx E h' → zT G l J bc' bs' h' E pc ls) (kk : ∀ v h', Qn v h' → zR G l J bc' bs' h' (pc + 3) ls (v.toList ++ rest)) : zR G l J bc bs h pc ls st := by
  intro p e s m args below meth c H locs cells slots ls0 C0 hP hS hL h1 h2
  have hts := C0.2.2.2.2.2.2.2.1
  refine z_after C0 hP hS hL h1 h2 hb1 hb2 (vx_runV (As := As) (rest := rest) (Ts := zWS) ⟨C0.1, C0.2.1, rfl, C0.2.2.2.2.2.2.1, hts⟩ (hM C0.2.2.2.2.2.2.2.2.2.2.1) (cwV n hts (zgoodIn (fun _ h => h) (zw M.1 (by
    intro w hw9
    simp only [List.mem_cons, List.not_mem_nil, or_false] at hw9
    rcases hw9 with q | q | q | q <;> rw [q]
    · exact hw
    · exact M.2.1
    · exact M.2.2
    · exact M.1.1))) rfl rfl rfl ⟨rfl, M.1.2.2.1⟩ ⟨hfr, by have := M.1.2.2.2; show 8 + (_ + 11) + d * 64 ≤ _; omega⟩) ⟨zPc_blind, hrv s H locs C0.2.2.2.2.2.2.2.2.2.1 hP hS, fun U hU hW => zPc_pre C0.2.2.2.2.2.2.2.2.2.1 hP hS U hU hW⟩ rfl hn (hL.1.trans C0.2.2.1.symm) hst (lv_room hcat) hd ⟨by show cells + mc ≤ _; omega, by show slots + ms ≤ _; omega⟩) kx kk
/-- a text of n bytes: "" and " " as constants, or a new one -/
def zSr (G : zG) (h : zHp) (q n : Nat) : Prop := (∃ b : Bool, q = G.2.1 (if b then 7 else 9) ∧ n = if b then 0 else 1) ∨ ∃ (v : Nat) (f : Nat → Int) (x2 x3 : Value), h q = some (.inr (zkStr, [.ref v, zi 0, x2, x3])) ∧ h v = some (zBytes G n f) ∧ zFit f
theorem zSr.ext {q n : Nat} (H : zSr G h q n) (hx : zExt h h') : zSr G h' q n := by
  rcases H with H | ⟨v, f, x2, x3, e1, e2, e3⟩
  · exact Or.inl H
  · exact Or.inr ⟨v, f, x2, x3, hx _ _ e1, hx _ _ e2, e3⟩
theorem zSr.recv {q n : Nat} (H : zSr G h q n) : ∀ (s : State) (H9 : Heap) (locs : List Loc), zS G s s.heap → zRel G h H9 → va_S (zA G) s.heap H9 locs → ∃ cell : Cell, H9[q]? = some cell ∧ cell.vm.isStatics = false ∧ s.vm.findClass "java/lang/String" = some cell.cls := by
  intro s H9 locs hZ hP hS
  rcases H with ⟨b, rfl, -⟩ | ⟨v, f, x2, x3, e1, e2, e3⟩
  · exact va_Orecv (zOo b _ _ hZ) hS
  · exact va_recv hZ.1 (hP.ok e1) (ci := zkStr) rfl (q0 := 0) rfl
/-- a StringBuilder that was made since h0: its array, its room, how many bytes -/
def zSb (G : zG) (h0 h : zHp) (b a cap n : Nat) : Prop := ∃ (ml : Value) (f : Nat → Int), h b = some (.inr (zkSbd, [.ref a, zi 0, ml, zi (n : Int)])) ∧ h a = some (zBytes G cap f) ∧ zFit f ∧ n ≤ cap ∧ b ≠ a ∧ zDm h0 b ∧ zDm h0 a ∧ zExt h0 h
def zNc (cap m : Nat) : Nat := cap + (if m - cap < cap + 2 then cap + 2 else m - cap)
def zCp (cap m : Nat) : Nat := if m ≤ cap then cap else zNc cap m
def zGr (cap m : Nat) : Nat := if m ≤ cap then 0 else zNc cap m
theorem zGr_ok {cap m bs : Nat} (hm : m ≤ 120) (hc : cap ≤ 240) (hb : 2 * (240 - cap) ≤ bs) : zGr cap m ≤ bs ∧ zCp cap m ≤ 240 ∧ 2 * (240 - zCp cap m) ≤ bs - zGr cap m ∧ m ≤ zCp cap m := by
  unfold zGr zCp zNc
  by_cases c : m ≤ cap
  · rw [if_pos c, if_pos c]; omega
  · rw [if_neg c, if_neg c]; split <;> omega
theorem k_Mth_max_7cf53 {a b : Int} (ha : zI32 a) (hb : zI32 b) : zM G l hMth_max_7cf53 yMth_max_7cf53 1 [zi a, zi b] h (fun v h' => v = some (zi (if a < b then b else a)) ∧ h = h') zNo 0 0 := by
  refine zM.of [some (zi a), some (zi b)] (by decide +kernel) rfl (by decide) rfl (Nat.le_of_ble_eq_true rfl) rfl ?_
  refine z_iload_n dMth_max_7cf53_0 rfl ?_
  refine z_iload_n dMth_max_7cf53_1 rfl ?_
  refine z_icmp_lt (tgt := 9) dMth_max_7cf53_2 (by decide) (by omega) (by omega) (fun c2 => ?_) (fun c2 => ?_)
  · refine z_iload_n dMth_max_7cf53_9 rfl ?_
    refine z_iret rfl rfl dMth_max_7cf53_10 ?_
    first
      | exact ⟨by rw [if_pos (by omega)], rfl⟩
      | exact ⟨by rw [if_neg (by omega)], rfl⟩
  · refine z_iload_n dMth_max_7cf53_5 rfl ?_
    refine z_goto (tgt := 10) dMth_max_7cf53_6 (by decide) ?_
    refine z_iret rfl rfl dMth_max_7cf53_10 ?_
    first
      | exact ⟨by rw [if_pos (by omega)], rfl⟩
      | exact ⟨by rw [if_neg (by omega)], rfl⟩
theorem k_Mth_min_7cf53 {a b : Int} (ha : zI32 a) (hb : zI32 b) : zM G l hMth_min_7cf53 yMth_min_7cf53 1 [zi a, zi b] h (fun v h' => v = some (zi (if a ≤ b then a else b)) ∧ h = h') zNo 0 0 := by
  refine zM.of [some (zi a), some (zi b)] (by decide +kernel) rfl (by decide) rfl (Nat.le_of_ble_eq_true rfl) rfl ?_
  refine z_iload_n dMth_min_7cf53_0 rfl ?_
  refine z_iload_n dMth_min_7cf53_1 rfl ?_
  refine z_icmp_gt (tgt := 9) dMth_min_7cf53_2 (by decide) (by omega) (by omega) (fun c2 => ?_) (fun c2 => ?_)
  · refine z_iload_n dMth_min_7cf53_9 rfl ?_
    refine z_iret rfl rfl dMth_min_7cf53_10 ?_
    first
      | exact ⟨by rw [if_pos (by omega)], rfl⟩
      | exact ⟨by rw [if_neg (by omega)], rfl⟩
  · refine z_iload_n dMth_min_7cf53_5 rfl ?_
    refine z_goto (tgt := 10) dMth_min_7cf53_6 (by decide) ?_
    refine z_iret rfl rfl dMth_min_7cf53_10 ?_
    first
      | exact ⟨by rw [if_pos (by omega)], rfl⟩
      | exact ⟨by rw [if_neg (by omega)], rfl⟩
theorem k_Asu_newLength_cabcc {o g p : Int} (h1 : 0 ≤ o ∧ o ≤ 1000) (h2 : 0 ≤ g ∧ g ≤ 1000) (h3 : 0 < p ∧ p ≤ 3000) : zM G l hAsu_newLength_cabcc yAsu_newLength_cabcc 2 [zi o, zi g, zi p] h (fun v h' => v = some (zi (o + (if g < p then p else g))) ∧ h = h') zNo 0 0 := by
  refine zM.of [some (zi o), some (zi g), some (zi p), none] (by decide +kernel) rfl (by decide) rfl (Nat.le_of_ble_eq_true rfl) rfl ?_
  refine z_iload_n dAsu_newLength_cabcc_0 rfl ?_
  refine z_iload_n dAsu_newLength_cabcc_1 rfl ?_
  refine z_iload_n dAsu_newLength_cabcc_2 rfl ?_
  refine z_callS MS_Mth_max_7cf53 lk_Asu_194 dAsu_newLength_cabcc_3 (k_Mth_max_7cf53 (by omega) (by omega)) rfl rfl (Nat.le_of_ble_eq_true rfl)  (Nat.le_of_ble_eq_true rfl) (Nat.le_of_ble_eq_true rfl) (Nat.le_of_eq (Nat.zero_add _)) (Nat.le_of_eq (Nat.zero_add _)) (fun _ _ q => q.elim) ?_
  rintro _ _ ⟨rfl, rfl⟩
  have hmx : 0 < (if g < p then p else g) ∧ (if g < p then p else g) ≤ 3000 := by split <;> omega
  refine z_iadd dAsu_newLength_cabcc_6 ?_
  refine z_istore_n dAsu_newLength_cabcc_7 (Nat.le_of_ble_eq_true rfl) ?_
  refine z_iconst dAsu_newLength_cabcc_8 ?_
  refine z_iload_n dAsu_newLength_cabcc_9 rfl ?_
  refine z_icmp_ge (tgt := 21) dAsu_newLength_cabcc_10 (by decide) (by omega) (by omega) (fun c10 => ?_) (fun c10 => ?_)
  · exfalso; omega
  · refine z_iload_n dAsu_newLength_cabcc_13 rfl ?_
    refine z_ldc (v := (2147483639 : Int32)) dAsu_newLength_cabcc_14 (2147483639) (by decide) ct_Asu_200 ?_
    refine z_icmp_gt (tgt := 21) dAsu_newLength_cabcc_16 (by decide) (by omega) (by omega) (fun c16 => ?_) (fun c16 => ?_)
    · exfalso; omega
    · refine z_iload_n dAsu_newLength_cabcc_19 rfl ?_
      refine z_iret rfl rfl dAsu_newLength_cabcc_20 ?_
      exact ⟨rfl, rfl⟩
theorem k_Asb_newCapacity_0f7a4 {b a cap k : Nat} {ml x3 : Value} {f : Nat → Int} (e : h b = some (.inr (zkSbd, [.ref a, zi 0, ml, x3]))) (ea : h a = some (zBytes G cap f)) (hm : cap < k ∧ k ≤ 300) (hc : cap ≤ 300) : zM G l hAsb_newCapacity_0f7a4 yAsb_newCapacity_0f7a4 3 [.ref b, zi (k : Int)] h (fun v h' => v = some (zi (zNc cap k : Int)) ∧ h = h') zNo 0 0 := by
  refine zM.of [some (.ref b), some (zi (k : Int)), none, none, none, none] (by decide +kernel) rfl (by decide) rfl (Nat.le_of_ble_eq_true rfl) rfl ?_
  refine z_aload_n dAsb_newCapacity_0f7a4_0 rfl ?_
  refine z_get (k := 0) fd_Sbd (by decide) fl_Asb_15 dAsb_newCapacity_0f7a4_1 (by assumption) (by rfl) ?_
  refine z_alenB dAsb_newCapacity_0f7a4_4 ea ?_
  refine z_istore_n dAsb_newCapacity_0f7a4_5 (Nat.le_of_ble_eq_true rfl) ?_
  refine z_iload_n dAsb_newCapacity_0f7a4_6 rfl ?_
  refine z_aload_n dAsb_newCapacity_0f7a4_7 rfl ?_
  refine z_get (k := 1) fd_Sbd (by decide) fl_Asb_22 dAsb_newCapacity_0f7a4_8 (by assumption) (by rfl) ?_
  refine z_ishl _ (zshl0 _) dAsb_newCapacity_0f7a4_11 ?_
  refine z_istore_n dAsb_newCapacity_0f7a4_12 (Nat.le_of_ble_eq_true rfl) ?_
  refine z_iload_n dAsb_newCapacity_0f7a4_13 rfl ?_
  refine z_iload_n dAsb_newCapacity_0f7a4_14 rfl ?_
  refine z_isub dAsb_newCapacity_0f7a4_15 ?_
  refine z_istore dAsb_newCapacity_0f7a4_16 (Nat.le_of_ble_eq_true rfl) ?_
  refine z_iload_n dAsb_newCapacity_0f7a4_18 rfl ?_
  refine z_iload dAsb_newCapacity_0f7a4_19 rfl ?_
  refine z_iload_n dAsb_newCapacity_0f7a4_21 rfl ?_
  refine z_iconst dAsb_newCapacity_0f7a4_22 ?_
  refine z_aload_n dAsb_newCapacity_0f7a4_23 rfl ?_
  refine z_get (k := 1) fd_Sbd (by decide) fl_Asb_22 dAsb_newCapacity_0f7a4_24 (by assumption) (by rfl) ?_
  refine z_ishl _ (zshl0 _) dAsb_newCapacity_0f7a4_27 ?_
  refine z_iadd dAsb_newCapacity_0f7a4_28 ?_
  refine z_callS MS_Asu_newLength_cabcc lk_Asb_114 dAsb_newCapacity_0f7a4_29 (k_Asu_newLength_cabcc (by omega) (by omega) (by omega)) rfl rfl (Nat.le_of_ble_eq_true rfl)  (Nat.le_of_ble_eq_true rfl) (Nat.le_of_ble_eq_true rfl) (Nat.le_of_eq (Nat.zero_add _)) (Nat.le_of_eq (Nat.zero_add _)) (fun _ _ q => q.elim) ?_
  rintro _ _ ⟨rfl, rfl⟩
  have hnc : (cap : Int) + (if (k : Int) - cap < (cap : Int) + 2 then (cap : Int) + 2 else (k : Int) - cap) = (zNc cap k : Int) := by
    unfold zNc
    split <;> split <;> omega
  rw [hnc]
  have hnb : zNc cap k ≤ 1000 := by unfold zNc; split <;> omega
  refine z_istore dAsb_newCapacity_0f7a4_32 (Nat.le_of_ble_eq_true rfl) ?_
  refine z_iload dAsb_newCapacity_0f7a4_34 rfl ?_
  refine z_ldc (v := (2147483647 : Int32)) dAsb_newCapacity_0f7a4_36 (2147483647) (by decide) ct_Asb_39 ?_
  refine z_icmp_ne (tgt := 51) dAsb_newCapacity_0f7a4_38 (by decide) (by omega) (by omega) (fun c38 => ?_) (fun c38 => ?_)
  · refine z_iload dAsb_newCapacity_0f7a4_51 rfl ?_
    refine z_aload_n dAsb_newCapacity_0f7a4_53 rfl ?_
    refine z_get (k := 1) fd_Sbd (by decide) fl_Asb_22 dAsb_newCapacity_0f7a4_54 (by assumption) (by rfl) ?_
    refine z_ishr _ (zshr0 _) dAsb_newCapacity_0f7a4_57 ?_
    refine z_iret rfl rfl dAsb_newCapacity_0f7a4_58 ?_
    exact ⟨rfl, rfl⟩
  · exfalso; omega
theorem k_Arr_copyOf_9075b {a cap n : Nat} {f : Nat → Int} (ea : h a = some (zBytes G cap f)) (hf : zFit f) (hn : cap < n ∧ n ≤ 1000) : zM G l hArr_copyOf_9075b yArr_copyOf_9075b 2 [.ref a, zi (n : Int)] h (fun v h' => ∃ (q : Nat) (f' : Nat → Int), v = some (.ref q) ∧ zDm h q ∧ G.2.2 ≤ q ∧ h' q = some (zBytes G n f') ∧ zFit f' ∧ ∀ z, z ≠ q → h' z = h z) zNo 1 n := by
  refine zM.of [some (.ref a), some (zi (n : Int)), none] (by decide +kernel) rfl (by decide) rfl (Nat.le_of_ble_eq_true rfl) rfl ?_
  refine z_iload_n dArr_copyOf_9075b_0 rfl ?_
  refine z_aload_n dArr_copyOf_9075b_1 rfl ?_
  refine z_alenB dArr_copyOf_9075b_2 ea ?_
  refine z_icmp_ne (tgt := 14) dArr_copyOf_9075b_3 (by decide) (by omega) (by omega) (fun c3 => ?_) (fun c3 => ?_)
  · refine z_iload_n dArr_copyOf_9075b_14 rfl ?_
    refine z_newB (n := n) (bc' := 0) (bs' := 0) rfl dArr_copyOf_9075b_15 (by omega) (by decide) (by omega) (fun q h1 hq gq p1 F1 => ?_)
    have ea1 := (F1 a (Nat.ne_of_lt (hq a _ ea))).trans ea
    refine z_astore_n dArr_copyOf_9075b_17 (Nat.le_of_ble_eq_true rfl) ?_
    refine z_aload_n dArr_copyOf_9075b_18 rfl ?_
    refine z_iconst dArr_copyOf_9075b_19 ?_
    refine z_aload_n dArr_copyOf_9075b_20 rfl ?_
    refine z_iconst dArr_copyOf_9075b_21 ?_
    refine z_aload_n dArr_copyOf_9075b_22 rfl ?_
    refine z_alenB dArr_copyOf_9075b_23 ea1 ?_
    refine z_iload_n dArr_copyOf_9075b_24 rfl ?_
    refine z_callS MS_Mth_min_7cf53 lk_Arr_304 dArr_copyOf_9075b_25 (k_Mth_min_7cf53 (by omega) (by omega)) rfl rfl (Nat.le_of_ble_eq_true rfl)  (Nat.le_of_ble_eq_true rfl) (Nat.le_of_ble_eq_true rfl) (Nat.le_of_eq (Nat.zero_add _)) (Nat.le_of_eq (Nat.zero_add _)) (fun _ _ q => q.elim) ?_
    rintro _ _ ⟨rfl, rfl⟩
    rw [if_pos (show (cap : Int) ≤ n by omega)]
    refine z_copyb (n0 := cap) (n1 := n) (sp := 0) (dp := 0) (n := cap) lk_Arr_150 dArr_copyOf_9075b_28 ea1 p1 (by omega) (by omega) (by omega) hf (Nat.le_of_ble_eq_true rfl) (show 0 + (nativeFrameWords "java/lang/System" "arraycopy" 5 + 11) ≤ 2 * 64 by decide) ?_
    refine z_hx (fun h2 p2 F2 => ?_)
    refine z_aload_n dArr_copyOf_9075b_31 rfl ?_
    refine z_aret rfl (Or.inr ⟨_, rfl⟩) (Or.inr ⟨_, rfl⟩) dArr_copyOf_9075b_32 ?_
    exact ⟨q, _, rfl, hq, gq, p2, zFit_cpy hf zFit_0, fun z hz => (F2 z hz).trans (F1 z hz)⟩
  · exfalso; omega
theorem k_Asb_ensure {b a cap n k : Nat} (B : zSb G h0 h b a cap n) (hk : k ≤ 120) (hc : cap ≤ 240) : zM G l hAsb_ensureCapacityInternal_d00df yAsb_ensureCapacityInternal_d00df 4 [.ref b, zi (k : Int)] h (fun v h' => v = none ∧ ∃ a', zSb G h0 h' b a' (zCp cap k) n) zNo 1 (zGr cap k) := by
  have B0 := B
  obtain ⟨ml, f, e, ea, hf, hnc, hba, db, da, hx⟩ := B
  refine zM.of [some (.ref b), some (zi (k : Int)), none] (by decide +kernel) rfl (by decide) rfl (Nat.le_of_ble_eq_true rfl) rfl ?_
  refine z_aload_n dAsb_ensureCapacityInternal_d00df_0 rfl ?_
  refine z_get (k := 0) fd_Sbd (by decide) fl_Asb_15 dAsb_ensureCapacityInternal_d00df_1 (by assumption) (by rfl) ?_
  refine z_alenB dAsb_ensureCapacityInternal_d00df_4 ea ?_
  refine z_aload_n dAsb_ensureCapacityInternal_d00df_5 rfl ?_
  refine z_get (k := 1) fd_Sbd (by decide) fl_Asb_22 dAsb_ensureCapacityInternal_d00df_6 (by assumption) (by rfl) ?_
  refine z_ishr _ (zshr0 _) dAsb_ensureCapacityInternal_d00df_9 ?_
  refine z_istore_n dAsb_ensureCapacityInternal_d00df_10 (Nat.le_of_ble_eq_true rfl) ?_
  refine z_iload_n dAsb_ensureCapacityInternal_d00df_11 rfl ?_
  refine z_iload_n dAsb_ensureCapacityInternal_d00df_12 rfl ?_
  refine z_isub dAsb_ensureCapacityInternal_d00df_13 ?_
  refine z_if_le (tgt := 38) dAsb_ensureCapacityInternal_d00df_14 (by decide) (by omega) (fun c14 => ?_) (fun c14 => ?_)
  · refine z_vret rfl dAsb_ensureCapacityInternal_d00df_38 ?_
    exact ⟨rfl, a, by unfold zCp; rw [if_pos (by omega)]; exact B0⟩
  · refine z_aload_n dAsb_ensureCapacityInternal_d00df_17 rfl ?_
    refine z_aload_n dAsb_ensureCapacityInternal_d00df_18 rfl ?_
    refine z_get (k := 0) fd_Sbd (by decide) fl_Asb_15 dAsb_ensureCapacityInternal_d00df_19 (by assumption) (by rfl) ?_
    refine z_aload_n dAsb_ensureCapacityInternal_d00df_22 rfl ?_
    refine z_iload_n dAsb_ensureCapacityInternal_d00df_23 rfl ?_
    refine z_callC ME_Asb_newCapacity_0f7a4 IN_Asb_newCapacity_0f7a4 SE_Asb_newCapacity_0f7a4 lk_Asb_104 dAsb_ensureCapacityInternal_d00df_24 (k_Asb_newCapacity_0f7a4 e ea (by omega) (by omega)) rfl rfl (Nat.le_of_ble_eq_true rfl) (ci := zkSbd) rfl (by assumption) (Nat.le_of_ble_eq_true rfl) (Nat.le_of_ble_eq_true rfl) (Nat.le_of_eq (Nat.zero_add _)) (Nat.le_of_eq (Nat.zero_add _)) (fun _ _ q => q.elim) ?_
    rintro _ _ ⟨rfl, rfl⟩
    have hg : zGr cap k = zNc cap k := if_neg (by omega)
    have hp : zCp cap k = zNc cap k := if_neg (by omega)
    have hb1 : cap < zNc cap k ∧ zNc cap k ≤ 1000 ∧ k ≤ zNc cap k := by unfold zNc; split <;> omega
    refine z_aload_n dAsb_ensureCapacityInternal_d00df_27 rfl ?_
    refine z_get (k := 1) fd_Sbd (by decide) fl_Asb_22 dAsb_ensureCapacityInternal_d00df_28 (by assumption) (by rfl) ?_
    refine z_ishl _ (zshl0 _) dAsb_ensureCapacityInternal_d00df_31 ?_
    refine z_callS (bc' := 0) (bs' := 0) MS_Arr_copyOf_9075b lk_Asb_108 dAsb_ensureCapacityInternal_d00df_32 (k_Arr_copyOf_9075b ea hf (by omega)) rfl rfl (Nat.le_of_ble_eq_true rfl)  (Nat.le_of_ble_eq_true rfl) (Nat.le_of_ble_eq_true rfl) (by omega) (by omega) (fun _ _ q => q.elim) ?_
    rintro _ h2 ⟨q, f', rfl, hq, gq, p2, hf2, F2⟩
    have e2 := (F2 b (Nat.ne_of_lt (hq b _ e))).trans e
    refine z_put (k := 0) fd_Sbd (by decide) fl_Asb_15 rfl dAsb_ensureCapacityInternal_d00df_35 e2 (by simp) rfl rfl ?_
    refine z_hx (fun h3 p3 F3 => ?_)
    refine z_vret rfl dAsb_ensureCapacityInternal_d00df_38 ?_
    refine ⟨rfl, q, ml, f', p3, ?_, hf2, by omega, Nat.ne_of_lt (hq b _ e), db, hq.dn hx, fun z x hz => ?_⟩
    · rw [hp]
      exact (F3 q (Nat.ne_of_lt (hq b _ e)).symm).trans p2
    · have hz1 := hx z x hz
      have z1 : z ≠ b := Nat.ne_of_lt (db z x hz)
      have z2 : z ≠ q := Nat.ne_of_lt (hq z x hz1)
      exact (F3 z z1).trans ((F2 z z2).trans hz1)
end STR4
