section MOD25
variable {G : zG} {l : Launch} {h h' h0 : zHp} {ma : Nat → Nat} {S : zSt} {th : Int}
variable {J : zJ} {bc bs pc : Nat} {ls : List (Option Value)} {st : List Value}
theorem z_outer (c : ClassId) (N h0 : Nat) : ∀ i : Nat, Jvm.Free.Multi.outerC c N h0 i = arrV c N (fun j => va_rf (if j < i then some (h0 + 1 + j) else none))
  | 0 => by
    show ({ cls := c, slots := Array.replicate N .null, vm := .none } : Cell) = _
    rw [arrV_new]
    exact congrArg (arrV c N) (funext fun j => by simp [va_rf])
  | i + 1 => by
    show (Jvm.Free.Multi.outerC c N h0 i).setSlot i (.ref (h0 + 1 + i)) = _
    rw [z_outer c N h0 i, arrV_store]
    refine congrArg (arrV c N) (funext fun j => ?_)
    by_cases e : j = i
    · subst e
      simp [updV, va_rf]
    · by_cases h : j < i
      · simp [updV, e, h, Nat.lt_succ_of_lt h]
      · simp [updV, e, h, show ¬ j < i + 1 by omega]
def zMna (G : zG) (h : zHp) (q : Nat) : zHp := fun a => if a = q then some (zRefs G 4 4 (fun j => if j < 4 then some (q + 1 + j) else none)) else if q < a ∧ a < q + 5 then some (zInts G 0 (fun _ => 0)) else h a
/-- new int[4][0] -/
theorem z_mna {i : Nat} (hw : Cond.classLink J.1.1 i "[[I" ∈ zWS) (hd : decode J.1.2.1 pc = .ok (.multianewarray i 2, 4)) {bc' bs' : Nat} (hb1 : bc' + 5 ≤ bc) (hb2 : bs' + 4 ≤ bs)
    (kk : ∀ q : Nat, zDm h q → G.2.2 ≤ q → zR G l J bc' bs' (zMna G h q) (pc + 4) ls (.ref q :: st)) : zR G l J bc bs h pc ls (zi 0 :: zi 4 :: st) := by
  intro p e s m args below meth c H locs cells slots ls0 C0 hP hS hL h1 h2
  have hZ := C0.2.2.2.2.2.2.2.2.2.1
  have fI : s.vm.findClass (FieldType.array .int).toString = some (G.2.1 0) := va_nm_int (hZ.1.2 0 _ rfl).2
  have fQ : s.vm.findClass ("[" ++ (FieldType.array .int).toString) = some (G.2.1 4) := (hZ.1.2 4 _ rfl).2
  have hAOA : va_AOA .int s := hZ.2.2.2.2.2.2.2.2.2.1
  intro T hT Xs
  obtain ⟨vm₁, cA, comp, -, fA, fC, hO, -, X', step⟩ := Xs.multianewarray2F C0.1 (own := J.1.1) (index := i) (ty := .int) C0.2.2.2.2.2.2.1 (C0.2.2.2.2.2.2.2.1 _ (by exact hw)) (va_AOA.use hAOA) (C0.2.2.2.2.2.2.2.1 _ ac_int) (g := F0 m pc ls0 (zi 0 :: zi 4 :: st)) rfl (by rw [C0.2.1]; exact hd) rfl (by decide) (by decide) (by decide) (by decide) (by decide) rfl rfl (by show cells + (1 + 4) ≤ _; omega) (by show slots + (4 + 4 * 0) ≤ _; omega)
  have ec : G.2.1 0 = comp := Option.some.inj (fI.symm.trans fC)
  have eA : G.2.1 4 = cA := Option.some.inj (fQ.symm.trans fA)
  subst ec
  subst eA
  have hn4 : (zI 4).toNatClampNeg = 4 := by decide
  have hn0 : (zI 0).toNatClampNeg = 0 := by decide
  rw [hn4, hn0] at X' step
  generalize hF : Jvm.Free.Multi.fill (T.setVm vm₁) (G.2.1 4) (G.2.1 0) 4 0 (defaultValue .int) 4 = F at X' step
  have hTh : (T.setVm vm₁).heap = H := hT
  obtain ⟨f1, f2, -, -⟩ := Jvm.Free.Multi.fill_facts (T.setVm vm₁) (G.2.1 4) (G.2.1 0) 4 0 (defaultValue .int) 4
  rw [hF, hTh] at f1 f2
  have hold : ∀ x : Nat, x < H.size → F.heap[x]? = H[x]? := fun x hx => by
    have := Jvm.Free.Multi.fill_old (T.setVm vm₁) (G.2.1 4) (G.2.1 0) 4 0 (defaultValue .int) (a := x) (by rw [hTh]; exact hx) 4
    rw [hF, hTh] at this
    exact this
  have hrow : ∀ j : Nat, j < 4 → F.heap[H.size + 1 + j]? = some (vp_cell (G.2.1 0) (0, .inl (fun _ => zI 0))) := fun j hj => by
    have := Jvm.Free.Multi.fill_inner (T.setVm vm₁) (G.2.1 4) (G.2.1 0) 4 0 (defaultValue .int) 4 j hj
    rw [hF, hTh] at this
    rw [vp_cell_i]
    exact this
  rw [z_outer] at f2
  have hPn : zRel G (zMna G h H.size) F.heap := by
    refine ⟨by rw [f1]; have := hP.1; omega, fun a x hx => ?_⟩
    unfold zMna at hx
    by_cases ha : a = H.size
    · subst ha
      rw [if_pos rfl] at hx
      cases hx
      refine ⟨hP.1, ?_⟩
      show F.heap[H.size]? = some (vp_cell _ _)
      rw [vp_cell_q]
      exact f2
    · rw [if_neg ha] at hx
      by_cases hb : H.size < a ∧ a < H.size + 5
      · rw [if_pos hb] at hx
        cases hx
        refine ⟨by have := hP.1; omega, ?_⟩
        have := hrow (a - H.size - 1) (by omega)
        rw [show H.size + 1 + (a - H.size - 1) = a by omega] at this
        exact this
      · rw [if_neg hb] at hx
        exact ⟨(hP.2 _ _ hx).1, (hP.2 _ _ hx).2.kept (hold a (hP.lt hx))⟩
  obtain ⟨t, a1, b1⟩ := kk H.size (fun a e ha => hP.lt ha) hP.1 p e s m args below meth c F.heap locs (cells + 5) (slots + 4) ls0 C0 hPn ⟨by rw [f1]; have := hS.1; omega, fun x h1 h2 => (hold x (Nat.lt_of_lt_of_le h1 hS.1)).trans (hS.2.1 x h1 h2), hS.2.2⟩ hL (by omega) (by omega) F rfl X'
  refine ⟨t, step t ?_, b1⟩
  have e9 : T.heap.size = H.size := by rw [hT]
  rw [e9]
  exact a1
theorem zMna_q {q : Nat} : zMna G h q q = some (zRefs G 4 4 (fun j => if j < 4 then some (q + 1 + j) else none)) := if_pos rfl
theorem zMna_r {q j : Nat} (hj : j < 4) : zMna G h q (q + 1 + j) = some (zInts G 0 (fun _ => 0)) := by unfold zMna; rw [if_neg (by omega), if_pos (by omega)]
theorem zMna_o {q z : Nat} (hz : z < q) : zMna G h q z = h z := by unfold zMna; rw [if_neg (by omega), if_neg (by omega)]
theorem zMna_f {q z : Nat} (hz : z < q ∨ q + 5 ≤ z) : zMna G h q z = h z := by unfold zMna; rw [if_neg (by omega), if_neg (by omega)]
theorem z_newZ {n : Nat} {bc' bs' : Nat} {m : Int} (hm : m = n) (hd : decode J.1.2.1 pc = .ok (.newarray .boolean, 2)) (hn : n ≤ 1000) (hb1 : bc' + 1 ≤ bc) (hb2 : bs' + n ≤ bs)
    (kk : ∀ (q : Nat) (h1 : zHp), zDm h q → G.2.2 ≤ q → h1 q = some (zBools G n (fun _ => 0)) → (∀ x, x ≠ q → h1 x = h x) → zR G l J bc' bs' h1 (pc + 2) ls (.ref q :: st)) : zR G l J bc bs h pc ls (zi m :: st) := by
  subst hm
  refine z_newa (at9 := .boolean) (ty := .boolean) (t := 1) (x := .inl (fun _ => zI 0)) rfl trivial rfl ac_boolean (fun cA => by rw [vp_cell_i]; rfl) ⟨by omega, by rw [Int.toNat_natCast]; show n * 1 ≤ 536870912; omega, by omega⟩ hd hb1 (by rw [Int.toNat_natCast]; exact hb2) (fun q hq hg => ?_)
  rw [Int.toNat_natCast]
  exact kk q _ hq hg (zup_same _ _ _) (fun x hx => zup_ne hx)
/-- what isn't the object stays -/
def zXb (b : Nat) (h h' : zHp) : Prop := ∀ z e, z ≠ b → h z = some e → h' z = some e
theorem zXb.tr {b : Nat} {h h' h'' : zHp} (x : zXb b h h') (y : zXb b h' h'') : zXb b h h'' := fun z e n q => y z e n (x z e n q)
theorem z_hxn {h1 : zHp} (k : ∀ h2 : zHp, h2 = h1 → zR G l J bc bs h2 pc ls st) : zR G l J bc bs h1 pc ls st := k h1 rfl
def zAm (b q1 q2 q3 q4 q5 q6 q12 q7 : Nat) : Nat → Nat
  | 0 => b
  | 1 => q1
  | 2 => q2
  | 3 => q3
  | 4 => q4
  | 5 => q5
  | 6 => q6
  | 7 => q7
  | 8 => q1 + 1
  | 9 => q1 + 2
  | 10 => q1 + 3
  | 11 => q1 + 4
  | _ => q12
def zQo : Nat → Nat
  | 0 => 0
  | 1 => 1
  | 2 => 8
  | 3 => 9
  | 4 => 10
  | 5 => 11
  | 6 => 2
  | 7 => 3
  | 8 => 4
  | 9 => 5
  | 10 => 6
  | 11 => 12
  | _ => 7
def zQr : Nat → Nat
  | 0 => 0
  | 1 => 1
  | 8 => 2
  | 9 => 3
  | 10 => 4
  | 11 => 5
  | 2 => 6
  | 3 => 7
  | 4 => 8
  | 5 => 9
  | 6 => 10
  | 12 => 11
  | _ => 12
theorem zQr_in : ∀ i, i < 13 → zQr i < 13 := by decide
theorem zQr_inj : ∀ i, i < 13 → ∀ j, j < 13 → zQr i = zQr j → i = j := by decide
theorem zQo_r : ∀ i, i < 13 → zQo (zQr i) = i := by decide
theorem zAm_up {b q1 q2 q3 q4 q5 q6 q12 q7 : Nat} (o1 : b < q1) (o2 : q1 + 4 < q2) (o3 : q2 < q3) (o4 : q3 < q4) (o5 : q4 < q5) (o6 : q5 < q6) (o7 : q6 < q12) (o8 : q12 < q7) : ∀ r, r < 12 → zAm b q1 q2 q3 q4 q5 q6 q12 q7 (zQo r) < zAm b q1 q2 q3 q4 q5 q6 q12 q7 (zQo (r + 1)) := fun r hr => match r, hr with
  | 0, _ => o1
  | 1, _ => show q1 < q1 + 1 by omega
  | 2, _ => show q1 + 1 < q1 + 2 by omega
  | 3, _ => show q1 + 2 < q1 + 3 by omega
  | 4, _ => show q1 + 3 < q1 + 4 by omega
  | 5, _ => o2
  | 6, _ => o3
  | 7, _ => o4
  | 8, _ => o5
  | 9, _ => o6
  | 10, _ => o7
  | 11, _ => o8
  | n + 12, hr => absurd hr (by omega)
theorem zMod_asm {b q1 q2 q3 q4 q5 q6 q12 q7 : Nat} {R9 : Nat → Int} (o1 : b < q1) (o2 : q1 + 4 < q2) (o3 : q2 < q3) (o4 : q3 < q4) (o5 : q4 < q5) (o6 : q5 < q6) (o7 : q6 < q12) (o8 : q12 < q7)
    (e0 : h b = some (.inr (zkMod, [.ref q1, .ref q2, .ref q3, .ref q4, .ref q5, .ref q6, .ref q12, .ref q7, zi 0, zi 0, zi 0, zi 0, zi 0]))) (e1 : h q1 = some (zRefs G 4 4 (fun j => if j < 4 then some (q1 + 1 + j) else none))) (er : ∀ j, j < 4 → h (q1 + 1 + j) = some (zInts G 0 (fun _ => 0)))
    (e2 : h q2 = some (zBools G 3 (fun _ => 0))) (e3 : h q3 = some (zBools G 3 (fun _ => 0))) (e4 : h q4 = some (zInts G 3 (fun _ => 0))) (e5 : h q5 = some (zInts G 3 (fun _ => 0))) (e6 : h q6 = some (zInts G 3 (fun _ => 0))) (e7 : h q7 = some (zInts G 60 (fun _ => 0))) (e12 : h q12 = some (zInts G 8 R9)) (hR : ∀ j : Nat, j < 8 → R9 j = (j : Int)) : zMod G h (zAm b q1 q2 q3 q4 q5 q6 q12 q7) zS0 0 := by
  have hup := zAm_up o1 o2 o3 o4 o5 o6 o7 o8
  have ne1 : ∀ x : Int, ¬ ((zS0.2.1 0 0 : Int) = 1) := fun _ q => absurd (show (0 : Int) = 1 from q) (by decide)
  have hcu : ∀ c, zS0.2.1 c 0 = 0 := fun _ => rfl
  have hab : ∀ {P : Prop} c, zS0.2.1 c 0 = 1 → P := fun c q => absurd ((hcu c).symm.trans q) (by decide)
  refine ⟨fun i j hi hj e => ?_, e0, ⟨_, e1, fun k hk => ?_⟩, ⟨⟨_, e2, fun c hc => ⟨rfl, Or.inl rfl⟩⟩, ⟨_, e3, fun c hc => ⟨Or.inl rfl, fun q => hab c q⟩⟩, ⟨_, e4, fun c hc => ⟨by constructor <;> decide, fun q => hab c q⟩⟩, ⟨_, e5, fun c hc => ⟨by constructor <;> decide, fun q => hab c q⟩⟩, ⟨_, e6, fun c hc => ⟨by constructor <;> decide, fun q => hab c q⟩⟩⟩, ⟨_, e7, fun j hj => absurd hj (Nat.not_lt_zero j)⟩, fun k hk => ?_, ?_⟩
  · have h1 := zQr_in i hi
    have h2 := zQr_in j hj
    have e9 : zAm b q1 q2 q3 q4 q5 q6 q12 q7 (zQo (zQr i)) = zAm b q1 q2 q3 q4 q5 q6 q12 q7 (zQo (zQr j)) := by rw [zQo_r i hi, zQo_r j hj]; exact e
    by_cases c1 : zQr i < zQr j
    · have := zmono (f := fun r => zAm b q1 q2 q3 q4 q5 q6 q12 q7 (zQo r)) hup (zQr j) (zQr i) c1 (by omega)
      omega
    · by_cases c2 : zQr j < zQr i
      · have := zmono (f := fun r => zAm b q1 q2 q3 q4 q5 q6 q12 q7 (zQo r)) hup (zQr i) (zQr j) c2 (by omega)
        omega
      · exact zQr_inj i hi j hj (by omega)
  · match k, hk with
    | 0, _ => rfl
    | 1, _ => rfl
    | 2, _ => rfl
    | 3, _ => rfl
  · have := er k hk
    refine ⟨fun _ => 0, ?_, Nat.zero_le _, fun j hj => absurd hj (Nat.not_lt_zero j), fun j hj => absurd hj (Nat.not_lt_zero j)⟩
    match k, hk with
    | 0, _ => exact this
    | 1, _ => exact this
    | 2, _ => exact this
    | 3, _ => exact this
  · have hl : zS0.2.2.1.length = 8 := zPl9_len 8
    have hg : ∀ j : Nat, j < 8 → zS0.2.2.1.getD j 0 = (j : Int) := fun j hj => match j, hj with
      | 0, _ => rfl
      | 1, _ => rfl
      | 2, _ => rfl
      | 3, _ => rfl
      | 4, _ => rfl
      | 5, _ => rfl
      | 6, _ => rfl
      | 7, _ => rfl
      | n + 8, hr => absurd hr (by omega)
    refine ⟨R9, by rw [hl]; exact e12, by omega, fun j hj => ?_, fun j hj => ?_⟩
    · rw [hR j (by omega), hg j (by omega)]
    · rw [hg j (by omega)]
      unfold zIn
      omega
theorem k_Mod_init {b : Nat} (e : h b = some (.inr (zkMod, [.null, .null, .null, .null, .null, .null, .null, .null, zi 0, zi 0, zi 0, zi 0, zi 0]))) : zM G l hMod_init yMod_init 2 [.ref b] h (fun v h' => v = none ∧ ∃ ma : Nat → Nat, ma 0 = b ∧ zMod G h' ma zS0 0 ∧ (∀ i, 0 < i → i < 13 → zDm h (ma i) ∧ G.2.2 ≤ ma i) ∧ ∀ q, (∀ i, i < 13 → q ≠ ma i) → h' q = h q) zNo 12 87 := by
  refine zM.of [some (.ref b)] (by decide +kernel) rfl (by decide) rfl (Nat.le_of_ble_eq_true rfl) rfl ?_
  refine z_aload_n dMod_init_0 rfl ?_
  refine z_obj lk_Mod_1 ob_i ob_c dMod_init_1 (Nat.le_of_ble_eq_true rfl) (Nat.le_of_ble_eq_true rfl) (Nat.le_of_ble_eq_true rfl) ?_
  refine z_aload_n dMod_init_4 rfl ?_
  refine z_iconst dMod_init_5 ?_
  refine z_iconst dMod_init_6 ?_
  refine z_mna cl_Mod_9 dMod_init_7 (bc' := 7) (bs' := 83) (by decide) (by decide) (fun q1 dq1 gq1 => ?_)
  have n1 : b < q1 := dq1 _ _ e
  refine z_hxn (fun h1 eh1 => ?_)
  have pb1 : h1 b = _ := (congrFun eh1 b).trans ((zMna_o n1).trans e)
  have a1 : h1 q1 = _ := (congrFun eh1 q1).trans zMna_q
  have r1 : ∀ j, j < 4 → h1 (q1 + 1 + j) = some (zInts G 0 (fun _ => 0)) := fun j hj => (congrFun eh1 _).trans (zMna_r hj)
  have X1 : zXb b h h1 := fun z e9 _ q => (congrFun eh1 z).trans ((zMna_o (dq1 _ _ q)).trans q)
  have D1 : ∀ z e9, h z = some e9 → ∃ e8, h1 z = some e8 := fun z e9 q => ⟨_, (congrFun eh1 z).trans ((zMna_o (dq1 _ _ q)).trans q)⟩
  have F1 : ∀ z, (z < q1 ∨ q1 + 5 ≤ z) → h1 z = h z := fun z hz => (congrFun eh1 z).trans (zMna_f hz)
  refine z_putF (k := 0) fd_Mod (by decide) fl_Mod_11 rfl rfl rfl dMod_init_11 (by assumption) (by simp) rfl rfl ?_
  refine z_hx (fun h2 pb2 F2 => ?_)
  have X2 : zXb b h1 h2 := fun z e9 n q => (F2 z n).trans q
  refine z_aload_n dMod_init_14 rfl ?_
  refine z_iconst dMod_init_15 ?_
  refine z_newZ (n := 3) (bc' := 6) (bs' := 80) rfl dMod_init_16 (by decide) (by decide) (by decide) (fun q2 h3 dq2 gq2 a3 F3 => ?_)
  have nq2 : b < q2 := dq2 _ _ pb2
  have pb3 := (F3 b (Nat.ne_of_lt nq2)).trans pb2
  have X3 : zXb b h2 h3 := fun z e9 n q => (F3 z (Nat.ne_of_lt (dq2 _ _ q))).trans q
  refine z_putF (k := 1) fd_Mod (by decide) fl_Mod_14 rfl rfl rfl dMod_init_18 (by assumption) (by simp) rfl rfl ?_
  refine z_hx (fun h4 pb4 F4 => ?_)
  have X4 : zXb b h3 h4 := fun z e9 n q => (F4 z n).trans q
  refine z_aload_n dMod_init_21 rfl ?_
  refine z_iconst dMod_init_22 ?_
  refine z_newZ (n := 3) (bc' := 5) (bs' := 77) rfl dMod_init_23 (by decide) (by decide) (by decide) (fun q3 h5 dq3 gq3 a5 F5 => ?_)
  have nq3 : b < q3 := dq3 _ _ pb4
  have pb5 := (F5 b (Nat.ne_of_lt nq3)).trans pb4
  have X5 : zXb b h4 h5 := fun z e9 n q => (F5 z (Nat.ne_of_lt (dq3 _ _ q))).trans q
  refine z_putF (k := 2) fd_Mod (by decide) fl_Mod_18 rfl rfl rfl dMod_init_25 (by assumption) (by simp) rfl rfl ?_
  refine z_hx (fun h6 pb6 F6 => ?_)
  have X6 : zXb b h5 h6 := fun z e9 n q => (F6 z n).trans q
  refine z_aload_n dMod_init_28 rfl ?_
  refine z_iconst dMod_init_29 ?_
  refine z_newI (n := 3) (bc' := 4) (bs' := 74) rfl dMod_init_30 (by decide) (by decide) (by decide) (fun q4 h7 dq4 gq4 a7 F7 => ?_)
  have nq4 : b < q4 := dq4 _ _ pb6
  have pb7 := (F7 b (Nat.ne_of_lt nq4)).trans pb6
  have X7 : zXb b h6 h7 := fun z e9 n q => (F7 z (Nat.ne_of_lt (dq4 _ _ q))).trans q
  refine z_putF (k := 3) fd_Mod (by decide) fl_Mod_21 rfl rfl rfl dMod_init_32 (by assumption) (by simp) rfl rfl ?_
  refine z_hx (fun h8 pb8 F8 => ?_)
  have X8 : zXb b h7 h8 := fun z e9 n q => (F8 z n).trans q
  refine z_aload_n dMod_init_35 rfl ?_
  refine z_iconst dMod_init_36 ?_
  refine z_newI (n := 3) (bc' := 3) (bs' := 71) rfl dMod_init_37 (by decide) (by decide) (by decide) (fun q5 h9 dq5 gq5 a9 F9 => ?_)
  have nq5 : b < q5 := dq5 _ _ pb8
  have pb9 := (F9 b (Nat.ne_of_lt nq5)).trans pb8
  have X9 : zXb b h8 h9 := fun z e9 n q => (F9 z (Nat.ne_of_lt (dq5 _ _ q))).trans q
  refine z_putF (k := 4) fd_Mod (by decide) fl_Mod_25 rfl rfl rfl dMod_init_39 (by assumption) (by simp) rfl rfl ?_
  refine z_hx (fun h10 pb10 F10 => ?_)
  have X10 : zXb b h9 h10 := fun z e9 n q => (F10 z n).trans q
  refine z_aload_n dMod_init_42 rfl ?_
  refine z_iconst dMod_init_43 ?_
  refine z_newI (n := 3) (bc' := 2) (bs' := 68) rfl dMod_init_44 (by decide) (by decide) (by decide) (fun q6 h11 dq6 gq6 a11 F11 => ?_)
  have nq6 : b < q6 := dq6 _ _ pb10
  have pb11 := (F11 b (Nat.ne_of_lt nq6)).trans pb10
  have X11 : zXb b h10 h11 := fun z e9 n q => (F11 z (Nat.ne_of_lt (dq6 _ _ q))).trans q
  refine z_putF (k := 5) fd_Mod (by decide) fl_Mod_28 rfl rfl rfl dMod_init_46 (by assumption) (by simp) rfl rfl ?_
  refine z_hx (fun h12 pb12 F12 => ?_)
  have X12 : zXb b h11 h12 := fun z e9 n q => (F12 z n).trans q
  refine z_aload_n dMod_init_49 rfl ?_
  refine z_bipush dMod_init_50 rfl ?_
  refine z_newI (n := 8) (bc' := 1) (bs' := 60) rfl dMod_init_52 (by decide) (by decide) (by decide) (fun q12 h13 dq12 gq12 a13 F13 => ?_)
  have nq12 : b < q12 := dq12 _ _ pb12
  have pb13 := (F13 b (Nat.ne_of_lt nq12)).trans pb12
  have X13 : zXb b h12 h13 := fun z e9 n q => (F13 z (Nat.ne_of_lt (dq12 _ _ q))).trans q
  refine z_dup rfl dMod_init_54 ?_
  refine z_iconst dMod_init_55 ?_
  refine z_iconst dMod_init_56 ?_
  refine z_iast dMod_init_57 (by assumption) (by refine ⟨?_, ?_, ?_⟩ <;> omega) ?_
  refine z_hx (fun h14 a14 g14 => ?_)
  have F14 : ∀ z, z ≠ q12 → h14 z = h12 z := fun z hz => (g14 z hz).trans (F13 z hz)
  refine z_dup rfl dMod_init_58 ?_
  refine z_iconst dMod_init_59 ?_
  refine z_iconst dMod_init_60 ?_
  refine z_iast dMod_init_61 (by assumption) (by refine ⟨?_, ?_, ?_⟩ <;> omega) ?_
  refine z_hx (fun h15 a15 g15 => ?_)
  have F15 : ∀ z, z ≠ q12 → h15 z = h12 z := fun z hz => (g15 z hz).trans (F14 z hz)
  refine z_dup rfl dMod_init_62 ?_
  refine z_iconst dMod_init_63 ?_
  refine z_iconst dMod_init_64 ?_
  refine z_iast dMod_init_65 (by assumption) (by refine ⟨?_, ?_, ?_⟩ <;> omega) ?_
  refine z_hx (fun h16 a16 g16 => ?_)
  have F16 : ∀ z, z ≠ q12 → h16 z = h12 z := fun z hz => (g16 z hz).trans (F15 z hz)
  refine z_dup rfl dMod_init_66 ?_
  refine z_iconst dMod_init_67 ?_
  refine z_iconst dMod_init_68 ?_
  refine z_iast dMod_init_69 (by assumption) (by refine ⟨?_, ?_, ?_⟩ <;> omega) ?_
  refine z_hx (fun h17 a17 g17 => ?_)
  have F17 : ∀ z, z ≠ q12 → h17 z = h12 z := fun z hz => (g17 z hz).trans (F16 z hz)
  refine z_dup rfl dMod_init_70 ?_
  refine z_iconst dMod_init_71 ?_
  refine z_iconst dMod_init_72 ?_
  refine z_iast dMod_init_73 (by assumption) (by refine ⟨?_, ?_, ?_⟩ <;> omega) ?_
  refine z_hx (fun h18 a18 g18 => ?_)
  have F18 : ∀ z, z ≠ q12 → h18 z = h12 z := fun z hz => (g18 z hz).trans (F17 z hz)
  refine z_dup rfl dMod_init_74 ?_
  refine z_iconst dMod_init_75 ?_
  refine z_iconst dMod_init_76 ?_
  refine z_iast dMod_init_77 (by assumption) (by refine ⟨?_, ?_, ?_⟩ <;> omega) ?_
  refine z_hx (fun h19 a19 g19 => ?_)
  have F19 : ∀ z, z ≠ q12 → h19 z = h12 z := fun z hz => (g19 z hz).trans (F18 z hz)
  refine z_dup rfl dMod_init_78 ?_
  refine z_bipush dMod_init_79 rfl ?_
  refine z_bipush dMod_init_81 rfl ?_
  refine z_iast dMod_init_83 (by assumption) (by refine ⟨?_, ?_, ?_⟩ <;> omega) ?_
  refine z_hx (fun h20 a20 g20 => ?_)
  have F20 : ∀ z, z ≠ q12 → h20 z = h12 z := fun z hz => (g20 z hz).trans (F19 z hz)
  refine z_dup rfl dMod_init_84 ?_
  refine z_bipush dMod_init_85 rfl ?_
  refine z_bipush dMod_init_87 rfl ?_
  refine z_iast dMod_init_89 (by assumption) (by refine ⟨?_, ?_, ?_⟩ <;> omega) ?_
  refine z_hx (fun h21 a21 g21 => ?_)
  have F21 : ∀ z, z ≠ q12 → h21 z = h12 z := fun z hz => (g21 z hz).trans (F20 z hz)
  have pb21 := (F21 b (Nat.ne_of_lt nq12)).trans pb12
  have X21 : zXb b h12 h21 := fun z e9 n q => (F21 z (Nat.ne_of_lt (dq12 _ _ q))).trans q
  refine z_put (k := 6) fd_Mod (by decide) fl_Mod_31 rfl dMod_init_90 (by assumption) (by simp) rfl rfl ?_
  refine z_hx (fun h22 pb22 F22 => ?_)
  have X22 : zXb b h21 h22 := fun z e9 n q => (F22 z n).trans q
  refine z_aload_n dMod_init_93 rfl ?_
  refine z_bipush dMod_init_94 rfl ?_
  refine z_newI (n := 60) (bc' := 0) (bs' := 0) rfl dMod_init_96 (by decide) (by decide) (by decide) (fun q7 h23 dq7 gq7 a23 F23 => ?_)
  have nq7 : b < q7 := dq7 _ _ pb22
  have pb23 := (F23 b (Nat.ne_of_lt nq7)).trans pb22
  have X23 : zXb b h22 h23 := fun z e9 n q => (F23 z (Nat.ne_of_lt (dq7 _ _ q))).trans q
  refine z_putF (k := 7) fd_Mod (by decide) fl_Mod_34 rfl rfl rfl dMod_init_98 (by assumption) (by simp) rfl rfl ?_
  refine z_hx (fun h24 pb24 F24 => ?_)
  have X24 : zXb b h23 h24 := fun z e9 n q => (F24 z n).trans q
  refine z_vret rfl dMod_init_101 ?_
  have oq2 : q1 + 4 < q2 := dq2 _ _ (X2 _ _ (by omega) (r1 3 (by omega)))
  have oq3 : q2 < q3 := dq3 _ _ (X4 _ _ (Nat.ne_of_gt nq2) a3)
  have oq4 : q3 < q4 := dq4 _ _ (X6 _ _ (Nat.ne_of_gt nq3) a5)
  have oq5 : q4 < q5 := dq5 _ _ (X8 _ _ (Nat.ne_of_gt nq4) a7)
  have oq6 : q5 < q6 := dq6 _ _ (X10 _ _ (Nat.ne_of_gt nq5) a9)
  have oq12 : q6 < q12 := dq12 _ _ (X12 _ _ (Nat.ne_of_gt nq6) a11)
  have oq7 : q12 < q7 := dq7 _ _ (X22 _ _ (Nat.ne_of_gt nq12) a21)
  have zq1 := ((((((((((((((X2.tr X3).tr X4).tr X5).tr X6).tr X7).tr X8).tr X9).tr X10).tr X11).tr X12).tr X21).tr X22).tr X23).tr X24) _ _ (Nat.ne_of_gt n1) a1
  have zq2 := ((((((((((((X4.tr X5).tr X6).tr X7).tr X8).tr X9).tr X10).tr X11).tr X12).tr X21).tr X22).tr X23).tr X24) _ _ (Nat.ne_of_gt nq2) a3
  have zq3 := ((((((((((X6.tr X7).tr X8).tr X9).tr X10).tr X11).tr X12).tr X21).tr X22).tr X23).tr X24) _ _ (Nat.ne_of_gt nq3) a5
  have zq4 := ((((((((X8.tr X9).tr X10).tr X11).tr X12).tr X21).tr X22).tr X23).tr X24) _ _ (Nat.ne_of_gt nq4) a7
  have zq5 := ((((((X10.tr X11).tr X12).tr X21).tr X22).tr X23).tr X24) _ _ (Nat.ne_of_gt nq5) a9
  have zq6 := ((((X12.tr X21).tr X22).tr X23).tr X24) _ _ (Nat.ne_of_gt nq6) a11
  have zq12 := ((X22.tr X23).tr X24) _ _ (Nat.ne_of_gt nq12) a21
  have zq7 := X24 _ _ (Nat.ne_of_gt nq7) a23
  have zr : ∀ j, j < 4 → h24 (q1 + 1 + j) = some (zInts G 0 (fun _ => 0)) := fun j hj => ((((((((((((((X2.tr X3).tr X4).tr X5).tr X6).tr X7).tr X8).tr X9).tr X10).tr X11).tr X12).tr X21).tr X22).tr X23).tr X24) _ _ (by omega) (r1 j hj)
  refine ⟨rfl, zAm b q1 q2 q3 q4 q5 q6 q12 q7, rfl, zMod_asm n1 oq2 oq3 oq4 oq5 oq6 oq12 oq7 pb24 zq1 zr zq2 zq3 zq4 zq5 zq6 zq7 zq12 (by intro j hj; match j, hj with | 0, _ => rfl | 1, _ => rfl | 2, _ => rfl | 3, _ => rfl | 4, _ => rfl | 5, _ => rfl | 6, _ => rfl | 7, _ => rfl), ?_, ?_⟩
  · have D : ∀ z e9, h z = some e9 → z < q1 := dq1
    have gq := gq1
    intro i i1 i2
    have hm : q1 ≤ zAm b q1 q2 q3 q4 q5 q6 q12 q7 i := by
      match i, i1, i2 with
      | 1, _, _ => show q1 ≤ q1; omega
      | 2, _, _ => show q1 ≤ q2; omega
      | 3, _, _ => show q1 ≤ q3; omega
      | 4, _, _ => show q1 ≤ q4; omega
      | 5, _, _ => show q1 ≤ q5; omega
      | 6, _, _ => show q1 ≤ q6; omega
      | 7, _, _ => show q1 ≤ q7; omega
      | 8, _, _ => show q1 ≤ q1 + 1; omega
      | 9, _, _ => show q1 ≤ q1 + 2; omega
      | 10, _, _ => show q1 ≤ q1 + 3; omega
      | 11, _, _ => show q1 ≤ q1 + 4; omega
      | 12, _, _ => show q1 ≤ q12; omega
    exact ⟨fun z e9 hz => Nat.lt_of_lt_of_le (D z e9 hz) hm, Nat.le_trans gq hm⟩
  · intro z hz
    have k0 : z ≠ b := hz 0 (by omega)
    have k1 : z ≠ q1 := hz 1 (by omega)
    have k2 : z ≠ q2 := hz 2 (by omega)
    have k3 : z ≠ q3 := hz 3 (by omega)
    have k4 : z ≠ q4 := hz 4 (by omega)
    have k5 : z ≠ q5 := hz 5 (by omega)
    have k6 : z ≠ q6 := hz 6 (by omega)
    have k7 : z ≠ q7 := hz 7 (by omega)
    have k8 : z ≠ q1 + 1 := hz 8 (by omega)
    have k9 : z ≠ q1 + 2 := hz 9 (by omega)
    have k10 : z ≠ q1 + 3 := hz 10 (by omega)
    have k11 : z ≠ q1 + 4 := hz 11 (by omega)
    have k12 : z ≠ q12 := hz 12 (by omega)
    exact ((F24 z k0).trans ((F23 z k7).trans ((F22 z k0).trans ((F21 z k12).trans ((F12 z k0).trans ((F11 z k6).trans ((F10 z k0).trans ((F9 z k5).trans ((F8 z k0).trans ((F7 z k4).trans ((F6 z k0).trans ((F5 z k3).trans ((F4 z k0).trans ((F3 z k2).trans ((F2 z k0).trans (F1 z (by omega)))))))))))))))))
end MOD25
