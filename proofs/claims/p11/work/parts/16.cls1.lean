/-! ===== the state, and the class's cells ===== -/
/-- the lists; the cursors (there, stale, list, index, last); the keys' order; what was asked; paid, refusals, knocks -/
abbrev zSt : Type := (Nat → List Int) × (Nat → Nat → Int) × List Int × List Int × (Nat → Int)
abbrev zRes : Type := (Int ⊕ String) × zSt
def zsL (S : zSt) (k : Nat) (L : List Int) : zSt := (zup S.1 k L, S.2)
def zsC (S : zSt) (cu : Nat → Nat → Int) : zSt := (S.1, cu, S.2.2)
def zsN (S : zSt) (k : Nat) (x : Int) : zSt := (S.1, S.2.1, S.2.2.1, S.2.2.2.1, zup S.2.2.2.2 k x)
/-- the cursors over list k go stale, but one -/
def zsSt9 (S : zSt) (k but : Int) (m : Nat) : zSt := zsC S (fun c f => if c < m ∧ f = 1 ∧ S.2.1 c 0 = 1 ∧ S.2.1 c 2 = k ∧ (c : Int) ≠ but then 1 else S.2.1 c f)
def zsStale (S : zSt) (k but : Int) : zSt := zsSt9 S k but 3
def zsRef (S : zSt) : zSt := zsN S 1 (S.2.2.2.2 1 + 1)
def zLastOf (A : List Int) : Int := if A.length = 0 then -1 else A.getD (A.length - 1) 0
def zCnt (A : List Int) (k : Int) : Nat := A.countP (fun y => decide (y = k))
abbrev zI32 (x : Int) : Prop := -2147483648 ≤ x ∧ x ≤ 2147483647
/-- a cursor's cell: while it isn't there, what it holds matters to nobody -/
def zCurAt (h : zHp) (a : Nat) (cu : Nat → Int) : Prop := ∃ st li ix la : Int, h a = some (.inr (zkCur, [zi (cu 0), zi st, zi li, zi ix, zi la])) ∧ (cu 0 = 0 ∨ cu 0 = 1) ∧ (st = 0 ∨ st = 1) ∧ zI32 li ∧ zI32 ix ∧ zI32 la ∧ (cu 0 = 1 → st = cu 1 ∧ li = cu 2 ∧ ix = cu 3 ∧ la = cu 4)
def zCls (G : zG) (h : zHp) (ad : Nat → Nat) (S : zSt) : Prop :=
  (∀ i j, i < 20 → j < 20 → ad i = ad j → i = j) ∧
  h (ad 0) = some (.inr (zkCls, [.ref (ad 1), .ref (ad 2), .ref (ad 3), .ref (ad 16), zi (S.2.2.2.2 1), zi (S.2.2.2.2 2)])) ∧
  (∃ g, h (ad 1) = some (zRefs G 5 4 g) ∧ ∀ k, k < 4 → g k = some (ad (8 + 2 * k))) ∧
  (∃ g, h (ad 2) = some (zRefs G 6 3 g) ∧ ∀ c, c < 3 → g c = some (ad (5 + c))) ∧
  h (ad 3) = some (.inr (zkRec, [.ref (ad 18), .ref (ad 4), zi (S.2.2.2.1.length : Int), zi (S.2.2.2.2 0), zi (zLastOf S.2.2.2.1)])) ∧
  (∃ T, h (ad 4) = some (zInts G 8 T) ∧ ∀ k : Nat, k < 8 → T k = (zCnt S.2.2.2.1 k : Int)) ∧
  (∀ c, c < 3 → zCurAt h (ad (5 + c)) (S.2.1 c)) ∧
  (∀ k, k < 4 → zRow G h (ad (8 + 2 * k)) (ad (9 + 2 * k)) (S.1 k)) ∧
  (∃ R, zRow G h (ad 16) (ad 17) R) ∧ zRow G h (ad 18) (ad 19) S.2.2.1
def zFrm (ad : Nat → Nat) (h h' : zHp) : Prop := ∀ q, (∀ i, i < 20 → q ≠ ad i) → h' q = h q
theorem zFrm.rf {ad : Nat → Nat} {h : zHp} : zFrm ad h h := fun _ _ => rfl
theorem zFrm.tr {ad : Nat → Nat} {h h' h'' : zHp} (a : zFrm ad h h') (b : zFrm ad h' h'') : zFrm ad h h'' := fun q hq => (b q hq).trans (a q hq)
theorem zFrm.of2 {ad : Nat → Nat} {h h' : zHp} {i j : Nat} (hi : i < 20) (hj : j < 20) (H : ∀ q, q ≠ ad i → q ≠ ad j → h' q = h q) : zFrm ad h h' := fun q hq => H q (hq i hi) (hq j hj)
theorem zFrm.of1 {ad : Nat → Nat} {h h' : zHp} {i : Nat} (hi : i < 20) (H : ∀ q, q ≠ ad i → h' q = h q) : zFrm ad h h' := fun q hq => H q (hq i hi)
section CLS
variable {G : zG} {l : Launch} {h h' : zHp} {ad : Nat → Nat} {S : zSt}
theorem zCurAt.kept {a : Nat} {cu : Nat → Int} (H : zCurAt h a cu) (e : h' a = h a) : zCurAt h' a cu := by
  obtain ⟨st, li, ix, la, e1, e2⟩ := H
  exact ⟨st, li, ix, la, e.trans e1, e2⟩
theorem zCls.row {k : Nat} {L : List Int} (hC : zCls G h ad S) (hk : k < 4) (hr : zRow G h' (ad (8 + 2 * k)) (ad (9 + 2 * k)) L) (hf : ∀ q, q ≠ ad (8 + 2 * k) → q ≠ ad (9 + 2 * k) → h' q = h q) : zCls G h' ad (zsL S k L) := by
  obtain ⟨c1, c2, ⟨g3, c3, d3⟩, ⟨g4, c4, d4⟩, c5, ⟨T, c6, d6⟩, c7, c8, ⟨R, c9⟩, c10⟩ := hC
  have ne : ∀ i j, i < 20 → j < 20 → i ≠ j → ad i ≠ ad j := fun i j hi hj hne e => hne (c1 i j hi hj e)
  have kp : ∀ i, i < 20 → i ≠ 8 + 2 * k → i ≠ 9 + 2 * k → h' (ad i) = h (ad i) := fun i hi h1 h2 => hf _ (ne _ _ hi (by omega) h1) (ne _ _ hi (by omega) h2)
  refine ⟨c1, (kp 0 (by omega) (by omega) (by omega)).trans c2, ⟨g3, (kp 1 (by omega) (by omega) (by omega)).trans c3, d3⟩, ⟨g4, (kp 2 (by omega) (by omega) (by omega)).trans c4, d4⟩, (kp 3 (by omega) (by omega) (by omega)).trans c5, ⟨T, (kp 4 (by omega) (by omega) (by omega)).trans c6, d6⟩, fun c hc => (c7 c hc).kept (kp _ (by omega) (by omega) (by omega)), fun j hj => ?_, ⟨R, c9.kept (kp 16 (by omega) (by omega) (by omega)) (kp 17 (by omega) (by omega) (by omega))⟩, c10.kept (kp 18 (by omega) (by omega) (by omega)) (kp 19 (by omega) (by omega) (by omega))⟩
  show zRow G h' _ _ (zup S.1 k L j)
  by_cases e : j = k
  · subst e
    rw [zup_same]
    exact hr
  · rw [zup_ne e]
    exact (c8 j hj).kept (kp _ (by omega) (by omega) (by omega)) (kp _ (by omega) (by omega) (by omega))
theorem zCls.res {R' : List Int} (hC : zCls G h ad S) (hr : zRow G h' (ad 16) (ad 17) R') (hf : ∀ q, q ≠ ad 16 → q ≠ ad 17 → h' q = h q) : zCls G h' ad S := by
  obtain ⟨c1, c2, ⟨g3, c3, d3⟩, ⟨g4, c4, d4⟩, c5, ⟨T, c6, d6⟩, c7, c8, ⟨R, c9⟩, c10⟩ := hC
  have ne : ∀ i j, i < 20 → j < 20 → i ≠ j → ad i ≠ ad j := fun i j hi hj hne e => hne (c1 i j hi hj e)
  have kp : ∀ i, i < 20 → i ≠ 16 → i ≠ 17 → h' (ad i) = h (ad i) := fun i hi h1 h2 => hf _ (ne _ _ hi (by omega) h1) (ne _ _ hi (by omega) h2)
  exact ⟨c1, (kp 0 (by omega) (by omega) (by omega)).trans c2, ⟨g3, (kp 1 (by omega) (by omega) (by omega)).trans c3, d3⟩, ⟨g4, (kp 2 (by omega) (by omega) (by omega)).trans c4, d4⟩, (kp 3 (by omega) (by omega) (by omega)).trans c5, ⟨T, (kp 4 (by omega) (by omega) (by omega)).trans c6, d6⟩, fun c hc => (c7 c hc).kept (kp _ (by omega) (by omega) (by omega)), fun j hj => (c8 j hj).kept (kp _ (by omega) (by omega) (by omega)) (kp _ (by omega) (by omega) (by omega)), ⟨R', hr⟩, c10.kept (kp 18 (by omega) (by omega) (by omega)) (kp 19 (by omega) (by omega) (by omega))⟩
theorem zCls.cur {c : Nat} {cu : Nat → Nat → Int} (hC : zCls G h ad S) (hc : c < 3) (hr : zCurAt h' (ad (5 + c)) (cu c)) (ho : ∀ j, j ≠ c → cu j = S.2.1 j) (hf : ∀ q, q ≠ ad (5 + c) → h' q = h q) : zCls G h' ad (zsC S cu) := by
  obtain ⟨c1, c2, ⟨g3, c3, d3⟩, ⟨g4, c4, d4⟩, c5, ⟨T, c6, d6⟩, c7, c8, ⟨R, c9⟩, c10⟩ := hC
  have ne : ∀ i j, i < 20 → j < 20 → i ≠ j → ad i ≠ ad j := fun i j hi hj hne e => hne (c1 i j hi hj e)
  have kp : ∀ i, i < 20 → i ≠ 5 + c → h' (ad i) = h (ad i) := fun i hi h1 => hf _ (ne _ _ hi (by omega) h1)
  refine ⟨c1, (kp 0 (by omega) (by omega)).trans c2, ⟨g3, (kp 1 (by omega) (by omega)).trans c3, d3⟩, ⟨g4, (kp 2 (by omega) (by omega)).trans c4, d4⟩, (kp 3 (by omega) (by omega)).trans c5, ⟨T, (kp 4 (by omega) (by omega)).trans c6, d6⟩, fun j hj => ?_, fun j hj => (c8 j hj).kept (kp _ (by omega) (by omega)) (kp _ (by omega) (by omega)), ⟨R, c9.kept (kp 16 (by omega) (by omega)) (kp 17 (by omega) (by omega))⟩, c10.kept (kp 18 (by omega) (by omega)) (kp 19 (by omega) (by omega))⟩
  show zCurAt h' _ (cu j)
  by_cases e : j = c
  · subst e
    exact hr
  · rw [ho j e]
    exact (c7 j hj).kept (kp _ (by omega) (by omega))
theorem zCls.obj {x y : Int} (hC : zCls G h ad S) (hr : h' (ad 0) = some (.inr (zkCls, [.ref (ad 1), .ref (ad 2), .ref (ad 3), .ref (ad 16), zi x, zi y]))) (hf : ∀ q, q ≠ ad 0 → h' q = h q) : zCls G h' ad (zsN (zsN S 1 x) 2 y) := by
  obtain ⟨c1, c2, ⟨g3, c3, d3⟩, ⟨g4, c4, d4⟩, c5, ⟨T, c6, d6⟩, c7, c8, ⟨R, c9⟩, c10⟩ := hC
  have ne : ∀ i j, i < 20 → j < 20 → i ≠ j → ad i ≠ ad j := fun i j hi hj hne e => hne (c1 i j hi hj e)
  have kp : ∀ i, i < 20 → i ≠ 0 → h' (ad i) = h (ad i) := fun i hi h1 => hf _ (ne _ _ hi (by omega) h1)
  exact ⟨c1, hr, ⟨g3, (kp 1 (by omega) (by omega)).trans c3, d3⟩, ⟨g4, (kp 2 (by omega) (by omega)).trans c4, d4⟩, (kp 3 (by omega) (by omega)).trans c5, ⟨T, (kp 4 (by omega) (by omega)).trans c6, d6⟩, fun c hc => (c7 c hc).kept (kp _ (by omega) (by omega)), fun j hj => (c8 j hj).kept (kp _ (by omega) (by omega)) (kp _ (by omega) (by omega)), ⟨R, c9.kept (kp 16 (by omega) (by omega)) (kp 17 (by omega) (by omega))⟩, c10.kept (kp 18 (by omega) (by omega)) (kp 19 (by omega) (by omega))⟩
theorem zCls.inj (hC : zCls G h ad S) {i j : Nat} (hi : i < 20) (hj : j < 20) (hne : i ≠ j) : ad i ≠ ad j := fun e => hne (hC.1 i j hi hj e)
theorem zCls.ls (hC : zCls G h ad S) {k : Nat} (hk : k < 4) : zRow G h (ad (8 + 2 * k)) (ad (9 + 2 * k)) (S.1 k) := hC.2.2.2.2.2.2.2.1 k hk
theorem zCls.cs (hC : zCls G h ad S) {c : Nat} (hc : c < 3) : zCurAt h (ad (5 + c)) (S.2.1 c) := hC.2.2.2.2.2.2.1 c hc
def zQc (G : zG) (ad : Nat → Nat) (h : zHp) (r : zRes) : Option Value → zHp → Prop := fun v h' => ∃ z S', r = (.inl z, S') ∧ v = some (zi z) ∧ zCls G h' ad S' ∧ zFrm ad h h'
def zXc (G : zG) (ad : Nat → Nat) (h : zHp) (r : zRes) : String → zHp → Prop := fun E h' => ∃ S', r = (.inr E, S') ∧ zCls G h' ad S' ∧ zFrm ad h h'
theorem k_Cls_refuse (hC : zCls G h ad S) : zM G l hCls_refuse yCls_refuse 1 [.ref (ad 0)] h (fun v h' => v = some (zi (-1000009)) ∧ zCls G h' ad (zsRef S) ∧ zFrm ad h h') zNo 0 0 := by
  obtain ⟨c1, c2, ⟨g3, c3, d3⟩, ⟨g4, c4, d4⟩, c5, ⟨T6, c6, d6⟩, c7, c8, ⟨R9, c9⟩, c10⟩ := id hC
  refine zM.of [some (.ref (ad 0))] (by decide +kernel) rfl (by decide) rfl (Nat.le_of_ble_eq_true rfl) rfl ?_
  refine z_aload_n dCls_refuse_0 rfl ?_
  refine z_dup rfl dCls_refuse_1 ?_
  refine z_get (k := 4) fd_Cls (by decide) fl_Cls_259 dCls_refuse_2 (by assumption) (by rfl) ?_
  refine z_iconst dCls_refuse_5 ?_
  refine z_iadd dCls_refuse_6 ?_
  refine z_put (k := 4) fd_Cls (by decide) fl_Cls_259 rfl dCls_refuse_7 (by assumption) (by simp) rfl rfl ?_
  refine z_ldcw (v := (-1000009 : Int32)) dCls_refuse_10 (-1000009) (by decide) ct_Cls_324 ?_
  refine z_iret rfl rfl dCls_refuse_13 ?_
  refine ⟨rfl, ?_, zFrm.of1 (i := 0) (by omega) (fun q hq => zup_ne hq)⟩
  have := hC.obj (h' := zup h (ad 0) (some (.inr (zkCls, [.ref (ad 1), .ref (ad 2), .ref (ad 3), .ref (ad 16), zi (S.2.2.2.2 1 + 1), zi (S.2.2.2.2 2)])))) (x := S.2.2.2.2 1 + 1) (y := S.2.2.2.2 2) (zup_same _ _ _) (fun q hq => zup_ne hq)
  have e : zsN (zsN S 1 (S.2.2.2.2 1 + 1)) 2 (S.2.2.2.2 2) = zsRef S := by
    unfold zsRef zsN
    have e9 : zup (zup S.2.2.2.2 1 (S.2.2.2.2 1 + 1)) 2 (S.2.2.2.2 2) = zup S.2.2.2.2 1 (S.2.2.2.2 1 + 1) := by
      funext j
      by_cases e8 : j = 2
      · subst e8
        rfl
      · exact zup_ne e8
    rw [e9]
  rw [e] at this
  exact this
theorem k_Cls_listAt {p : Int} (hC : zCls G h ad S) (hp : zI32 p) : zM G l hCls_listAt yCls_listAt 7 [.ref (ad 0), zi p] h (fun v h' => v = some (.ref (ad (8 + 2 * p.toNat))) ∧ 0 ≤ p ∧ p < 4 ∧ h = h') (fun E h' => E = zE1 ∧ ¬ (0 ≤ p ∧ p < 4) ∧ h = h') 1 6 := by
  obtain ⟨c1, c2, ⟨g3, c3, d3⟩, ⟨g4, c4, d4⟩, c5, ⟨T6, c6, d6⟩, c7, c8, ⟨R9, c9⟩, c10⟩ := id hC
  refine zM.of [some (.ref (ad 0)), some (zi p)] (by decide +kernel) rfl (by decide) rfl (Nat.le_of_ble_eq_true rfl) rfl ?_
  refine z_iload_n dCls_listAt_0 rfl ?_
  refine z_if_lt (tgt := 9) dCls_listAt_1 (by decide) (by omega) (fun c1 => ?_) (fun c1 => ?_)
  · refine z_throwW (text := "no such list") (names := ["java/lang/RuntimeException", "java/lang/Exception"]) tw_306.2.2.2.1 tw_306.2.2.2.2 cl_Cls_302 in_IndexOutOfBoundsException (by decide +kernel) tw_306.1 tw_306.2.1 tw_306.2.2.1 rfl dCls_listAt_9 dCls_listAt_12 dCls_listAt_13 dCls_listAt_16 dCls_listAt_19 (by decide) (Nat.le_of_ble_eq_true rfl) (by decide) (by decide) ?_
    exact ⟨rfl, by omega, rfl⟩
  · refine z_iload_n dCls_listAt_4 rfl ?_
    refine z_iconst dCls_listAt_5 ?_
    refine z_icmp_lt (tgt := 20) dCls_listAt_6 (by decide) (by omega) (by omega) (fun c6 => ?_) (fun c6 => ?_)
    · refine z_aload_n dCls_listAt_20 rfl ?_
      refine z_get (k := 0) fd_Cls (by decide) fl_Cls_11 dCls_listAt_21 (by assumption) (by rfl) ?_
      refine z_iload_n dCls_listAt_24 rfl ?_
      refine z_aald (t := 5) (ty := .object "Cursorlist$Row") rfl rfl dCls_listAt_25 (by assumption) (by refine ⟨?_, ?_, ?_⟩ <;> omega) ?_
      rw [d3 p.toNat (by omega)]
      refine z_aret (v := .ref (ad (8 + 2 * p.toNat))) rfl (Or.inl ⟨_, rfl⟩) (Or.inr ⟨_, rfl⟩) dCls_listAt_26 ?_
      exact ⟨rfl, by omega, by omega, rfl⟩
    · refine z_throwW (text := "no such list") (names := ["java/lang/RuntimeException", "java/lang/Exception"]) tw_306.2.2.2.1 tw_306.2.2.2.2 cl_Cls_302 in_IndexOutOfBoundsException (by decide +kernel) tw_306.1 tw_306.2.1 tw_306.2.2.1 rfl dCls_listAt_9 dCls_listAt_12 dCls_listAt_13 dCls_listAt_16 dCls_listAt_19 (by decide) (Nat.le_of_ble_eq_true rfl) (by decide) (by decide) ?_
      exact ⟨rfl, by omega, rfl⟩
theorem k_Cls_cursorAt {p : Int} (hC : zCls G h ad S) (hp : zI32 p) : zM G l hCls_cursorAt yCls_cursorAt 7 [.ref (ad 0), zi p] h (fun v h' => v = some (.ref (ad (5 + p.toNat))) ∧ 0 ≤ p ∧ p < 3 ∧ h = h') (fun E h' => E = zE1 ∧ ¬ (0 ≤ p ∧ p < 3) ∧ h = h') 1 6 := by
  obtain ⟨c1, c2, ⟨g3, c3, d3⟩, ⟨g4, c4, d4⟩, c5, ⟨T6, c6, d6⟩, c7, c8, ⟨R9, c9⟩, c10⟩ := id hC
  refine zM.of [some (.ref (ad 0)), some (zi p)] (by decide +kernel) rfl (by decide) rfl (Nat.le_of_ble_eq_true rfl) rfl ?_
  refine z_iload_n dCls_cursorAt_0 rfl ?_
  refine z_if_lt (tgt := 9) dCls_cursorAt_1 (by decide) (by omega) (fun c1 => ?_) (fun c1 => ?_)
  · refine z_throwW (text := "no such cursor") (names := ["java/lang/RuntimeException", "java/lang/Exception"]) tw_306.2.2.2.1 tw_306.2.2.2.2 cl_Cls_302 in_IndexOutOfBoundsException (by decide +kernel) tw_306.1 tw_306.2.1 tw_306.2.2.1 rfl dCls_cursorAt_9 dCls_cursorAt_12 dCls_cursorAt_13 dCls_cursorAt_16 dCls_cursorAt_19 (by decide) (Nat.le_of_ble_eq_true rfl) (by decide) (by decide) ?_
    exact ⟨rfl, by omega, rfl⟩
  · refine z_iload_n dCls_cursorAt_4 rfl ?_
    refine z_iconst dCls_cursorAt_5 ?_
    refine z_icmp_lt (tgt := 20) dCls_cursorAt_6 (by decide) (by omega) (by omega) (fun c6 => ?_) (fun c6 => ?_)
    · refine z_aload_n dCls_cursorAt_20 rfl ?_
      refine z_get (k := 1) fd_Cls (by decide) fl_Cls_17 dCls_cursorAt_21 (by assumption) (by rfl) ?_
      refine z_iload_n dCls_cursorAt_24 rfl ?_
      refine z_aald (t := 6) (ty := .object "Cursorlist$Cursor") rfl rfl dCls_cursorAt_25 (by assumption) (by refine ⟨?_, ?_, ?_⟩ <;> omega) ?_
      rw [d4 p.toNat (by omega)]
      refine z_aret (v := .ref (ad (5 + p.toNat))) rfl (Or.inl ⟨_, rfl⟩) (Or.inr ⟨_, rfl⟩) dCls_cursorAt_26 ?_
      exact ⟨rfl, by omega, by omega, rfl⟩
    · refine z_throwW (text := "no such cursor") (names := ["java/lang/RuntimeException", "java/lang/Exception"]) tw_306.2.2.2.1 tw_306.2.2.2.2 cl_Cls_302 in_IndexOutOfBoundsException (by decide +kernel) tw_306.1 tw_306.2.1 tw_306.2.2.1 rfl dCls_cursorAt_9 dCls_cursorAt_12 dCls_cursorAt_13 dCls_cursorAt_16 dCls_cursorAt_19 (by decide) (Nat.le_of_ble_eq_true rfl) (by decide) (by decide) ?_
      exact ⟨rfl, by omega, rfl⟩
theorem k_Cls_demandWithin {p lo hi : Int} (hp : zI32 p) (h1 : zI32 lo) (h2 : zI32 hi) : zM G l hCls_demandWithin yCls_demandWithin 7 [zi p, zi lo, zi hi] h (fun v h' => v = none ∧ lo ≤ p ∧ p ≤ hi ∧ h = h') (fun E h' => E = zE2 ∧ ¬ (lo ≤ p ∧ p ≤ hi) ∧ h = h') 1 6 := by
  refine zM.of [some (zi p), some (zi lo), some (zi hi)] (by decide +kernel) rfl (by decide) rfl (Nat.le_of_ble_eq_true rfl) rfl ?_
  refine z_iload_n dCls_demandWithin_0 rfl ?_
  refine z_iload_n dCls_demandWithin_1 rfl ?_
  refine z_icmp_lt (tgt := 10) dCls_demandWithin_2 (by decide) (by omega) (by omega) (fun c2 => ?_) (fun c2 => ?_)
  · refine z_throwW (text := "a number out of its range") (names := ["java/lang/RuntimeException", "java/lang/Exception"]) tw_185.2.2.2.1 tw_185.2.2.2.2 cl_Cls_181 in_IllegalArgumentException (by decide +kernel) tw_185.1 tw_185.2.1 tw_185.2.2.1 rfl dCls_demandWithin_10 dCls_demandWithin_13 dCls_demandWithin_14 dCls_demandWithin_17 dCls_demandWithin_20 (by decide) (Nat.le_of_ble_eq_true rfl) (by decide) (by decide) ?_
    exact ⟨rfl, by omega, rfl⟩
  · refine z_iload_n dCls_demandWithin_5 rfl ?_
    refine z_iload_n dCls_demandWithin_6 rfl ?_
    refine z_icmp_le (tgt := 21) dCls_demandWithin_7 (by decide) (by omega) (by omega) (fun c7 => ?_) (fun c7 => ?_)
    · refine z_vret rfl dCls_demandWithin_21 ?_
      exact ⟨rfl, by omega, by omega, rfl⟩
    · refine z_throwW (text := "a number out of its range") (names := ["java/lang/RuntimeException", "java/lang/Exception"]) tw_185.2.2.2.1 tw_185.2.2.2.2 cl_Cls_181 in_IllegalArgumentException (by decide +kernel) tw_185.1 tw_185.2.1 tw_185.2.2.1 rfl dCls_demandWithin_10 dCls_demandWithin_13 dCls_demandWithin_14 dCls_demandWithin_17 dCls_demandWithin_20 (by decide) (Nat.le_of_ble_eq_true rfl) (by decide) (by decide) ?_
      exact ⟨rfl, by omega, rfl⟩
theorem k_Cls_demandItem {p : Int} (hp : zI32 p) : zM G l hCls_demandItem yCls_demandItem 8 [zi p] h (fun v h' => v = none ∧ zIn p ∧ h = h') (fun E h' => E = zE2 ∧ ¬ zIn p ∧ h = h') 1 6 := by
  refine zM.of [some (zi p)] (by decide +kernel) rfl (by decide) rfl (Nat.le_of_ble_eq_true rfl) rfl ?_
  refine z_iload_n dCls_demandItem_0 rfl ?_
  refine z_sipush dCls_demandItem_1 rfl ?_
  refine z_sipush dCls_demandItem_4 rfl ?_
  refine z_callS (bc' := 0) (bs' := 0) MS_Cls_demandWithin lk_Cls_38 dCls_demandItem_7 (k_Cls_demandWithin hp (by omega) (by omega)) rfl rfl (Nat.le_of_ble_eq_true rfl) (Nat.le_of_ble_eq_true rfl) (Nat.le_of_ble_eq_true rfl) (by decide) (by decide) (fun E h9 q9 => z_out rfl (by obtain ⟨rfl, q1, rfl⟩ := q9; exact ⟨rfl, by omega, rfl⟩)) ?_
  rintro _ _ ⟨rfl, k1, k2, rfl⟩
  refine z_vret rfl dCls_demandItem_10 ?_
  exact ⟨rfl, by omega, rfl⟩
theorem k_Cls_demandPlace {r a : Nat} {L : List Int} {p : Int} (hr : zRow G h r a L) (hp : zI32 p) : zM G l hCls_demandPlace yCls_demandPlace 7 [.ref r, zi p] h (fun v h' => v = none ∧ 0 ≤ p ∧ p < (L.length : Int) ∧ h = h') (fun E h' => E = zE1 ∧ ¬ (0 ≤ p ∧ p < (L.length : Int)) ∧ h = h') 1 6 := by
  obtain ⟨f, e1, e2, e3, e4, e5⟩ := id hr
  refine zM.of [some (.ref r), some (zi p)] (by decide +kernel) rfl (by decide) rfl (Nat.le_of_ble_eq_true rfl) rfl ?_
  refine z_aload_n dCls_demandPlace_0 rfl ?_
  refine z_iload_n dCls_demandPlace_1 rfl ?_
  refine z_callVN MV_Row_hasPlace lk_Cls_309 dCls_demandPlace_2 (k_Row_hasPlace hr hp) rfl rfl (Nat.le_of_ble_eq_true rfl) rfl (by assumption) (Nat.le_of_ble_eq_true rfl) (Nat.le_of_ble_eq_true rfl) (Nat.le_of_eq (Nat.zero_add _)) (Nat.le_of_eq (Nat.zero_add _)) (fun _ _ q => q.elim) ?_
  rintro _ _ ⟨b9, rfl, hb9, rfl⟩
  refine z_if_ne (tgt := 19) dCls_demandPlace_5 (by decide) (by omega) (fun c5 => ?_) (fun c5 => ?_)
  · refine z_vret rfl dCls_demandPlace_19 ?_
    exact ⟨rfl, by omega, by omega, rfl⟩
  · refine z_throwW (text := "no such place") (names := ["java/lang/RuntimeException", "java/lang/Exception"]) tw_306.2.2.2.1 tw_306.2.2.2.2 cl_Cls_302 in_IndexOutOfBoundsException (by decide +kernel) tw_306.1 tw_306.2.1 tw_306.2.2.1 rfl dCls_demandPlace_8 dCls_demandPlace_11 dCls_demandPlace_12 dCls_demandPlace_15 dCls_demandPlace_18 (by decide) (Nat.le_of_ble_eq_true rfl) (by decide) (by decide) ?_
    exact ⟨rfl, by omega, rfl⟩
theorem k_Cls_demandGap {r a : Nat} {L : List Int} {p : Int} (hr : zRow G h r a L) (hp : zI32 p) : zM G l hCls_demandGap yCls_demandGap 7 [.ref r, zi p] h (fun v h' => v = none ∧ 0 ≤ p ∧ p ≤ (L.length : Int) ∧ h = h') (fun E h' => E = zE1 ∧ ¬ (0 ≤ p ∧ p ≤ (L.length : Int)) ∧ h = h') 1 6 := by
  obtain ⟨f, e1, e2, e3, e4, e5⟩ := id hr
  refine zM.of [some (.ref r), some (zi p)] (by decide +kernel) rfl (by decide) rfl (Nat.le_of_ble_eq_true rfl) rfl ?_
  refine z_aload_n dCls_demandGap_0 rfl ?_
  refine z_iload_n dCls_demandGap_1 rfl ?_
  refine z_callVN MV_Row_hasGap lk_Cls_315 dCls_demandGap_2 (k_Row_hasGap hr hp) rfl rfl (Nat.le_of_ble_eq_true rfl) rfl (by assumption) (Nat.le_of_ble_eq_true rfl) (Nat.le_of_ble_eq_true rfl) (Nat.le_of_eq (Nat.zero_add _)) (Nat.le_of_eq (Nat.zero_add _)) (fun _ _ q => q.elim) ?_
  rintro _ _ ⟨b9, rfl, hb9, rfl⟩
  refine z_if_ne (tgt := 19) dCls_demandGap_5 (by decide) (by omega) (fun c5 => ?_) (fun c5 => ?_)
  · refine z_vret rfl dCls_demandGap_19 ?_
    exact ⟨rfl, by omega, by omega, rfl⟩
  · refine z_throwW (text := "no such place to stand or to put") (names := ["java/lang/RuntimeException", "java/lang/Exception"]) tw_306.2.2.2.1 tw_306.2.2.2.2 cl_Cls_302 in_IndexOutOfBoundsException (by decide +kernel) tw_306.1 tw_306.2.1 tw_306.2.2.1 rfl dCls_demandGap_8 dCls_demandGap_11 dCls_demandGap_12 dCls_demandGap_15 dCls_demandGap_18 (by decide) (Nat.le_of_ble_eq_true rfl) (by decide) (by decide) ?_
    exact ⟨rfl, by omega, rfl⟩
theorem k_Cls_demandThere {a : Nat} {cu : Nat → Int} (hc : zCurAt h a cu) : zM G l hCls_demandThere yCls_demandThere 7 [.ref a] h (fun v h' => v = none ∧ cu 0 = 1 ∧ h = h') (fun E h' => E = zE3 ∧ ¬ cu 0 = 1 ∧ h = h') 1 6 := by
  obtain ⟨st, li, ix, la, e1, e2, e3, e4, e5, e6, e7⟩ := id hc
  refine zM.of [some (.ref a)] (by decide +kernel) rfl (by decide) rfl (Nat.le_of_ble_eq_true rfl) rfl ?_
  refine z_aload_n dCls_demandThere_0 rfl ?_
  refine z_getN (k := 0) fd_Cur (by decide) fl_Cls_144 dCls_demandThere_1 (by assumption) (by rfl) ?_
  refine z_if_ne (tgt := 18) dCls_demandThere_4 (by decide) (by omega) (fun c4 => ?_) (fun c4 => ?_)
  · refine z_vret rfl dCls_demandThere_18 ?_
    exact ⟨rfl, by omega, rfl⟩
  · refine z_throwW (text := "the cursor is not there") (names := ["java/lang/RuntimeException", "java/lang/Exception"]) tw_222.2.2.2.1 tw_222.2.2.2.2 cl_Cls_218 in_IllegalStateException (by decide +kernel) tw_222.1 tw_222.2.1 tw_222.2.2.1 rfl dCls_demandThere_7 dCls_demandThere_10 dCls_demandThere_11 dCls_demandThere_14 dCls_demandThere_17 (by decide) (Nat.le_of_ble_eq_true rfl) (by decide) (by decide) ?_
    exact ⟨rfl, by omega, rfl⟩
theorem k_Cls_endOf {r a : Nat} {L : List Int} {w : Int} (hr : zRow G h r a L) (hw : zI32 w) : zM G l hCls_endOf yCls_endOf 1 [.ref r, zi w] h (fun v h' => v = some (zi (if w = 1 ∨ w = 3 then (L.length : Int) - 1 else 0)) ∧ h = h') zNo 0 0 := by
  obtain ⟨f, e1, e2, e3, e4, e5⟩ := id hr
  refine zM.of [some (.ref r), some (zi w)] (by decide +kernel) rfl (by decide) rfl (Nat.le_of_ble_eq_true rfl) rfl ?_
  refine z_iload_n dCls_endOf_0 rfl ?_
  refine z_iconst dCls_endOf_1 ?_
  refine z_icmp_eq (tgt := 10) dCls_endOf_2 (by decide) (by omega) (by omega) (fun c2 => ?_) (fun c2 => ?_)
  · refine z_aload_n dCls_endOf_10 rfl ?_
    refine z_getN (k := 1) fd_Row (by decide) fl_Cls_46 dCls_endOf_11 (by assumption) (by rfl) ?_
    refine z_iconst dCls_endOf_14 ?_
    refine z_isub dCls_endOf_15 ?_
    refine z_goto (tgt := 20) dCls_endOf_16 (by decide) ?_
    refine z_iret rfl rfl dCls_endOf_20 ?_
    first
      | (rw [if_pos (by omega)]; exact ⟨rfl, rfl⟩)
      | (rw [if_neg (by omega)]; exact ⟨rfl, rfl⟩)
  · refine z_iload_n dCls_endOf_5 rfl ?_
    refine z_iconst dCls_endOf_6 ?_
    refine z_icmp_ne (tgt := 19) dCls_endOf_7 (by decide) (by omega) (by omega) (fun c7 => ?_) (fun c7 => ?_)
    · refine z_iconst dCls_endOf_19 ?_
      refine z_iret rfl rfl dCls_endOf_20 ?_
      first
        | (rw [if_pos (by omega)]; exact ⟨rfl, rfl⟩)
        | (rw [if_neg (by omega)]; exact ⟨rfl, rfl⟩)
    · refine z_aload_n dCls_endOf_10 rfl ?_
      refine z_getN (k := 1) fd_Row (by decide) fl_Cls_46 dCls_endOf_11 (by assumption) (by rfl) ?_
      refine z_iconst dCls_endOf_14 ?_
      refine z_isub dCls_endOf_15 ?_
      refine z_goto (tgt := 20) dCls_endOf_16 (by decide) ?_
      refine z_iret rfl rfl dCls_endOf_20 ?_
      first
        | (rw [if_pos (by omega)]; exact ⟨rfl, rfl⟩)
        | (rw [if_neg (by omega)]; exact ⟨rfl, rfl⟩)
def zFst (L : List Int) : Int := if L.length = 0 then 10000 else L.getD 0 0
theorem k_Cls_firstOf {r a : Nat} {L : List Int} (hr : zRow G h r a L) : zM G l hCls_firstOf yCls_firstOf 3 [.ref r] h (fun v h' => v = some (zi (zFst L)) ∧ h = h') zNo 0 0 := by
  obtain ⟨f, e1, e2, e3, e4, e5⟩ := id hr
  refine zM.of [some (.ref r)] (by decide +kernel) rfl (by decide) rfl (Nat.le_of_ble_eq_true rfl) rfl ?_
  refine z_aload_n dCls_firstOf_0 rfl ?_
  refine z_getN (k := 1) fd_Row (by decide) fl_Cls_46 dCls_firstOf_1 (by assumption) (by rfl) ?_
  refine z_if_ne (tgt := 13) dCls_firstOf_4 (by decide) (by omega) (fun c4 => ?_) (fun c4 => ?_)
  · refine z_aload_n dCls_firstOf_13 rfl ?_
    refine z_iconst dCls_firstOf_14 ?_
    refine z_callVN MV_Row_itemAt lk_Cls_70 dCls_firstOf_15 (k_Row_itemAt hr (by omega)) rfl rfl (Nat.le_of_ble_eq_true rfl) rfl (by assumption) (Nat.le_of_ble_eq_true rfl) (Nat.le_of_ble_eq_true rfl) (Nat.le_of_eq (Nat.zero_add _)) (Nat.le_of_eq (Nat.zero_add _)) (fun _ _ q => q.elim) ?_
    rintro _ _ ⟨rfl, rfl⟩
    rw [show zAt L 0 = L.getD 0 0 from zAt_nat (i := 0) (by omega)]
    refine z_iret rfl rfl dCls_firstOf_18 ?_
    unfold zFst
    first
      | (rw [if_pos (by omega)]; exact ⟨rfl, rfl⟩)
      | (rw [if_neg (by omega)]; exact ⟨rfl, rfl⟩)
  · refine z_sipush dCls_firstOf_7 rfl ?_
    refine z_goto (tgt := 18) dCls_firstOf_10 (by decide) ?_
    refine z_iret rfl rfl dCls_firstOf_18 ?_
    unfold zFst
    first
      | (rw [if_pos (by omega)]; exact ⟨rfl, rfl⟩)
      | (rw [if_neg (by omega)]; exact ⟨rfl, rfl⟩)
theorem k_Cls_numberOf {b : Int} (hb : b = 0 ∨ b = 1) : zM G l hCls_numberOf yCls_numberOf 1 [zi b] h (fun v h' => v = some (zi b) ∧ h = h') zNo 0 0 := by
  refine zM.of [some (zi b)] (by decide +kernel) rfl (by decide) rfl (Nat.le_of_ble_eq_true rfl) rfl ?_
  refine z_iload_n dCls_numberOf_0 rfl ?_
  refine z_if_eq (tgt := 8) dCls_numberOf_1 (by decide) (by omega) (fun c1 => ?_) (fun c1 => ?_)
  · refine z_iconst dCls_numberOf_8 ?_
    refine z_iret rfl rfl dCls_numberOf_9 ?_
    first
      | exact ⟨by congr 3; omega, rfl⟩
      | exact ⟨by congr 2; congr 1; omega, rfl⟩
  · refine z_iconst dCls_numberOf_4 ?_
    refine z_goto (tgt := 9) dCls_numberOf_5 (by decide) ?_
    refine z_iret rfl rfl dCls_numberOf_9 ?_
    first
      | exact ⟨by congr 3; omega, rfl⟩
      | exact ⟨by congr 2; congr 1; omega, rfl⟩
theorem k_Cls_rowUnder {c : Nat} {cu : Nat → Int} {a : Nat} (hC : zCls G h ad S) (hc : zCurAt h a cu) (ht : cu 0 = 1) (hl : 0 ≤ cu 2 ∧ cu 2 < 4) : zM G l hCls_rowUnder yCls_rowUnder 8 [.ref (ad 0), .ref a] h (fun v h' => v = some (.ref (ad (8 + 2 * (cu 2).toNat))) ∧ h = h') zNo 1 6 := by
  obtain ⟨c1, c2, ⟨g3, c3, d3⟩, ⟨g4, c4, d4⟩, c5, ⟨T6, c6, d6⟩, c7, c8, ⟨R9, c9⟩, c10⟩ := id hC
  obtain ⟨st, li, ix, la, e1, e2, e3, e4, e5, e6, e7⟩ := id hc
  obtain ⟨e71, e72, e73, e74⟩ := e7 ht
  subst e72
  refine zM.of [some (.ref (ad 0)), some (.ref a)] (by decide +kernel) rfl (by decide) rfl (Nat.le_of_ble_eq_true rfl) rfl ?_
  refine z_aload_n dCls_rowUnder_0 rfl ?_
  refine z_aload_n dCls_rowUnder_1 rfl ?_
  refine z_getN (k := 2) fd_Cur (by decide) fl_Cls_169 dCls_rowUnder_2 e1 (by rfl) ?_
  refine z_callV (bc' := 0) (bs' := 0) MV_Cls_listAt lk_Cls_34 dCls_rowUnder_5 (k_Cls_listAt hC (by omega)) rfl rfl (Nat.le_of_ble_eq_true rfl) rfl c2 (Nat.le_of_ble_eq_true rfl) (Nat.le_of_ble_eq_true rfl) (by decide) (by decide) (fun E h9 q9 => absurd (by omega) q9.2.1) ?_
  rintro _ _ ⟨rfl, k1, k2, rfl⟩
  refine z_aret (v := .ref (ad (8 + 2 * (cu 2).toNat))) rfl (Or.inl ⟨_, rfl⟩) (Or.inr ⟨_, rfl⟩) dCls_rowUnder_8 ?_
  exact ⟨rfl, rfl⟩
end CLS
