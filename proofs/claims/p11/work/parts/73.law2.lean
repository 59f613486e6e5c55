/-! ===== the law: its end, its script ===== -/
def R_law : String := "CursorlistLaw"
def lw_P (b : Addr) (xs : List Int32) (args : Array Value) (s : State) : Prop := args = #[.ref b] ∧ s.IntsAt b xs ∧ xs.length ≤ 2048 ∧ (Jvm.Cond.and given_1 narrow_1).before args s = true
def lw_Q (_ : Array Value) (s : State) (o : Outcome) (t : State) : Prop := o = .returned (some (.int 1)) ∧ Framed s o t [] 749397 6847912
def lw_Z (below : List Frame) (a : Array Value) (s : State) : State → Prop := fun t => ∃ o, t.status = .running ∧ Ended t below o ∧ lw_Q a s o t
/-- the law's own end, with 1 on the stack, nothing written that was there before, its room as the claim has it -/
theorem lw_ret {p : Program} {l : Launch} {e : Env} {s : State} {m : MethodId} {below : List Frame} {meth : Method} {c : Code} {b : Nat} (hx : p.tables.exec = Jvm.exec) (hb : c.code = code) (hr : meth.sig.returnType = ret) (hlocks : meth.locks = false) {pc : Nat} {H : Heap} {ls : Array Slot} (hdg : decode code pc = .ok (.ireturn, 1)) : W p l e room_1 s m #[Value.ref b] below meth c H [] 749397 6847912 (lw_Z below #[Value.ref b] s) (F0 m pc ls [.int 1]) := by
  intro T hT X
  obtain ⟨fs, hret, hrun, hended, hW, hframe⟩ := X.leave (v := some (.int 1)) (hlocks := hlocks) (fun h => by rw [hr] at h; cases h)
  have hmeth' : T.vm.method? m = some meth := X.method'
  refine ⟨T.setFrames fs, ?_, .returned (some (.int 1)), hrun, hended, rfl, ⟨_, rfl⟩, hW, hframe⟩
  jvm_step X.here [X.here.top, hx, hb, hdg, hmeth', hr, ret, narrow_b1]
  (try refine ⟨rfl, ?_⟩); (try refine ⟨rfl, ?_⟩)
  first | (intro acts; rw [hret _ acts rfl rfl rfl]) | rw [hret _ _ rfl rfl rfl]
  exact Steps.refl _
/-- what holds at the law's entry: the machine, the code, the tables' words (any of lw_tbl by 'hts w (by decide +kernel)'), the script of L ints xs at the cell b, what the Statement gives of the start (any of its parts by flat_of_before) -/
def lw_At (p : Program) (s : State) (m : MethodId) (meth : Method) (c : Code) (b L : Nat) (xs : Nat → Int32) : Prop :=
  p.tables.exec = Jvm.exec ∧ c.code = code ∧ meth.sig.returnType = ret ∧ c.maxLocals = 7 ∧ s.vm.findClass R_law = some m.cls ∧ (∀ w ∈ lw_tbl, w.before #[Value.ref b] s = true) ∧ va_X b L xs s s.heap ∧ b < s.heap.size ∧ meth.locks = false ∧ (Jvm.Cond.and given_1 narrow_1).before #[Value.ref b] s = true
section LAW2
variable {G : zG} {l : Launch} {h h' h0 h1 h2 : zHp} {ad ma ma2 : Nat → Nat} {S S' : zSt} {th : Int}
abbrev hLaw_law : zHd := (RLaw, cLaw_law, 7, ret, [], false)
abbrev zLJ (G : zG) (b L : Nat) (xs : Nat → Int32) : zJ := (hLaw_law, room_1, fun below args s => lw_Z below args s, fun args s => args = #[Value.ref b] ∧ G.2.2 = s.heap.size ∧ va_X b L xs s s.heap ∧ b < s.heap.size ∧ L ≤ 2048)
variable {b L : Nat} {xs : Nat → Int32} {bc bs pc : Nat} {ls : List (Option Value)} {st : List Value}
/-- the law ends with true -/
theorem z_lawret (hd : decode cLaw_law pc = .ok (.ireturn, 1)) : zR G l (zLJ G b L xs) bc bs h pc ls [zi 1] := by
  intro p e s m args below meth c H locs cells slots ls0 C0 hP hS hL h1 h2
  obtain ⟨rfl, hG, hX, hb, -⟩ := C0.2.2.2.2.2.2.2.2.2.2.2.1
  have e1 : cells ≤ 749397 := by have : cells + bc ≤ 749397 := h1; omega
  have e2 : slots ≤ 6847912 := by have : slots + bs ≤ 6847912 := h2; omega
  refine va_forget (fun q hq => ?_) (W.widen (k := 749397) (n := 6847912) e1 e2 (lw_ret C0.1 C0.2.1 C0.2.2.2.1 C0.2.2.2.2.2.2.2.2.1 hd))
  have : G.2.2 ≤ q.base := hS.2.2 q hq
  rw [hG] at this
  exact this
/-- a number of the script -/
def zX9 (xs : Nat → Int32) (k : Int) : Int := (xs k.toNat).toInt
theorem zX9_r (k : Int) : zI32 (zX9 xs k) := by
  unfold zI32 zX9
  have h1 := Int32.le_toInt (xs k.toNat)
  have h2 := Int32.toInt_lt (xs k.toNat)
  omega
theorem z_sld {k : Int} (hk : 0 ≤ k ∧ k < L) (hd : decode cLaw_law pc = .ok (.iaload, 1)) (kk : zR G l (zLJ G b L xs) bc bs h (pc + 1) ls (zi (zX9 xs k) :: st)) : zR G l (zLJ G b L xs) bc bs h pc ls (zi k :: .ref b :: st) := by
  intro p e9 s m args below meth c H locs cells slots ls0 C0 hP hS hL h1 h2
  obtain ⟨ha, hG, hX, hb, hL2⟩ := C0.2.2.2.2.2.2.2.2.2.2.2.1
  refine va_sld C0.1 C0.2.1 hX hb (fun q : G.2.2 ≤ b => by rw [hG] at q; omega) hS (zI_in hk.1 hk.2 (by omega)) hd ?_
  rw [zI_clamp hk.1 (by omega)]
  have e : zI (zX9 xs k) = xs k.toNat := zI_of _
  rw [← e]
  exact kk p e9 s m args below meth c H locs cells slots ls0 C0 hP hS hL h1 h2
theorem z_slen (hd : decode cLaw_law pc = .ok (.arraylength, 1)) (kk : L ≤ 2048 → zR G l (zLJ G b L xs) bc bs h (pc + 1) ls (zi (L : Int) :: st)) : zR G l (zLJ G b L xs) bc bs h pc ls (.ref b :: st) := by
  intro p e s m args below meth c H locs cells slots ls0 C0 hP hS hL h1 h2
  obtain ⟨ha, hG, hX, hb, hL2⟩ := C0.2.2.2.2.2.2.2.2.2.2.2.1
  refine va_slen C0.1 C0.2.1 hX hb (fun q : G.2.2 ≤ b => by rw [hG] at q; omega) hS hd ?_
  rw [zI_nat]
  exact kk hL2 p e s m args below meth c H locs cells slots ls0 C0 hP hS hL h1 h2
variable {J : zJ}
/-- the low six bits -/
theorem zand63 (y : Int32) : ∃ k : Int, (0 ≤ k ∧ k < 64) ∧ y &&& zI 63 = zI k := by
  refine ⟨((y.toBitVec.toNat % 64 : Nat) : Int), ⟨by omega, by omega⟩, ?_⟩
  apply Int32.toBitVec_inj.mp
  apply BitVec.eq_of_toNat_eq
  have e63 : (zI 63).toBitVec = 63#32 := by decide
  have e1 : (y &&& zI 63).toBitVec = y.toBitVec &&& 63#32 := by rw [Int32.toBitVec_and, e63]
  rw [e1, BitVec.toNat_and]
  have e2 : y.toBitVec.toNat &&& (63#32).toNat = y.toBitVec.toNat % 64 := Nat.and_two_pow_sub_one_eq_mod _ 6
  rw [e2]
  show _ = (Int32.ofInt ((y.toBitVec.toNat % 64 : Nat) : Int)).toBitVec.toNat
  have e3 : (Int32.ofInt ((y.toBitVec.toNat % 64 : Nat) : Int)).toBitVec = BitVec.ofInt 32 ((y.toBitVec.toNat % 64 : Nat) : Int) := rfl
  rw [e3, BitVec.ofInt_natCast, BitVec.toNat_ofNat]
  have := Nat.mod_lt y.toBitVec.toNat (show 64 > 0 by decide)
  omega
/-! the state of both objects and of out -/
def zLi (G : zG) (h : zHp) (ad ma : Nat → Nat) (ou : Nat) (S : zSt) : Prop := ∃ (th n0 : Int) (sv : Value), zCls G h ad S ∧ zMod G h ma S th ∧ zOk S ∧ zOkA S ∧ h ou = some (.inr (zkOut, [zl (zwd n0), sv])) ∧ (∀ i, i < 20 → ou ≠ ad i) ∧ (∀ j, j < 13 → ou ≠ ma j) ∧ (∀ i j, i < 20 → j < 13 → ad i ≠ ma j)
theorem zCls.dom (H : zCls G h ad S) {i : Nat} (hi : i < 20) : ∃ e, h (ad i) = some e := by
  obtain ⟨c1, c2, ⟨g3, c3, d3⟩, ⟨g4, c4, d4⟩, c5, ⟨T6, c6, d6⟩, c7, c8, ⟨R9, ⟨f9, e9, e9a, -⟩⟩, ⟨f10, e10, e10a, -⟩⟩ := H
  have cu : ∀ c, c < 3 → ∃ e, h (ad (5 + c)) = some e := fun c hc => by
    obtain ⟨st, li, ix, la, e, -⟩ := c7 c hc
    exact ⟨_, e⟩
  have ro : ∀ k, k < 4 → (∃ e, h (ad (8 + 2 * k)) = some e) ∧ ∃ e, h (ad (9 + 2 * k)) = some e := fun k hk => by
    obtain ⟨f, e1, e2, -⟩ := c8 k hk
    exact ⟨⟨_, e1⟩, ⟨_, e2⟩⟩
  match i, hi with
  | 0, _ => exact ⟨_, c2⟩
  | 1, _ => exact ⟨_, c3⟩
  | 2, _ => exact ⟨_, c4⟩
  | 3, _ => exact ⟨_, c5⟩
  | 4, _ => exact ⟨_, c6⟩
  | 5, _ => exact cu 0 (by omega)
  | 6, _ => exact cu 1 (by omega)
  | 7, _ => exact cu 2 (by omega)
  | 8, _ => exact (ro 0 (by omega)).1
  | 9, _ => exact (ro 0 (by omega)).2
  | 10, _ => exact (ro 1 (by omega)).1
  | 11, _ => exact (ro 1 (by omega)).2
  | 12, _ => exact (ro 2 (by omega)).1
  | 13, _ => exact (ro 2 (by omega)).2
  | 14, _ => exact (ro 3 (by omega)).1
  | 15, _ => exact (ro 3 (by omega)).2
  | 16, _ => exact ⟨_, e9⟩
  | 17, _ => exact ⟨_, e9a⟩
  | 18, _ => exact ⟨_, e10⟩
  | 19, _ => exact ⟨_, e10a⟩
  | n + 20, h9 => exact absurd h9 (by omega)
theorem zLi.fin {ou : Nat} {th2 n0 : Int} {sv : Value} (C : zCls G h1 ad S') (eo : h1 ou = some (.inr (zkOut, [zl (zwd n0), sv]))) (n1 : ∀ i, i < 20 → ou ≠ ad i) (n2 : ∀ j, j < 13 → ou ≠ ma j) (n3 : ∀ i j, i < 20 → j < 13 → ad i ≠ ma j)
    (M : zMod G h2 ma2 S' th2) (F : zMfr ma h1 h2) (A : ∀ i, i < 13 → ma2 i = ma i ∨ (zDm h1 (ma2 i) ∧ G.2.2 ≤ ma2 i)) (ok : zOk S') (oka : zOkA S') : zLi G h2 ad ma2 ou S' := by
  refine ⟨th2, n0, sv, C.at (fun i hi => ?_), M, ok, oka, F ou _ eo n2, n1, fun j hj => ?_, fun i j hi hj => ?_⟩
  · obtain ⟨e, he⟩ := C.dom hi
    rw [he]
    exact F _ _ he (fun j hj => n3 i j hi hj)
  · rcases A j hj with q | ⟨q, -⟩
    · rw [q]; exact n2 j hj
    · exact Nat.ne_of_lt (q _ _ eo)
  · obtain ⟨e, he⟩ := C.dom hi
    rcases A j hj with q | ⟨q, -⟩
    · rw [q]; exact n3 i j hi hj
    · exact Nat.ne_of_lt (q _ _ he)
theorem zMod.mid {ou : Nat} (M : zMod G h ma S th) (n2 : ∀ j, j < 13 → ou ≠ ma j) (n3 : ∀ i j, i < 20 → j < 13 → ad i ≠ ma j) (f1 : ∀ q, q ≠ ou → (∀ i, i < 20 → q ≠ ad i) → h1 q = h q) : zMod G h1 ma S th := M.at (fun j hj => f1 _ (Ne.symm (n2 j hj)) (fun i hi => Ne.symm (n3 i j hi hj)))
theorem ok_zS0 : zOk zS0 := by
  refine ⟨fun c _ q => absurd (show (0 : Int) = 1 from q) (by decide), fun k k1 k2 => ?_, rfl, Nat.zero_le _, Int.le_refl _, Int.le_refl _⟩
  show 0 ≤ zFind (zPl9 8) k 0
  rcases (show k = 0 ∨ k = 1 ∨ k = 2 ∨ k = 3 ∨ k = 4 ∨ k = 5 ∨ k = 6 ∨ k = 7 by omega) with rfl | rfl | rfl | rfl | rfl | rfl | rfl | rfl <;> decide
theorem oka_zS0 : zOkA zS0 := fun j hj => absurd hj (Nat.not_lt_zero j)
theorem oka_put {p w x : Int} (hA : zOkA S) : zOkA (sp_put S p w x).2 := by
  refine hA.of ?_
  unfold sp_put
  (try simp only [spPut, spTake, spBec, spRef])
  (repeat' split) <;> rfl
theorem oka_take {p w : Int} (hA : zOkA S) : zOkA (sp_take S p w).2 := by
  refine hA.of ?_
  unfold sp_take
  (try simp only [spPut, spTake, spBec, spRef])
  (repeat' split) <;> rfl
theorem oka_look {p w : Int} (hA : zOkA S) : zOkA (sp_look S p w).2 := by
  refine hA.of ?_
  unfold sp_look
  (try simp only [spPut, spTake, spBec, spRef])
  (repeat' split) <;> rfl
theorem oka_get {p q : Int} (hA : zOkA S) : zOkA (sp_get S p q).2 := by
  refine hA.of ?_
  unfold sp_get
  (try simp only [spPut, spTake, spBec, spRef])
  (repeat' split) <;> rfl
theorem oka_set {p q x : Int} (hA : zOkA S) : zOkA (sp_set S p q x).2 := by
  refine hA.of ?_
  unfold sp_set
  (try simp only [spPut, spTake, spBec, spRef])
  (repeat' split) <;> rfl
theorem oka_insert {p q x : Int} (hA : zOkA S) : zOkA (sp_insert S p q x).2 := by
  refine hA.of ?_
  unfold sp_insert
  (try simp only [spPut, spTake, spBec, spRef])
  (repeat' split) <;> rfl
theorem oka_removeAt {p q : Int} (hA : zOkA S) : zOkA (sp_removeAt S p q).2 := by
  refine hA.of ?_
  unfold sp_removeAt
  (try simp only [spPut, spTake, spBec, spRef])
  (repeat' split) <;> rfl
theorem oka_drop {p x b : Int} (hA : zOkA S) : zOkA (sp_drop S p x b).2 := by
  refine hA.of ?_
  unfold sp_drop
  (try simp only [spPut, spTake, spBec, spRef])
  (repeat' split) <;> rfl
theorem oka_thin {p x : Int} (hA : zOkA S) : zOkA (sp_thin S p x).2 := by
  refine hA.of ?_
  unfold sp_thin
  (try simp only [spPut, spTake, spBec, spRef])
  (repeat' split) <;> rfl
theorem oka_indexOf {p x b : Int} (hA : zOkA S) : zOkA (sp_indexOf S p x b).2 := by
  refine hA.of ?_
  unfold sp_indexOf
  (try simp only [spPut, spTake, spBec, spRef])
  (repeat' split) <;> rfl
theorem oka_has {p x : Int} (hA : zOkA S) : zOkA (sp_has S p x).2 := by
  refine hA.of ?_
  unfold sp_has
  (try simp only [spPut, spTake, spBec, spRef])
  (repeat' split) <;> rfl
theorem oka_size {p : Int} (hA : zOkA S) : zOkA (sp_size S p).2 := by
  refine hA.of ?_
  unfold sp_size
  (try simp only [spPut, spTake, spBec, spRef])
  (repeat' split) <;> rfl
theorem oka_clear {p : Int} (hA : zOkA S) : zOkA (sp_clear S p).2 := by
  refine hA.of ?_
  unfold sp_clear
  (try simp only [spPut, spTake, spBec, spRef])
  (repeat' split) <;> rfl
theorem oka_append {p f : Int} (hA : zOkA S) : zOkA (sp_append S p f).2 := by
  refine hA.of ?_
  unfold sp_append
  (try simp only [spPut, spTake, spBec, spRef])
  (repeat' split) <;> rfl
theorem oka_appendAt {p q f : Int} (hA : zOkA S) : zOkA (sp_appendAt S p q f).2 := by
  refine hA.of ?_
  unfold sp_appendAt
  (try simp only [spPut, spTake, spBec, spRef])
  (repeat' split) <;> rfl
theorem oka_copy {p i : Int} (hA : zOkA S) : zOkA (sp_copy S p i).2 := by
  refine hA.of ?_
  unfold sp_copy
  (try simp only [spPut, spTake, spBec, spRef])
  (repeat' split) <;> rfl
theorem oka_places {p m : Int} (hA : zOkA S) : zOkA (sp_places S p m).2 := by
  refine hA.of ?_
  unfold sp_places
  (try simp only [spPut, spTake, spBec, spRef])
  (repeat' split) <;> rfl
theorem oka_rotate {p b : Int} (hA : zOkA S) : zOkA (sp_rotate S p b).2 := by
  refine hA.of ?_
  unfold sp_rotate
  (try simp only [spPut, spTake, spBec, spRef])
  (repeat' split) <;> rfl
theorem oka_move {p f t : Int} (hA : zOkA S) : zOkA (sp_move S p f t).2 := by
  refine hA.of ?_
  unfold sp_move
  (try simp only [spPut, spTake, spBec, spRef])
  (repeat' split) <;> rfl
theorem oka_swap {p i j : Int} (hA : zOkA S) : zOkA (sp_swap S p i j).2 := by
  refine hA.of ?_
  unfold sp_swap
  (try simp only [spPut, spTake, spBec, spRef])
  (repeat' split) <;> rfl
theorem oka_reverse {p : Int} (hA : zOkA S) : zOkA (sp_reverse S p).2 := by
  refine hA.of ?_
  unfold sp_reverse
  (try simp only [spPut, spTake, spBec, spRef])
  (repeat' split) <;> rfl
theorem oka_through {p m i : Int} (hA : zOkA S) : zOkA (sp_through S p m i).2 := by
  refine hA.of ?_
  unfold sp_through
  (try simp only [spPut, spTake, spBec, spRef])
  (repeat' split) <;> rfl
theorem oka_areSame {p o : Int} (hA : zOkA S) : zOkA (sp_areSame S p o).2 := by
  refine hA.of ?_
  unfold sp_areSame
  (try simp only [spPut, spTake, spBec, spRef])
  (repeat' split) <;> rfl
theorem oka_isMirror {p : Int} (hA : zOkA S) : zOkA (sp_isMirror S p).2 := by
  refine hA.of ?_
  unfold sp_isMirror
  (try simp only [spPut, spTake, spBec, spRef])
  (repeat' split) <;> rfl
theorem oka_open {c p q : Int} (hA : zOkA S) : zOkA (sp_open S c p q).2 := by
  refine hA.of ?_
  unfold sp_open
  (try simp only [spPut, spTake, spBec, spRef])
  (repeat' split) <;> rfl
theorem oka_shut {c : Int} (hA : zOkA S) : zOkA (sp_shut S c).2 := by
  refine hA.of ?_
  unfold sp_shut
  (try simp only [spPut, spTake, spBec, spRef])
  (repeat' split) <;> rfl
theorem oka_forth {c : Int} (hA : zOkA S) : zOkA (sp_forth S c).2 := by
  refine hA.of ?_
  unfold sp_forth
  (try simp only [spPut, spTake, spBec, spRef])
  (repeat' split) <;> rfl
theorem oka_back {c : Int} (hA : zOkA S) : zOkA (sp_back S c).2 := by
  refine hA.of ?_
  unfold sp_back
  (try simp only [spPut, spTake, spBec, spRef])
  (repeat' split) <;> rfl
theorem oka_puts {c x : Int} (hA : zOkA S) : zOkA (sp_puts S c x).2 := by
  refine hA.of ?_
  unfold sp_puts
  (try simp only [spPut, spTake, spBec, spRef])
  (repeat' split) <;> rfl
theorem oka_cuts {c : Int} (hA : zOkA S) : zOkA (sp_cuts S c).2 := by
  refine hA.of ?_
  unfold sp_cuts
  (try simp only [spPut, spTake, spBec, spRef])
  (repeat' split) <;> rfl
theorem oka_changes {c x : Int} (hA : zOkA S) : zOkA (sp_changes S c x).2 := by
  refine hA.of ?_
  unfold sp_changes
  (try simp only [spPut, spTake, spBec, spRef])
  (repeat' split) <;> rfl
theorem oka_meet {c o : Int} (hA : zOkA S) : zOkA (sp_meet S c o).2 := by
  refine hA.of ?_
  unfold sp_meet
  (try simp only [spPut, spTake, spBec, spRef])
  (repeat' split) <;> rfl
theorem oka_ofCursor {c w : Int} (hA : zOkA S) : zOkA (sp_ofCursor S c w).2 := by
  refine hA.of ?_
  unfold sp_ofCursor
  (try simp only [spPut, spTake, spBec, spRef])
  (repeat' split) <;> rfl
theorem oka_plus {p o : Int} (hA : zOkA S) : zOkA (sp_plus S p o).2 := by
  refine hA.of ?_
  unfold sp_plus
  (try simp only [spPut, spTake, spBec, spRef])
  (repeat' split) <;> rfl
theorem oka_times {p o : Int} (hA : zOkA S) : zOkA (sp_times S p o).2 := by
  refine hA.of ?_
  unfold sp_times
  (try simp only [spPut, spTake, spBec, spRef])
  (repeat' split) <;> rfl
theorem oka_shift {p : Int} (hA : zOkA S) : zOkA (sp_shift S p).2 := by
  refine hA.of ?_
  unfold sp_shift
  (try simp only [spPut, spTake, spBec, spRef])
  (repeat' split) <;> rfl
theorem oka_trim {p : Int} (hA : zOkA S) : zOkA (sp_trim S p).2 := by
  refine hA.of ?_
  unfold sp_trim
  (try simp only [spPut, spTake, spBec, spRef])
  (repeat' split) <;> rfl
theorem oka_derive {p : Int} (hA : zOkA S) : zOkA (sp_derive S p).2 := by
  refine hA.of ?_
  unfold sp_derive
  (try simp only [spPut, spTake, spBec, spRef])
  (repeat' split) <;> rfl
theorem oka_value {p x : Int} (hA : zOkA S) : zOkA (sp_value S p x).2 := by
  refine hA.of ?_
  unfold sp_value
  (try simp only [spPut, spTake, spBec, spRef])
  (repeat' split) <;> rfl
theorem oka_degree {p : Int} (hA : zOkA S) : zOkA (sp_degree S p).2 := by
  refine hA.of ?_
  unfold sp_degree
  (try simp only [spPut, spTake, spBec, spRef])
  (repeat' split) <;> rfl
theorem oka_ask {key : Int} (hA : zOkA S) : zOkA (sp_ask S key).2 := by
  unfold sp_ask
  (repeat' split)
  · rename_i q1 q2
    intro j hj
    have e : (zsAsk S key).2.2.2.1 = S.2.2.2.1 ++ [key] := rfl
    show 0 ≤ (zsAsk S key).2.2.2.1.getD j 0 ∧ (zsAsk S key).2.2.2.1.getD j 0 ≤ 7
    have hj2 : j < (S.2.2.2.1 ++ [key]).length := hj
    rw [List.length_append, List.length_singleton] at hj2
    rw [e]
    by_cases c : j < S.2.2.2.1.length
    · have := hA j c
      rw [List.getD_eq_getElem?_getD, List.getElem?_append_left c, ← List.getD_eq_getElem?_getD]
      exact this
    · rw [List.getD_eq_getElem?_getD, List.getElem?_append_right (by omega), show j - S.2.2.2.1.length = 0 by omega]
      exact q1
  · exact hA
  · exact hA
theorem oka_asked {w : Int} (hA : zOkA S) : zOkA (sp_asked S w).2 := by
  refine hA.of ?_
  unfold sp_asked
  (try simp only [spPut, spTake, spBec, spRef])
  (repeat' split) <;> rfl
theorem oka_byOrder {p w : Int} (hA : zOkA S) : zOkA (sp_byOrder S p w).2 := by
  refine hA.of ?_
  unfold sp_byOrder
  (try simp only [spPut, spTake, spBec, spRef])
  (repeat' split) <;> rfl
theorem oka_house {w : Int} (hA : zOkA S) : zOkA (sp_house S w).2 := by
  refine hA.of ?_
  unfold sp_house
  (try simp only [spPut, spTake, spBec, spRef])
  (repeat' split) <;> rfl
theorem oka_forget (hA : zOkA S) : zOkA (sp_forget S).2 := fun j hj => absurd hj (Nat.not_lt_zero j)
theorem oka_knock (hA : zOkA S) : zOkA (sp_knock S).2 := by
  refine hA.of ?_
  unfold sp_knock
  (try simp only [spPut, spTake, spBec, spRef])
  (repeat' split) <;> rfl
end LAW2
