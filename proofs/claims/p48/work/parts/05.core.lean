section
/-! ===== statics of the JDK that the walked members read ===== -/
def va_AOA (t : FieldType) (U : State) : Prop := (Cond.arrayOver (.array t)).before #[] U = true
theorem va_AOA.use {t : FieldType} {A : Array Value} {U : State} (h : va_AOA t U) : (Cond.arrayOver (.array t)).before A U = true := h
theorem va_AOA.spec {t : FieldType} {U : State} (h : va_AOA t U) : ∃ comp c k, U.vm.findClass (FieldType.array t).toString = some comp ∧ (U.vm.classes.findIdx? fun (x : Class) => match x.kind with | .array component _ => component == comp | _ => false) = some c ∧ U.vm.classes[c]? = some k ∧ k.kind = .array comp (.array t) ∧ U.vm.findClass ("[" ++ (FieldType.array t).toString) = some c := by
  unfold va_AOA Cond.before at h
  simp only [Cond.holds, Cond.value, beq_iff_eq] at h
  cases hc : U.vm.findClass (FieldType.array t).toString with
  | none => simp [hc] at h
  | some comp =>
    simp only [hc, Option.bind_some, Option.bind_eq_some_iff, Option.map_eq_some_iff] at h
    obtain ⟨c, hi, k, hk, hb⟩ := h
    obtain ⟨hlt, hp, -⟩ := Array.findIdx?_eq_some_iff_getElem.mp hi
    have hkk : U.vm.classes[c] = k := (Array.getElem?_eq_some_iff.mp hk).2
    rw [hkk] at hp
    cases hkind : k.kind with
    | array component ty =>
      rw [hkind] at hb hp
      simp at hb hp
      exact ⟨comp, c, k, rfl, hi, hk, by rw [hkind, hp, hb.1], hb.2⟩
    | _ => rw [hkind] at hb; simp at hb
theorem zAOA_moved {t : FieldType} {u U : State} (hvm : u.vm.Alike U.vm) (h : va_AOA t u) : va_AOA t U := by
  obtain ⟨comp, c, k, h1, h2, h3, h4, h5⟩ := h.spec
  obtain ⟨k', hk', he⟩ := hvm.2.2 _ _ h3
  have hi : (U.vm.classes.findIdx? fun (x : Class) => match x.kind with | .array component _ => component == comp | _ => false) = some c := by
    have e1 := va_idx_bare U.vm comp
    have e2 := va_idx_bare u.vm comp
    have e3 : u.vm.bare = U.vm.bare := by first | exact hvm.bare_eq | exact hvm.bare_eq.symm
    rw [e3] at e2
    exact (e1.symm.trans e2).trans h2
  have hkind : k'.kind = .array comp (.array t) := by rw [he]; exact h4
  have f1 : U.vm.findClass (FieldType.array t).toString = some comp := by rw [hvm.findClass]; exact h1
  have f2 : U.vm.findClass ("[" ++ (FieldType.array t).toString) = some c := by rw [hvm.findClass]; exact h5
  unfold va_AOA Cond.before Cond.holds
  simp only [Cond.value]
  rw [f1, Option.bind_some]
  refine (congrArg (fun o : Option Nat => (o.bind (fun c => (U.vm.classes[c]?).map fun (k : Class) => match k.kind with | .array _ ty => decide (ty = FieldType.array t) && decide (U.vm.findClass ("[" ++ (FieldType.array t).toString) = some c) | _ => false) == some true)) hi).trans ?_
  simp [hk', hkind, f2]
abbrev zStr (G : (va_G × (Nat → ClassId) × Nat)) (k : Nat) (tx : String) (i n : Nat) (U : State) (H : Heap) : Prop := ∃ (f : Nat → Int32), vk_R "CursorlistModel" k tx (G.2.1 i) U ∧ va_O "java/lang/String" (G.2.1 i) (fun q => G.2.2 ≤ q) U H ∧ va_OF "java/lang/String" "coder" "B" (.int 0) (G.2.1 i) (fun q => G.2.2 ≤ q) U H ∧ va_OF "java/lang/String" "value" "[B" (.ref (G.2.1 (i + 1))) (G.2.1 i) (fun q => G.2.2 ≤ q) U H ∧ va_T .byte (G.2.1 (i + 1)) n (fun j => .int (f j)) (fun q => G.2.2 ≤ q) U H ∧ (∀ j : Nat, j < n → f j = 32)
/-- private methods of StringBuilder's superclass -/
abbrev zSbP : List MethodName := [yAsb_ensureCapacityInternal_d00df, yAsb_newCapacity_0f7a4, yAsb_inflate_da8c8, yAsb_appendNull_278bc, yAsb_inflateIfNeededFor_a7421, yAsb_putStringAt_47b60]
def zSJ (G : (va_G × (Nat → ClassId) × Nat)) (U : State) (H : Heap) : Prop :=
  va_Z "java/lang/String" "COMPACT_STRINGS" "Z" (.int 1) (fun q => G.2.2 ≤ q) U H ∧
  va_Zq "jdk/internal/util/Preconditions" "SIOOBE_FORMATTER" "Ljava/util/function/BiFunction;" (fun q => G.2.2 ≤ q) U H ∧
  (∃ (f : Nat → Int32), va_Z "java/lang/Integer" "DigitOnes" "[B" (.ref (G.2.1 11)) (fun q => G.2.2 ≤ q) U H ∧ va_T .byte (G.2.1 11) 100 (fun j => .int (f j)) (fun q => G.2.2 ≤ q) U H) ∧
  (∃ (f : Nat → Int32), va_Z "java/lang/Integer" "DigitTens" "[B" (.ref (G.2.1 12)) (fun q => G.2.2 ≤ q) U H ∧ va_T .byte (G.2.1 12) 100 (fun j => .int (f j)) (fun q => G.2.2 ≤ q) U H) ∧
  zStr G zkE "" 7 0 U H ∧ zStr G zkB " " 9 1 U H ∧ (∀ y ∈ zSbP, (Cond.selects "java/lang/StringBuilder" y y).before #[] U = true)
theorem zStr.go {G : (va_G × (Nat → ClassId) × Nat)} {k i n : Nat} {tx : String} {s U : State} {H H1 : Heap} (hW : s.WarmedH U.vm) (hq : ∀ a : Nat, a < H.size → ¬ G.2.2 ≤ a → H1[a]? = H[a]?) (h : zStr G k tx i n s H) : zStr G k tx i n U H1 := by
  obtain ⟨f, h1, h2, h3, h4, h5, h6⟩ := h
  exact ⟨f, h1.warm hW, (va_O.moved hW.alike h2).kept hq, (va_OF.moved hW.alike h3).kept hq, (va_OF.moved hW.alike h4).kept hq, (va_T.moved hW.alike h5).kept hq, h6⟩
theorem zSJ.go {G : (va_G × (Nat → ClassId) × Nat)} {s U : State} {H H1 : Heap} (hW : s.WarmedH U.vm) (hq : ∀ a : Nat, a < H.size → ¬ G.2.2 ≤ a → H1[a]? = H[a]?) (h : zSJ G s H) : zSJ G U H1 := by
  obtain ⟨h1, h2, ⟨f1, a1, b1⟩, ⟨f2, a2, b2⟩, h5, h6, h7⟩ := h
  exact ⟨(va_Z.moved hW.alike h1).kept hq, (va_Zq.moved hW.alike h2).kept hq, ⟨f1, (va_Z.moved hW.alike a1).kept hq, (va_T.moved hW.alike b1).kept hq⟩, ⟨f2, (va_Z.moved hW.alike a2).kept hq, (va_T.moved hW.alike b2).kept hq⟩, h5.go hW hq, h6.go hW hq, fun y hy => word_at hW (Or.inl (by first | rfl | simp [Cond.onTables, Cond.keeps, Cond.steady])) (h7 y hy)⟩

/-! THE WALK OVER ABSTRACT HEAPS. A heap is a function from addresses to cells (va_E); zR: the machine at pc with these locals and this stack over this heap comes to its end. Each row is a row of the kit. -/
abbrev zG : Type := va_G × (Nat → ClassId) × Nat
abbrev zHp : Type := Nat → Option va_E
/-- the method: its class, its bytes, its locals, what it returns, its table, whether it is a constructor -/
abbrev zHd : Type := String × ByteArray × Nat × Option FieldType × List (Nat × Nat × Nat × Nat) × Bool
abbrev zJ : Type := zHd × Room × (List Frame → Array Value → State → State → Prop) × (Array Value → State → Prop)
def zI (n : Int) : Int32 := Int32.ofInt n
def zL (n : Int) : Int64 := Int64.ofInt n
abbrev zi (n : Int) : Value := .int (zI n)
abbrev zl (n : Int) : Value := .long (zL n)
def zA (G : zG) : Nat → Prop := fun q => G.2.2 ≤ q
def zTys (G : zG) : List (ClassId × FieldType) := [(G.2.1 0, .int), (G.2.1 1, .boolean), (G.2.1 2, .byte), (G.2.1 3, .long), (G.2.1 4, .array .int), (G.2.1 5, .object "Cursorlist$Row"), (G.2.1 6, .object "Cursorlist$Cursor")]
def zInts (G : zG) (n : Nat) (g : Nat → Int) : va_E := .inl (G.2.1 0, n, .inl (fun j => zI (g j)))
def zBools (G : zG) (n : Nat) (g : Nat → Int) : va_E := .inl (G.2.1 1, n, .inl (fun j => zI (g j)))
def zBytes (G : zG) (n : Nat) (g : Nat → Int) : va_E := .inl (G.2.1 2, n, .inl (fun j => zI (g j)))
def zLongs (G : zG) (n : Nat) (g : Nat → Int) : va_E := .inl (G.2.1 3, n, .inr (.inl (fun j => zL (g j))))
def zRefs (G : zG) (t n : Nat) (g : Nat → Option Nat) : va_E := .inl (G.2.1 t, n, .inr (.inr (.inr (.inr g))))
def zup {α : Type} (g : Nat → α) (k : Nat) (x : α) : Nat → α := fun j => if j = k then x else g j
def zRel (G : zG) (h : zHp) (H : Heap) : Prop := G.2.2 ≤ H.size ∧ ∀ (a : Nat) (e : va_E), h a = some e → G.2.2 ≤ a ∧ va_at G.1 vwCl (a, e) H
/-- the good words of the tables -/
def zWS : List Cond := lw_tbl.filter goodWord
/-- words that the tables alone decide, which stay as the machine warms -/
def zIsN : Cond → Bool
  | .fieldLinkNest _ _ _ _ _ _ => true
  | .methodLinkNest _ _ _ _ => true
  | .castable _ _ => true
  | .declares _ => true
  | _ => false
def zNW : List Cond := lw_tbl.filter zIsN
theorem zNw_warm {w : Cond} {s U : State} (hn : zIsN w = true) (hW : s.WarmedH U.vm) (h : va_Nw w s) : va_Nw w U := by
  cases w <;> first | exact va_Nw.warmF hW h | exact va_Nw.warmM hW h | exact va_Nw.warmC hW h | exact va_Nw.warmD hW h | (simp [zIsN] at hn)
/-- what stands below the first free cell, and what the tables say of the arrays' classes -/
def zAA (G : zG) (U : State) : Prop := ∃ (kA kI : Class) (cI : ClassId), U.vm.classes[G.2.1 4]? = some kA ∧ kA.kind = .array (G.2.1 0) (.array .int) ∧ U.vm.classes[G.2.1 0]? = some kI ∧ kI.kind = .array cI .int
theorem zAA.moved {G : zG} {u U : State} (hvm : u.vm.Alike U.vm) (h : zAA G u) : zAA G U := by
  obtain ⟨kA, kI, cI, h1, h2, h3, h4⟩ := h
  obtain ⟨kA', g1, e1⟩ := hvm.2.2 _ _ h1
  obtain ⟨kI', g2, e2⟩ := hvm.2.2 _ _ h3
  exact ⟨kA', kI', cI, g1, by rw [e1]; exact h2, g2, by rw [e2]; exact h4⟩
def zS (G : zG) (U : State) (H : Heap) : Prop :=
  va_K G.1 vwCl (zTys G) U ∧ zAA G U ∧ (∀ w ∈ zNW, va_Nw w U) ∧
  (∀ q ∈ zTexts, ∃ sa, vk_R q.1 q.2.1 q.2.2 sa U) ∧ (∀ q ∈ zNcs, va_Nc q.1 q.2 U) ∧
  vx_Zq Bundle.tN "UNASSIGNED_STACK" Bundle.steD (zA G) U H ∧ vx_Zq Bundle.tN "SUPPRESSED_SENTINEL" Bundle.listD (zA G) U H ∧
  va_AO "Cursorlist$Row" U ∧ va_AO "Cursorlist$Cursor" U ∧ va_AOA .int U ∧ zSJ G U H
theorem zS.go {G : zG} {s U : State} {H H1 : Heap} (hW : s.WarmedH U.vm) (hq : ∀ a : Nat, a < H.size → ¬ zA G a → H1[a]? = H[a]?) (h : zS G s H) : zS G U H1 := by
  obtain ⟨h1, h2, h3, h4, h5, h6, h7, h8, h9, h10, h11⟩ := h
  refine ⟨va_K.moved hW.alike h1, h2.moved hW.alike, fun w hw => zNw_warm (List.mem_filter.mp hw).2 hW (h3 w hw), fun q hq => ?_, fun q hq => va_Nc.moved hW.alike (h5 q hq), (h6.moved hW.alike).kept hq, (h7.moved hW.alike).kept hq, h8.moved hW.alike, h9.moved hW.alike, zAOA_moved hW.alike h10, h11.go hW hq⟩
  obtain ⟨sa, e⟩ := h4 q hq
  exact ⟨sa, e.warm hW⟩
def zPl : Nat → List (Option Value) → List (Nat × Value)
  | _, [] => []
  | k, none :: t => zPl (k + 1) t
  | k, some v :: t => (k, v) :: zPl (k + 1) t
theorem zPl_mem : ∀ (ls : List (Option Value)) (k : Nat) (q : Nat × Value), q ∈ zPl k ls ↔ ∃ j, ls[j]? = some (some q.2) ∧ q.1 = k + j
  | [], k, q => by simp [zPl]
  | none :: t, k, q => by
    rw [zPl, zPl_mem t (k + 1) q]
    constructor
    · rintro ⟨j, h1, h2⟩
      exact ⟨j + 1, by simpa using h1, by omega⟩
    · rintro ⟨j, h1, h2⟩
      cases j with
      | zero => simp at h1
      | succ j => exact ⟨j, by simpa using h1, by omega⟩
  | some v :: t, k, q => by
    rw [zPl, List.mem_cons, zPl_mem t (k + 1) q]
    constructor
    · rintro (rfl | ⟨j, h1, h2⟩)
      · exact ⟨0, by simp, by simp⟩
      · exact ⟨j + 1, by simpa using h1, by omega⟩
    · rintro ⟨j, h1, h2⟩
      cases j with
      | zero =>
        left
        obtain ⟨a, b⟩ := q
        simp at h1 h2
        rw [h1, h2]
      | succ j => exact Or.inr ⟨j, by simpa using h1, by omega⟩
def zLs (ls0 : Array Slot) (nL : Nat) (ls : List (Option Value)) : Prop := lv_has ls0 nL (zPl 0 ls)
theorem zLs.at {ls0 : Array Slot} {nL i : Nat} {ls : List (Option Value)} {v : Value} (h : zLs ls0 nL ls) (hl : ls[i]? = some (some v)) : ls0[i]? = some (.val v) := h.2.2 (i, v) ((zPl_mem ls 0 (i, v)).mpr ⟨i, hl, by simp⟩)
/-- a store: what stood there goes, and a long whose second half it was -/
def zst1 (ls : List (Option Value)) (i : Nat) (v : Value) : List (Option Value) := match i with
  | 0 => ls.set 0 (some v)
  | k + 1 => match ls[k]? with
    | some (some (.long _)) => (ls.set k none).set (k + 1) (some v)
    | some (some (.double _)) => (ls.set k none).set (k + 1) (some v)
    | _ => ls.set (k + 1) (some v)
def zst2 (ls : List (Option Value)) (i : Nat) (v : Value) : List (Option Value) := (zst1 ls i v).set (i + 1) none
theorem zst1_sub {ls : List (Option Value)} {i : Nat} {v : Value} {q : Nat × Value} (h : q ∈ zPl 0 (zst1 ls i v)) : q = (i, v) ∨ (q ∈ zPl 0 ls ∧ q.1 ≠ i ∧ ¬ (q.1 + 1 = i ∧ q.2.category = 2)) := by
  obtain ⟨j, h1, h2⟩ := (zPl_mem _ _ _).mp h
  obtain ⟨a, b⟩ := q
  simp only [Nat.zero_add] at h1 h2
  subst h2
  have key : ∀ (l : List (Option Value)) (w : Option Value) (n : Nat), (l.set n w)[a]? = some (some b) → (a = n ∧ w = some b) ∨ (a ≠ n ∧ l[a]? = some (some b)) := by
    intro l w n hh
    by_cases e : a = n
    · subst e
      rw [List.getElem?_set] at hh
      simp at hh
      exact Or.inl ⟨rfl, hh.2⟩
    · rw [List.getElem?_set_ne (Ne.symm e)] at hh
      exact Or.inr ⟨e, hh⟩
  unfold zst1 at h1
  split at h1
  · rcases key _ _ _ h1 with ⟨e, e2⟩ | ⟨e, e2⟩
    · left; cases e2; rw [e]
    · exact Or.inr ⟨(zPl_mem _ _ _).mpr ⟨a, e2, by simp⟩, e, by omega⟩
  · rename_i k
    have other : ∀ (l : List (Option Value)), (∀ x, l[a]? = some (some x) → a ≠ k + 1 → ls[a]? = some (some x) ∧ ¬ (a = k ∧ x.category = 2)) → (l.set (k + 1) (some v))[a]? = some (some b) → (a, b) = (k + 1, v) ∨ ((a, b) ∈ zPl 0 ls ∧ (a, b).1 ≠ k + 1 ∧ ¬ ((a, b).1 + 1 = k + 1 ∧ (a, b).2.category = 2)) := by
      intro l hl hh
      rcases key _ _ _ hh with ⟨e, e2⟩ | ⟨e, e2⟩
      · left; cases e2; rw [e]
      · obtain ⟨g1, g2⟩ := hl b e2 e
        exact Or.inr ⟨(zPl_mem _ _ _).mpr ⟨a, g1, by simp⟩, e, fun z => g2 ⟨by have := z.1; simp at this; exact this, z.2⟩⟩
    split at h1
    · exact other _ (fun x hx hne => by
        rcases (show a = k ∨ a ≠ k by omega) with e | e
        · subst e
          rw [List.getElem?_set] at hx
          simp at hx
        · rw [List.getElem?_set_ne (Ne.symm e)] at hx
          exact ⟨hx, fun z => e z.1⟩) h1
    · exact other _ (fun x hx hne => by
        rcases (show a = k ∨ a ≠ k by omega) with e | e
        · subst e
          rw [List.getElem?_set] at hx
          simp at hx
        · rw [List.getElem?_set_ne (Ne.symm e)] at hx
          exact ⟨hx, fun z => e z.1⟩) h1
    · rename_i hn1 hn2
      refine other _ (fun x hx hne => ⟨hx, fun z => ?_⟩) h1
      obtain ⟨z1, z2⟩ := z
      subst z1
      cases x with
      | long y => exact hn1 y hx
      | double y => exact hn2 y hx
      | _ => simp [Value.category] at z2
theorem zLs.st1 {ls0 ls' : Array Slot} {nL i : Nat} {ls : List (Option Value)} {v : Value} (h' : lv_has ls' nL ((i, v) :: (zPl 0 ls).filter (fun q => !(q.1 == i) && !(q.1 + 1 == i && q.2.category == 2)))) : zLs ls' nL (zst1 ls i v) := by
  refine ⟨h'.1, h'.2.1, fun q hq => h'.2.2 q ?_⟩
  rcases zst1_sub hq with e | ⟨e1, e2, e3⟩
  · rw [e]; exact List.mem_cons_self
  · refine List.mem_cons_of_mem _ (List.mem_filter.mpr ⟨e1, ?_⟩)
    simp only [Bool.and_eq_true, Bool.not_eq_true', beq_eq_false_iff_ne, ne_eq, Bool.and_eq_false_imp, beq_iff_eq]
    exact ⟨e2, fun z1 z2 => e3 ⟨z1, z2⟩⟩
theorem zLs.st2 {ls0 ls' : Array Slot} {nL i : Nat} {ls : List (Option Value)} {v : Value} (h' : lv_has ls' nL ((i, v) :: (zPl 0 ls).filter (fun q => !(q.1 == i) && (!(q.1 == i + 1) && !(q.1 + 1 == i && q.2.category == 2))))) : zLs ls' nL (zst2 ls i v) := by
  refine ⟨h'.1, h'.2.1, fun q hq => h'.2.2 q ?_⟩
  obtain ⟨j, h1, h2⟩ := (zPl_mem _ _ _).mp hq
  simp only [Nat.zero_add] at h2
  have hne : j ≠ i + 1 := by
    intro e
    subst e
    unfold zst2 at h1
    rw [List.getElem?_set] at h1
    simp at h1
  have h3 : (zst1 ls i v)[j]? = some (some q.2) := by
    unfold zst2 at h1
    rw [List.getElem?_set_ne (Ne.symm hne)] at h1
    exact h1
  rcases zst1_sub ((zPl_mem _ 0 q).mpr ⟨j, h3, by simp [h2]⟩) with e | ⟨e1, e2, e3⟩
  · rw [e]; exact List.mem_cons_self
  · refine List.mem_cons_of_mem _ (List.mem_filter.mpr ⟨e1, ?_⟩)
    simp only [Bool.and_eq_true, Bool.not_eq_true', beq_eq_false_iff_ne, ne_eq, Bool.and_eq_false_imp, beq_iff_eq]
    exact ⟨e2, by omega, fun z1 z2 => e3 ⟨z1, z2⟩⟩
end
section
def zRm (d mc ms : Nat) : Room := { frames := d, cells := mc, slots := ms, locals := d * 64 }
def zCx (G : zG) (l : Launch) (J : zJ) (p : Program) (s : State) (m : MethodId) (args : Array Value) (meth : Method) (c : Code) : Prop :=
  p.tables.exec = Jvm.exec ∧ c.code = J.1.2.1 ∧ c.maxLocals = J.1.2.2.1 ∧ meth.sig.returnType = J.1.2.2.2.1 ∧ c.exceptionTable.toList = tableOf J.1.2.2.2.2.1 ∧ (J.1.2.2.2.2.2 = true → meth.name = "<init>") ∧ s.vm.findClass J.1.1 = some m.cls ∧ (∀ w ∈ zWS, w.before args s = true) ∧ meth.locks = false ∧ zS G s s.heap ∧ l.stackTraces = false ∧ J.2.2.2 args s ∧ G.2.2 ≤ s.heap.size
def zR (G : zG) (l : Launch) (J : zJ) (bc bs : Nat) (h : zHp) (pc : Nat) (ls : List (Option Value)) (st : List Value) : Prop :=
  ∀ (p : Program) (e : Env) (s : State) (m : MethodId) (args : Array Value) (below : List Frame) (meth : Method) (c : Code) (H : Heap) (locs : List Loc) (cells slots : Nat) (ls0 : Array Slot),
    zCx G l J p s m args meth c → zRel G h H → va_S (zA G) s.heap H locs → zLs ls0 J.1.2.2.1 ls → cells + bc ≤ J.2.1.cells → slots + bs ≤ J.2.1.slots →
    W p l e J.2.1 s m args below meth c H locs cells slots (J.2.2.1 below args s) (F0 m pc ls0 st)
/-- an exception of class E, thrown at pc -/
def zT (G : zG) (l : Launch) (J : zJ) (bc bs : Nat) (h : zHp) (E : String) (pc : Nat) (ls : List (Option Value)) : Prop :=
  ∀ (p : Program) (e : Env) (s : State) (m : MethodId) (args : Array Value) (below : List Frame) (meth : Method) (c : Code) (H : Heap) (locs : List Loc) (cells slots : Nat) (ls0 : Array Slot) (q : Addr) (ce : Cell) (rest : List Value),
    zCx G l J p s m args meth c → zRel G h H → va_S (zA G) s.heap H locs → zLs ls0 J.1.2.2.1 ls → cells + bc ≤ J.2.1.cells → slots + bs ≤ J.2.1.slots → H[q]? = some ce → ce.vm = .none → s.vm.findClass E = some ce.cls →
    vx_W p l e J.2.1 s m args below meth c H locs cells slots (J.2.2.1 below args s) (F0 m pc ls0 rest) q
def zQ (G : zG) (Qn : Option Value → zHp → Prop) : Array Value → State → Outcome → State → Prop := fun _ st o t => ∃ (v : Option Value) (h' : zHp), o = .returned v ∧ Qn v h' ∧ zRel G h' t.heap ∧ va_F (zA G) st t
def zX (G : zG) (Qx : String → zHp → Prop) : String → State → State → Prop := fun E st t => ∃ h' : zHp, Qx E h' ∧ zRel G h' t.heap ∧ va_F (zA G) st t
def zE (G : zG) (Qn : Option Value → zHp → Prop) (Qx : String → zHp → Prop) (mc ms : Nat) : List Frame → Array Value → State → State → Prop := fun below args s => vx_MQ below (zQ G Qn) (zX G Qx) args s mc ms (zA G)
abbrev zMJ (G : zG) (hd : zHd) (d : Nat) (Qn : Option Value → zHp → Prop) (Qx : String → zHp → Prop) (mc ms : Nat) : zJ := (hd, zRm d mc ms, zE G Qn Qx mc ms, fun _ _ => True)
def zPc (G : zG) (h : zHp) : State → Prop := fun U => zRel G h U.heap ∧ zS G U U.heap
/-- a method's contract -/
def zM (G : zG) (l : Launch) (hd : zHd) (y : MethodName) (d : Nat) (vs : List Value) (h : zHp) (Qn : Option Value → zHp → Prop) (Qx : String → zHp → Prop) (mc ms : Nat) : Prop :=
  l.stackTraces = false → vx_Met l y (Cond.code y hd.2.1 hd.2.2.1 hd.2.2.2.1 :: zWS) (zRm d mc ms) (va_Pc vs (zPc G h)) (zQ G Qn) (zX G Qx) mc ms (zA G)
/-- of a method with handlers -/
def zMW (G : zG) (l : Launch) (hd : zHd) (y : MethodName) (d : Nat) (vs : List Value) (h : zHp) (Qn : Option Value → zHp → Prop) (Qx : String → zHp → Prop) (mc ms : Nat) : Prop :=
  l.stackTraces = false → vx_Met l y (Cond.codeWith y hd.2.1 hd.2.2.1 hd.2.2.2.1 hd.2.2.2.2.1 :: zWS) (zRm d mc ms) (va_Pc vs (zPc G h)) (zQ G Qn) (zX G Qx) mc ms (zA G)
abbrev zNo : String → zHp → Prop := fun _ _ => False
theorem zin {i : Nat} {w : Cond} (h : lw_tbl[i]? = some w) (hg : goodWord w = true) : w ∈ zWS := List.mem_filter.mpr ⟨List.mem_of_getElem? h, hg⟩
theorem zinN {i : Nat} {w : Cond} (h : lw_tbl[i]? = some w) (hg : zIsN w = true) : w ∈ zNW := List.mem_filter.mpr ⟨List.mem_of_getElem? h, hg⟩
theorem zgood {w : Cond} (h : w ∈ zWS) : goodWord w = true := (List.mem_filter.mp h).2
theorem zgoodIn {Ts : List Cond} {ws : List Cond} (hT : ∀ w ∈ zWS, w ∈ Ts) (h : ∀ w ∈ ws, w ∈ zWS) : GoodIn Ts ws := fun w hw => ⟨hT w (h w hw), good_of_word (zgood (h w hw))⟩
theorem zI_add (a b : Int) : zI (a + b) = zI a + zI b := Int32.ofInt_add ..
theorem zI_sub (a b : Int) : zI (a - b) = zI a - zI b := Int32.ofInt_sub ..
theorem zI_mul (a b : Int) : zI (a * b) = zI a * zI b := Int32.ofInt_mul ..
theorem zI_neg (a : Int) : zI (-a) = -zI a := Int32.ofInt_neg ..
theorem zL_add (a b : Int) : zL (a + b) = zL a + zL b := Int64.ofInt_add ..
theorem zL_mul (a b : Int) : zL (a * b) = zL a * zL b := Int64.ofInt_mul ..
theorem zI_toInt {a : Int} (h : -2147483648 ≤ a ∧ a ≤ 2147483647) : (zI a).toInt = a := Int32.toInt_ofInt_of_le (by omega) (by omega)
theorem zI_of (x : Int32) : zI x.toInt = x := Int32.ofInt_toInt x
theorem zI_lt {a b : Int} (ha : -2147483648 ≤ a ∧ a ≤ 2147483647) (hb : -2147483648 ≤ b ∧ b ≤ 2147483647) : zI a < zI b ↔ a < b := by rw [Int32.lt_iff_toInt_lt, zI_toInt ha, zI_toInt hb]
theorem zI_le {a b : Int} (ha : -2147483648 ≤ a ∧ a ≤ 2147483647) (hb : -2147483648 ≤ b ∧ b ≤ 2147483647) : zI a ≤ zI b ↔ a ≤ b := by rw [Int32.le_iff_toInt_le, zI_toInt ha, zI_toInt hb]
theorem zI_eq {a b : Int} (ha : -2147483648 ≤ a ∧ a ≤ 2147483647) (hb : -2147483648 ≤ b ∧ b ≤ 2147483647) : zI a = zI b ↔ a = b := by
  constructor
  · intro h
    rw [← zI_toInt ha, ← zI_toInt hb, h]
  · intro h
    rw [h]
theorem zI_nat (n : Nat) : Int32.ofNat n = zI (n : Int) := by
  unfold zI
  first | rfl | exact (Int32.ofInt_natCast n).symm | exact (Int32.ofInt_ofNat n).symm | (simp [Int32.ofInt, Int32.ofNat]; done) | (apply Int32.toBitVec_inj.mp; simp; done) | (apply Int32.toInt_inj.mp; rw [Int32.toInt_ofInt, Int32.toInt_ofNat'])
theorem zI_0 : zI 0 = 0 := rfl
theorem zI_clamp {k : Int} (h0 : 0 ≤ k) (h1 : k < 2147483648) : (zI k).toNatClampNeg = k.toNat := by
  show (zI k).toInt.toNat = k.toNat
  rw [zI_toInt (by omega)]
theorem zI_in {k : Int} {n : Nat} (h0 : 0 ≤ k) (h1 : k < n) (h2 : k < 2147483648) : vp_in (zI k) n := by
  rintro (h | h)
  · rw [Int32.lt_iff_toInt_lt, zI_toInt (by omega), Int32.toInt_zero] at h
    omega
  · rw [zI_clamp h0 h2] at h
    omega
theorem zL_toInt {a : Int} (h : -9223372036854775808 ≤ a ∧ a ≤ 9223372036854775807) : (zL a).toInt = a := Int64.toInt_ofInt_of_le (by omega) (by omega)
theorem zL_eq {a b : Int} (ha : -9223372036854775808 ≤ a ∧ a ≤ 9223372036854775807) (hb : -9223372036854775808 ≤ b ∧ b ≤ 9223372036854775807) : zL a = zL b ↔ a = b := by
  constructor
  · intro h
    rw [← zL_toInt ha, ← zL_toInt hb, h]
  · intro h
    rw [h]
theorem zL_lt {a b : Int} (ha : -9223372036854775808 ≤ a ∧ a ≤ 9223372036854775807) (hb : -9223372036854775808 ≤ b ∧ b ≤ 9223372036854775807) : zL a < zL b ↔ a < b := by rw [Int64.lt_iff_toInt_lt, zL_toInt ha, zL_toInt hb]
theorem zI_long {a : Int} (h : -2147483648 ≤ a ∧ a ≤ 2147483647) : (zI a).toInt64 = zL a := by
  have h1 : (zI a).toInt64 = Int64.ofInt (zI a).toInt := by
    apply Int64.toInt_inj.mp
    rw [Int32.toInt_toInt64, Int64.toInt_ofInt_of_le]
    · have := Int32.le_toInt (zI a); omega
    · have := Int32.toInt_lt (zI a); omega
  rw [h1, zI_toInt h]; rfl
theorem zL_int (a : Int) : (zL a).toInt32 = zI a := by
  show (Int64.ofInt a).toInt32 = Int32.ofInt a
  simp
theorem zofWF {l : Launch} {y : MethodName} {ws ws' : List Cond} {rm : Room} {Pc : Array Value → State → Prop} {Qc : Array Value → State → Outcome → State → Prop} {XC : String → State → State → Prop} {mc ms : Nat} {free : Addr → Prop} {cc : ByteArray} {maxL : Nat} {ret : Option FieldType}
    (hy : plainFor y = true) (hw : ws = Cond.code y cc maxL ret :: ws')
    (body : ∀ p e s m args below meth c s₁, BodyLoose p l y (headSpec ws rm) cc maxL ret e s m args below meth c s₁ → c.maxLocals = maxL → (∀ x ∈ c.exceptionTable.toList, False) → Pc args s →
      W p l e (headSpec ws rm).room s m args below meth c s.heap [] 0 0 (vx_MQ below Qc XC args s mc ms free) (entryFrame m args maxL)) : vx_Met l y ws rm Pc Qc XC mc ms free := by
  refine MetFree.of_bodySF (code := cc) (maxLocals := maxL) (ret := ret) hy ?_ ?_
  · intro args s m h hn
    obtain ⟨meth, c, h1, h2, h3, h4, h5, h6, -, -⟩ := Cond.code_spec hn (atoms_spec (ws := ws) h _ (by rw [hw]; exact List.mem_cons_self))
    exact ⟨meth, c, h1, h2, h3, h4, h5, h6⟩
  · intro p e s m args below meth c s₁ B hml hP _
    have hh0 : s₁.heap = s.heap := by rw [B.state]; rfl
    have ht : ∀ x ∈ c.exceptionTable.toList, False := by
      obtain ⟨meth9, c9, h1, h2, -, -, -, -, h7, -⟩ := Cond.code_spec B.named (atoms_spec (ws := ws) B.pre _ (by rw [hw]; exact List.mem_cons_self))
      cases Option.some.inj (h1.symm.trans B.method)
      cases Option.some.inj (h2.symm.trans (Stand.of_body B).code)
      intro x hx
      rw [Array.isEmpty_iff.mp h7] at hx
      cases hx
    obtain ⟨t, a1, o, b1, b2, b3⟩ := body p e s m args below meth c s₁ B hml ht hP s₁ hh0 (Stand.of_body B)
    exact ⟨t, o, a1, b1, b2, b3⟩
/-- the contract of a method out of its walk -/
theorem zM.of {G : zG} {l : Launch} {hd : zHd} {y : MethodName} {d : Nat} {vs : List Value} {h : zHp} {Qn : Option Value → zHp → Prop} {Qx : String → zHp → Prop} {mc ms : Nat} (ls : List (Option Value)) (hy : plainFor y = true) (hown : y.cls = hd.1) (hini : hd.2.2.2.2.2 = true → y.name = "<init>") (ht : hd.2.2.2.2.1 = []) (hln : (lg_sl vs).length ≤ hd.2.2.1) (hls : zPl 0 ls = lv_args 0 vs)
    (k : zR G l (zMJ G hd d Qn Qx mc ms) mc ms h 0 ls []) : zM G l hd y d vs h Qn Qx mc ms := by
  intro hl
  refine zofWF (cc := hd.2.1) (maxL := hd.2.2.1) (ret := hd.2.2.2.1) hy rfl ?_
  intro p e s m args below meth c s₁ B hml htb hv
  obtain ⟨rfl, hR, hS9⟩ := hv
  have hts := atoms_spec (ws := Cond.code y hd.2.1 hd.2.2.1 hd.2.2.2.1 :: zWS) B.pre
  have hw : s.vm.findClass y.cls = some m.cls := findClass_of_methodNamed B.named
  have htab : c.exceptionTable.toList = tableOf hd.2.2.2.2.1 := by
    rw [ht]
    cases hc : c.exceptionTable.toList with
    | nil => rfl
    | cons x t => exact (htb x (by rw [hc]; exact List.mem_cons_self)).elim
  have hl0 := lv_entry vs (n := hd.2.2.1) hln
  rw [lg_entry_eq]
  refine k p e s m _ below meth c s.heap [] 0 0 _ ⟨B.exec, B.bytes, hml, B.returns, htab, fun hi => (name_of_methodNamed B.named B.method).1.trans (hini hi), by rw [← hown]; exact hw, fun w hw => hts w (List.mem_cons_of_mem _ hw), B.notSynchronized, hS9, hl, trivial, hR.1⟩ hR va_S.rf ⟨hl0.1, hl0.2.1, fun q hq => hl0.2.2 q (by rw [← hls]; exact hq)⟩ (by show 0 + mc ≤ mc; omega) (by show 0 + ms ≤ ms; omega)
theorem zMW.of {G : zG} {l : Launch} {hd : zHd} {y : MethodName} {d : Nat} {vs : List Value} {h : zHp} {Qn : Option Value → zHp → Prop} {Qx : String → zHp → Prop} {mc ms : Nat} (ls : List (Option Value)) (hy : plainName y.cls = true) (hown : y.cls = hd.1) (hini : hd.2.2.2.2.2 = true → y.name = "<init>") (hln : (lg_sl vs).length ≤ hd.2.2.1) (hls : zPl 0 ls = lv_args 0 vs)
    (k : zR G l (zMJ G hd d Qn Qx mc ms) mc ms h 0 ls []) : zMW G l hd y d vs h Qn Qx mc ms := by
  intro hl
  refine vx_ofWH (cc := hd.2.1) (maxL := hd.2.2.1) (ret := hd.2.2.2.1) (hh := hd.2.2.2.2.1) hy rfl ?_
  intro p e s m args below meth c s₁ B hml hv
  obtain ⟨rfl, hR, hS9⟩ := hv
  have hts := atoms_spec (ws := Cond.codeWith y hd.2.1 hd.2.2.1 hd.2.2.2.1 hd.2.2.2.2.1 :: zWS) B.pre
  have hw : s.vm.findClass y.cls = some m.cls := findClass_of_methodNamed B.named
  have htab : c.exceptionTable.toList = tableOf hd.2.2.2.2.1 := vx_table (x := y) B (hts _ List.mem_cons_self)
  have hl0 := lv_entry vs (n := hd.2.2.1) hln
  rw [lg_entry_eq]
  refine k p e s m _ below meth c s.heap [] 0 0 _ ⟨B.exec, B.bytes, hml, B.returns, htab, fun hi => (name_of_methodNamed B.named B.method).1.trans (hini hi), by rw [← hown]; exact hw, fun w hw => hts w (List.mem_cons_of_mem _ hw), B.notSynchronized, hS9, hl, trivial, hR.1⟩ hR va_S.rf ⟨hl0.1, hl0.2.1, fun q hq => hl0.2.2 q (by rw [← hls]; exact hq)⟩ (by show 0 + mc ≤ mc; omega) (by show 0 + ms ≤ ms; omega)
section ZR
variable {G : zG} {l : Launch} {J : zJ} {bc bs : Nat} {h : zHp} {pc : Nat} {ls : List (Option Value)} {st : List Value}
theorem z_iconst {n : Int} (hd : decode J.1.2.1 pc = .ok (.iconst n, 1)) (k : zR G l J bc bs h (pc + 1) ls (zi n :: st)) : zR G l J bc bs h pc ls st := fun p e s m args below meth c H locs cells slots ls0 C hP hS hL h1 h2 => lv_iconst C.1 C.2.1 hd rfl (k p e s m args below meth c H locs cells slots ls0 C hP hS hL h1 h2)
theorem z_bipush {n : Int} (hd : decode J.1.2.1 pc = .ok (.bipush n, 2)) (hv : (Int8.ofInt n).toInt32 = zI n) (k : zR G l J bc bs h (pc + 2) ls (zi n :: st)) : zR G l J bc bs h pc ls st := fun p e s m args below meth c H locs cells slots ls0 C hP hS hL h1 h2 => lv_bipush C.1 C.2.1 hd hv (k p e s m args below meth c H locs cells slots ls0 C hP hS hL h1 h2)
theorem z_sipush {n : Int} (hd : decode J.1.2.1 pc = .ok (.sipush n, 3)) (hv : (Int16.ofInt n).toInt32 = zI n) (k : zR G l J bc bs h (pc + 3) ls (zi n :: st)) : zR G l J bc bs h pc ls st := fun p e s m args below meth c H locs cells slots ls0 C hP hS hL h1 h2 => lv_sipush C.1 C.2.1 hd hv (k p e s m args below meth c H locs cells slots ls0 C hP hS hL h1 h2)
theorem z_lconst {n : Fin 2} (hd : decode J.1.2.1 pc = .ok (.lconst n, 1)) (x : Int) (hv : Int64.ofNat (n : Nat) = zL x) (k : zR G l J bc bs h (pc + 1) ls (zl x :: st)) : zR G l J bc bs h pc ls st := fun p e s m args below meth c H locs cells slots ls0 C hP hS hL h1 h2 => lv_lconst C.1 C.2.1 hd hv (k p e s m args below meth c H locs cells slots ls0 C hP hS hL h1 h2)
theorem z_iload_n {j : Fin 4} {x : Int32} (hd : decode J.1.2.1 pc = .ok (.iload_n j, 1)) (hl : ls[(j : Nat)]? = some (some (.int x))) (k : zR G l J bc bs h (pc + 1) ls (.int x :: st)) : zR G l J bc bs h pc ls st := fun p e s m args below meth c H locs cells slots ls0 C hP hS hL h1 h2 => lv_iload_n C.1 C.2.1 hd rfl (hL.at hl) (k p e s m args below meth c H locs cells slots ls0 C hP hS hL h1 h2)
theorem z_iload {j : Nat} {x : Int32} (hd : decode J.1.2.1 pc = .ok (.iload j, 2)) (hl : ls[j]? = some (some (.int x))) (k : zR G l J bc bs h (pc + 2) ls (.int x :: st)) : zR G l J bc bs h pc ls st := fun p e s m args below meth c H locs cells slots ls0 C hP hS hL h1 h2 => lv_iload C.1 C.2.1 hd (hL.at hl) (k p e s m args below meth c H locs cells slots ls0 C hP hS hL h1 h2)
theorem z_lload_n {j : Fin 4} {x : Int64} (hd : decode J.1.2.1 pc = .ok (.lload_n j, 1)) (hl : ls[(j : Nat)]? = some (some (.long x))) (k : zR G l J bc bs h (pc + 1) ls (.long x :: st)) : zR G l J bc bs h pc ls st := fun p e s m args below meth c H locs cells slots ls0 C hP hS hL h1 h2 => lv_lload_n C.1 C.2.1 hd rfl (hL.at hl) (k p e s m args below meth c H locs cells slots ls0 C hP hS hL h1 h2)
theorem z_lload {j : Nat} {x : Int64} (hd : decode J.1.2.1 pc = .ok (.lload j, 2)) (hl : ls[j]? = some (some (.long x))) (k : zR G l J bc bs h (pc + 2) ls (.long x :: st)) : zR G l J bc bs h pc ls st := fun p e s m args below meth c H locs cells slots ls0 C hP hS hL h1 h2 => lv_lload C.1 C.2.1 hd (hL.at hl) (k p e s m args below meth c H locs cells slots ls0 C hP hS hL h1 h2)
theorem z_aload_n {j : Fin 4} {x : Nat} (hd : decode J.1.2.1 pc = .ok (.aload_n j, 1)) (hl : ls[(j : Nat)]? = some (some (.ref x))) (k : zR G l J bc bs h (pc + 1) ls (.ref x :: st)) : zR G l J bc bs h pc ls st := fun p e s m args below meth c H locs cells slots ls0 C hP hS hL h1 h2 => lv_aload_n C.1 C.2.1 hd rfl (hL.at hl) (k p e s m args below meth c H locs cells slots ls0 C hP hS hL h1 h2)
theorem z_aload {j : Nat} {x : Nat} (hd : decode J.1.2.1 pc = .ok (.aload j, 2)) (hl : ls[j]? = some (some (.ref x))) (k : zR G l J bc bs h (pc + 2) ls (.ref x :: st)) : zR G l J bc bs h pc ls st := fun p e s m args below meth c H locs cells slots ls0 C hP hS hL h1 h2 => lv_aload C.1 C.2.1 hd (hL.at hl) (k p e s m args below meth c H locs cells slots ls0 C hP hS hL h1 h2)
theorem z_aload_nN {j : Fin 4} (hd : decode J.1.2.1 pc = .ok (.aload_n j, 1)) (hl : ls[(j : Nat)]? = some (some .null)) (k : zR G l J bc bs h (pc + 1) ls (.null :: st)) : zR G l J bc bs h pc ls st := fun p e s m args below meth c H locs cells slots ls0 C hP hS hL h1 h2 => lv_aload_nN C.1 C.2.1 hd rfl (hL.at hl) (k p e s m args below meth c H locs cells slots ls0 C hP hS hL h1 h2)
theorem z_aloadN {j : Nat} (hd : decode J.1.2.1 pc = .ok (.aload j, 2)) (hl : ls[j]? = some (some .null)) (k : zR G l J bc bs h (pc + 2) ls (.null :: st)) : zR G l J bc bs h pc ls st := fun p e s m args below meth c H locs cells slots ls0 C hP hS hL h1 h2 => lv_aloadN C.1 C.2.1 hd (hL.at hl) (k p e s m args below meth c H locs cells slots ls0 C hP hS hL h1 h2)
theorem z_istore_n {j : Fin 4} {x : Int32} (hd : decode J.1.2.1 pc = .ok (.istore_n j, 1)) (hj : (j : Nat) < J.1.2.2.1) (k : zR G l J bc bs h (pc + 1) (zst1 ls j (.int x)) st) : zR G l J bc bs h pc ls (.int x :: st) := fun p e s m args below meth c H locs cells slots ls0 C hP hS hL h1 h2 => lv_istore_n C.1 C.2.1 hd rfl hL hj rfl (fun ls1 hL1 => k p e s m args below meth c H locs cells slots ls1 C hP hS (zLs.st1 (ls0 := ls0) hL1) h1 h2)
theorem z_istore {j : Nat} {x : Int32} (hd : decode J.1.2.1 pc = .ok (.istore j, 2)) (hj : j < J.1.2.2.1) (k : zR G l J bc bs h (pc + 2) (zst1 ls j (.int x)) st) : zR G l J bc bs h pc ls (.int x :: st) := fun p e s m args below meth c H locs cells slots ls0 C hP hS hL h1 h2 => lv_istore C.1 C.2.1 hd hL hj rfl (fun ls1 hL1 => k p e s m args below meth c H locs cells slots ls1 C hP hS (zLs.st1 (ls0 := ls0) hL1) h1 h2)
theorem z_astore_n {j : Fin 4} {x : Nat} (hd : decode J.1.2.1 pc = .ok (.astore_n j, 1)) (hj : (j : Nat) < J.1.2.2.1) (k : zR G l J bc bs h (pc + 1) (zst1 ls j (.ref x)) st) : zR G l J bc bs h pc ls (.ref x :: st) := fun p e s m args below meth c H locs cells slots ls0 C hP hS hL h1 h2 => lv_astore_n C.1 C.2.1 hd rfl hL hj rfl (fun ls1 hL1 => k p e s m args below meth c H locs cells slots ls1 C hP hS (zLs.st1 (ls0 := ls0) hL1) h1 h2)
theorem z_astore {j : Nat} {x : Nat} (hd : decode J.1.2.1 pc = .ok (.astore j, 2)) (hj : j < J.1.2.2.1) (k : zR G l J bc bs h (pc + 2) (zst1 ls j (.ref x)) st) : zR G l J bc bs h pc ls (.ref x :: st) := fun p e s m args below meth c H locs cells slots ls0 C hP hS hL h1 h2 => lv_astore C.1 C.2.1 hd hL hj rfl (fun ls1 hL1 => k p e s m args below meth c H locs cells slots ls1 C hP hS (zLs.st1 (ls0 := ls0) hL1) h1 h2)
theorem z_astore_nN {j : Fin 4} (hd : decode J.1.2.1 pc = .ok (.astore_n j, 1)) (hj : (j : Nat) < J.1.2.2.1) (k : zR G l J bc bs h (pc + 1) (zst1 ls j .null) st) : zR G l J bc bs h pc ls (.null :: st) := fun p e s m args below meth c H locs cells slots ls0 C hP hS hL h1 h2 => lv_astore_nN C.1 C.2.1 hd rfl hL hj rfl (fun ls1 hL1 => k p e s m args below meth c H locs cells slots ls1 C hP hS (zLs.st1 (ls0 := ls0) hL1) h1 h2)
theorem z_astoreN {j : Nat} (hd : decode J.1.2.1 pc = .ok (.astore j, 2)) (hj : j < J.1.2.2.1) (k : zR G l J bc bs h (pc + 2) (zst1 ls j .null) st) : zR G l J bc bs h pc ls (.null :: st) := fun p e s m args below meth c H locs cells slots ls0 C hP hS hL h1 h2 => lv_astoreN C.1 C.2.1 hd hL hj rfl (fun ls1 hL1 => k p e s m args below meth c H locs cells slots ls1 C hP hS (zLs.st1 (ls0 := ls0) hL1) h1 h2)
theorem z_lstore_n {j : Fin 4} {x : Int64} (hd : decode J.1.2.1 pc = .ok (.lstore_n j, 1)) (hj : (j : Nat) + 1 < J.1.2.2.1) (k : zR G l J bc bs h (pc + 1) (zst2 ls j (.long x)) st) : zR G l J bc bs h pc ls (.long x :: st) := fun p e s m args below meth c H locs cells slots ls0 C hP hS hL h1 h2 => lv_lstore_n C.1 C.2.1 hd rfl hL hj rfl (fun ls1 hL1 => k p e s m args below meth c H locs cells slots ls1 C hP hS (zLs.st2 (ls0 := ls0) hL1) h1 h2)
theorem z_lstore {j : Nat} {x : Int64} (hd : decode J.1.2.1 pc = .ok (.lstore j, 2)) (hj : j + 1 < J.1.2.2.1) (k : zR G l J bc bs h (pc + 2) (zst2 ls j (.long x)) st) : zR G l J bc bs h pc ls (.long x :: st) := fun p e s m args below meth c H locs cells slots ls0 C hP hS hL h1 h2 => lv_lstore C.1 C.2.1 hd hL hj rfl (fun ls1 hL1 => k p e s m args below meth c H locs cells slots ls1 C hP hS (zLs.st2 (ls0 := ls0) hL1) h1 h2)
theorem z_iinc {j : Nat} {n x : Int} (hd : decode J.1.2.1 pc = .ok (.iinc j n, 3)) (hl : ls[j]? = some (some (zi x))) (hj : j < J.1.2.2.1) (k : zR G l J bc bs h (pc + 3) (zst1 ls j (zi (x + n))) st) : zR G l J bc bs h pc ls st := by
  intro p e s m args below meth c H locs cells slots ls0 C hP hS hL h1 h2
  have hm : (j, zi x) ∈ zPl 0 ls := (zPl_mem ls 0 _).mpr ⟨j, hl, by simp⟩
  obtain ⟨k9, hk9⟩ := List.getElem?_of_mem hm
  exact lv_iinc C.1 C.2.1 hd hL hk9 (by rw [zI_add]; rfl) hj rfl (fun ls1 hL1 => k p e s m args below meth c H locs cells slots ls1 C hP hS (zLs.st1 (ls0 := ls0) hL1) h1 h2)
theorem z_iadd {a b : Int} (hd : decode J.1.2.1 pc = .ok (.iadd, 1)) (k : zR G l J bc bs h (pc + 1) ls (zi (a + b) :: st)) : zR G l J bc bs h pc ls (zi b :: zi a :: st) := fun p e s m args below meth c H locs cells slots ls0 C hP hS hL h1 h2 => lv_iadd C.1 C.2.1 hd (by rw [← zI_add]; exact k p e s m args below meth c H locs cells slots ls0 C hP hS hL h1 h2)
theorem z_isub {a b : Int} (hd : decode J.1.2.1 pc = .ok (.isub, 1)) (k : zR G l J bc bs h (pc + 1) ls (zi (a - b) :: st)) : zR G l J bc bs h pc ls (zi b :: zi a :: st) := fun p e s m args below meth c H locs cells slots ls0 C hP hS hL h1 h2 => lv_isub C.1 C.2.1 hd (by rw [← zI_sub]; exact k p e s m args below meth c H locs cells slots ls0 C hP hS hL h1 h2)
theorem z_imul {a b : Int} (hd : decode J.1.2.1 pc = .ok (.imul, 1)) (k : zR G l J bc bs h (pc + 1) ls (zi (a * b) :: st)) : zR G l J bc bs h pc ls (zi b :: zi a :: st) := fun p e s m args below meth c H locs cells slots ls0 C hP hS hL h1 h2 => lv_imul C.1 C.2.1 hd (by rw [← zI_mul]; exact k p e s m args below meth c H locs cells slots ls0 C hP hS hL h1 h2)
theorem z_ineg {a : Int} (hd : decode J.1.2.1 pc = .ok (.ineg, 1)) (k : zR G l J bc bs h (pc + 1) ls (zi (-a) :: st)) : zR G l J bc bs h pc ls (zi a :: st) := fun p e s m args below meth c H locs cells slots ls0 C hP hS hL h1 h2 => lv_ineg C.1 C.2.1 hd (by rw [← zI_neg]; exact k p e s m args below meth c H locs cells slots ls0 C hP hS hL h1 h2)
theorem z_ladd {a b : Int} (hd : decode J.1.2.1 pc = .ok (.ladd, 1)) (k : zR G l J bc bs h (pc + 1) ls (zl (a + b) :: st)) : zR G l J bc bs h pc ls (zl b :: zl a :: st) := fun p e s m args below meth c H locs cells slots ls0 C hP hS hL h1 h2 => lv_ladd C.1 C.2.1 hd (by rw [← zL_add]; exact k p e s m args below meth c H locs cells slots ls0 C hP hS hL h1 h2)
theorem z_lmul {a b : Int} (hd : decode J.1.2.1 pc = .ok (.lmul, 1)) (k : zR G l J bc bs h (pc + 1) ls (zl (a * b) :: st)) : zR G l J bc bs h pc ls (zl b :: zl a :: st) := fun p e s m args below meth c H locs cells slots ls0 C hP hS hL h1 h2 => lv_lmul C.1 C.2.1 hd (by rw [← zL_mul]; exact k p e s m args below meth c H locs cells slots ls0 C hP hS hL h1 h2)
theorem z_iand {x y : Int32} (a : Int) (ha : x &&& y = zI a) (hd : decode J.1.2.1 pc = .ok (.iand, 1)) (k : zR G l J bc bs h (pc + 1) ls (zi a :: st)) : zR G l J bc bs h pc ls (.int y :: .int x :: st) := fun p e s m args below meth c H locs cells slots ls0 C hP hS hL h1 h2 => lv_iand C.1 C.2.1 hd (by rw [ha]; exact k p e s m args below meth c H locs cells slots ls0 C hP hS hL h1 h2)
theorem z_ior {x y : Int32} (a : Int) (ha : x ||| y = zI a) (hd : decode J.1.2.1 pc = .ok (.ior, 1)) (k : zR G l J bc bs h (pc + 1) ls (zi a :: st)) : zR G l J bc bs h pc ls (.int y :: .int x :: st) := fun p e s m args below meth c H locs cells slots ls0 C hP hS hL h1 h2 => lv_ior C.1 C.2.1 hd (by rw [ha]; exact k p e s m args below meth c H locs cells slots ls0 C hP hS hL h1 h2)
theorem z_ixor {x y : Int32} (a : Int) (ha : x ^^^ y = zI a) (hd : decode J.1.2.1 pc = .ok (.ixor, 1)) (k : zR G l J bc bs h (pc + 1) ls (zi a :: st)) : zR G l J bc bs h pc ls (.int y :: .int x :: st) := fun p e s m args below meth c H locs cells slots ls0 C hP hS hL h1 h2 => lv_ixor C.1 C.2.1 hd (by rw [ha]; exact k p e s m args below meth c H locs cells slots ls0 C hP hS hL h1 h2)
theorem z_ishl {x y : Int32} (a : Int) (ha : x <<< (y &&& 31) = zI a) (hd : decode J.1.2.1 pc = .ok (.ishl, 1)) (k : zR G l J bc bs h (pc + 1) ls (zi a :: st)) : zR G l J bc bs h pc ls (.int y :: .int x :: st) := fun p e s m args below meth c H locs cells slots ls0 C hP hS hL h1 h2 => lv_ishl C.1 C.2.1 hd (by rw [ha]; exact k p e s m args below meth c H locs cells slots ls0 C hP hS hL h1 h2)
theorem z_ishr {x y : Int32} (a : Int) (ha : x >>> (y &&& 31) = zI a) (hd : decode J.1.2.1 pc = .ok (.ishr, 1)) (k : zR G l J bc bs h (pc + 1) ls (zi a :: st)) : zR G l J bc bs h pc ls (.int y :: .int x :: st) := fun p e s m args below meth c H locs cells slots ls0 C hP hS hL h1 h2 => lv_ishr C.1 C.2.1 hd (by rw [ha]; exact k p e s m args below meth c H locs cells slots ls0 C hP hS hL h1 h2)
theorem z_idiv {x y : Int32} (a : Int) (ha : x / y = zI a) (hy : ¬ y = 0) (hd : decode J.1.2.1 pc = .ok (.idiv, 1)) (k : zR G l J bc bs h (pc + 1) ls (zi a :: st)) : zR G l J bc bs h pc ls (.int y :: .int x :: st) := fun p e s m args below meth c H locs cells slots ls0 C hP hS hL h1 h2 => lv_idiv C.1 C.2.1 hd hy (by rw [ha]; exact k p e s m args below meth c H locs cells slots ls0 C hP hS hL h1 h2)
theorem z_irem {x y : Int32} (a : Int) (ha : x - x / y * y = zI a) (hy : ¬ y = 0) (hd : decode J.1.2.1 pc = .ok (.irem, 1)) (k : zR G l J bc bs h (pc + 1) ls (zi a :: st)) : zR G l J bc bs h pc ls (.int y :: .int x :: st) := fun p e s m args below meth c H locs cells slots ls0 C hP hS hL h1 h2 => lv_irem C.1 C.2.1 hd hy (by rw [ha]; exact k p e s m args below meth c H locs cells slots ls0 C hP hS hL h1 h2)
theorem z_lrem {x y : Int64} (a : Int) (ha : x - x / y * y = zL a) (hy : ¬ y = 0) (hd : decode J.1.2.1 pc = .ok (.lrem, 1)) (k : zR G l J bc bs h (pc + 1) ls (zl a :: st)) : zR G l J bc bs h pc ls (.long y :: .long x :: st) := fun p e s m args below meth c H locs cells slots ls0 C hP hS hL h1 h2 => lv_lrem C.1 C.2.1 hd hy (by rw [ha]; exact k p e s m args below meth c H locs cells slots ls0 C hP hS hL h1 h2)
theorem z_i2l {a : Int} (ha : -2147483648 ≤ a ∧ a ≤ 2147483647) (hd : decode J.1.2.1 pc = .ok (.i2l, 1)) (k : zR G l J bc bs h (pc + 1) ls (zl a :: st)) : zR G l J bc bs h pc ls (zi a :: st) := fun p e s m args below meth c H locs cells slots ls0 C hP hS hL h1 h2 => lv_i2l C.1 C.2.1 hd (zI_long ha) (k p e s m args below meth c H locs cells slots ls0 C hP hS hL h1 h2)
theorem z_l2i {a : Int} (hd : decode J.1.2.1 pc = .ok (.l2i, 1)) (k : zR G l J bc bs h (pc + 1) ls (zi a :: st)) : zR G l J bc bs h pc ls (zl a :: st) := fun p e s m args below meth c H locs cells slots ls0 C hP hS hL h1 h2 => lv_l2i C.1 C.2.1 hd (zL_int a) (k p e s m args below meth c H locs cells slots ls0 C hP hS hL h1 h2)
theorem z_i2b {x : Int32} (a : Int) (ha : x.toInt8.toInt32 = zI a) (hd : decode J.1.2.1 pc = .ok (.i2b, 1)) (k : zR G l J bc bs h (pc + 1) ls (zi a :: st)) : zR G l J bc bs h pc ls (.int x :: st) := fun p e s m args below meth c H locs cells slots ls0 C hP hS hL h1 h2 => lv_i2b C.1 C.2.1 hd ha (k p e s m args below meth c H locs cells slots ls0 C hP hS hL h1 h2)
theorem z_i2c {x : Int32} (a : Int) (ha : (x.toUInt32 % 65536).toInt32 = zI a) (hd : decode J.1.2.1 pc = .ok (.i2c, 1)) (k : zR G l J bc bs h (pc + 1) ls (zi a :: st)) : zR G l J bc bs h pc ls (.int x :: st) := fun p e s m args below meth c H locs cells slots ls0 C hP hS hL h1 h2 => lv_i2c C.1 C.2.1 hd ha (k p e s m args below meth c H locs cells slots ls0 C hP hS hL h1 h2)
theorem z_lcmp {x y : Int64} (hd : decode J.1.2.1 pc = .ok (.lcmp, 1)) (k : zR G l J bc bs h (pc + 1) ls (.int (lg_cmp x y) :: st)) : zR G l J bc bs h pc ls (.long y :: .long x :: st) := fun p e s m args below meth c H locs cells slots ls0 C hP hS hL h1 h2 => W.lcmp C.1 C.2.1 hd (k p e s m args below meth c H locs cells slots ls0 C hP hS hL h1 h2)
theorem z_dup {v : Value} (hv : v.category = 1) (hd : decode J.1.2.1 pc = .ok (.dup, 1)) (k : zR G l J bc bs h (pc + 1) ls (v :: v :: st)) : zR G l J bc bs h pc ls (v :: st) := fun p e s m args below meth c H locs cells slots ls0 C hP hS hL h1 h2 => lv_dup C.1 C.2.1 hd hv (k p e s m args below meth c H locs cells slots ls0 C hP hS hL h1 h2)
theorem z_pop {v : Value} (hv : v.category = 1) (hd : decode J.1.2.1 pc = .ok (.pop, 1)) (k : zR G l J bc bs h (pc + 1) ls st) : zR G l J bc bs h pc ls (v :: st) := fun p e s m args below meth c H locs cells slots ls0 C hP hS hL h1 h2 => lv_pop C.1 C.2.1 hd hv (k p e s m args below meth c H locs cells slots ls0 C hP hS hL h1 h2)
theorem z_pop2_2 {v : Value} (hv : v.category = 2) (hd : decode J.1.2.1 pc = .ok (.pop2, 1)) (k : zR G l J bc bs h (pc + 1) ls st) : zR G l J bc bs h pc ls (v :: st) := fun p e s m args below meth c H locs cells slots ls0 C hP hS hL h1 h2 => lv_pop2_2 C.1 C.2.1 hd hv (k p e s m args below meth c H locs cells slots ls0 C hP hS hL h1 h2)
theorem z_dup_x1 {v u : Value} (hv : v.category = 1) (hu : u.category = 1) (hd : decode J.1.2.1 pc = .ok (.dup_x1, 1)) (k : zR G l J bc bs h (pc + 1) ls (v :: u :: v :: st)) : zR G l J bc bs h pc ls (v :: u :: st) := fun p e s m args below meth c H locs cells slots ls0 C hP hS hL h1 h2 => lv_dup_x1 C.1 C.2.1 hd hv hu (k p e s m args below meth c H locs cells slots ls0 C hP hS hL h1 h2)
theorem z_dup2 {v u : Value} (hv : v.category = 1) (hu : u.category = 1) (hd : decode J.1.2.1 pc = .ok (.dup2, 1)) (k : zR G l J bc bs h (pc + 1) ls (v :: u :: v :: u :: st)) : zR G l J bc bs h pc ls (v :: u :: st) := fun p e s m args below meth c H locs cells slots ls0 C hP hS hL h1 h2 => lv_dup2_11 C.1 C.2.1 hd hv hu (k p e s m args below meth c H locs cells slots ls0 C hP hS hL h1 h2)
theorem z_null (hd : decode J.1.2.1 pc = .ok (.aconst_null, 1)) (k : zR G l J bc bs h (pc + 1) ls (.null :: st)) : zR G l J bc bs h pc ls st := fun p e s m args below meth c H locs cells slots ls0 C hP hS hL h1 h2 => lv_null C.1 C.2.1 hd (k p e s m args below meth c H locs cells slots ls0 C hP hS hL h1 h2)
theorem z_icmp_lt {a b : Int} {off : Int} {tgt : Nat} (hd : decode J.1.2.1 pc = .ok (.if_icmp .lt off, 3)) (ht : (pc : Int) + off = (tgt : Int)) (ha : -2147483648 ≤ a ∧ a ≤ 2147483647) (hb : -2147483648 ≤ b ∧ b ≤ 2147483647) (k1 : a < b → zR G l J bc bs h tgt ls st) (k2 : ¬ (a < b) → zR G l J bc bs h (pc + 3) ls st) : zR G l J bc bs h pc ls (zi b :: zi a :: st) := fun p e s m args below meth c H locs cells slots ls0 C hP hS hL h1 h2 => lv_icmp_lt C.1 C.2.1 hd ht (fun q => k1 ((zI_lt ha hb).mp q) p e s m args below meth c H locs cells slots ls0 C hP hS hL h1 h2) (fun q => k2 (fun z => q ((zI_lt ha hb).mpr z)) p e s m args below meth c H locs cells slots ls0 C hP hS hL h1 h2)
theorem z_if_lt {a : Int} {off : Int} {tgt : Nat} (hd : decode J.1.2.1 pc = .ok (.ifCond .lt off, 3)) (ht : (pc : Int) + off = (tgt : Int)) (ha : -2147483648 ≤ a ∧ a ≤ 2147483647) (k1 : a < 0 → zR G l J bc bs h tgt ls st) (k2 : ¬ (a < 0) → zR G l J bc bs h (pc + 3) ls st) : zR G l J bc bs h pc ls (zi a :: st) := fun p e s m args below meth c H locs cells slots ls0 C hP hS hL h1 h2 => lv_if_lt C.1 C.2.1 hd ht (fun q => k1 ((zI_lt ha (by omega : -2147483648 ≤ (0 : Int) ∧ (0 : Int) ≤ 2147483647)).mp q) p e s m args below meth c H locs cells slots ls0 C hP hS hL h1 h2) (fun q => k2 (fun z => q ((zI_lt ha (by omega : -2147483648 ≤ (0 : Int) ∧ (0 : Int) ≤ 2147483647)).mpr z)) p e s m args below meth c H locs cells slots ls0 C hP hS hL h1 h2)
theorem z_icmp_le {a b : Int} {off : Int} {tgt : Nat} (hd : decode J.1.2.1 pc = .ok (.if_icmp .le off, 3)) (ht : (pc : Int) + off = (tgt : Int)) (ha : -2147483648 ≤ a ∧ a ≤ 2147483647) (hb : -2147483648 ≤ b ∧ b ≤ 2147483647) (k1 : a ≤ b → zR G l J bc bs h tgt ls st) (k2 : ¬ (a ≤ b) → zR G l J bc bs h (pc + 3) ls st) : zR G l J bc bs h pc ls (zi b :: zi a :: st) := fun p e s m args below meth c H locs cells slots ls0 C hP hS hL h1 h2 => lv_icmp_le C.1 C.2.1 hd ht (fun q => k1 ((zI_le ha hb).mp q) p e s m args below meth c H locs cells slots ls0 C hP hS hL h1 h2) (fun q => k2 (fun z => q ((zI_le ha hb).mpr z)) p e s m args below meth c H locs cells slots ls0 C hP hS hL h1 h2)
theorem z_if_le {a : Int} {off : Int} {tgt : Nat} (hd : decode J.1.2.1 pc = .ok (.ifCond .le off, 3)) (ht : (pc : Int) + off = (tgt : Int)) (ha : -2147483648 ≤ a ∧ a ≤ 2147483647) (k1 : a ≤ 0 → zR G l J bc bs h tgt ls st) (k2 : ¬ (a ≤ 0) → zR G l J bc bs h (pc + 3) ls st) : zR G l J bc bs h pc ls (zi a :: st) := fun p e s m args below meth c H locs cells slots ls0 C hP hS hL h1 h2 => lv_if_le C.1 C.2.1 hd ht (fun q => k1 ((zI_le ha (by omega : -2147483648 ≤ (0 : Int) ∧ (0 : Int) ≤ 2147483647)).mp q) p e s m args below meth c H locs cells slots ls0 C hP hS hL h1 h2) (fun q => k2 (fun z => q ((zI_le ha (by omega : -2147483648 ≤ (0 : Int) ∧ (0 : Int) ≤ 2147483647)).mpr z)) p e s m args below meth c H locs cells slots ls0 C hP hS hL h1 h2)
theorem z_icmp_gt {a b : Int} {off : Int} {tgt : Nat} (hd : decode J.1.2.1 pc = .ok (.if_icmp .gt off, 3)) (ht : (pc : Int) + off = (tgt : Int)) (ha : -2147483648 ≤ a ∧ a ≤ 2147483647) (hb : -2147483648 ≤ b ∧ b ≤ 2147483647) (k1 : b < a → zR G l J bc bs h tgt ls st) (k2 : ¬ (b < a) → zR G l J bc bs h (pc + 3) ls st) : zR G l J bc bs h pc ls (zi b :: zi a :: st) := fun p e s m args below meth c H locs cells slots ls0 C hP hS hL h1 h2 => lv_icmp_gt C.1 C.2.1 hd ht (fun q => k1 ((zI_lt hb ha).mp q) p e s m args below meth c H locs cells slots ls0 C hP hS hL h1 h2) (fun q => k2 (fun z => q ((zI_lt hb ha).mpr z)) p e s m args below meth c H locs cells slots ls0 C hP hS hL h1 h2)
theorem z_if_gt {a : Int} {off : Int} {tgt : Nat} (hd : decode J.1.2.1 pc = .ok (.ifCond .gt off, 3)) (ht : (pc : Int) + off = (tgt : Int)) (ha : -2147483648 ≤ a ∧ a ≤ 2147483647) (k1 : 0 < a → zR G l J bc bs h tgt ls st) (k2 : ¬ (0 < a) → zR G l J bc bs h (pc + 3) ls st) : zR G l J bc bs h pc ls (zi a :: st) := fun p e s m args below meth c H locs cells slots ls0 C hP hS hL h1 h2 => lv_if_gt C.1 C.2.1 hd ht (fun q => k1 ((zI_lt (by omega : -2147483648 ≤ (0 : Int) ∧ (0 : Int) ≤ 2147483647) ha).mp q) p e s m args below meth c H locs cells slots ls0 C hP hS hL h1 h2) (fun q => k2 (fun z => q ((zI_lt (by omega : -2147483648 ≤ (0 : Int) ∧ (0 : Int) ≤ 2147483647) ha).mpr z)) p e s m args below meth c H locs cells slots ls0 C hP hS hL h1 h2)
theorem z_icmp_ge {a b : Int} {off : Int} {tgt : Nat} (hd : decode J.1.2.1 pc = .ok (.if_icmp .ge off, 3)) (ht : (pc : Int) + off = (tgt : Int)) (ha : -2147483648 ≤ a ∧ a ≤ 2147483647) (hb : -2147483648 ≤ b ∧ b ≤ 2147483647) (k1 : b ≤ a → zR G l J bc bs h tgt ls st) (k2 : ¬ (b ≤ a) → zR G l J bc bs h (pc + 3) ls st) : zR G l J bc bs h pc ls (zi b :: zi a :: st) := fun p e s m args below meth c H locs cells slots ls0 C hP hS hL h1 h2 => lv_icmp_ge C.1 C.2.1 hd ht (fun q => k1 ((zI_le hb ha).mp q) p e s m args below meth c H locs cells slots ls0 C hP hS hL h1 h2) (fun q => k2 (fun z => q ((zI_le hb ha).mpr z)) p e s m args below meth c H locs cells slots ls0 C hP hS hL h1 h2)
theorem z_if_ge {a : Int} {off : Int} {tgt : Nat} (hd : decode J.1.2.1 pc = .ok (.ifCond .ge off, 3)) (ht : (pc : Int) + off = (tgt : Int)) (ha : -2147483648 ≤ a ∧ a ≤ 2147483647) (k1 : 0 ≤ a → zR G l J bc bs h tgt ls st) (k2 : ¬ (0 ≤ a) → zR G l J bc bs h (pc + 3) ls st) : zR G l J bc bs h pc ls (zi a :: st) := fun p e s m args below meth c H locs cells slots ls0 C hP hS hL h1 h2 => lv_if_ge C.1 C.2.1 hd ht (fun q => k1 ((zI_le (by omega : -2147483648 ≤ (0 : Int) ∧ (0 : Int) ≤ 2147483647) ha).mp q) p e s m args below meth c H locs cells slots ls0 C hP hS hL h1 h2) (fun q => k2 (fun z => q ((zI_le (by omega : -2147483648 ≤ (0 : Int) ∧ (0 : Int) ≤ 2147483647) ha).mpr z)) p e s m args below meth c H locs cells slots ls0 C hP hS hL h1 h2)
theorem z_icmp_eq {a b : Int} {off : Int} {tgt : Nat} (hd : decode J.1.2.1 pc = .ok (.if_icmp .eq off, 3)) (ht : (pc : Int) + off = (tgt : Int)) (ha : -2147483648 ≤ a ∧ a ≤ 2147483647) (hb : -2147483648 ≤ b ∧ b ≤ 2147483647) (k1 : a = b → zR G l J bc bs h tgt ls st) (k2 : ¬ (a = b) → zR G l J bc bs h (pc + 3) ls st) : zR G l J bc bs h pc ls (zi b :: zi a :: st) := fun p e s m args below meth c H locs cells slots ls0 C hP hS hL h1 h2 => lv_icmp_eq C.1 C.2.1 hd ht (fun q => k1 ((zI_eq ha hb).mp q) p e s m args below meth c H locs cells slots ls0 C hP hS hL h1 h2) (fun q => k2 (fun z => q ((zI_eq ha hb).mpr z)) p e s m args below meth c H locs cells slots ls0 C hP hS hL h1 h2)
theorem z_if_eq {a : Int} {off : Int} {tgt : Nat} (hd : decode J.1.2.1 pc = .ok (.ifCond .eq off, 3)) (ht : (pc : Int) + off = (tgt : Int)) (ha : -2147483648 ≤ a ∧ a ≤ 2147483647) (k1 : a = 0 → zR G l J bc bs h tgt ls st) (k2 : ¬ (a = 0) → zR G l J bc bs h (pc + 3) ls st) : zR G l J bc bs h pc ls (zi a :: st) := fun p e s m args below meth c H locs cells slots ls0 C hP hS hL h1 h2 => lv_if_eq C.1 C.2.1 hd ht (fun q => k1 ((zI_eq ha (by omega : -2147483648 ≤ (0 : Int) ∧ (0 : Int) ≤ 2147483647)).mp q) p e s m args below meth c H locs cells slots ls0 C hP hS hL h1 h2) (fun q => k2 (fun z => q ((zI_eq ha (by omega : -2147483648 ≤ (0 : Int) ∧ (0 : Int) ≤ 2147483647)).mpr z)) p e s m args below meth c H locs cells slots ls0 C hP hS hL h1 h2)
theorem z_icmp_ne {a b : Int} {off : Int} {tgt : Nat} (hd : decode J.1.2.1 pc = .ok (.if_icmp .ne off, 3)) (ht : (pc : Int) + off = (tgt : Int)) (ha : -2147483648 ≤ a ∧ a ≤ 2147483647) (hb : -2147483648 ≤ b ∧ b ≤ 2147483647) (k1 : ¬ a = b → zR G l J bc bs h tgt ls st) (k2 : a = b → zR G l J bc bs h (pc + 3) ls st) : zR G l J bc bs h pc ls (zi b :: zi a :: st) := fun p e s m args below meth c H locs cells slots ls0 C hP hS hL h1 h2 => lv_icmp_ne C.1 C.2.1 hd ht (fun q => k1 (fun z => q ((zI_eq ha hb).mpr z)) p e s m args below meth c H locs cells slots ls0 C hP hS hL h1 h2) (fun q => k2 ((zI_eq ha hb).mp q) p e s m args below meth c H locs cells slots ls0 C hP hS hL h1 h2)
theorem z_if_ne {a : Int} {off : Int} {tgt : Nat} (hd : decode J.1.2.1 pc = .ok (.ifCond .ne off, 3)) (ht : (pc : Int) + off = (tgt : Int)) (ha : -2147483648 ≤ a ∧ a ≤ 2147483647) (k1 : ¬ a = 0 → zR G l J bc bs h tgt ls st) (k2 : a = 0 → zR G l J bc bs h (pc + 3) ls st) : zR G l J bc bs h pc ls (zi a :: st) := fun p e s m args below meth c H locs cells slots ls0 C hP hS hL h1 h2 => lv_if_ne C.1 C.2.1 hd ht (fun q => k1 (fun z => q ((zI_eq ha (by omega : -2147483648 ≤ (0 : Int) ∧ (0 : Int) ≤ 2147483647)).mpr z)) p e s m args below meth c H locs cells slots ls0 C hP hS hL h1 h2) (fun q => k2 ((zI_eq ha (by omega : -2147483648 ≤ (0 : Int) ∧ (0 : Int) ≤ 2147483647)).mp q) p e s m args below meth c H locs cells slots ls0 C hP hS hL h1 h2)
theorem z_goto {off : Int} {tgt : Nat} (hd : decode J.1.2.1 pc = .ok (.goto off, 3)) (ht : (pc : Int) + off = (tgt : Int)) (k : zR G l J bc bs h tgt ls st) : zR G l J bc bs h pc ls st := fun p e s m args below meth c H locs cells slots ls0 C hP hS hL h1 h2 => lv_goto C.1 C.2.1 hd ht (k p e s m args below meth c H locs cells slots ls0 C hP hS hL h1 h2)
theorem z_ifnonnull {x : Nat} {off : Int} {tgt : Nat} (hd : decode J.1.2.1 pc = .ok (.ifnonnull off, 3)) (ht : (pc : Int) + off = (tgt : Int)) (k : zR G l J bc bs h tgt ls st) : zR G l J bc bs h pc ls (.ref x :: st) := fun p e s m args below meth c H locs cells slots ls0 C hP hS hL h1 h2 => lv_ifnonnull C.1 C.2.1 hd ht (k p e s m args below meth c H locs cells slots ls0 C hP hS hL h1 h2)
theorem z_ifnonnullN {off : Int} (hd : decode J.1.2.1 pc = .ok (.ifnonnull off, 3)) (k : zR G l J bc bs h (pc + 3) ls st) : zR G l J bc bs h pc ls (.null :: st) := fun p e s m args below meth c H locs cells slots ls0 C hP hS hL h1 h2 => lv_ifnonnullN C.1 C.2.1 hd (k p e s m args below meth c H locs cells slots ls0 C hP hS hL h1 h2)
theorem z_tableIn {a dflt lo hi : Int} {offs : Array Int} {len : Nat} {off : Int} {tgt : Nat} (hd : decode J.1.2.1 pc = .ok (.tableswitch dflt lo hi offs, len)) (ha : -2147483648 ≤ a ∧ a ≤ 2147483647) (h1 : ¬ a < lo) (h2 : ¬ hi < a) (ho : offs[(a - lo).toNat]? = some off) (ht : (pc : Int) + off = (tgt : Int)) (k : zR G l J bc bs h tgt ls st) : zR G l J bc bs h pc ls (zi a :: st) := fun p e s m args below meth c H locs cells slots ls0 C hP hS hL g1 g2 => lv_tableIn C.1 C.2.1 hd (by rw [zI_toInt ha]; exact h1) (by rw [zI_toInt ha]; exact h2) (by rw [zI_toInt ha]; exact ho) ht (k p e s m args below meth c H locs cells slots ls0 C hP hS hL g1 g2)
theorem z_tableOut {a dflt lo hi : Int} {offs : Array Int} {len : Nat} {tgt : Nat} (hd : decode J.1.2.1 pc = .ok (.tableswitch dflt lo hi offs, len)) (ha : -2147483648 ≤ a ∧ a ≤ 2147483647) (h1 : a < lo ∨ hi < a) (ht : (pc : Int) + dflt = (tgt : Int)) (k : zR G l J bc bs h tgt ls st) : zR G l J bc bs h pc ls (zi a :: st) := fun p e s m args below meth c H locs cells slots ls0 C hP hS hL g1 g2 => lv_tableOut C.1 C.2.1 hd (by rw [zI_toInt ha]; exact h1) ht (k p e s m args below meth c H locs cells slots ls0 C hP hS hL g1 g2)
theorem z_lookup {a dflt : Int} {ps : Array (Int × Int)} {len : Nat} {off : Int} {tgt : Nat} (hd : decode J.1.2.1 pc = .ok (.lookupswitch dflt ps, len)) (ha : -2147483648 ≤ a ∧ a ≤ 2147483647) (hp : (ps.toList.zip (ps.toList.drop 1)).all (fun (a, next) => a.1 < next.1) = true) (ho : Op.lookupswitch.offset ps.toList dflt a = off) (ht : (pc : Int) + off = (tgt : Int)) (k : zR G l J bc bs h tgt ls st) : zR G l J bc bs h pc ls (zi a :: st) := fun p e s m args below meth c H locs cells slots ls0 C hP hS hL h1 h2 => lv_lookup C.1 C.2.1 hd hp (by rw [zI_toInt ha]; exact ho) ht (k p e s m args below meth c H locs cells slots ls0 C hP hS hL h1 h2)
theorem z_ldc {i : Nat} {v : Int32} (hd : decode J.1.2.1 pc = .ok (.ldc i, 2)) (x : Int) (hx : v = zI x) (hw : Cond.constant J.1.1 i v ∈ zWS) (k : zR G l J bc bs h (pc + 2) ls (zi x :: st)) : zR G l J bc bs h pc ls st := by
  intro p e s m args below meth c H locs cells slots ls0 C hP hS hL h1 h2
  refine lv_ldc C.1 C.2.1 C.2.2.2.2.2.2.1 (C.2.2.2.2.2.2.2.1 _ hw) hd ?_
  rw [hx]
  exact k p e s m args below meth c H locs cells slots ls0 C hP hS hL h1 h2
theorem z_ldcw {i : Nat} {v : Int32} (hd : decode J.1.2.1 pc = .ok (.ldc_w i, 3)) (x : Int) (hx : v = zI x) (hw : Cond.constant J.1.1 i v ∈ zWS) (k : zR G l J bc bs h (pc + 3) ls (zi x :: st)) : zR G l J bc bs h pc ls st := by
  intro p e s m args below meth c H locs cells slots ls0 C hP hS hL h1 h2
  refine lv_ldcw C.1 C.2.1 C.2.2.2.2.2.2.1 (C.2.2.2.2.2.2.2.1 _ hw) hd ?_
  rw [hx]
  exact k p e s m args below meth c H locs cells slots ls0 C hP hS hL h1 h2
theorem z_ldc2 {i : Nat} {v : Int64} (hd : decode J.1.2.1 pc = .ok (.ldc2_w i, 3)) (x : Int) (hx : v = zL x) (hw : Cond.constantLong J.1.1 i v ∈ zWS) (k : zR G l J bc bs h (pc + 3) ls (zl x :: st)) : zR G l J bc bs h pc ls st := by
  intro p e s m args below meth c H locs cells slots ls0 C hP hS hL h1 h2
  refine lv_ldc2 C.1 C.2.1 C.2.2.2.2.2.2.1 (C.2.2.2.2.2.2.2.1 _ hw) hd ?_
  rw [hx]
  exact k p e s m args below meth c H locs cells slots ls0 C hP hS hL h1 h2
end ZR
end
section
/-! ===== fields, arrays, new cells, calls, ends ===== -/
theorem zRel.mono {G : zG} {h h' : zHp} {H : Heap} (hP : zRel G h H) (hs : ∀ a e, h' a = some e → h a = some e) : zRel G h' H := ⟨hP.1, fun a e q => hP.2 a e (hs a e q)⟩
theorem zRel.lt {G : zG} {h : zHp} {H : Heap} {a : Nat} {e : va_E} (hP : zRel G h H) (ha : h a = some e) : a < H.size := (hP.2 a e ha).2.lt
theorem zRel.ok {G : zG} {h : zHp} {H : Heap} {a : Nat} {e : va_E} (hP : zRel G h H) (ha : h a = some e) : va_P G.1 vwCl [(a, e)] H := by
  intro k q hk
  match k, hk with
  | 0, hk => cases hk; exact (hP.2 a e ha).2
theorem zRel.set {G : zG} {h : zHp} {H H1 : Heap} {a : Nat} {e0 e : va_E} (hP : zRel G h H) (ha : h a = some e0) (he : va_at G.1 vwCl (a, e) H1) (hz : H1.size = H.size) (oq : ∀ q : Nat, q ≠ a → H1[q]? = H[q]?) : zRel G (zup h a (some e)) H1 := by
  refine ⟨by rw [hz]; exact hP.1, fun b x hb => ?_⟩
  unfold zup at hb
  by_cases hab : b = a
  · subst hab
    rw [if_pos rfl] at hb
    cases hb
    exact ⟨(hP.2 _ _ ha).1, he⟩
  · rw [if_neg hab] at hb
    exact ⟨(hP.2 _ _ hb).1, (hP.2 _ _ hb).2.kept (oq b hab)⟩
theorem zRel.push {G : zG} {h : zHp} {H H1 : Heap} {e : va_E} (hP : zRel G h H) (he : va_at G.1 vwCl (H.size, e) H1) (hz : H1.size = H.size + 1) (oq : ∀ q : Nat, q < H.size → H1[q]? = H[q]?) : zRel G (zup h H.size (some e)) H1 := by
  refine ⟨by rw [hz]; exact Nat.le_succ_of_le hP.1, fun b x hb => ?_⟩
  unfold zup at hb
  by_cases hab : b = H.size
  · subst hab
    rw [if_pos rfl] at hb
    cases hb
    exact ⟨hP.1, he⟩
  · rw [if_neg hab] at hb
    exact ⟨(hP.2 _ _ hb).1, (hP.2 _ _ hb).2.kept (oq b (hP.lt hb))⟩
theorem zRel.keep {G : zG} {h : zHp} {H H1 : Heap} (hP : zRel G h H) (hz : H.size ≤ H1.size) (oq : ∀ q : Nat, q < H.size → H1[q]? = H[q]?) : zRel G h H1 :=
  ⟨Nat.le_trans hP.1 hz, fun b x hb => ⟨(hP.2 _ _ hb).1, (hP.2 _ _ hb).2.kept (oq b (hP.lt hb))⟩⟩
theorem va_S.push {G : zG} {H0 H H1 : Heap} {locs : List Loc} (hS : va_S (zA G) H0 H locs) (hz : H1.size = H.size + 1) (oq : ∀ q : Nat, q < H.size → H1[q]? = H[q]?) : va_S (zA G) H0 H1 locs :=
  ⟨Nat.le_trans hS.1 (by omega), fun q h1 h2 => (oq q (Nat.lt_of_lt_of_le h1 hS.1)).trans (hS.2.1 q h1 h2), hS.2.2⟩
/-- all that a class's field rows ask, decided by a program -/
def zFd (ci : Nat) (C : String) (T : u_T) (N : Nat) (ty : Nat → FieldType) : Prop := vwCl[ci]? = some (C, T, N) ∧ (∀ w ∈ u_ws C T N, w ∈ zWS) ∧ (∀ k, k < N → parseFieldDescriptor (T k).2.2.1 = some (ty k)) ∧ (∀ a, a < N → ∀ b, b < N → a ≠ b → (T a).2.1 ≠ (T b).2.1)
section ZC
variable {G : zG} {l : Launch} {J : zJ} {bc bs : Nat} {h : zHp} {pc : Nat} {ls : List (Option Value)} {st : List Value}
theorem z_get {ci : Nat} {C : String} {T : u_T} {N : Nat} {ty : Nat → FieldType} {i a : Nat} {fs : List Value} {v : Value} (k : Nat) (F : zFd ci C T N ty) (hk : k < N) (hw : Cond.fieldLink J.1.1 i (T k).1 (T k).2.1 (T k).2.2.1 ∈ zWS) (hd : decode J.1.2.1 pc = .ok (.getfield i, 3)) (hh : h a = some (.inr (ci, fs))) (hv : fs[k]? = some v)
    (kk : zR G l J bc bs h (pc + 3) ls (v :: st)) : zR G l J bc bs h pc ls (.ref a :: st) := by
  intro p e s m args below meth c H locs cells slots ls0 C0 hP hS hL h1 h2
  obtain ⟨f1, f2, f3, f4⟩ := F
  exact va_get (D := G.1) (ci := ci) (v := v) (C := C) (T := T) (N := N) C0.1 C0.2.1 C0.2.2.2.2.2.2.2.1 f2 C0.2.2.2.2.2.2.1 C0.2.2.2.2.2.2.2.2.2.1.1 (hP.ok hh) 0 rfl f1 k hk (C0.2.2.2.2.2.2.2.1 _ hw) (fun _ h9 => h9) hv hd (kk p e s m args below meth c H locs cells slots ls0 C0 hP hS hL h1 h2)
/-- of a nest mate -/
theorem z_getN {ci : Nat} {C host : String} {T : u_T} {N : Nat} {ty : Nat → FieldType} {i a : Nat} {fs : List Value} {v : Value} (k : Nat) (F : zFd ci C T N ty) (hk : k < N) (hw : Cond.fieldLinkNest J.1.1 i (T k).1 (T k).2.1 (T k).2.2.1 host ∈ zNW) (hd : decode J.1.2.1 pc = .ok (.getfield i, 3)) (hh : h a = some (.inr (ci, fs))) (hv : fs[k]? = some v)
    (kk : zR G l J bc bs h (pc + 3) ls (v :: st)) : zR G l J bc bs h pc ls (.ref a :: st) := by
  intro p e s m args below meth c H locs cells slots ls0 C0 hP hS hL h1 h2
  obtain ⟨f1, f2, f3, f4⟩ := F
  exact va_getN (D := G.1) (ci := ci) (v := v) (C := C) (T := T) (N := N) C0.1 C0.2.1 C0.2.2.2.2.2.2.2.1 f2 C0.2.2.2.2.2.2.1 C0.2.2.2.2.2.2.2.2.2.1.1 (hP.ok hh) 0 rfl f1 k hk (va_Nw.use rfl (C0.2.2.2.2.2.2.2.2.2.1.2.2.1 _ hw)) (fun _ h9 => h9) hv hd (kk p e s m args below meth c H locs cells slots ls0 C0 hP hS hL h1 h2)
/-- an inherited field, spelled by the subclass -/
theorem z_getS {ci : Nat} {C ref : String} {T : u_T} {N : Nat} {ty : Nat → FieldType} {i a : Nat} {fs : List Value} {v : Value} (k : Nat) (F : zFd ci C T N ty) (hk : k < N) (hw : Cond.fieldLink J.1.1 i ref (T k).2.1 (T k).2.2.1 ∈ zWS) (hsm : ref = (T k).1) (hd : decode J.1.2.1 pc = .ok (.getfield i, 3)) (hh : h a = some (.inr (ci, fs))) (hv : fs[k]? = some v)
    (kk : zR G l J bc bs h (pc + 3) ls (v :: st)) : zR G l J bc bs h pc ls (.ref a :: st) := z_get k F hk (by rw [← hsm]; exact hw) hd hh hv kk
theorem zcell_put {G : zG} {s : State} {args : Array Value} {ci : Nat} {C : String} {T : u_T} {N : Nat} {ty : Nat → FieldType} {a k : Nat} {fs : List Value} {v : Value} {H1 : Heap} {cell : Cell} (F : zFd ci C T N ty) (hts : ∀ w ∈ zWS, w.before args s = true) (hK : va_K G.1 vwCl (zTys G) s) (q2 : cell.cls = G.1.1 ci) (q3 : cell.vm = .none) (q4 : ∀ j, j < N → cell.slots[G.1.2 ci j]? = some (vp_V fs j)) (hk : k < N) (hl : k < fs.length) (e1 : H1[a]? = some (cell.setSlot (G.1.2 ci k) v)) (own : String) : va_at G.1 vwCl (a, .inr (ci, fs.set k v)) H1 :=
  ⟨_, F.1, t_OB.to (V := updV (vp_V fs) k v) ⟨_, e1, q2, q3, t_set q4 (va_apart (own := own) hts F.2.1 ty F.2.2.1 F.2.2.2 hK F.1) hk v⟩ (fun j _ => vp_updV_set hl v j)⟩
theorem z_put {ci : Nat} {C : String} {T : u_T} {N : Nat} {ty : Nat → FieldType} {i a : Nat} {fs : List Value} {v : Value} (k : Nat) (F : zFd ci C T N ty) (hk : k < N) (hw : Cond.fieldLink J.1.1 i (T k).1 (T k).2.1 (T k).2.2.1 ∈ zWS) (hfin : (T k).2.2.2 = false) (hd : decode J.1.2.1 pc = .ok (.putfield i, 3)) (hh : h a = some (.inr (ci, fs))) (hl : k < fs.length) (hn : narrow (ty k) v = v) (hf : fits (ty k) v = true)
    (kk : zR G l J bc bs (zup h a (some (.inr (ci, fs.set k v)))) (pc + 3) ls st) : zR G l J bc bs h pc ls (v :: .ref a :: st) := by
  intro p e s m args below meth c H locs cells slots ls0 C0 hP hS hL h1 h2
  have hts := C0.2.2.2.2.2.2.2.1
  have hK := C0.2.2.2.2.2.2.2.2.2.1.1
  have hown := C0.2.2.2.2.2.2.1
  obtain ⟨hba, r, hr1, cell, q1, q2, q3, q4⟩ := hP.2 a _ hh
  have hr : r = (C, T, N) := Option.some.inj (hr1.symm.trans F.1)
  subst hr
  obtain ⟨hS9, hfc, kC, hkC, hkind⟩ := hK.1 ci _ F.1
  obtain ⟨cf, kf, fi, f, hi, hsl⟩ := hS9 k hk
  have hlay := hts _ (F.2.1 _ (u_in_lay hk))
  unfold u_lay at hlay
  rw [if_neg (by rw [hfin]; decide)] at hlay
  have hst := (u_facts hfc hkC (u_lays hts F.2.1 hk) hi).1
  have h6 := u_store hfc hkC hkind hlay hi (F.2.2.1 k hk) hn hf
  refine W.putK C0.1 C0.2.1 (f := f) ⟨hown, hts _ hw, ⟨_, _, _, hi⟩, hst⟩ (by rw [q2]; exact h6) q1 q3 (by rw [hsl]; exact k2_hasslot (q4 k hk)) rfl rfl hd fun H' e1 e2 e3 => ?_
  rw [hsl] at e1 ⊢
  exact kk p e s m args below meth c H' _ cells slots ls0 C0 (hP.set hh (zcell_put F hts hK q2 q3 q4 hk hl e1 J.1.1) e2 e3) (hS.put e2 e3 hba) hL h1 h2
theorem z_putN {ci : Nat} {C host : String} {T : u_T} {N : Nat} {ty : Nat → FieldType} {i a : Nat} {fs : List Value} {v : Value} (k : Nat) (F : zFd ci C T N ty) (hk : k < N) (hw : Cond.fieldLinkNest J.1.1 i (T k).1 (T k).2.1 (T k).2.2.1 host ∈ zNW) (hfin : (T k).2.2.2 = false) (hd : decode J.1.2.1 pc = .ok (.putfield i, 3)) (hh : h a = some (.inr (ci, fs))) (hl : k < fs.length) (hn : narrow (ty k) v = v) (hf : fits (ty k) v = true)
    (kk : zR G l J bc bs (zup h a (some (.inr (ci, fs.set k v)))) (pc + 3) ls st) : zR G l J bc bs h pc ls (v :: .ref a :: st) := by
  intro p e s m args below meth c H locs cells slots ls0 C0 hP hS hL h1 h2
  have hts := C0.2.2.2.2.2.2.2.1
  have hK := C0.2.2.2.2.2.2.2.2.2.1.1
  have hown := C0.2.2.2.2.2.2.1
  obtain ⟨hba, r, hr1, cell, q1, q2, q3, q4⟩ := hP.2 a _ hh
  have hr : r = (C, T, N) := Option.some.inj (hr1.symm.trans F.1)
  subst hr
  obtain ⟨hS9, hfc, kC, hkC, hkind⟩ := hK.1 ci _ F.1
  obtain ⟨cf, kf, fi, f, hi, hsl⟩ := hS9 k hk
  have hlay := hts _ (F.2.1 _ (u_in_lay hk))
  unfold u_lay at hlay
  rw [if_neg (by rw [hfin]; decide)] at hlay
  have hst := (u_facts hfc hkC (u_lays hts F.2.1 hk) hi).1
  have h6 := u_store hfc hkC hkind hlay hi (F.2.2.1 k hk) hn hf
  refine va_WputK C0.1 C0.2.1 (f := f) hown (va_Nw.use rfl (C0.2.2.2.2.2.2.2.2.2.1.2.2.1 _ hw)) hi hst (by rw [q2]; exact h6) q1 q3 (by rw [hsl]; exact k2_hasslot (q4 k hk)) rfl rfl hd fun H' e1 e2 e3 => ?_
  rw [hsl] at e1 ⊢
  exact kk p e s m args below meth c H' _ cells slots ls0 C0 (hP.set hh (zcell_put F hts hK q2 q3 q4 hk hl e1 J.1.1) e2 e3) (hS.put e2 e3 hba) hL h1 h2
/-- a final field, in a constructor -/
theorem z_putF {ci : Nat} {C : String} {T : u_T} {N : Nat} {ty : Nat → FieldType} {i a : Nat} {fs : List Value} {v : Value} (k : Nat) (F : zFd ci C T N ty) (hk : k < N) (hw : Cond.fieldLink J.1.1 i (T k).1 (T k).2.1 (T k).2.2.1 ∈ zWS) (hfin : (T k).2.2.2 = true) (hini : J.1.2.2.2.2.2 = true) (hdecl : (T k).1 = J.1.1) (hd : decode J.1.2.1 pc = .ok (.putfield i, 3)) (hh : h a = some (.inr (ci, fs))) (hl : k < fs.length) (hn : narrow (ty k) v = v) (hf : fits (ty k) v = true)
    (kk : zR G l J bc bs (zup h a (some (.inr (ci, fs.set k v)))) (pc + 3) ls st) : zR G l J bc bs h pc ls (v :: .ref a :: st) := by
  intro p e s m args below meth c H locs cells slots ls0 C0 hP hS hL h1 h2
  have hts := C0.2.2.2.2.2.2.2.1
  have hK := C0.2.2.2.2.2.2.2.2.2.1.1
  have hown := C0.2.2.2.2.2.2.1
  obtain ⟨hba, r, hr1, cell, q1, q2, q3, q4⟩ := hP.2 a _ hh
  have hr : r = (C, T, N) := Option.some.inj (hr1.symm.trans F.1)
  subst hr
  obtain ⟨hS9, hfc, kC, hkC, hkind⟩ := hK.1 ci _ F.1
  obtain ⟨cf, kf, fi, f, hi, hsl⟩ := hS9 k hk
  have hlay := hts _ (F.2.1 _ (u_in_lay hk))
  unfold u_lay at hlay
  rw [if_pos hfin] at hlay
  have hst := (u_facts hfc hkC (u_lays hts F.2.1 hk) hi).1
  have hcf : m.cls = cf := by
    obtain ⟨_, _, c', _, _, _, -, -, hf', -, -, -, hown2, -⟩ := Cond.laysFinal_spec hlay
    have e1 : c' = cf := by have := hi.symm.trans hf'; simp at this; exact this.1.symm
    rw [hdecl] at hown2
    rw [← e1]; exact Option.some.inj (hown.symm.trans hown2)
  have h6 := u_fits hfc hkC hkind (Or.inr hlay) hi (F.2.2.1 k hk) hn hf
  refine W.putFinK C0.1 C0.2.1 hown (hts _ hw) hi hst hcf (C0.2.2.2.2.2.1 hini) (by rw [q2]; exact h6) q1 q3 (by rw [hsl]; exact k2_hasslot (q4 k hk)) rfl rfl hd fun H' e1 e2 e3 => ?_
  rw [hsl] at e1 ⊢
  exact kk p e s m args below meth c H' _ cells slots ls0 C0 (hP.set hh (zcell_put F hts hK q2 q3 q4 hk hl e1 J.1.1) e2 e3) (hS.put e2 e3 hba) hL h1 h2
theorem z_new {ci : Nat} {C : String} {T : u_T} {N : Nat} {ty : Nat → FieldType} {i : Nat} {fs : List Value} (F : zFd ci C T N ty) (hw : Cond.classLink J.1.1 i C ∈ zWS) (hins : Cond.instantiable C N ∈ zWS) (hini : Cond.initialized C ∈ zWS) (hfs : ∀ j, j < N → defaultValue (ty j) = vp_V fs j) (hd : decode J.1.2.1 pc = .ok (.new i, 3)) {bc' bs' : Nat} (hb1 : bc' + 1 ≤ bc) (hb2 : bs' + N ≤ bs)
    (kk : ∀ q : Nat, (∀ a e, h a = some e → a < q) → G.2.2 ≤ q → zR G l J bc' bs' (zup h q (some (.inr (ci, fs)))) (pc + 3) ls (.ref q :: st)) : zR G l J bc bs h pc ls st := by
  intro p e s m args below meth c H locs cells slots ls0 C0 hP hS hL h1 h2
  have hts := C0.2.2.2.2.2.2.2.1
  have hK := C0.2.2.2.2.2.2.2.2.2.1.1
  have hown := C0.2.2.2.2.2.2.1
  have hKn := hK.1 ci _ F.1
  refine W.newcK C0.1 C0.2.1 hown (hts _ hw) (hts _ hins) (hts _ hini) rfl hd (by omega) (by omega) hKn.2.1 rfl fun H1 kC hkC e1 z1 o1 => ?_
  exact kk H.size (fun a e ha => hP.lt ha) hP.1 p e s m args below meth c H1 locs (cells + 1) (slots + N) ls0 C0 (hP.push ⟨_, F.1, (u_born ty hts F.2.1 hKn hkC e1 F.2.2.1).to hfs⟩ z1 o1) (hS.push z1 o1) hL (by omega) (by omega)
theorem z_alen {i : Nat} {ty : FieldType} {n a : Nat} {x : ((Nat → Int32) ⊕ (Nat → Int64) ⊕ (Nat → UInt32) ⊕ (Nat → UInt64) ⊕ (Nat → Option Nat))} (ht : (zTys G)[i]? = some (G.2.1 i, ty)) (hd : decode J.1.2.1 pc = .ok (.arraylength, 1)) (hh : h a = some (.inl (G.2.1 i, n, x)))
    (kk : zR G l J bc bs h (pc + 1) ls (zi (n : Int) :: st)) : zR G l J bc bs h pc ls (.ref a :: st) := by
  intro p e s m args below meth c H locs cells slots ls0 C0 hP hS hL h1 h2
  exact va_alen (D := G.1) C0.1 C0.2.1 C0.2.2.2.2.2.2.2.2.2.1.1 (hP.ok hh) 0 i rfl ht (zI_nat n) hd (kk p e s m args below meth c H locs cells slots ls0 C0 hP hS hL h1 h2)
theorem z_iald {n a : Nat} {g : Nat → Int} {i : Int} (hd : decode J.1.2.1 pc = .ok (.iaload, 1)) (hh : h a = some (zInts G n g)) (hi : 0 ≤ i ∧ i < n ∧ i < 2147483648)
    (kk : zR G l J bc bs h (pc + 1) ls (zi (g i.toNat) :: st)) : zR G l J bc bs h pc ls (zi i :: .ref a :: st) := by
  intro p e s m args below meth c H locs cells slots ls0 C0 hP hS hL h1 h2
  refine va_iald (D := G.1) C0.1 C0.2.1 C0.2.2.2.2.2.2.2.2.2.1.1 (hP.ok hh) 0 0 rfl rfl (zI_in hi.1 hi.2.1 hi.2.2) hd ?_
  rw [zI_clamp hi.1 hi.2.2]
  exact kk p e s m args below meth c H locs cells slots ls0 C0 hP hS hL h1 h2
theorem z_zald {n a : Nat} {g : Nat → Int} {i : Int} (hd : decode J.1.2.1 pc = .ok (.baload, 1)) (hh : h a = some (zBools G n g)) (hi : 0 ≤ i ∧ i < n ∧ i < 2147483648)
    (kk : zR G l J bc bs h (pc + 1) ls (zi (g i.toNat) :: st)) : zR G l J bc bs h pc ls (zi i :: .ref a :: st) := by
  intro p e s m args below meth c H locs cells slots ls0 C0 hP hS hL h1 h2
  refine va_zald (D := G.1) C0.1 C0.2.1 C0.2.2.2.2.2.2.2.2.2.1.1 (hP.ok hh) 0 1 rfl rfl (zI_in hi.1 hi.2.1 hi.2.2) hd ?_
  rw [zI_clamp hi.1 hi.2.2]
  exact kk p e s m args below meth c H locs cells slots ls0 C0 hP hS hL h1 h2
theorem z_bald {n a : Nat} {g : Nat → Int} {i : Int} (hd : decode J.1.2.1 pc = .ok (.baload, 1)) (hh : h a = some (zBytes G n g)) (hi : 0 ≤ i ∧ i < n ∧ i < 2147483648)
    (kk : zR G l J bc bs h (pc + 1) ls (zi (g i.toNat) :: st)) : zR G l J bc bs h pc ls (zi i :: .ref a :: st) := by
  intro p e s m args below meth c H locs cells slots ls0 C0 hP hS hL h1 h2
  refine va_bald (D := G.1) C0.1 C0.2.1 C0.2.2.2.2.2.2.2.2.2.1.1 (hP.ok hh) 0 2 rfl rfl (zI_in hi.1 hi.2.1 hi.2.2) hd ?_
  rw [zI_clamp hi.1 hi.2.2]
  exact kk p e s m args below meth c H locs cells slots ls0 C0 hP hS hL h1 h2
theorem z_lald {n a : Nat} {g : Nat → Int} {i : Int} (hd : decode J.1.2.1 pc = .ok (.laload, 1)) (hh : h a = some (zLongs G n g)) (hi : 0 ≤ i ∧ i < n ∧ i < 2147483648)
    (kk : zR G l J bc bs h (pc + 1) ls (zl (g i.toNat) :: st)) : zR G l J bc bs h pc ls (zi i :: .ref a :: st) := by
  intro p e s m args below meth c H locs cells slots ls0 C0 hP hS hL h1 h2
  refine va_lald (D := G.1) C0.1 C0.2.1 C0.2.2.2.2.2.2.2.2.2.1.1 (hP.ok hh) 0 3 rfl rfl (zI_in hi.1 hi.2.1 hi.2.2) hd ?_
  rw [zI_clamp hi.1 hi.2.2]
  exact kk p e s m args below meth c H locs cells slots ls0 C0 hP hS hL h1 h2
/-- a reference out of an array of references -/
theorem z_aald {t n a : Nat} {ty : FieldType} {g : Nat → Option Nat} {i : Int} (ht : (zTys G)[t]? = some (G.2.1 t, ty)) (hty : ty.isReference = true) (hd : decode J.1.2.1 pc = .ok (.aaload, 1)) (hh : h a = some (zRefs G t n g)) (hi : 0 ≤ i ∧ i < n ∧ i < 2147483648)
    (kk : zR G l J bc bs h (pc + 1) ls (va_rf (g i.toNat) :: st)) : zR G l J bc bs h pc ls (zi i :: .ref a :: st) := by
  intro p e s m args below meth c H locs cells slots ls0 C0 hP hS hL h1 h2
  have hin := zI_in hi.1 hi.2.1 hi.2.2
  have hlt : (zI i).toNatClampNeg < n := Nat.not_le.mp fun q => hin (Or.inr q)
  have ha := (hP.2 a _ hh).2
  have hA := (C0.2.2.2.2.2.2.2.2.2.1.1.2 t _ ht).1
  refine W.aald (v := va_rf (g i.toNat)) (ty := ty) C0.1 C0.2.1 ha (hA n (fun j => va_rf (g j))) hty (fun q => by cases q) (by show ¬ (zI i < 0 ∨ (arrV _ _ _).slots.size ≤ _); rw [arrV_size]; exact hin) (by show (arrV _ _ _).slots[_]? = _; rw [arrV_read _ _ hlt, zI_clamp hi.1 hi.2.2]) rfl rfl hd ?_
  exact kk p e s m args below meth c H locs cells slots ls0 C0 hP hS hL h1 h2
theorem z_iast {n a : Nat} {g : Nat → Int} {i x : Int} (hd : decode J.1.2.1 pc = .ok (.iastore, 1)) (hh : h a = some (zInts G n g)) (hi : 0 ≤ i ∧ i < n ∧ i < 2147483648)
    (kk : zR G l J bc bs (zup h a (some (zInts G n (zup g i.toNat x)))) (pc + 1) ls st) : zR G l J bc bs h pc ls (zi x :: zi i :: .ref a :: st) := by
  intro p e s m args below meth c H locs cells slots ls0 C0 hP hS hL h1 h2
  have hin := zI_in hi.1 hi.2.1 hi.2.2
  obtain ⟨hba, ha⟩ := hP.2 a _ hh
  refine W.iast C0.1 C0.2.1 ha ((C0.2.2.2.2.2.2.2.2.2.1.1.2 0 _ rfl).1 n (fun j => .int (zI (g j)))) (fun q => by cases q) (by show ¬ (zI i < 0 ∨ (arrV _ _ _).slots.size ≤ _); rw [arrV_size]; exact hin) rfl rfl hd fun H1 e9 z oq => ?_
  refine kk p e s m args below meth c H1 _ cells slots ls0 C0 (hP.set hh ?_ z oq) (hS.put z oq hba) hL h1 h2
  show H1[a]? = some (vp_cell _ _)
  rw [e9]
  show some ((vp_cell _ _).setSlot _ _) = _
  rw [vp_cell_i, vp_cell_i, arrV_store, zI_clamp hi.1 hi.2.2]
  congr 2
  funext q
  by_cases hq : q = i.toNat
  · simp [updV, zup, hq]
  · simp [updV, zup, hq]
theorem z_zast {n a : Nat} {g : Nat → Int} {i x : Int} (hx : vp_nar .boolean (zI x) = zI x) (hd : decode J.1.2.1 pc = .ok (.bastore, 1)) (hh : h a = some (zBools G n g)) (hi : 0 ≤ i ∧ i < n ∧ i < 2147483648)
    (kk : zR G l J bc bs (zup h a (some (zBools G n (zup g i.toNat x)))) (pc + 1) ls st) : zR G l J bc bs h pc ls (zi x :: zi i :: .ref a :: st) := by
  intro p e s m args below meth c H locs cells slots ls0 C0 hP hS hL h1 h2
  have hin := zI_in hi.1 hi.2.1 hi.2.2
  obtain ⟨hba, ha⟩ := hP.2 a _ hh
  refine W.zast C0.1 C0.2.1 ha ((C0.2.2.2.2.2.2.2.2.2.1.1.2 1 _ rfl).1 n (fun j => .int (zI (g j)))) (fun q => by cases q) (by show ¬ (zI i < 0 ∨ (arrV _ _ _).slots.size ≤ _); rw [arrV_size]; exact hin) rfl rfl hd fun H1 e9 z oq => ?_
  refine kk p e s m args below meth c H1 _ cells slots ls0 C0 (hP.set hh ?_ z oq) (hS.put z oq hba) hL h1 h2
  show H1[a]? = some (vp_cell _ _)
  rw [e9]
  have hx2 : narrow .boolean (.int (zI x)) = .int (zI x) := by
    have h9 : narrow .boolean (.int (zI x)) = .int (vp_nar .boolean (zI x)) := rfl
    rw [h9, hx]
  show some ((vp_cell _ _).setSlot _ _) = _
  rw [hx2, vp_cell_i, vp_cell_i, arrV_store, zI_clamp hi.1 hi.2.2]
  congr 2
  funext q
  by_cases hq : q = i.toNat
  · simp [updV, zup, hq]
  · simp [updV, zup, hq]
theorem z_bast {n a : Nat} {g : Nat → Int} {i x : Int} (y : Int) (hx : (zI x).toInt8.toInt32 = zI y) (hd : decode J.1.2.1 pc = .ok (.bastore, 1)) (hh : h a = some (zBytes G n g)) (hi : 0 ≤ i ∧ i < n ∧ i < 2147483648)
    (kk : zR G l J bc bs (zup h a (some (zBytes G n (zup g i.toNat y)))) (pc + 1) ls st) : zR G l J bc bs h pc ls (zi x :: zi i :: .ref a :: st) := by
  intro p e s m args below meth c H locs cells slots ls0 C0 hP hS hL h1 h2
  have hin := zI_in hi.1 hi.2.1 hi.2.2
  obtain ⟨hba, ha⟩ := hP.2 a _ hh
  refine W.bast C0.1 C0.2.1 ha ((C0.2.2.2.2.2.2.2.2.2.1.1.2 2 _ rfl).1 n (fun j => .int (zI (g j)))) (fun q => by cases q) (by show ¬ (zI i < 0 ∨ (arrV _ _ _).slots.size ≤ _); rw [arrV_size]; exact hin) rfl rfl hd fun H1 e9 z oq => ?_
  refine kk p e s m args below meth c H1 _ cells slots ls0 C0 (hP.set hh ?_ z oq) (hS.put z oq hba) hL h1 h2
  show H1[a]? = some (vp_cell _ _)
  rw [e9]
  have hx2 : narrow .byte (.int (zI x)) = .int (zI y) := by rw [narrow_byte, hx]
  show some ((vp_cell _ _).setSlot _ _) = _
  rw [hx2, vp_cell_i, vp_cell_i, arrV_store, zI_clamp hi.1 hi.2.2]
  congr 2
  funext q
  by_cases hq : q = i.toNat
  · simp [updV, zup, hq]
  · simp [updV, zup, hq]
theorem z_last {n a : Nat} {g : Nat → Int} {i x : Int} (hd : decode J.1.2.1 pc = .ok (.lastore, 1)) (hh : h a = some (zLongs G n g)) (hi : 0 ≤ i ∧ i < n ∧ i < 2147483648)
    (kk : zR G l J bc bs (zup h a (some (zLongs G n (zup g i.toNat x)))) (pc + 1) ls st) : zR G l J bc bs h pc ls (zl x :: zi i :: .ref a :: st) := by
  intro p e s m args below meth c H locs cells slots ls0 C0 hP hS hL h1 h2
  have hin := zI_in hi.1 hi.2.1 hi.2.2
  obtain ⟨hba, ha⟩ := hP.2 a _ hh
  refine W.last C0.1 C0.2.1 ha ((C0.2.2.2.2.2.2.2.2.2.1.1.2 3 _ rfl).1 n (fun j => .long (zL (g j)))) (fun q => by cases q) (by show ¬ (zI i < 0 ∨ (arrV _ _ _).slots.size ≤ _); rw [arrV_size]; exact hin) rfl rfl hd fun H1 e9 z oq => ?_
  refine kk p e s m args below meth c H1 _ cells slots ls0 C0 (hP.set hh ?_ z oq) (hS.put z oq hba) hL h1 h2
  show H1[a]? = some (vp_cell _ _)
  rw [e9]
  show some ((vp_cell _ _).setSlot _ _) = _
  rw [vp_cell_l, vp_cell_l, arrV_store, zI_clamp hi.1 hi.2.2]
  congr 2
  funext q
  by_cases hq : q = i.toNat
  · simp [updV, zup, hq]
  · simp [updV, zup, hq]
/-- an array of ints into an array of such -/
theorem z_aastI {n a v n2 : Nat} {g : Nat → Option Nat} {g2 : Nat → Int} {i : Int} (hd : decode J.1.2.1 pc = .ok (.aastore, 1)) (hh : h a = some (zRefs G 4 n g)) (hv : h v = some (zInts G n2 g2)) (hi : 0 ≤ i ∧ i < n ∧ i < 2147483648)
    (kk : zR G l J bc bs (zup h a (some (zRefs G 4 n (zup g i.toNat (some v))))) (pc + 1) ls st) : zR G l J bc bs h pc ls (.ref v :: zi i :: .ref a :: st) := by
  intro p e s m args below meth c H locs cells slots ls0 C0 hP hS hL h1 h2
  have hin := zI_in hi.1 hi.2.1 hi.2.2
  have hlt : (zI i).toNatClampNeg < n := Nat.not_le.mp fun q => hin (Or.inr q)
  have h0 : ¬ zI i < 0 := fun q => hin (Or.inl q)
  obtain ⟨hba, ha⟩ := hP.2 a _ hh
  obtain ⟨-, hv9⟩ := hP.2 v _ hv
  obtain ⟨kA, kI, cI, k1, k2, k3, k4⟩ := C0.2.2.2.2.2.2.2.2.2.1.2.1
  refine W.aast C0.1 C0.2.1 ha (fun q h => by cases h) (fun h => by cases h) k1 k2 rfl k3 ⟨h0, by show _ < (arrV _ _ _).slots.size; rw [arrV_size]; exact hlt⟩ hv9 (fun q h => by cases h) k3 (va_asg _ _) rfl rfl hd fun H1 e9 z oq => ?_
  refine kk p e s m args below meth c H1 _ cells slots ls0 C0 (hP.set hh ?_ z oq) (hS.put z oq hba) hL h1 h2
  show H1[a]? = some (vp_cell _ _)
  rw [e9]
  show some ((vp_cell _ _).setSlot _ _) = _
  rw [vp_cell_q, vp_cell_q, arrV_store, zI_clamp hi.1 hi.2.2]
  congr 2
  funext q
  by_cases hq : q = i.toNat
  · simp [updV, zup, hq, va_rf]
  · simp [updV, zup, hq]
/-- an object into an array of its class -/
theorem z_aastO {t n a v ci : Nat} {C : String} {T : u_T} {N : Nat} {g : Nat → Option Nat} {vs : List Value} {i : Int} (ht : (zTys G)[t]? = some (G.2.1 t, .object C)) (hc : vwCl[ci]? = some (C, T, N)) (hd : decode J.1.2.1 pc = .ok (.aastore, 1)) (hh : h a = some (zRefs G t n g)) (hv : h v = some (.inr (ci, vs))) (hi : 0 ≤ i ∧ i < n ∧ i < 2147483648)
    (kk : zR G l J bc bs (zup h a (some (zRefs G t n (zup g i.toNat (some v))))) (pc + 1) ls st) : zR G l J bc bs h pc ls (.ref v :: zi i :: .ref a :: st) := by
  intro p e s m args below meth c H locs cells slots ls0 C0 hP hS hL h1 h2
  have hin := zI_in hi.1 hi.2.1 hi.2.2
  have hlt : (zI i).toNatClampNeg < n := Nat.not_le.mp fun q => hin (Or.inr q)
  have h0 : ¬ zI i < 0 := fun q => hin (Or.inl q)
  obtain ⟨hba, ha⟩ := hP.2 a _ hh
  obtain ⟨-, r', hr', cellV, g1, g2, g3, -⟩ := hP.2 v _ hv
  have hK := C0.2.2.2.2.2.2.2.2.2.1.1
  have hcls := (hK.1 ci _ hc).2
  obtain ⟨kA, comp, k1, k2, k3, -⟩ := (hK.2 t _ ht).2
  have hcomp : comp = G.1.1 ci := Option.some.inj (k3.symm.trans hcls.1)
  subst hcomp
  obtain ⟨kC, hkC, -⟩ := hcls.2
  refine W.aast C0.1 C0.2.1 ha (fun q h => by cases h) (fun h => by cases h) k1 k2 rfl hkC ⟨h0, by show _ < (arrV _ _ _).slots.size; rw [arrV_size]; exact hlt⟩ g1 (fun q h => by rw [g3] at h; cases h) (by rw [g2]; exact hkC) (by rw [g2]; exact va_asg _ _) rfl rfl hd fun H1 e9 z oq => ?_
  refine kk p e s m args below meth c H1 _ cells slots ls0 C0 (hP.set hh ?_ z oq) (hS.put z oq hba) hL h1 h2
  show H1[a]? = some (vp_cell _ _)
  rw [e9]
  show some ((vp_cell _ _).setSlot _ _) = _
  rw [vp_cell_q, vp_cell_q, arrV_store, zI_clamp hi.1 hi.2.2]
  congr 2
  funext q
  by_cases hq : q = i.toNat
  · simp [updV, zup, hq, va_rf]
  · simp [updV, zup, hq]
/-- a new array of numbers -/
theorem z_newa {at9 : ArrayType} {t : Nat} {ty : FieldType} {n : Int} {x : ((Nat → Int32) ⊕ (Nat → Int64) ⊕ (Nat → UInt32) ⊕ (Nat → UInt64) ⊕ (Nat → Option Nat))} (hty : newarray.typeOf at9 = ty) (hnr : match ty with | .object _ => False | _ => True) (ht : (zTys G)[t]? = some (G.2.1 t, ty)) (hw : Cond.arrayClass ty ∈ zWS) (hx : ∀ cA : ClassId, vp_cell cA (n.toNat, x) = arrV cA n.toNat (fun _ => defaultValue ty)) (hn : 0 ≤ n ∧ n.toNat * componentBytes ty ≤ 536870912 ∧ n < 2147483648) (hd : decode J.1.2.1 pc = .ok (.newarray at9, 2)) {bc' bs' : Nat} (hb1 : bc' + 1 ≤ bc) (hb2 : bs' + n.toNat ≤ bs)
    (kk : ∀ q : Nat, (∀ a e, h a = some e → a < q) → G.2.2 ≤ q → zR G l J bc' bs' (zup h q (some (.inl (G.2.1 t, n.toNat, x)))) (pc + 2) ls (.ref q :: st)) : zR G l J bc bs h pc ls (zi n :: st) := by
  subst hty
  intro p e s m args below meth c H locs cells slots ls0 C0 hP hS hL h1 h2
  have hn0 : ¬ zI n < 0 := by
    rw [Int32.lt_iff_toInt_lt, zI_toInt (by omega), Int32.toInt_zero]
    omega
  refine va_newaK C0.1 C0.2.1 (C0.2.2.2.2.2.2.2.1 _ hw) rfl hd rfl hn0 (zI_clamp hn.1 hn.2.2) hn.2.1 (by omega) (by omega) rfl fun H1 cA e1 z1 o1 hAr hNm => ?_
  have hR := (C0.2.2.2.2.2.2.2.2.2.1.1.2 t _ ht).2
  have hcA : cA = G.2.1 t := by
    have h9 : s.vm.findClass ("[" ++ (newarray.typeOf at9).toString) = some (G.2.1 t) := by
      cases at9 <;> exact hR
    exact Option.some.inj (hNm.symm.trans h9)
  subst hcA
  refine kk H.size (fun a e ha => hP.lt ha) hP.1 p e s m args below meth c H1 locs (cells + 1) (slots + n.toNat) ls0 C0 (hP.push ?_ z1 o1) (hS.push z1 o1) hL (by omega) (by omega)
  show H1[H.size]? = some (vp_cell _ _)
  rw [hx]
  exact e1
/-- a new array of references to objects -/
theorem z_newq {t i : Nat} {C : String} {n : Int} (ht : (zTys G)[t]? = some (G.2.1 t, .object C)) (hAO : ∀ U H, zS G U H → va_AO C U) (hw : Cond.classLink J.1.1 i C ∈ zWS) (hn : 0 ≤ n ∧ n.toNat * 4 ≤ 536870912 ∧ n < 2147483648) (hd : decode J.1.2.1 pc = .ok (.anewarray i, 3)) {bc' bs' : Nat} (hb1 : bc' + 1 ≤ bc) (hb2 : bs' + n.toNat ≤ bs)
    (kk : ∀ q : Nat, (∀ a e, h a = some e → a < q) → G.2.2 ≤ q → zR G l J bc' bs' (zup h q (some (zRefs G t n.toNat (fun _ => none)))) (pc + 3) ls (.ref q :: st)) : zR G l J bc bs h pc ls (zi n :: st) := by
  intro p e s m args below meth c H locs cells slots ls0 C0 hP hS hL h1 h2
  have hn0 : ¬ zI n < 0 := by
    rw [Int32.lt_iff_toInt_lt, zI_toInt (by omega), Int32.toInt_zero]
    omega
  have hc9 := zI_clamp hn.1 hn.2.2
  refine W.anew C0.1 C0.2.1 C0.2.2.2.2.2.2.1 (C0.2.2.2.2.2.2.2.1 _ hw) (va_AO.use (hAO _ _ C0.2.2.2.2.2.2.2.2.2.1)) rfl hd rfl hn0 (by rw [hc9]; exact hn.2.1) (by omega) (by rw [hc9]; omega) fun cA kA comp f1 f2 f3 f4 => ?_
  rw [hc9]
  generalize hH1 : H.push ({ cls := cA, slots := Array.replicate n.toNat .null, vm := .none } : Cell) = H1
  have z1 : H1.size = H.size + 1 := by rw [← hH1, Array.size_push]
  have e1 : H1[H.size]? = some (arrV cA n.toNat (fun _ => .null)) := by rw [← hH1, Array.getElem?_push_size, ← arrV_new]
  have o1 : ∀ q : Nat, q < H.size → H1[q]? = H[q]? := fun q hq => by rw [← hH1, Array.getElem?_push, if_neg (Nat.ne_of_lt hq)]
  obtain ⟨kA2, comp2, -, -, -, hR⟩ := (C0.2.2.2.2.2.2.2.2.2.1.1.2 t _ ht).2
  have hcA : cA = G.2.1 t := by first | exact Option.some.inj (f1.symm.trans hR) | exact Option.some.inj (f4.symm.trans hR)
  subst hcA
  refine kk H.size (fun a e ha => hP.lt ha) hP.1 p e s m args below meth c H1 locs (cells + 1) (slots + n.toNat) ls0 C0 (hP.push ?_ z1 o1) (hS.push z1 o1) hL (by omega) (by omega)
  show H1[H.size]? = some (vp_cell _ _)
  rw [vp_cell_q]
  exact e1
end ZC
end
section
/-! ===== calls ===== -/
def zMe (y : MethodName) (hd : zHd) (n : Nat) : Prop := Cond.initialized y.cls ∈ zWS ∧ Cond.code y hd.2.1 hd.2.2.1 hd.2.2.2.1 ∈ zWS ∧ (y.cls ≠ "java/lang/invoke/MethodHandle" ∧ y.cls ≠ "java/lang/invoke/VarHandle" ∧ (parseMethodDescriptor y.desc).map (fun d => d.parameters.length) = some n) ∧ hd.2.2.1 ≤ 40
/-- a method of an object, found by its class -/
def zMV (y : MethodName) (hd : zHd) (n : Nat) : Prop := zMe y hd n ∧ Cond.instanceMethod y ∈ zWS ∧ Cond.selects y.cls y y ∈ zWS
def zMS (y : MethodName) (hd : zHd) (n : Nat) : Prop := zMe y hd n ∧ Cond.static y ∈ zWS
def zMI (y : MethodName) (hd : zHd) (n : Nat) : Prop := zMe y hd n ∧ Cond.instanceMethod y ∈ zWS ∧ y.name = "<init>" ∧ hd.2.2.2.1 = none
def zMSW (y : MethodName) (hd : zHd) (n : Nat) : Prop := Cond.initialized y.cls ∈ zWS ∧ Cond.codeWith y hd.2.1 hd.2.2.1 hd.2.2.2.1 hd.2.2.2.2.1 ∈ zWS ∧ (y.cls ≠ "java/lang/invoke/MethodHandle" ∧ y.cls ≠ "java/lang/invoke/VarHandle" ∧ (parseMethodDescriptor y.desc).map (fun d => d.parameters.length) = some n) ∧ hd.2.2.1 ≤ 40 ∧ Cond.static y ∈ zWS
theorem zPc_blind {G : zG} {vs : List Value} {h : zHp} : FrameBlind (va_Pc vs (zPc G h)) := fun a U g mk q => ⟨q.1, q.2.1, zS.go (s := U) (U := U.calling g mk a) (State.WarmedH.refl U) (fun _ _ _ => rfl) q.2.2⟩
theorem zPc_pre {G : zG} {s : State} {H : Heap} {locs : List Loc} {vs : List Value} {h : zHp} (hZ : zS G s s.heap) (hP : zRel G h H) (hS : va_S (zA G) s.heap H locs) : ∀ U : State, U.heap = H → s.WarmedH U.vm → va_Pc vs (zPc G h) vs.toArray U := fun U hU hW =>
  ⟨rfl, by rw [hU]; exact hP, by rw [hU]; exact hZ.go hW (fun a h1 h2 => hS.2.1 a h1 h2)⟩
section ZD
variable {G : zG} {l : Launch} {J : zJ} {bc bs : Nat} {h : zHp} {pc : Nat} {ls : List (Option Value)} {st : List Value}
/-- behind any call: the callee has returned or thrown -/
theorem z_after {p : Program} {e : Env} {s : State} {m : MethodId} {args : Array Value} {below : List Frame} {meth : Method} {c : Code} {H : Heap} {locs : List Loc} {cells slots mc ms bc' bs' : Nat} {ls0 : Array Slot} {st0 rest : List Value} {a : Array Value} {Qn : Option Value → zHp → Prop} {Qx : String → zHp → Prop}
    (C0 : zCx G l J p s m args meth c) (hP : zRel G h H) (hS : va_S (zA G) s.heap H locs) (hL : zLs ls0 J.1.2.2.1 ls) (h1 : cells + bc ≤ J.2.1.cells) (h2 : slots + bs ≤ J.2.1.slots) (hb1 : mc + bc' ≤ bc) (hb2 : ms + bs' ≤ bs)
    (hr : vx_Run p l e J.2.1 s m args below meth c H locs cells slots mc ms (F0 m pc ls0 st0) rest (zQ G Qn a) (zX G Qx) (zA G))
    (kx : ∀ E h', Qx E h' → zT G l J bc' bs' h' E pc ls) (kk : ∀ v h', Qn v h' → zR G l J bc' bs' h' (pc + 3) ls (v.toList ++ rest)) : W p l e J.2.1 s m args below meth c H locs cells slots (J.2.2.1 below args s) (F0 m pc ls0 st0) := by
  intro T hT X
  have hA : ∀ q : Nat, H.size ≤ q → zA G q := fun q hq => Nat.le_trans hP.1 hq
  rcases hr T hT X with ⟨v, st₀, t, T', L, h0, X', hL9, e1, e2, ⟨v', h', hv, hq, hR, hF⟩, sst⟩ | ⟨q, st₀, t, T', L, E, ce, h0, X', hL9, e1, e2, ⟨h', hq, hR, hF⟩, hce, hcv, hcl, sst⟩
  · cases hv
    obtain ⟨k1, k2, k3⟩ := vx_keep h0 e1 hS (fun q _ hq => hq) (fun q hq => hq) hL9 hF
    obtain ⟨t2, a1, b1⟩ := kk v h' hq p e s m args below meth c T'.heap (locs ++ L) (cells + mc) (slots + ms) ls0 C0 (by rw [e1]; exact hR) k3 hL (by omega) (by omega) T' rfl X'
    exact ⟨t2, sst t2 a1, b1⟩
  · obtain ⟨k1, k2, k3⟩ := vx_keep h0 e1 hS (fun q _ hq => hq) (fun q hq => hq) hL9 hF
    obtain ⟨t2, a1, b1⟩ := kx E h' hq p e s m args below meth c T'.heap (locs ++ L) (cells + mc) (slots + ms) ls0 q ce rest C0 (by rw [e1]; exact hR) k3 hL (by omega) (by omega) (by rw [e1]; exact hce) hcv hcl T' rfl X'
    exact ⟨t2, sst.trans a1, b1⟩
theorem zw {ws : List Cond} {y : MethodName} {hd : zHd} {n : Nat} (M : zMe y hd n) (h : ∀ w ∈ ws, w ∈ zWS) : ∀ w ∈ ws ++ (Cond.code y hd.2.1 hd.2.2.1 hd.2.2.2.1 :: zWS), w ∈ zWS := by
  intro w hw
  rcases List.mem_append.mp hw with q | q
  · exact h w q
  · rcases List.mem_cons.mp q with q | q
    · rw [q]; exact M.2.1
    · exact q
theorem z_callV {d mc ms i b n : Nat} {y : MethodName} {hd' : zHd} {As rest : List Value} {Qn : Option Value → zHp → Prop} {Qx : String → zHp → Prop} {ci N : Nat} {T : u_T} {fs : List Value} {bc' bs' : Nat} (M : zMV y hd' n) (hw : Cond.methodLink J.1.1 i y ∈ zWS) (hd : decode J.1.2.1 pc = .ok (.invokevirtual i, 3)) (hM : zM G l hd' y d (.ref b :: As) h Qn Qx mc ms) (hst : st = As.reverse ++ .ref b :: rest)
    (hn : As.length = n) (hcat : (rest.map fun v => v.category).sum ≤ 8) (hc : vwCl[ci]? = some (y.cls, T, N)) (hb : h b = some (.inr (ci, fs))) (hfr : d + 1 ≤ J.2.1.frames) (hlo : d * 64 + 64 ≤ J.2.1.locals) (hb1 : mc + bc' ≤ bc) (hb2 : ms + bs' ≤ bs)
    (kx : ∀ E h', Qx E h' → zT G l J bc' bs' h' E pc ls) (kk : ∀ v h', Qn v h' → zR G l J bc' bs' h' (pc + 3) ls (v.toList ++ rest)) : zR G l J bc bs h pc ls st := by
  intro p e s m args below meth c H locs cells slots ls0 C0 hP hS hL h1 h2
  have hts := C0.2.2.2.2.2.2.2.1
  have hK := C0.2.2.2.2.2.2.2.2.2.1.1
  refine z_after C0 hP hS hL h1 h2 hb1 hb2 (vx_runV (As := As) (rest := rest) (Ts := zWS) ⟨C0.1, C0.2.1, rfl, C0.2.2.2.2.2.2.1, hts⟩ (hM C0.2.2.2.2.2.2.2.2.2.2.1) (cwV n hts (zgoodIn (fun _ h => h) (zw M.1 (by
    intro w hw9
    simp only [List.mem_cons, List.not_mem_nil, or_false] at hw9
    rcases hw9 with q | q | q | q <;> rw [q]
    · exact hw
    · exact M.2.1
    · exact M.2.2
    · exact M.1.1))) rfl rfl rfl ⟨rfl, M.1.2.2.1⟩ ⟨hfr, by have := M.1.2.2.2; show 8 + (_ + 11) + d * 64 ≤ _; omega⟩) ⟨zPc_blind, va_recv hK (hP.ok hb) hc (q0 := 0) rfl, fun U hU hW => zPc_pre C0.2.2.2.2.2.2.2.2.2.1 hP hS U hU hW⟩ rfl hn (hL.1.trans C0.2.2.1.symm) hst (lv_room hcat) hd ⟨by show cells + mc ≤ _; omega, by show slots + ms ≤ _; omega⟩) kx kk
/-- a private method of a nest mate -/
theorem z_callVN {d mc ms i b n : Nat} {host : String} {y : MethodName} {hd' : zHd} {As rest : List Value} {Qn : Option Value → zHp → Prop} {Qx : String → zHp → Prop} {ci N : Nat} {T : u_T} {fs : List Value} {bc' bs' : Nat} (M : zMV y hd' n) (hw : Cond.methodLinkNest J.1.1 i y host ∈ zNW) (hd : decode J.1.2.1 pc = .ok (.invokevirtual i, 3)) (hM : zM G l hd' y d (.ref b :: As) h Qn Qx mc ms) (hst : st = As.reverse ++ .ref b :: rest)
    (hn : As.length = n) (hcat : (rest.map fun v => v.category).sum ≤ 8) (hc : vwCl[ci]? = some (y.cls, T, N)) (hb : h b = some (.inr (ci, fs))) (hfr : d + 1 ≤ J.2.1.frames) (hlo : d * 64 + 64 ≤ J.2.1.locals) (hb1 : mc + bc' ≤ bc) (hb2 : ms + bs' ≤ bs)
    (kx : ∀ E h', Qx E h' → zT G l J bc' bs' h' E pc ls) (kk : ∀ v h', Qn v h' → zR G l J bc' bs' h' (pc + 3) ls (v.toList ++ rest)) : zR G l J bc bs h pc ls st := by
  intro p e s m args below meth c H locs cells slots ls0 C0 hP hS hL h1 h2
  have hts := C0.2.2.2.2.2.2.2.1
  have hK := C0.2.2.2.2.2.2.2.2.2.1.1
  refine z_after C0 hP hS hL h1 h2 hb1 hb2 (vx_runVN (C := y.cls) (As := As) (rest := rest) (Ts := zWS) ⟨C0.1, C0.2.1, rfl, C0.2.2.2.2.2.2.1, hts⟩ (hM C0.2.2.2.2.2.2.2.2.2.2.1) ⟨va_cnB n hts (zgoodIn (ws := [] ++ _) (fun _ h => h) (zw M.1 (fun w hw9 => nomatch hw9))) rfl rfl rfl (C0.2.2.2.2.2.2.2.2.2.1.2.2.1 _ hw) (hts _ M.1.1) M.1.2.2.1 ⟨hfr, by have := M.1.2.2.2; show 8 + (_ + 11) + d * 64 ≤ _; omega⟩, hts _ M.2.1, hts _ M.2.2⟩ ⟨zPc_blind, va_recv hK (hP.ok hb) hc (q0 := 0) rfl, fun U hU hW => zPc_pre C0.2.2.2.2.2.2.2.2.2.1 hP hS U hU hW⟩ rfl hn (hL.1.trans C0.2.2.1.symm) hst (lv_room hcat) hd ⟨by show cells + mc ≤ _; omega, by show slots + ms ≤ _; omega⟩) kx kk
theorem z_callS {d mc ms i n : Nat} {y : MethodName} {hd' : zHd} {As rest : List Value} {Qn : Option Value → zHp → Prop} {Qx : String → zHp → Prop} {bc' bs' : Nat} (M : zMS y hd' n) (hw : Cond.methodLink J.1.1 i y ∈ zWS) (hd : decode J.1.2.1 pc = .ok (.invokestatic i, 3)) (hM : zM G l hd' y d As h Qn Qx mc ms) (hst : st = As.reverse ++ rest)
    (hn : As.length = n) (hcat : (rest.map fun v => v.category).sum ≤ 8) (hfr : d + 1 ≤ J.2.1.frames) (hlo : d * 64 + 64 ≤ J.2.1.locals) (hb1 : mc + bc' ≤ bc) (hb2 : ms + bs' ≤ bs)
    (kx : ∀ E h', Qx E h' → zT G l J bc' bs' h' E pc ls) (kk : ∀ v h', Qn v h' → zR G l J bc' bs' h' (pc + 3) ls (v.toList ++ rest)) : zR G l J bc bs h pc ls st := by
  intro p e s m args below meth c H locs cells slots ls0 C0 hP hS hL h1 h2
  have hts := C0.2.2.2.2.2.2.2.1
  refine z_after C0 hP hS hL h1 h2 hb1 hb2 (vx_runS (As := As) (rest := rest) (Ts := zWS) ⟨C0.1, C0.2.1, rfl, C0.2.2.2.2.2.2.1, hts⟩ (hM C0.2.2.2.2.2.2.2.2.2.2.1) (va_cwS n hts (zgoodIn (fun _ h => h) (zw M.1 (by
    intro w hw9
    simp only [List.mem_cons, List.not_mem_nil, or_false] at hw9
    rcases hw9 with q | q | q <;> rw [q]
    · exact hw
    · exact M.2
    · exact M.1.1))) rfl rfl rfl M.1.2.2.1 ⟨hfr, by have := M.1.2.2.2; show 8 + (_ + 11) + d * 64 ≤ _; omega⟩) ⟨zPc_blind, fun U hU hW => zPc_pre C0.2.2.2.2.2.2.2.2.2.1 hP hS U hU hW⟩ rfl hn (hL.1.trans C0.2.2.1.symm) hst (lv_room hcat) hd ⟨by show cells + mc ≤ _; omega, by show slots + ms ≤ _; omega⟩) kx kk
theorem z_callSN {d mc ms i n : Nat} {host : String} {y : MethodName} {hd' : zHd} {As rest : List Value} {Qn : Option Value → zHp → Prop} {Qx : String → zHp → Prop} {bc' bs' : Nat} (M : zMS y hd' n) (hw : Cond.methodLinkNest J.1.1 i y host ∈ zNW) (hd : decode J.1.2.1 pc = .ok (.invokestatic i, 3)) (hM : zM G l hd' y d As h Qn Qx mc ms) (hst : st = As.reverse ++ rest)
    (hn : As.length = n) (hcat : (rest.map fun v => v.category).sum ≤ 8) (hfr : d + 1 ≤ J.2.1.frames) (hlo : d * 64 + 64 ≤ J.2.1.locals) (hb1 : mc + bc' ≤ bc) (hb2 : ms + bs' ≤ bs)
    (kx : ∀ E h', Qx E h' → zT G l J bc' bs' h' E pc ls) (kk : ∀ v h', Qn v h' → zR G l J bc' bs' h' (pc + 3) ls (v.toList ++ rest)) : zR G l J bc bs h pc ls st := by
  intro p e s m args below meth c H locs cells slots ls0 C0 hP hS hL h1 h2
  have hts := C0.2.2.2.2.2.2.2.1
  refine z_after C0 hP hS hL h1 h2 hb1 hb2 (vx_runSN (As := As) (rest := rest) (Ts := zWS) ⟨C0.1, C0.2.1, rfl, C0.2.2.2.2.2.2.1, hts⟩ (hM C0.2.2.2.2.2.2.2.2.2.2.1) ⟨va_cnB n hts (zgoodIn (ws := [] ++ _) (fun _ h => h) (zw M.1 (fun w hw9 => nomatch hw9))) rfl rfl rfl (C0.2.2.2.2.2.2.2.2.2.1.2.2.1 _ hw) (hts _ M.1.1) M.1.2.2.1 ⟨hfr, by have := M.1.2.2.2; show 8 + (_ + 11) + d * 64 ≤ _; omega⟩, hts _ M.2, trivial⟩ ⟨zPc_blind, fun U hU hW => zPc_pre C0.2.2.2.2.2.2.2.2.2.1 hP hS U hU hW⟩ rfl hn (hL.1.trans C0.2.2.1.symm) hst (lv_room hcat) hd ⟨by show cells + mc ≤ _; omega, by show slots + ms ≤ _; omega⟩) kx kk
theorem z_callI {d mc ms i b n : Nat} {y : MethodName} {hd' : zHd} {As rest : List Value} {Qn : Option Value → zHp → Prop} {Qx : String → zHp → Prop} {bc' bs' : Nat} (M : zMI y hd' n) (hw : Cond.methodLink J.1.1 i y ∈ zWS) (hd : decode J.1.2.1 pc = .ok (.invokespecial i, 3)) (hM : zM G l hd' y d (.ref b :: As) h Qn Qx mc ms) (hst : st = As.reverse ++ .ref b :: rest)
    (hn : As.length = n) (hcat : (rest.map fun v => v.category).sum ≤ 8) (hfr : d + 1 ≤ J.2.1.frames) (hlo : d * 64 + 64 ≤ J.2.1.locals) (hb1 : mc + bc' ≤ bc) (hb2 : ms + bs' ≤ bs)
    (kx : ∀ E h', Qx E h' → zT G l J bc' bs' h' E pc ls) (kk : ∀ v h', Qn v h' → zR G l J bc' bs' h' (pc + 3) ls (v.toList ++ rest)) : zR G l J bc bs h pc ls st := by
  intro p e s m args below meth c H locs cells slots ls0 C0 hP hS hL h1 h2
  have hts := C0.2.2.2.2.2.2.2.1
  have hM1 := hM C0.2.2.2.2.2.2.2.2.2.2.1
  rw [M.2.2.2] at hM1
  have hc9 : Cond.code y hd'.2.1 hd'.2.2.1 none ∈ zWS := by rw [← M.2.2.2]; exact M.1.2.1
  refine z_after C0 hP hS hL h1 h2 hb1 hb2 (vx_runI (As := As) (rest := rest) (Ts := zWS) ⟨C0.1, C0.2.1, rfl, C0.2.2.2.2.2.2.1, hts⟩ hM1 (cwI n hts (zgoodIn (fun _ h => h) (by
    intro w hw9
    rcases List.mem_cons.mp hw9 with q | q
    · rw [q]; exact hc9
    · exact q)) rfl rfl rfl (hts _ M.1.1) (hts _ hw) (hts _ M.2.1) M.2.2.1 M.1.2.2.1 ⟨hfr, by have := M.1.2.2.2; show 8 + (_ + 11) + d * 64 ≤ _; omega⟩) ⟨zPc_blind, fun U hU hW => zPc_pre C0.2.2.2.2.2.2.2.2.2.1 hP hS U hU hW⟩ rfl hn (hL.1.trans C0.2.2.1.symm) hst (lv_room hcat) hd ⟨by show cells + mc ≤ _; omega, by show slots + ms ≤ _; omega⟩) kx kk
theorem z_callIN {d mc ms i b n : Nat} {host : String} {y : MethodName} {hd' : zHd} {As rest : List Value} {Qn : Option Value → zHp → Prop} {Qx : String → zHp → Prop} {bc' bs' : Nat} (M : zMI y hd' n) (hw : Cond.methodLinkNest J.1.1 i y host ∈ zNW) (hd : decode J.1.2.1 pc = .ok (.invokespecial i, 3)) (hM : zM G l hd' y d (.ref b :: As) h Qn Qx mc ms) (hst : st = As.reverse ++ .ref b :: rest)
    (hn : As.length = n) (hcat : (rest.map fun v => v.category).sum ≤ 8) (hfr : d + 1 ≤ J.2.1.frames) (hlo : d * 64 + 64 ≤ J.2.1.locals) (hb1 : mc + bc' ≤ bc) (hb2 : ms + bs' ≤ bs)
    (kx : ∀ E h', Qx E h' → zT G l J bc' bs' h' E pc ls) (kk : ∀ v h', Qn v h' → zR G l J bc' bs' h' (pc + 3) ls (v.toList ++ rest)) : zR G l J bc bs h pc ls st := by
  intro p e s m args below meth c H locs cells slots ls0 C0 hP hS hL h1 h2
  have hts := C0.2.2.2.2.2.2.2.1
  have hM1 := hM C0.2.2.2.2.2.2.2.2.2.2.1
  rw [M.2.2.2] at hM1
  have hc9 : Cond.code y hd'.2.1 hd'.2.2.1 none ∈ zWS := by rw [← M.2.2.2]; exact M.1.2.1
  refine z_after C0 hP hS hL h1 h2 hb1 hb2 (vx_runIN (As := As) (rest := rest) (Ts := zWS) ⟨C0.1, C0.2.1, rfl, C0.2.2.2.2.2.2.1, hts⟩ hM1 ⟨va_cnB n hts (zgoodIn (fun _ h => h) (by
    intro w hw9
    rcases List.mem_cons.mp hw9 with q | q
    · rw [q]; exact hc9
    · exact q)) rfl rfl rfl (C0.2.2.2.2.2.2.2.2.2.1.2.2.1 _ hw) (hts _ M.1.1) M.1.2.2.1 ⟨hfr, by have := M.1.2.2.2; show 8 + (_ + 11) + d * 64 ≤ _; omega⟩, M.2.2.1, hts _ M.2.1⟩ ⟨zPc_blind, fun U hU hW => zPc_pre C0.2.2.2.2.2.2.2.2.2.1 hP hS U hU hW⟩ rfl hn (hL.1.trans C0.2.2.1.symm) hst (lv_room hcat) hd ⟨by show cells + mc ≤ _; omega, by show slots + ms ≤ _; omega⟩) kx kk
/-- Object.<init> -/
theorem z_obj {i b : Nat} {rest : List Value} (hw : Cond.methodLink J.1.1 i objectInit ∈ zWS) (hi : Cond.instanceMethod objectInit ∈ zWS) (hc : Cond.code objectInit ⟨#[0xb1]⟩ 1 none ∈ zWS) (hd : decode J.1.2.1 pc = .ok (.invokespecial i, 3)) (hcat : (rest.map fun v => v.category).sum ≤ 8) (hfr : 1 ≤ J.2.1.frames) (hlo : 64 ≤ J.2.1.locals)
    (kk : zR G l J bc bs h (pc + 3) ls rest) : zR G l J bc bs h pc ls (.ref b :: rest) := by
  intro p e s m args below meth c H locs cells slots ls0 C0 hP hS hL h1 h2
  have hts := C0.2.2.2.2.2.2.2.1
  have hr := lv_room (m := m) (pc := pc) (ls := ls0) (rest := .ref b :: rest) hcat
  refine W.objInit C0.1 C0.2.1 C0.2.2.2.2.2.2.1 (hts _ hw) (hts _ hi) (hts _ hc) rfl (hL.1.trans C0.2.2.1.symm) rfl hd hfr (by omega) ?_
  exact kk p e s m args below meth c H locs cells slots ls0 C0 hP hS hL h1 h2
/-! ===== ends ===== -/
variable {hd9 : zHd} {d mc ms : Nat} {Qn : Option Value → zHp → Prop} {Qx : String → zHp → Prop}
theorem z_iret {ty : FieldType} {x : Int32} (hrt : hd9.2.2.2.1 = some ty) (hn : narrow ty (.int x) = .int x) (hd : decode hd9.2.1 pc = .ok (.ireturn, 1)) (hq : Qn (some (.int x)) h) : zR G l (zMJ G hd9 d Qn Qx mc ms) bc bs h pc ls [.int x] := by
  intro p e s m args below meth c H locs cells slots ls0 C0 hP hS hL h1 h2
  have e1 : cells ≤ mc := by have : cells + bc ≤ mc := h1; omega
  have e2 : slots ≤ ms := by have : slots + bs ≤ ms := h2; omega
  refine vx_ret (W.widen (k := mc) (n := ms) e1 e2 ?_)
  exact W.zret (v := x) C0.1 C0.2.1 (C0.2.2.2.1.trans hrt) hn (fun t ht hW => ⟨_, h, rfl, hq, by rw [ht]; exact hP, hS.F ht⟩) hS.2.2 hd C0.2.2.2.2.2.2.2.2.1
theorem z_lret {x : Int64} (hrt : hd9.2.2.2.1 = some .long) (hd : decode hd9.2.1 pc = .ok (.lreturn, 1)) (hq : Qn (some (.long x)) h) : zR G l (zMJ G hd9 d Qn Qx mc ms) bc bs h pc ls [.long x] := by
  intro p e s m args below meth c H locs cells slots ls0 C0 hP hS hL h1 h2
  have e1 : cells ≤ mc := by have : cells + bc ≤ mc := h1; omega
  have e2 : slots ≤ ms := by have : slots + bs ≤ ms := h2; omega
  refine vx_ret (W.widen (k := mc) (n := ms) e1 e2 ?_)
  exact W.lret (v := x) C0.1 C0.2.1 (C0.2.2.2.1.trans hrt) (fun t ht hW => ⟨_, h, rfl, hq, by rw [ht]; exact hP, hS.F ht⟩) hS.2.2 hd C0.2.2.2.2.2.2.2.2.1
theorem z_vret (hrt : hd9.2.2.2.1 = none) (hd : decode hd9.2.1 pc = .ok (.return_, 1)) (hq : Qn none h) : zR G l (zMJ G hd9 d Qn Qx mc ms) bc bs h pc ls [] := by
  intro p e s m args below meth c H locs cells slots ls0 C0 hP hS hL h1 h2
  have e1 : cells ≤ mc := by have : cells + bc ≤ mc := h1; omega
  have e2 : slots ≤ ms := by have : slots + bs ≤ ms := h2; omega
  refine vx_ret (W.widen (k := mc) (n := ms) e1 e2 ?_)
  exact W.vret C0.1 C0.2.1 (C0.2.2.2.1.trans hrt) (fun t ht hW => ⟨_, h, rfl, hq, by rw [ht]; exact hP, hS.F ht⟩) hS.2.2 hd C0.2.2.2.2.2.2.2.2.1
theorem z_aret {rt : FieldType} {v : Value} (hrt : hd9.2.2.2.1 = some rt) (hk : (∃ n, rt = .object n) ∨ ∃ t, rt = .array t) (hv : v = .null ∨ ∃ a, v = .ref a) (hd : decode hd9.2.1 pc = .ok (.areturn, 1)) (hq : Qn (some v) h) : zR G l (zMJ G hd9 d Qn Qx mc ms) bc bs h pc ls [v] := by
  intro p e s m args below meth c H locs cells slots ls0 C0 hP hS hL h1 h2
  have e1 : cells ≤ mc := by have : cells + bc ≤ mc := h1; omega
  have e2 : slots ≤ ms := by have : slots + bs ≤ ms := h2; omega
  refine vx_ret (W.widen (k := mc) (n := ms) e1 e2 ?_)
  exact W.aret (v := v) C0.1 C0.2.1 (C0.2.2.2.1.trans hrt) hk hv (fun t ht hW => ⟨_, h, rfl, hq, by rw [ht]; exact hP, hS.F ht⟩) hS.2.2 hd C0.2.2.2.2.2.2.2.2.1
/-- it goes on to the caller -/
theorem z_out {E : String} (ht : hd9.2.2.2.2.1 = []) (hq : Qx E h) : zT G l (zMJ G hd9 d Qn Qx mc ms) bc bs h E pc ls := by
  intro p e s m args below meth c H locs cells slots ls0 q ce rest C0 hP hS hL h1 h2 hq9 hv hcl
  refine vx_out (fun x hx => ?_) C0.2.2.2.2.2.2.2.2.1 hq9 hv hcl (fun t ht9 hA => ⟨h, hq, by rw [ht9]; exact hP, hS.F ht9⟩) hS.2.2 (by have : cells + bc ≤ mc := h1; omega) (by have : slots + bs ≤ ms := h2; omega)
  rw [C0.2.2.2.2.1] at hx
  have h9 : tableOf hd9.2.2.2.2.1 = [] := by rw [ht]; rfl
  exact absurd (h9 ▸ hx) (by simp)
/-- throw new E("text") -/
theorem z_throw {ik is ic : Nat} {E text : String} {names : List String} (hE : Bundle.fit E = true) (hnm : ∀ n ∈ names, Bundle.fit n = true) (hw : Cond.classLink hd9.1 ik E ∈ zWS) (hini : Cond.initialized E ∈ zWS) (htx : (hd9.1, is, text) ∈ zTexts) (hat : ∀ w ∈ vx_atS hd9.1 ic E names, w ∈ lw_tbl) (hgd : ∀ w ∈ vx_atS hd9.1 ic E names, goodWord w = true ∨ zIsN w = true)
    (hot : ∀ w ∈ Cond.classLink hd9.1 ik E :: Cond.initialized E :: vx_atS hd9.1 ic E names, vx_ot w = true) (ht : hd9.2.2.2.2.1 = [])
    (d0 : decode hd9.2.1 pc = .ok (.new ik, 3)) (d3 : decode hd9.2.1 (pc + 3) = .ok (.dup, 1)) (d4 : decode hd9.2.1 (pc + 4) = .ok (.ldc is, 2)) (d6 : decode hd9.2.1 (pc + 6) = .ok (.invokespecial ic, 3)) (d9 : decode hd9.2.1 (pc + 9) = .ok (.athrow, 1))
    (hfr : names.length + 3 < d) (hlo : (st.map fun v => v.category).sum + (13 * (names.length + 1) + 43) ≤ d * 64) (hb1 : 1 ≤ bc) (hb2 : 6 ≤ bs) (hq : Qx E h) : zR G l (zMJ G hd9 d Qn Qx mc ms) bc bs h pc ls st := by
  intro p e s m args below meth c H locs cells slots ls0 C0 hP hS hL h1 h2
  have hts := C0.2.2.2.2.2.2.2.1
  have hZ := C0.2.2.2.2.2.2.2.2.2.1
  have g1 : cells + bc ≤ mc := h1
  have g2 : slots + bs ≤ ms := h2
  obtain ⟨sa, hsa⟩ := hZ.2.2.2.1 _ htx
  refine vx_throwS (sa := sa) (names := names) (text := text) C0.1 C0.2.1 C0.2.2.2.2.2.2.2.2.2.2.1 C0.2.2.2.2.2.2.1 hE hnm (hts _ hw) (hts _ hini) hsa (fun w hw9 => ?_) hot hZ.2.2.2.2.2.1 hZ.2.2.2.2.2.2.1 hS (hL.1.trans C0.2.2.1.symm) d0 d3 d4 d6 d9 (fun x hx => ?_) hfr hlo (by show cells + 1 ≤ mc; omega) (by show slots + 6 ≤ ms; omega) C0.2.2.2.2.2.2.2.2.1 (fun t hA hz hk => ⟨h, hq, hP.keep hz hk, ?_⟩) hS.2.2 (by omega) (by omega)
  · rcases hgd w hw9 with q | q
    · exact hts _ (List.mem_filter.mpr ⟨hat w hw9, q⟩)
    · have h9 := hZ.2.2.1 w (List.mem_filter.mpr ⟨hat w hw9, q⟩)
      cases w <;> first | exact va_Nw.use rfl h9 | (simp [zIsN] at q)
  · rw [C0.2.2.2.2.1] at hx
    have h9 : tableOf hd9.2.2.2.2.1 = [] := by rw [ht]; rfl
    exact absurd (h9 ▸ hx) (by simp)
  · exact ⟨Nat.le_trans hS.1 hz, fun q q1 q2 => (hk q (Nat.lt_of_lt_of_le q1 hS.1)).trans (hS.2.1 q q1 q2)⟩
end ZD
section ZTW
variable {G : zG} {l : Launch} {bc bs : Nat} {h : zHp} {pc : Nat} {ls : List (Option Value)} {st : List Value} {hd9 : zHd} {d mc ms : Nat} {Qn : Option Value → zHp → Prop} {Qx : String → zHp → Prop}
/-- .. the text by a wide index -/
theorem z_throwW {ik is ic : Nat} {E text : String} {names : List String} (hE : Bundle.fit E = true) (hnm : ∀ n ∈ names, Bundle.fit n = true) (hw : Cond.classLink hd9.1 ik E ∈ zWS) (hini : Cond.initialized E ∈ zWS) (htx : (hd9.1, is, text) ∈ zTexts) (hat : ∀ w ∈ vx_atS hd9.1 ic E names, w ∈ lw_tbl) (hgd : ∀ w ∈ vx_atS hd9.1 ic E names, goodWord w = true ∨ zIsN w = true)
    (hot : ∀ w ∈ Cond.classLink hd9.1 ik E :: Cond.initialized E :: vx_atS hd9.1 ic E names, vx_ot w = true) (ht : hd9.2.2.2.2.1 = [])
    (d0 : decode hd9.2.1 pc = .ok (.new ik, 3)) (d3 : decode hd9.2.1 (pc + 3) = .ok (.dup, 1)) (d4 : decode hd9.2.1 (pc + 4) = .ok (.ldc_w is, 3)) (d7 : decode hd9.2.1 (pc + 7) = .ok (.invokespecial ic, 3)) (d10 : decode hd9.2.1 (pc + 10) = .ok (.athrow, 1))
    (hfr : names.length + 3 < d) (hlo : (st.map fun v => v.category).sum + (13 * (names.length + 1) + 43) ≤ d * 64) (hb1 : 1 ≤ bc) (hb2 : 6 ≤ bs) (hq : Qx E h) : zR G l (zMJ G hd9 d Qn Qx mc ms) bc bs h pc ls st := by
  intro p e s m args below meth c H locs cells slots ls0 C0 hP hS hL h1 h2
  have hts := C0.2.2.2.2.2.2.2.1
  have hZ := C0.2.2.2.2.2.2.2.2.2.1
  have g1 : cells + bc ≤ mc := h1
  have g2 : slots + bs ≤ ms := h2
  obtain ⟨sa, hsa⟩ := hZ.2.2.2.1 _ htx
  refine vx_throwSW (sa := sa) (names := names) (text := text) C0.1 C0.2.1 C0.2.2.2.2.2.2.2.2.2.2.1 C0.2.2.2.2.2.2.1 hE hnm (hts _ hw) (hts _ hini) hsa (fun w hw9 => ?_) hot hZ.2.2.2.2.2.1 hZ.2.2.2.2.2.2.1 hS (hL.1.trans C0.2.2.1.symm) d0 d3 d4 d7 d10 (fun x hx => ?_) hfr hlo (by show cells + 1 ≤ mc; omega) (by show slots + 6 ≤ ms; omega) C0.2.2.2.2.2.2.2.2.1 (fun t hA hz hk => ⟨h, hq, hP.keep hz hk, ?_⟩) hS.2.2 (by omega) (by omega)
  · rcases hgd w hw9 with q | q
    · exact hts _ (List.mem_filter.mpr ⟨hat w hw9, q⟩)
    · have h9 := hZ.2.2.1 w (List.mem_filter.mpr ⟨hat w hw9, q⟩)
      cases w <;> first | exact va_Nw.use rfl h9 | (simp [zIsN] at q)
  · rw [C0.2.2.2.2.1] at hx
    have h9 : tableOf hd9.2.2.2.2.1 = [] := by rw [ht]; rfl
    exact absurd (h9 ▸ hx) (by simp)
  · exact ⟨Nat.le_trans hS.1 hz, fun q q1 q2 => (hk q (Nat.lt_of_lt_of_le q1 hS.1)).trans (hS.2.1 q q1 q2)⟩
end ZTW
end
