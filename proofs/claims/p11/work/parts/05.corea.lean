/-! ===== statics of the JDK that the walked members read ===== -/
def va_AOA (t : FieldType) (U : State) : Prop := (Cond.arrayOver (.array t)).before #[] U = true
theorem va_AOA.use {t : FieldType} {A : Array Value} {U : State} (h : va_AOA t U) : (Cond.arrayOver (.array t)).before A U = true := h
theorem va_AOA.spec {t : FieldType} {U : State} (h : va_AOA t U) : ∃ comp c k, U.vm.findClass (FieldType.array t).toString = some comp ∧ (U.vm.classes.findIdx? fun (x : Class) => match x.kind with | .array component _ => component == comp | _ => false) = some c ∧ U.vm.classes[c]? = some k ∧ k.kind = .array comp (.array t) ∧ U.vm.findClass ("[" ++ (FieldType.array t).toString) = some c := by
  unfold va_AOA Cond.before at h
  simp only [Cond.holds, Cond.value, beq_iff_eq] at h
  cases hc : U.vm.findClass (FieldType.array t).toString with
  | none => simp [hc] at h
  | some comp =>
    simp only [hc, Option.bind_some, Option.bind_eq_some_iff, Option.map_eq_some_iff] at h
    obtain ⟨c, hi, k, hk, hb⟩ := h
    obtain ⟨hlt, hp, -⟩ := Array.findIdx?_eq_some_iff_getElem.mp hi
    have hkk : U.vm.classes[c] = k := (Array.getElem?_eq_some_iff.mp hk).2
    rw [hkk] at hp
    cases hkind : k.kind with
    | array component ty =>
      rw [hkind] at hb hp
      simp at hb hp
      exact ⟨comp, c, k, rfl, hi, hk, by rw [hkind, hp, hb.1], hb.2⟩
    | _ => rw [hkind] at hb; simp at hb
theorem zAOA_moved {t : FieldType} {u U : State} (hvm : u.vm.Alike U.vm) (h : va_AOA t u) : va_AOA t U := by
  obtain ⟨comp, c, k, h1, h2, h3, h4, h5⟩ := h.spec
  obtain ⟨k', hk', he⟩ := hvm.2.2 _ _ h3
  have hi : (U.vm.classes.findIdx? fun (x : Class) => match x.kind with | .array component _ => component == comp | _ => false) = some c := by
    have e1 := va_idx_bare U.vm comp
    have e2 := va_idx_bare u.vm comp
    have e3 : u.vm.bare = U.vm.bare := by first | exact hvm.bare_eq | exact hvm.bare_eq.symm
    rw [e3] at e2
    exact (e1.symm.trans e2).trans h2
  have hkind : k'.kind = .array comp (.array t) := by rw [he]; exact h4
  have f1 : U.vm.findClass (FieldType.array t).toString = some comp := by rw [hvm.findClass]; exact h1
  have f2 : U.vm.findClass ("[" ++ (FieldType.array t).toString) = some c := by rw [hvm.findClass]; exact h5
  unfold va_AOA Cond.before Cond.holds
  simp only [Cond.value]
  rw [f1, Option.bind_some]
  refine (congrArg (fun o : Option Nat => (o.bind (fun c => (U.vm.classes[c]?).map fun (k : Class) => match k.kind with | .array _ ty => decide (ty = FieldType.array t) && decide (U.vm.findClass ("[" ++ (FieldType.array t).toString) = some c) | _ => false) == some true)) hi).trans ?_
  simp [hk', hkind, f2]
abbrev zStr (G : (va_G × (Nat → ClassId) × Nat)) (k : Nat) (tx : String) (i n : Nat) (U : State) (H : Heap) : Prop := ∃ (f : Nat → Int32), vk_R "CursorlistModel" k tx (G.2.1 i) U ∧ va_O "java/lang/String" (G.2.1 i) (fun q => G.2.2 ≤ q) U H ∧ va_OF "java/lang/String" "coder" "B" (.int 0) (G.2.1 i) (fun q => G.2.2 ≤ q) U H ∧ va_OF "java/lang/String" "value" "[B" (.ref (G.2.1 (i + 1))) (G.2.1 i) (fun q => G.2.2 ≤ q) U H ∧ va_T .byte (G.2.1 (i + 1)) n (fun j => .int (f j)) (fun q => G.2.2 ≤ q) U H ∧ (∀ j : Nat, j < n → f j = 32)
/-- private methods of StringBuilder's superclass -/
abbrev zSbP : List MethodName := [yAsb_ensureCapacityInternal_d00df, yAsb_newCapacity_0f7a4, yAsb_inflate_da8c8, yAsb_appendNull_278bc, yAsb_inflateIfNeededFor_a7421, yAsb_putStringAt_47b60]
def zSJ (G : (va_G × (Nat → ClassId) × Nat)) (U : State) (H : Heap) : Prop :=
  va_Z "java/lang/String" "COMPACT_STRINGS" "Z" (.int 1) (fun q => G.2.2 ≤ q) U H ∧
  va_Zq "jdk/internal/util/Preconditions" "SIOOBE_FORMATTER" "Ljava/util/function/BiFunction;" (fun q => G.2.2 ≤ q) U H ∧
  (∃ (f : Nat → Int32), va_Z "java/lang/Integer" "DigitOnes" "[B" (.ref (G.2.1 11)) (fun q => G.2.2 ≤ q) U H ∧ va_T .byte (G.2.1 11) 100 (fun j => .int (f j)) (fun q => G.2.2 ≤ q) U H) ∧
  (∃ (f : Nat → Int32), va_Z "java/lang/Integer" "DigitTens" "[B" (.ref (G.2.1 12)) (fun q => G.2.2 ≤ q) U H ∧ va_T .byte (G.2.1 12) 100 (fun j => .int (f j)) (fun q => G.2.2 ≤ q) U H) ∧
  zStr G zkE "" 7 0 U H ∧ zStr G zkB " " 9 1 U H ∧ (∀ y ∈ zSbP, (Cond.selects "java/lang/StringBuilder" y y).before #[] U = true)
theorem zStr.go {G : (va_G × (Nat → ClassId) × Nat)} {k i n : Nat} {tx : String} {s U : State} {H H1 : Heap} (hW : s.WarmedH U.vm) (hq : ∀ a : Nat, a < H.size → ¬ G.2.2 ≤ a → H1[a]? = H[a]?) (h : zStr G k tx i n s H) : zStr G k tx i n U H1 := by
  obtain ⟨f, h1, h2, h3, h4, h5, h6⟩ := h
  exact ⟨f, h1.warm hW, (va_O.moved hW.alike h2).kept hq, (va_OF.moved hW.alike h3).kept hq, (va_OF.moved hW.alike h4).kept hq, (va_T.moved hW.alike h5).kept hq, h6⟩
theorem zSJ.go {G : (va_G × (Nat → ClassId) × Nat)} {s U : State} {H H1 : Heap} (hW : s.WarmedH U.vm) (hq : ∀ a : Nat, a < H.size → ¬ G.2.2 ≤ a → H1[a]? = H[a]?) (h : zSJ G s H) : zSJ G U H1 := by
  obtain ⟨h1, h2, ⟨f1, a1, b1⟩, ⟨f2, a2, b2⟩, h5, h6, h7⟩ := h
  exact ⟨(va_Z.moved hW.alike h1).kept hq, (va_Zq.moved hW.alike h2).kept hq, ⟨f1, (va_Z.moved hW.alike a1).kept hq, (va_T.moved hW.alike b1).kept hq⟩, ⟨f2, (va_Z.moved hW.alike a2).kept hq, (va_T.moved hW.alike b2).kept hq⟩, h5.go hW hq, h6.go hW hq, fun y hy => word_at hW (Or.inl (by first | rfl | simp [Cond.onTables, Cond.keeps, Cond.steady])) (h7 y hy)⟩

/-! THE WALK OVER ABSTRACT HEAPS. A heap is a function from addresses to cells (va_E); zR: the machine at pc with these locals and this stack over this heap comes to its end. Each row is a row of the kit. -/
abbrev zG : Type := va_G × (Nat → ClassId) × Nat
abbrev zHp : Type := Nat → Option va_E
/-- the method: its class, its bytes, its locals, what it returns, its table, whether it is a constructor -/
abbrev zHd : Type := String × ByteArray × Nat × Option FieldType × List (Nat × Nat × Nat × Nat) × Bool
abbrev zJ : Type := zHd × Room × (List Frame → Array Value → State → State → Prop) × (Array Value → State → Prop)
def zI (n : Int) : Int32 := Int32.ofInt n
def zL (n : Int) : Int64 := Int64.ofInt n
abbrev zi (n : Int) : Value := .int (zI n)
abbrev zl (n : Int) : Value := .long (zL n)
def zA (G : zG) : Nat → Prop := fun q => G.2.2 ≤ q
def zTys (G : zG) : List (ClassId × FieldType) := [(G.2.1 0, .int), (G.2.1 1, .boolean), (G.2.1 2, .byte), (G.2.1 3, .long), (G.2.1 4, .array .int), (G.2.1 5, .object "Cursorlist$Row"), (G.2.1 6, .object "Cursorlist$Cursor")]
def zInts (G : zG) (n : Nat) (g : Nat → Int) : va_E := .inl (G.2.1 0, n, .inl (fun j => zI (g j)))
def zBools (G : zG) (n : Nat) (g : Nat → Int) : va_E := .inl (G.2.1 1, n, .inl (fun j => zI (g j)))
def zBytes (G : zG) (n : Nat) (g : Nat → Int) : va_E := .inl (G.2.1 2, n, .inl (fun j => zI (g j)))
def zLongs (G : zG) (n : Nat) (g : Nat → Int) : va_E := .inl (G.2.1 3, n, .inr (.inl (fun j => zL (g j))))
def zRefs (G : zG) (t n : Nat) (g : Nat → Option Nat) : va_E := .inl (G.2.1 t, n, .inr (.inr (.inr (.inr g))))
def zup {α : Type} (g : Nat → α) (k : Nat) (x : α) : Nat → α := fun j => if j = k then x else g j
def zRel (G : zG) (h : zHp) (H : Heap) : Prop := G.2.2 ≤ H.size ∧ ∀ (a : Nat) (e : va_E), h a = some e → G.2.2 ≤ a ∧ va_at G.1 vwCl (a, e) H
/-- the good words of the tables -/
def zWS : List Cond := lw_tbl.filter goodWord
/-- words that the tables alone decide, which stay as the machine warms -/
def zIsN : Cond → Bool
  | .fieldLinkNest _ _ _ _ _ _ => true
  | .methodLinkNest _ _ _ _ => true
  | .castable _ _ => true
  | .declares _ => true
  | _ => false
def zNW : List Cond := lw_tbl.filter zIsN
theorem zNw_warm {w : Cond} {s U : State} (hn : zIsN w = true) (hW : s.WarmedH U.vm) (h : va_Nw w s) : va_Nw w U := by
  cases w <;> first | exact va_Nw.warmF hW h | exact va_Nw.warmM hW h | exact va_Nw.warmC hW h | exact va_Nw.warmD hW h | (simp [zIsN] at hn)
/-- what stands below the first free cell, and what the tables say of the arrays' classes -/
def zAA (G : zG) (U : State) : Prop := ∃ (kA kI : Class) (cI : ClassId), U.vm.classes[G.2.1 4]? = some kA ∧ kA.kind = .array (G.2.1 0) (.array .int) ∧ U.vm.classes[G.2.1 0]? = some kI ∧ kI.kind = .array cI .int
theorem zAA.moved {G : zG} {u U : State} (hvm : u.vm.Alike U.vm) (h : zAA G u) : zAA G U := by
  obtain ⟨kA, kI, cI, h1, h2, h3, h4⟩ := h
  obtain ⟨kA', g1, e1⟩ := hvm.2.2 _ _ h1
  obtain ⟨kI', g2, e2⟩ := hvm.2.2 _ _ h3
  exact ⟨kA', kI', cI, g1, by rw [e1]; exact h2, g2, by rw [e2]; exact h4⟩
def zS (G : zG) (U : State) (H : Heap) : Prop :=
  va_K G.1 vwCl (zTys G) U ∧ zAA G U ∧ (∀ w ∈ zNW, va_Nw w U) ∧
  (∀ q ∈ zTexts, ∃ sa, vk_R q.1 q.2.1 q.2.2 sa U) ∧ (∀ q ∈ zNcs, va_Nc q.1 q.2 U) ∧
  vx_Zq Bundle.tN "UNASSIGNED_STACK" Bundle.steD (zA G) U H ∧ vx_Zq Bundle.tN "SUPPRESSED_SENTINEL" Bundle.listD (zA G) U H ∧
  va_AO "Cursorlist$Row" U ∧ va_AO "Cursorlist$Cursor" U ∧ va_AOA .int U ∧ zSJ G U H
theorem zS.go {G : zG} {s U : State} {H H1 : Heap} (hW : s.WarmedH U.vm) (hq : ∀ a : Nat, a < H.size → ¬ zA G a → H1[a]? = H[a]?) (h : zS G s H) : zS G U H1 := by
  obtain ⟨h1, h2, h3, h4, h5, h6, h7, h8, h9, h10, h11⟩ := h
  refine ⟨va_K.moved hW.alike h1, h2.moved hW.alike, fun w hw => zNw_warm (List.mem_filter.mp hw).2 hW (h3 w hw), fun q hq => ?_, fun q hq => va_Nc.moved hW.alike (h5 q hq), (h6.moved hW.alike).kept hq, (h7.moved hW.alike).kept hq, h8.moved hW.alike, h9.moved hW.alike, zAOA_moved hW.alike h10, h11.go hW hq⟩
  obtain ⟨sa, e⟩ := h4 q hq
  exact ⟨sa, e.warm hW⟩
def zPl : Nat → List (Option Value) → List (Nat × Value)
  | _, [] => []
  | k, none :: t => zPl (k + 1) t
  | k, some v :: t => (k, v) :: zPl (k + 1) t
theorem zPl_mem : ∀ (ls : List (Option Value)) (k : Nat) (q : Nat × Value), q ∈ zPl k ls ↔ ∃ j, ls[j]? = some (some q.2) ∧ q.1 = k + j
  | [], k, q => by simp [zPl]
  | none :: t, k, q => by
    rw [zPl, zPl_mem t (k + 1) q]
    constructor
    · rintro ⟨j, h1, h2⟩
      exact ⟨j + 1, by simpa using h1, by omega⟩
    · rintro ⟨j, h1, h2⟩
      cases j with
      | zero => simp at h1
      | succ j => exact ⟨j, by simpa using h1, by omega⟩
  | some v :: t, k, q => by
    rw [zPl, List.mem_cons, zPl_mem t (k + 1) q]
    constructor
    · rintro (rfl | ⟨j, h1, h2⟩)
      · exact ⟨0, by simp, by simp⟩
      · exact ⟨j + 1, by simpa using h1, by omega⟩
    · rintro ⟨j, h1, h2⟩
      cases j with
      | zero =>
        left
        obtain ⟨a, b⟩ := q
        simp at h1 h2
        rw [h1, h2]
      | succ j => exact Or.inr ⟨j, by simpa using h1, by omega⟩
def zLs (ls0 : Array Slot) (nL : Nat) (ls : List (Option Value)) : Prop := lv_has ls0 nL (zPl 0 ls)
theorem zLs.at {ls0 : Array Slot} {nL i : Nat} {ls : List (Option Value)} {v : Value} (h : zLs ls0 nL ls) (hl : ls[i]? = some (some v)) : ls0[i]? = some (.val v) := h.2.2 (i, v) ((zPl_mem ls 0 (i, v)).mpr ⟨i, hl, by simp⟩)
/-- a store: what stood there goes, and a long whose second half it was -/
def zst1 (ls : List (Option Value)) (i : Nat) (v : Value) : List (Option Value) := match i with
  | 0 => ls.set 0 (some v)
  | k + 1 => match ls[k]? with
    | some (some (.long _)) => (ls.set k none).set (k + 1) (some v)
    | some (some (.double _)) => (ls.set k none).set (k + 1) (some v)
    | _ => ls.set (k + 1) (some v)
def zst2 (ls : List (Option Value)) (i : Nat) (v : Value) : List (Option Value) := (zst1 ls i v).set (i + 1) none
theorem zst1_sub {ls : List (Option Value)} {i : Nat} {v : Value} {q : Nat × Value} (h : q ∈ zPl 0 (zst1 ls i v)) : q = (i, v) ∨ (q ∈ zPl 0 ls ∧ q.1 ≠ i ∧ ¬ (q.1 + 1 = i ∧ q.2.category = 2)) := by
  obtain ⟨j, h1, h2⟩ := (zPl_mem _ _ _).mp h
  obtain ⟨a, b⟩ := q
  simp only [Nat.zero_add] at h1 h2
  subst h2
  have key : ∀ (l : List (Option Value)) (w : Option Value) (n : Nat), (l.set n w)[a]? = some (some b) → (a = n ∧ w = some b) ∨ (a ≠ n ∧ l[a]? = some (some b)) := by
    intro l w n hh
    by_cases e : a = n
    · subst e
      rw [List.getElem?_set] at hh
      simp at hh
      exact Or.inl ⟨rfl, hh.2⟩
    · rw [List.getElem?_set_ne (Ne.symm e)] at hh
      exact Or.inr ⟨e, hh⟩
  unfold zst1 at h1
  split at h1
  · rcases key _ _ _ h1 with ⟨e, e2⟩ | ⟨e, e2⟩
    · left; cases e2; rw [e]
    · exact Or.inr ⟨(zPl_mem _ _ _).mpr ⟨a, e2, by simp⟩, e, by omega⟩
  · rename_i k
    have other : ∀ (l : List (Option Value)), (∀ x, l[a]? = some (some x) → a ≠ k + 1 → ls[a]? = some (some x) ∧ ¬ (a = k ∧ x.category = 2)) → (l.set (k + 1) (some v))[a]? = some (some b) → (a, b) = (k + 1, v) ∨ ((a, b) ∈ zPl 0 ls ∧ (a, b).1 ≠ k + 1 ∧ ¬ ((a, b).1 + 1 = k + 1 ∧ (a, b).2.category = 2)) := by
      intro l hl hh
      rcases key _ _ _ hh with ⟨e, e2⟩ | ⟨e, e2⟩
      · left; cases e2; rw [e]
      · obtain ⟨g1, g2⟩ := hl b e2 e
        exact Or.inr ⟨(zPl_mem _ _ _).mpr ⟨a, g1, by simp⟩, e, fun z => g2 ⟨by have := z.1; simp at this; exact this, z.2⟩⟩
    split at h1
    · exact other _ (fun x hx hne => by
        rcases (show a = k ∨ a ≠ k by omega) with e | e
        · subst e
          rw [List.getElem?_set] at hx
          simp at hx
        · rw [List.getElem?_set_ne (Ne.symm e)] at hx
          exact ⟨hx, fun z => e z.1⟩) h1
    · exact other _ (fun x hx hne => by
        rcases (show a = k ∨ a ≠ k by omega) with e | e
        · subst e
          rw [List.getElem?_set] at hx
          simp at hx
        · rw [List.getElem?_set_ne (Ne.symm e)] at hx
          exact ⟨hx, fun z => e z.1⟩) h1
    · rename_i hn1 hn2
      refine other _ (fun x hx hne => ⟨hx, fun z => ?_⟩) h1
      obtain ⟨z1, z2⟩ := z
      subst z1
      cases x with
      | long y => exact hn1 y hx
      | double y => exact hn2 y hx
      | _ => simp [Value.category] at z2
theorem zLs.st1 {ls0 ls' : Array Slot} {nL i : Nat} {ls : List (Option Value)} {v : Value} (h' : lv_has ls' nL ((i, v) :: (zPl 0 ls).filter (fun q => !(q.1 == i) && !(q.1 + 1 == i && q.2.category == 2)))) : zLs ls' nL (zst1 ls i v) := by
  refine ⟨h'.1, h'.2.1, fun q hq => h'.2.2 q ?_⟩
  rcases zst1_sub hq with e | ⟨e1, e2, e3⟩
  · rw [e]; exact List.mem_cons_self
  · refine List.mem_cons_of_mem _ (List.mem_filter.mpr ⟨e1, ?_⟩)
    simp only [Bool.and_eq_true, Bool.not_eq_true', beq_eq_false_iff_ne, ne_eq, Bool.and_eq_false_imp, beq_iff_eq]
    exact ⟨e2, fun z1 z2 => e3 ⟨z1, z2⟩⟩
theorem zLs.st2 {ls0 ls' : Array Slot} {nL i : Nat} {ls : List (Option Value)} {v : Value} (h' : lv_has ls' nL ((i, v) :: (zPl 0 ls).filter (fun q => !(q.1 == i) && (!(q.1 == i + 1) && !(q.1 + 1 == i && q.2.category == 2))))) : zLs ls' nL (zst2 ls i v) := by
  refine ⟨h'.1, h'.2.1, fun q hq => h'.2.2 q ?_⟩
  obtain ⟨j, h1, h2⟩ := (zPl_mem _ _ _).mp hq
  simp only [Nat.zero_add] at h2
  have hne : j ≠ i + 1 := by
    intro e
    subst e
    unfold zst2 at h1
    rw [List.getElem?_set] at h1
    simp at h1
  have h3 : (zst1 ls i v)[j]? = some (some q.2) := by
    unfold zst2 at h1
    rw [List.getElem?_set_ne (Ne.symm hne)] at h1
    exact h1
  rcases zst1_sub ((zPl_mem _ 0 q).mpr ⟨j, h3, by simp [h2]⟩) with e | ⟨e1, e2, e3⟩
  · rw [e]; exact List.mem_cons_self
  · refine List.mem_cons_of_mem _ (List.mem_filter.mpr ⟨e1, ?_⟩)
    simp only [Bool.and_eq_true, Bool.not_eq_true', beq_eq_false_iff_ne, ne_eq, Bool.and_eq_false_imp, beq_iff_eq]
    exact ⟨e2, by omega, fun z1 z2 => e3 ⟨z1, z2⟩⟩
