/-! ===== strings: the JDK's own methods; constants and tables stand below the first free cell, their addresses at places 7 to 12 of G.2.1 ===== -/
set_option maxRecDepth 40000 in
theorem ws_acn : Cond.native arraycopyName ∈ zWS := (zin_of zc1 (i := 229) rfl rfl)
set_option maxRecDepth 40000 in
theorem ws_acs : Cond.static arraycopyName ∈ zWS := (zin_of zc1 (i := 228) rfl rfl)
set_option maxRecDepth 40000 in
theorem ws_sys : Cond.initialized "java/lang/System" ∈ zWS := (zin_of zc1 (i := 19) rfl rfl)
set_option maxRecDepth 40000 in
theorem ws_cln : Cond.native ⟨"java/lang/Object", "clone", "()Ljava/lang/Object;"⟩ ∈ zWS := (zin_of zc1 (i := 219) rfl rfl)
set_option maxRecDepth 40000 in
theorem ws_cli : Cond.instanceMethod ⟨"java/lang/Object", "clone", "()Ljava/lang/Object;"⟩ ∈ zWS := (zin_of zc1 (i := 220) rfl rfl)
set_option maxRecDepth 40000 in
theorem ws_cls : Cond.sameMethod "[B" "java/lang/Object" "clone" "()Ljava/lang/Object;" ∈ zWS := (zin_of zc1 (i := 218) rfl rfl)
set_option maxRecDepth 40000 in
theorem ws_clx : Cond.selects "[B" ⟨"[B", "clone", "()Ljava/lang/Object;"⟩ ⟨"java/lang/Object", "clone", "()Ljava/lang/Object;"⟩ ∈ zWS := (zin_of zc1 (i := 221) rfl rfl)
set_option maxRecDepth 40000 in
theorem ws_clc : Cond.castable "[B" "java/lang/Cloneable" ∈ zNW := (zinN_of zc1 (i := 222) rfl rfl)
section STR0
variable {G : zG} {l : Launch} {h h' : zHp} {J : zJ} {bc bs pc : Nat} {ls : List (Option Value)} {st : List Value}
theorem zS.sj {U : State} {H : Heap} (hZ : zS G U H) : zSJ G U H := hZ.2.2.2.2.2.2.2.2.2.2
theorem z_gets {i : Nat} {C n d : String} {v : Value} (hZ : ∀ U H, zS G U H → va_Z C n d v (zA G) U H) (hw : Cond.fieldLink J.1.1 i C n d ∈ zWS) (hd : decode J.1.2.1 pc = .ok (.getstatic i, 3)) (kk : zR G l J bc bs h (pc + 3) ls (v :: st)) : zR G l J bc bs h pc ls st := by
  intro p e s m args below meth c H locs cells slots ls0 C0 hP hS hL h1 h2
  exact va_gets C0.1 C0.2.1 (hZ _ _ C0.2.2.2.2.2.2.2.2.2.1) hS C0.2.2.2.2.2.2.1 (C0.2.2.2.2.2.2.2.1 _ hw) (fun _ h => h) hd (kk p e s m args below meth c H locs cells slots ls0 C0 hP hS hL h1 h2)
theorem zZcs : ∀ U H, zS G U H → va_Z "java/lang/String" "COMPACT_STRINGS" "Z" (zi 1) (zA G) U H := fun _ _ hZ => hZ.sj.1
theorem zZd1 : ∀ U H, zS G U H → va_Z "java/lang/Integer" "DigitOnes" "[B" (.ref (G.2.1 11)) (zA G) U H := fun _ _ hZ => hZ.sj.2.2.1.choose_spec.1
theorem zZd2 : ∀ U H, zS G U H → va_Z "java/lang/Integer" "DigitTens" "[B" (.ref (G.2.1 12)) (zA G) U H := fun _ _ hZ => hZ.sj.2.2.2.1.choose_spec.1
/-- a constant text -/
theorem z_ldcT {i q : Nat} {tx : String} (hZ : ∀ U H, zS G U H → vk_R J.1.1 i tx q U) (hd : decode J.1.2.1 pc = .ok (.ldc i, 2)) (kk : zR G l J bc bs h (pc + 2) ls (.ref q :: st)) : zR G l J bc bs h pc ls st := by
  intro p e s m args below meth c H locs cells slots ls0 C0 hP hS hL h1 h2
  exact va_ldcS C0.1 C0.2.1 C0.2.2.2.2.2.2.1 (hZ _ _ C0.2.2.2.2.2.2.2.2.2.1) hd (kk p e s m args below meth c H locs cells slots ls0 C0 hP hS hL h1 h2)
theorem zRe : ∀ U H, zS G U H → vk_R "CursorlistModel" zkE "" (G.2.1 7) U := fun _ _ hZ => hZ.sj.2.2.2.2.1.choose_spec.1
theorem zRb : ∀ U H, zS G U H → vk_R "CursorlistModel" zkB " " (G.2.1 9) U := fun _ _ hZ => hZ.sj.2.2.2.2.2.1.choose_spec.1
/-- a constant's field -/
theorem z_getO {i q : Nat} {o n d : String} {v : Value} (hZ : ∀ U H, zS G U H → va_OF o n d v q (zA G) U H) (hw : Cond.fieldLink J.1.1 i o n d ∈ zWS) (hd : decode J.1.2.1 pc = .ok (.getfield i, 3)) (kk : zR G l J bc bs h (pc + 3) ls (v :: st)) : zR G l J bc bs h pc ls (.ref q :: st) := by
  intro p e s m args below meth c H locs cells slots ls0 C0 hP hS hL h1 h2
  exact vk_getf C0.1 C0.2.1 (hZ _ _ C0.2.2.2.2.2.2.2.2.2.1) hS C0.2.2.2.2.2.2.1 (C0.2.2.2.2.2.2.2.1 _ hw) (fun _ h => h) hd (kk p e s m args below meth c H locs cells slots ls0 C0 hP hS hL h1 h2)
theorem zOc (b : Bool) : ∀ U H, zS G U H → va_OF "java/lang/String" "coder" "B" (zi 0) (G.2.1 (if b then 7 else 9)) (zA G) U H := fun _ _ hZ => by
  cases b
  · exact hZ.sj.2.2.2.2.2.1.choose_spec.2.2.1
  · exact hZ.sj.2.2.2.2.1.choose_spec.2.2.1
theorem zOv (b : Bool) : ∀ U H, zS G U H → va_OF "java/lang/String" "value" "[B" (.ref (G.2.1 (if b then 8 else 10))) (G.2.1 (if b then 7 else 9)) (zA G) U H := fun _ _ hZ => by
  cases b
  · exact hZ.sj.2.2.2.2.2.1.choose_spec.2.2.2.1
  · exact hZ.sj.2.2.2.2.1.choose_spec.2.2.2.1
theorem zOt (b : Bool) : ∀ U H, zS G U H → ∃ f : Nat → Int32, va_T .byte (G.2.1 (if b then 8 else 10)) (if b then 0 else 1) (fun j => .int (f j)) (zA G) U H ∧ ∀ j : Nat, j < (if b then 0 else 1) → f j = 32 := fun _ _ hZ => by
  cases b
  · exact ⟨_, hZ.sj.2.2.2.2.2.1.choose_spec.2.2.2.2⟩
  · exact ⟨_, hZ.sj.2.2.2.2.1.choose_spec.2.2.2.2⟩
theorem zOo (b : Bool) : ∀ U H, zS G U H → va_O "java/lang/String" (G.2.1 (if b then 7 else 9)) (zA G) U H := fun _ _ hZ => by
  cases b
  · exact hZ.sj.2.2.2.2.2.1.choose_spec.2.1
  · exact hZ.sj.2.2.2.2.1.choose_spec.2.1
/-- a table's length, an item of it -/
theorem z_alenO {N q : Nat} {ty : FieldType} (hZ : ∀ U H, zS G U H → ∃ f, va_T ty q N f (zA G) U H) (hd : decode J.1.2.1 pc = .ok (.arraylength, 1)) (kk : zR G l J bc bs h (pc + 1) ls (zi (N : Int) :: st)) : zR G l J bc bs h pc ls (.ref q :: st) := by
  intro p e s m args below meth c H locs cells slots ls0 C0 hP hS hL h1 h2
  obtain ⟨f, hT⟩ := hZ _ _ C0.2.2.2.2.2.2.2.2.2.1
  exact va_tlen C0.1 C0.2.1 hT hS (zI_nat N) hd (kk p e s m args below meth c H locs cells slots ls0 C0 hP hS hL h1 h2)
theorem z_baldO {N q : Nat} {i : Int} (hZ : ∀ U H, zS G U H → ∃ f : Nat → Int32, va_T .byte q N (fun j => .int (f j)) (zA G) U H) (hi : 0 ≤ i ∧ i < N ∧ i < 2147483648) (hd : decode J.1.2.1 pc = .ok (.baload, 1)) (kk : ∀ x : Int, zR G l J bc bs h (pc + 1) ls (zi x :: st)) : zR G l J bc bs h pc ls (zi i :: .ref q :: st) := by
  intro p e s m args below meth c H locs cells slots ls0 C0 hP hS hL h1 h2
  obtain ⟨f, hT⟩ := hZ _ _ C0.2.2.2.2.2.2.2.2.2.1
  refine va_tb C0.1 C0.2.1 hT hS (zI_in hi.1 hi.2.1 hi.2.2) rfl hd ?_
  have k9 := kk (f (zI i).toNatClampNeg).toInt p e s m args below meth c H locs cells slots ls0 C0 hP hS hL h1 h2
  rw [zi, zI_of] at k9
  exact k9
theorem zTd1 : ∀ U H, zS G U H → ∃ f : Nat → Int32, va_T .byte (G.2.1 11) 100 (fun j => .int (f j)) (zA G) U H := fun _ _ hZ => ⟨_, hZ.sj.2.2.1.choose_spec.2⟩
theorem zTd2 : ∀ U H, zS G U H → ∃ f : Nat → Int32, va_T .byte (G.2.1 12) 100 (fun j => .int (f j)) (zA G) U H := fun _ _ hZ => ⟨_, hZ.sj.2.2.2.1.choose_spec.2⟩
/-- bytes -/
abbrev zFit (f : Nat → Int) : Prop := ∀ j, fits .byte (zi (f j)) = true
theorem zFit_0 : zFit (fun _ => 0) := fun _ => rfl
theorem zFit_cpy {f g : Nat → Int} {sp dp n : Nat} (hf : zFit f) (hg : zFit g) : zFit (va_cpy f g sp dp n) := fun j => by
  unfold va_cpy
  split
  · exact hf _
  · exact hg _
theorem zFit_up {f : Nat → Int} {k : Nat} {x : Int} (hf : zFit f) (hx : fits .byte (zi x) = true) : zFit (zup f k x) := fun j => by
  unfold zup
  split
  · exact hx
  · exact hf _
theorem z_newB {n : Nat} {bc' bs' : Nat} {m : Int} (hm : m = n) (hd : decode J.1.2.1 pc = .ok (.newarray .byte, 2)) (hn : n ≤ 100000) (hb1 : bc' + 1 ≤ bc) (hb2 : bs' + n ≤ bs)
    (kk : ∀ (q : Nat) (h1 : zHp), zDm h q → G.2.2 ≤ q → h1 q = some (zBytes G n (fun _ => 0)) → (∀ x, x ≠ q → h1 x = h x) → zR G l J bc' bs' h1 (pc + 2) ls (.ref q :: st)) : zR G l J bc bs h pc ls (zi m :: st) := by
  subst hm
  refine z_newa (at9 := .byte) (ty := .byte) (t := 2) (x := .inl (fun _ => zI 0)) rfl trivial rfl ac_byte (fun cA => by rw [vp_cell_i]; rfl) ⟨by omega, by rw [Int.toNat_natCast]; show n * 1 ≤ 536870912; omega, by omega⟩ hd hb1 (by rw [Int.toNat_natCast]; exact hb2) (fun q hq hg => ?_)
  rw [Int.toNat_natCast]
  exact kk q _ hq hg (zup_same _ _ _) (fun x hx => zup_ne hx)
theorem z_alenB {a n : Nat} {f : Nat → Int} (hd : decode J.1.2.1 pc = .ok (.arraylength, 1)) (hh : h a = some (zBytes G n f)) (kk : zR G l J bc bs h (pc + 1) ls (zi (n : Int) :: st)) : zR G l J bc bs h pc ls (.ref a :: st) := z_alen (i := 2) rfl hd hh kk
end STR0
