section
/-! ===== strings: the JDK's own methods; constants and tables stand below the first free cell, their addresses at places 7 to 12 of G.2.1 ===== -/
set_option maxRecDepth 40000 in
theorem ws_acn : Cond.native arraycopyName ∈ zWS := (zin_of zc1 (i := 229) rfl rfl)
set_option maxRecDepth 40000 in
theorem ws_acs : Cond.static arraycopyName ∈ zWS := (zin_of zc1 (i := 228) rfl rfl)
set_option maxRecDepth 40000 in
theorem ws_sys : Cond.initialized "java/lang/System" ∈ zWS := (zin_of zc1 (i := 19) rfl rfl)
set_option maxRecDepth 40000 in
theorem ws_cln : Cond.native ⟨"java/lang/Object", "clone", "()Ljava/lang/Object;"⟩ ∈ zWS := (zin_of zc1 (i := 219) rfl rfl)
set_option maxRecDepth 40000 in
theorem ws_cli : Cond.instanceMethod ⟨"java/lang/Object", "clone", "()Ljava/lang/Object;"⟩ ∈ zWS := (zin_of zc1 (i := 220) rfl rfl)
set_option maxRecDepth 40000 in
theorem ws_cls : Cond.sameMethod "[B" "java/lang/Object" "clone" "()Ljava/lang/Object;" ∈ zWS := (zin_of zc1 (i := 218) rfl rfl)
set_option maxRecDepth 40000 in
theorem ws_clx : Cond.selects "[B" ⟨"[B", "clone", "()Ljava/lang/Object;"⟩ ⟨"java/lang/Object", "clone", "()Ljava/lang/Object;"⟩ ∈ zWS := (zin_of zc1 (i := 221) rfl rfl)
set_option maxRecDepth 40000 in
theorem ws_clc : Cond.castable "[B" "java/lang/Cloneable" ∈ zNW := (zinN_of zc1 (i := 222) rfl rfl)
section STR0
variable {G : zG} {l : Launch} {h h' : zHp} {J : zJ} {bc bs pc : Nat} {ls : List (Option Value)} {st : List Value}
theorem zS.sj {U : State} {H : Heap} (hZ : zS G U H) : zSJ G U H := hZ.2.2.2.2.2.2.2.2.2.2
theorem z_gets {i : Nat} {C n d : String} {v : Value} (hZ : ∀ U H, zS G U H → va_Z C n d v (zA G) U H) (hw : Cond.fieldLink J.1.1 i C n d ∈ zWS) (hd : decode J.1.2.1 pc = .ok (.getstatic i, 3)) (kk : zR G l J bc bs h (pc + 3) ls (v :: st)) : zR G l J bc bs h pc ls st := by
  intro p e s m args below meth c H locs cells slots ls0 C0 hP hS hL h1 h2
  exact va_gets C0.1 C0.2.1 (hZ _ _ C0.2.2.2.2.2.2.2.2.2.1) hS C0.2.2.2.2.2.2.1 (C0.2.2.2.2.2.2.2.1 _ hw) (fun _ h => h) hd (kk p e s m args below meth c H locs cells slots ls0 C0 hP hS hL h1 h2)
theorem zZcs : ∀ U H, zS G U H → va_Z "java/lang/String" "COMPACT_STRINGS" "Z" (zi 1) (zA G) U H := fun _ _ hZ => hZ.sj.1
theorem zZd1 : ∀ U H, zS G U H → va_Z "java/lang/Integer" "DigitOnes" "[B" (.ref (G.2.1 11)) (zA G) U H := fun _ _ hZ => hZ.sj.2.2.1.choose_spec.1
theorem zZd2 : ∀ U H, zS G U H → va_Z "java/lang/Integer" "DigitTens" "[B" (.ref (G.2.1 12)) (zA G) U H := fun _ _ hZ => hZ.sj.2.2.2.1.choose_spec.1
/-- a constant text -/
theorem z_ldcT {i q : Nat} {tx : String} (hZ : ∀ U H, zS G U H → vk_R J.1.1 i tx q U) (hd : decode J.1.2.1 pc = .ok (.ldc i, 2)) (kk : zR G l J bc bs h (pc + 2) ls (.ref q :: st)) : zR G l J bc bs h pc ls st := by
  intro p e s m args below meth c H locs cells slots ls0 C0 hP hS hL h1 h2
  exact va_ldcS C0.1 C0.2.1 C0.2.2.2.2.2.2.1 (hZ _ _ C0.2.2.2.2.2.2.2.2.2.1) hd (kk p e s m args below meth c H locs cells slots ls0 C0 hP hS hL h1 h2)
theorem zRe : ∀ U H, zS G U H → vk_R "CursorlistModel" zkE "" (G.2.1 7) U := fun _ _ hZ => hZ.sj.2.2.2.2.1.choose_spec.1
theorem zRb : ∀ U H, zS G U H → vk_R "CursorlistModel" zkB " " (G.2.1 9) U := fun _ _ hZ => hZ.sj.2.2.2.2.2.1.choose_spec.1
/-- a constant's field -/
theorem z_getO {i q : Nat} {o n d : String} {v : Value} (hZ : ∀ U H, zS G U H → va_OF o n d v q (zA G) U H) (hw : Cond.fieldLink J.1.1 i o n d ∈ zWS) (hd : decode J.1.2.1 pc = .ok (.getfield i, 3)) (kk : zR G l J bc bs h (pc + 3) ls (v :: st)) : zR G l J bc bs h pc ls (.ref q :: st) := by
  intro p e s m args below meth c H locs cells slots ls0 C0 hP hS hL h1 h2
  exact vk_getf C0.1 C0.2.1 (hZ _ _ C0.2.2.2.2.2.2.2.2.2.1) hS C0.2.2.2.2.2.2.1 (C0.2.2.2.2.2.2.2.1 _ hw) (fun _ h => h) hd (kk p e s m args below meth c H locs cells slots ls0 C0 hP hS hL h1 h2)
theorem zOc (b : Bool) : ∀ U H, zS G U H → va_OF "java/lang/String" "coder" "B" (zi 0) (G.2.1 (if b then 7 else 9)) (zA G) U H := fun _ _ hZ => by
  cases b
  · exact hZ.sj.2.2.2.2.2.1.choose_spec.2.2.1
  · exact hZ.sj.2.2.2.2.1.choose_spec.2.2.1
theorem zOv (b : Bool) : ∀ U H, zS G U H → va_OF "java/lang/String" "value" "[B" (.ref (G.2.1 (if b then 8 else 10))) (G.2.1 (if b then 7 else 9)) (zA G) U H := fun _ _ hZ => by
  cases b
  · exact hZ.sj.2.2.2.2.2.1.choose_spec.2.2.2.1
  · exact hZ.sj.2.2.2.2.1.choose_spec.2.2.2.1
theorem zOt (b : Bool) : ∀ U H, zS G U H → ∃ f : Nat → Int32, va_T .byte (G.2.1 (if b then 8 else 10)) (if b then 0 else 1) (fun j => .int (f j)) (zA G) U H ∧ ∀ j : Nat, j < (if b then 0 else 1) → f j = 32 := fun _ _ hZ => by
  cases b
  · exact ⟨_, hZ.sj.2.2.2.2.2.1.choose_spec.2.2.2.2⟩
  · exact ⟨_, hZ.sj.2.2.2.2.1.choose_spec.2.2.2.2⟩
theorem zOo (b : Bool) : ∀ U H, zS G U H → va_O "java/lang/String" (G.2.1 (if b then 7 else 9)) (zA G) U H := fun _ _ hZ => by
  cases b
  · exact hZ.sj.2.2.2.2.2.1.choose_spec.2.1
  · exact hZ.sj.2.2.2.2.1.choose_spec.2.1
/-- a table's length, an item of it -/
theorem z_alenO {N q : Nat} {ty : FieldType} (hZ : ∀ U H, zS G U H → ∃ f, va_T ty q N f (zA G) U H) (hd : decode J.1.2.1 pc = .ok (.arraylength, 1)) (kk : zR G l J bc bs h (pc + 1) ls (zi (N : Int) :: st)) : zR G l J bc bs h pc ls (.ref q :: st) := by
  intro p e s m args below meth c H locs cells slots ls0 C0 hP hS hL h1 h2
  obtain ⟨f, hT⟩ := hZ _ _ C0.2.2.2.2.2.2.2.2.2.1
  exact va_tlen C0.1 C0.2.1 hT hS (zI_nat N) hd (kk p e s m args below meth c H locs cells slots ls0 C0 hP hS hL h1 h2)
theorem z_baldO {N q : Nat} {i : Int} (hZ : ∀ U H, zS G U H → ∃ f : Nat → Int32, va_T .byte q N (fun j => .int (f j)) (zA G) U H) (hi : 0 ≤ i ∧ i < N ∧ i < 2147483648) (hd : decode J.1.2.1 pc = .ok (.baload, 1)) (kk : ∀ x : Int, zR G l J bc bs h (pc + 1) ls (zi x :: st)) : zR G l J bc bs h pc ls (zi i :: .ref q :: st) := by
  intro p e s m args below meth c H locs cells slots ls0 C0 hP hS hL h1 h2
  obtain ⟨f, hT⟩ := hZ _ _ C0.2.2.2.2.2.2.2.2.2.1
  refine va_tb C0.1 C0.2.1 hT hS (zI_in hi.1 hi.2.1 hi.2.2) rfl hd ?_
  have k9 := kk (f (zI i).toNatClampNeg).toInt p e s m args below meth c H locs cells slots ls0 C0 hP hS hL h1 h2
  rw [zi, zI_of] at k9
  exact k9
theorem zTd1 : ∀ U H, zS G U H → ∃ f : Nat → Int32, va_T .byte (G.2.1 11) 100 (fun j => .int (f j)) (zA G) U H := fun _ _ hZ => ⟨_, hZ.sj.2.2.1.choose_spec.2⟩
theorem zTd2 : ∀ U H, zS G U H → ∃ f : Nat → Int32, va_T .byte (G.2.1 12) 100 (fun j => .int (f j)) (zA G) U H := fun _ _ hZ => ⟨_, hZ.sj.2.2.2.1.choose_spec.2⟩
/-- bytes -/
abbrev zFit (f : Nat → Int) : Prop := ∀ j, fits .byte (zi (f j)) = true
theorem zFit_0 : zFit (fun _ => 0) := fun _ => rfl
theorem zFit_cpy {f g : Nat → Int} {sp dp n : Nat} (hf : zFit f) (hg : zFit g) : zFit (va_cpy f g sp dp n) := fun j => by
  unfold va_cpy
  split
  · exact hf _
  · exact hg _
theorem zFit_up {f : Nat → Int} {k : Nat} {x : Int} (hf : zFit f) (hx : fits .byte (zi x) = true) : zFit (zup f k x) := fun j => by
  unfold zup
  split
  · exact hx
  · exact hf _
theorem z_newB {n : Nat} {bc' bs' : Nat} {m : Int} (hm : m = n) (hd : decode J.1.2.1 pc = .ok (.newarray .byte, 2)) (hn : n ≤ 100000) (hb1 : bc' + 1 ≤ bc) (hb2 : bs' + n ≤ bs)
    (kk : ∀ (q : Nat) (h1 : zHp), zDm h q → G.2.2 ≤ q → h1 q = some (zBytes G n (fun _ => 0)) → (∀ x, x ≠ q → h1 x = h x) → zR G l J bc' bs' h1 (pc + 2) ls (.ref q :: st)) : zR G l J bc bs h pc ls (zi m :: st) := by
  subst hm
  refine z_newa (at9 := .byte) (ty := .byte) (t := 2) (x := .inl (fun _ => zI 0)) rfl trivial rfl ac_byte (fun cA => by rw [vp_cell_i]; rfl) ⟨by omega, by rw [Int.toNat_natCast]; show n * 1 ≤ 536870912; omega, by omega⟩ hd hb1 (by rw [Int.toNat_natCast]; exact hb2) (fun q hq hg => ?_)
  rw [Int.toNat_natCast]
  exact kk q _ hq hg (zup_same _ _ _) (fun x hx => zup_ne hx)
theorem z_alenB {a n : Nat} {f : Nat → Int} (hd : decode J.1.2.1 pc = .ok (.arraylength, 1)) (hh : h a = some (zBytes G n f)) (kk : zR G l J bc bs h (pc + 1) ls (zi (n : Int) :: st)) : zR G l J bc bs h pc ls (.ref a :: st) := z_alen (i := 2) rfl hd hh kk
end STR0
end
section
section STR1
variable {G : zG} {l : Launch} {h h' : zHp} {J : zJ} {bc bs pc : Nat} {ls : List (Option Value)} {st : List Value}
/-- System.arraycopy of bytes -/
theorem z_copyG {i a0 a n0 n1 : Nat} {f g : Nat → Int} {sp dp n : Nat} (hw : Cond.methodLink J.1.1 i arraycopyName ∈ zWS) (hd : decode J.1.2.1 pc = .ok (.invokestatic i, 3))
    (hsrc : ∀ (s : State) (H : Heap) (locs : List Loc), zS G s s.heap → zRel G h H → va_S (zA G) s.heap H locs → ∃ scr : Cell, H[a0]? = some scr ∧ s.isArrayOf scr .byte ∧ scr.vm ≠ .unknown ∧ n0 ≤ scr.slots.size ∧ ∀ j : Nat, j < n0 → scr.slots[j]? = some (zi (f j)))
    (ha : h a = some (zBytes G n1 g)) (hs : sp + n ≤ n0) (hdp : dp + n ≤ n1) (hlim : n0 < 2147483648 ∧ n1 < 2147483648) (hfit : ∀ j : Nat, j < n → fits .byte (zi (f (sp + j))) = true) (hfr : 1 ≤ J.2.1.frames) (hlo : (st.map fun v => v.category).sum + (nativeFrameWords "java/lang/System" "arraycopy" 5 + 11) ≤ J.2.1.locals)
    (kk : zR G l J bc bs (zup h a (some (zBytes G n1 (va_cpy f g sp dp n)))) (pc + 3) ls st) : zR G l J bc bs h pc ls (zi (n : Int) :: zi (dp : Int) :: .ref a :: zi (sp : Int) :: .ref a0 :: st) := by
  intro p e s m args below meth c H locs cells slots ls0 C0 hP hS hL g1 g2
  have hts := C0.2.2.2.2.2.2.2.1
  have hK := C0.2.2.2.2.2.2.2.2.2.1.1
  have hb := C0.2.1
  have hml : c.maxLocals = ls0.size := (hL.1.trans C0.2.2.1.symm).symm
  have cl : ∀ k : Nat, k < 2147483648 → (zI (k : Int)).toNatClampNeg = k := fun k hk => by rw [zI_clamp (by omega) (by omega), Int.toNat_natCast]
  have ng : ∀ k : Nat, k < 2147483648 → ¬ zI (k : Int) < 0 := fun k hk q => by
    rw [Int32.lt_iff_toInt_lt, zI_toInt (by omega), Int32.toInt_zero] at q
    omega
  have ti : ∀ k : Nat, k < 2147483648 → (zI (k : Int)).toInt = (k : Int) := fun k hk => zI_toInt (by omega)
  obtain ⟨hba, hc1⟩ := hP.2 a _ ha
  have hc1 : H[a]? = some (vp_cell (G.2.1 2) (n1, .inl (fun j => zI (g j)))) := hc1
  intro T hT X
  obtain ⟨scr, hc0, hs2, hs3, hs4, hs5⟩ := hsrc s H locs C0.2.2.2.2.2.2.2.2.2.1 hP hS
  obtain ⟨hs6, k0, hk0, cm0, hkk0⟩ := hs2
  obtain ⟨-, k1, hk1, cm1, hkk1⟩ := (hK.2 2 _ rfl).1 n1 (fun j => .int (zI (g j)))
  obtain ⟨vm', X', step⟩ := X.arraycopy C0.1 C0.2.2.2.2.2.2.1 (hts _ hw) (hts _ ws_acn) (hts _ ws_acs) (hts _ ws_sys) (src := a0) (dst := a) (cs := scr) (cd := vp_cell (G.2.1 2) (n1, .inl (fun j => zI (g j)))) (srcPos := zI sp) (destPos := zI dp) (n := zI n) (by rw [hT]; exact hc0) (by rw [hT]; exact hc1)
    hs6 (fun _ h => by cases h) hs3 (fun h => by cases h) hk0 hk1 hkk0 hkk1 (by simp [refKind]) (ng sp (by omega)) (ng dp (by omega)) (ng n (by omega))
    (by rw [ti sp (by omega), ti n (by omega)]; omega)
    (by rw [ti dp (by omega), ti n (by omega)]; show ¬ _ > ((arrV (G.2.1 2) n1 (fun j => .int (zI (g j)))).slots.size : Int); rw [arrV_size]; omega)
    (fun vm₁ _ i hi => by
      rw [cl n (by omega)] at hi
      rw [cl sp (by omega)]
      have e : scr.slots.getD (sp + i) .null = zi (f (sp + i)) := by
        rw [Array.getD_eq_getD_getElem?, hs5 _ (by omega)]
        rfl
      refine ⟨?_, ?_⟩
      · rw [e]
        exact hfit i hi
      · rw [e]
        exact trivial)
    (g := F0 m pc ls0 (zi (n : Int) :: zi (dp : Int) :: .ref a :: zi (sp : Int) :: .ref a0 :: st)) rfl (by rw [hml]) (rest := st) rfl (by rw [hb]; exact hd) hfr (by show 2 * 0 + _ + _ ≤ _; omega)
  have e1 : copied scr (vp_cell (G.2.1 2) (n1, .inl (fun j => zI (g j)))) (zI sp) (zI dp) (zI n) = vp_cell (G.2.1 2) (n1, .inl (fun j => zI (va_cpy f g sp dp n j))) := by
    have e2 := va_copiedX (fun z => .int z) scr (G.2.1 2) (n0 := n0) (n1 := n1) (sp := sp) (dp := dp) (n := n) (fun j => zI (f j)) (fun j => zI (g j)) hs5 hs
    have e3 : copied scr (vp_cell (G.2.1 2) (n1, .inl (fun j => zI (g j)))) (zI sp) (zI dp) (zI n) = vp_cell (G.2.1 2) (n1, .inl (va_cpy (fun j => zI (f j)) (fun j => zI (g j)) sp dp n)) := by
      unfold copied
      rw [cl sp (by omega), cl dp (by omega), cl n (by omega)]
      exact e2
    rw [e3]
    congr 3
    funext j
    unfold va_cpy
    split <;> rfl
  rw [e1] at X' step
  generalize hce : vp_cell (G.2.1 2) (n1, .inl (fun j => zI (va_cpy f g sp dp n j))) = ce at X' step
  have hl : a < H.size := (Array.getElem?_eq_some_iff.mp hc1).1
  have hheap : ((T.setVm vm').setCell a ce).heap = H.setIfInBounds a ce := by rw [← hT]; rfl
  have oq : ∀ q : Nat, q ≠ a → (H.setIfInBounds a ce)[q]? = H[q]? := fun q hq => by simp [Array.getElem?_setIfInBounds, Ne.symm hq]
  obtain ⟨t, a1, b1⟩ := kk p e s m args below meth c (H.setIfInBounds a ce) _ cells slots ls0 C0 (hP.set ha (show (H.setIfInBounds a ce)[a]? = some _ by rw [← hce]; simp [Array.getElem?_setIfInBounds, hl]) (by simp) oq) ⟨by simp; exact hS.1, fun q x1 x2 => by
      rw [oq q (fun e => x2 (by rw [e]; exact hba))]
      exact hS.2.1 q x1 x2, fun q hq => by
      rcases List.mem_append.mp hq with h | h
      · exact hS.2.2 q h
      · obtain ⟨z, -, hz⟩ := List.mem_map.mp h
        rw [← hz]
        exact hba⟩ hL g1 g2 _ hheap X'
  exact ⟨t, step t a1, b1⟩
theorem z_copyb {i a0 a n0 n1 : Nat} {f g : Nat → Int} {sp dp n : Nat} (hw : Cond.methodLink J.1.1 i arraycopyName ∈ zWS) (hd : decode J.1.2.1 pc = .ok (.invokestatic i, 3))
    (h0 : h a0 = some (zBytes G n0 f)) (ha : h a = some (zBytes G n1 g)) (hs : sp + n ≤ n0) (hdp : dp + n ≤ n1) (hlim : n0 < 2147483648 ∧ n1 < 2147483648) (hfit : zFit f) (hfr : 1 ≤ J.2.1.frames) (hlo : (st.map fun v => v.category).sum + (nativeFrameWords "java/lang/System" "arraycopy" 5 + 11) ≤ J.2.1.locals)
    (kk : zR G l J bc bs (zup h a (some (zBytes G n1 (va_cpy f g sp dp n)))) (pc + 3) ls st) : zR G l J bc bs h pc ls (zi (n : Int) :: zi (dp : Int) :: .ref a :: zi (sp : Int) :: .ref a0 :: st) := by
  refine z_copyG hw hd (fun s H locs hZ hP hS => ?_) ha hs hdp hlim (fun j _ => hfit _) hfr hlo kk
  have hc0 : H[a0]? = some (vp_cell (G.2.1 2) (n0, .inl (fun j => zI (f j)))) := (hP.2 a0 _ h0).2
  refine ⟨_, hc0, (hZ.1.2 2 _ rfl).1 n0 (fun j => .int (zI (f j))), (fun h => by cases h), ?_, fun j hj => ?_⟩
  · show n0 ≤ (arrV (G.2.1 2) n0 (fun j => .int (zI (f j)))).slots.size
    rw [arrV_size]
    exact Nat.le_refl _
  · exact arrV_read _ _ hj
theorem z_copyO {b : Bool} {i a n1 : Nat} {g : Nat → Int} {dp : Nat} (hw : Cond.methodLink J.1.1 i arraycopyName ∈ zWS) (hd : decode J.1.2.1 pc = .ok (.invokestatic i, 3))
    (ha : h a = some (zBytes G n1 g)) (hdp : dp + (if b then 0 else 1) ≤ n1) (hlim : n1 < 2147483648) (hg : zFit g) (hfr : 1 ≤ J.2.1.frames) (hlo : (st.map fun v => v.category).sum + (nativeFrameWords "java/lang/System" "arraycopy" 5 + 11) ≤ J.2.1.locals)
    (kk : ∀ g', zFit g' → zR G l J bc bs (zup h a (some (zBytes G n1 g'))) (pc + 3) ls st) : zR G l J bc bs h pc ls (zi (((if b then 0 else 1) : Nat) : Int) :: zi (dp : Int) :: .ref a :: zi (0 : Int) :: .ref (G.2.1 (if b then 8 else 10)) :: st) := by
  have k9 := kk (va_cpy (fun _ => 32) g 0 dp (if b then 0 else 1)) (zFit_cpy (fun _ => rfl) hg)
  refine z_copyG (n0 := if b then 0 else 1) (f := fun _ => 32) (sp := 0) hw hd (fun s H locs hZ hP hS => ?_) ha (by omega) hdp ⟨by split <;> omega, hlim⟩ (fun j _ => rfl) hfr hlo k9
  obtain ⟨f, ⟨scr, hs1, hs2, hs3, hs4, -, hs5, hs7⟩, hf⟩ := zOt b _ _ hZ
  refine ⟨scr, by rw [hS.2.1 _ (Array.getElem?_eq_some_iff.mp hs1).1 hs7]; exact hs1, hs2, hs3, hs4, fun j hj => ?_⟩
  rw [hs5 j hj]
  show some (Value.int (f j)) = _
  rw [hf j hj]
  rfl
/-- a call on a receiver of another class than the method's -/
theorem z_callC {d mc ms i b n : Nat} {y : MethodName} {hd' : zHd} {As rest : List Value} {Qn : Option Value → zHp → Prop} {Qx : String → zHp → Prop} {ci N : Nat} {C : String} {T : u_T} {fs : List Value} {bc' bs' : Nat} (M : zMe y hd' n) (hin : Cond.instanceMethod y ∈ zWS) (hse : ∀ (args : Array Value) (s : State), zS G s s.heap → (∀ w ∈ zWS, w.before args s = true) → (Cond.selects C y y).before args s = true) (hw : Cond.methodLink J.1.1 i y ∈ zWS) (hd : decode J.1.2.1 pc = .ok (.invokevirtual i, 3)) (hM : zM G l hd' y d (.ref b :: As) h Qn Qx mc ms) (hst : st = As.reverse ++ .ref b :: rest)
    (hn : As.length = n) (hcat : (rest.map fun v => v.category).sum ≤ 8) (hc : vwCl[ci]? = some (C, T, N)) (hb : h b = some (.inr (ci, fs))) (hfr : d + 1 ≤ J.2.1.frames) (hlo : d * 64 + 64 ≤ J.2.1.locals) (hb1 : mc + bc' ≤ bc) (hb2 : ms + bs' ≤ bs)
    (kx : ∀ E h', Qx E h' → zT G l J bc' bs' h' E pc ls) (kk : ∀ v h', Qn v h' → zR G l J bc' bs' h' (pc + 3) ls (v.toList ++ rest)) : zR G l J bc bs h pc ls st := by
  intro p e s m args below meth c H locs cells slots ls0 C0 hP hS hL h1 h2
  have hts := C0.2.2.2.2.2.2.2.1
  have hK := C0.2.2.2.2.2.2.2.2.2.1.1
  refine z_after C0 hP hS hL h1 h2 hb1 hb2 (vx_runV (C := C) (As := As) (rest := rest) (Ts := zWS) ⟨C0.1, C0.2.1, rfl, C0.2.2.2.2.2.2.1, hts⟩ (hM C0.2.2.2.2.2.2.2.2.2.2.1) ⟨callB_of n hts (zgoodIn (ws := [] ++ _) (fun _ h => h) (zw M (fun w hw9 => nomatch hw9))) rfl rfl rfl (hts _ M.1) (hts _ hw) M.2.2.1 ⟨hfr, by have := M.2.2.2; show 8 + (_ + 11) + d * 64 ≤ _; omega⟩, hts _ hin, hse args s C0.2.2.2.2.2.2.2.2.2.1 hts⟩ ⟨zPc_blind, va_recv hK (hP.ok hb) hc (q0 := 0) rfl, fun U hU hW => zPc_pre C0.2.2.2.2.2.2.2.2.2.1 hP hS U hU hW⟩ rfl hn (hL.1.trans C0.2.2.1.symm) hst (lv_room hcat) hd ⟨by show cells + mc ≤ _; omega, by show slots + ms ≤ _; omega⟩) kx kk
end STR1
end
section
section STR2
variable {G : zG} {l : Launch} {h h' : zHp} {J : zJ} {bc bs pc : Nat} {ls : List (Option Value)} {st : List Value}
theorem z_castB {i a n : Nat} {f : Nat → Int} (hw : Cond.classLink J.1.1 i "[B" ∈ zWS) (hd : decode J.1.2.1 pc = .ok (.checkcast i, 3)) (hh : h a = some (zBytes G n f)) (kk : zR G l J bc bs h (pc + 3) ls (.ref a :: st)) : zR G l J bc bs h pc ls (.ref a :: st) := by
  intro p e s m args below meth c H locs cells slots ls0 C0 hP hS hL h1 h2
  have hnm : s.vm.findClass "[B" = some (G.2.1 2) := (C0.2.2.2.2.2.2.2.2.2.1.1.2 2 _ rfl).2
  exact va_castA (D := G.1) C0.1 C0.2.1 C0.2.2.2.2.2.2.1 (C0.2.2.2.2.2.2.2.1 _ hw) (hP.ok hh) 0 rfl hnm hd (kk p e s m args below meth c H locs cells slots ls0 C0 hP hS hL h1 h2)
theorem z_clone {i a n : Nat} {f : Nat → Int} (hw : Cond.methodLink J.1.1 i ⟨"[B", "clone", "()Ljava/lang/Object;"⟩ ∈ zWS) (hd : decode J.1.2.1 pc = .ok (.invokevirtual i, 3)) (hh : h a = some (zBytes G n f)) (hfit : zFit f) (hfr : 1 ≤ J.2.1.frames) (hlo : (st.map fun v => v.category).sum + 14 ≤ J.2.1.locals) {bc' bs' : Nat} (hb1 : bc' + 1 ≤ bc) (hb2 : bs' + n ≤ bs)
    (kk : ∀ (q : Nat) (h1 : zHp), zDm h q → G.2.2 ≤ q → h1 q = some (zBytes G n f) → (∀ x, x ≠ q → h1 x = h x) → zR G l J bc' bs' h1 (pc + 3) ls (.ref q :: st)) : zR G l J bc bs h pc ls (.ref a :: st) := by
  intro p e s m args below meth c H locs cells slots ls0 C0 hP hS hL g1 g2
  have hts := C0.2.2.2.2.2.2.2.1
  have hK := C0.2.2.2.2.2.2.2.2.2.1.1
  have hb := C0.2.1
  have hml : c.maxLocals = ls0.size := (hL.1.trans C0.2.2.1.symm).symm
  have hnm : s.vm.findClass "[B" = some (G.2.1 2) := (hK.2 2 _ rfl).2
  have hcl : va_Nw (.castable "[B" "java/lang/Cloneable") s := C0.2.2.2.2.2.2.2.2.2.1.2.2.1 _ ws_clc
  have hc0 : H[a]? = some (vp_cell (G.2.1 2) (n, .inl (fun j => zI (f j)))) := (hP.2 a _ hh).2
  have hsz : (vp_cell (G.2.1 2) (n, .inl (fun j => zI (f j)))).slots.size = n := arrV_size _ _ _
  obtain ⟨c0, t0', f1, f2, f3⟩ := Cond.castable_spec (va_Nw.use (A := args) rfl hcl)
  cases hnm.symm.trans f1
  intro T hT X
  have hcellT : T.heap[a]? = some (vp_cell (G.2.1 2) (n, .inl (fun j => zI (f j)))) := by rw [hT]; exact hc0
  obtain ⟨-, kA, hkA, comp, hkind⟩ := State.isArrayOf_alike X.warmed.alike ((hK.2 2 _ rfl).1 0 (fun _ => .null))
  obtain ⟨-, kS, hkS, compS, hkindS⟩ := (hK.2 2 _ rfl).1 0 (fun _ => .null)
  obtain ⟨vm', X', st9⟩ := X.cloneArray C0.1 C0.2.2.2.2.2.2.1 (hts _ hw) (hts _ ws_cls) (hts _ ws_cln) (hts _ ws_cli) (hts _ ws_clx) (a := a) (cell := vp_cell (G.2.1 2) (n, .inl (fun j => zI (f j)))) hcellT (fun k h => by cases h) (fun h => by cases h) hnm f2 f3
    (fun i v hv => by
      have hk' : T.vm.classes[G.2.1 2]? = some kA := hkA
      have hi : i < n := by
        have := (Array.getElem?_eq_some_iff.mp hv).1
        rw [hsz] at this
        exact this
      have e9 : (vp_cell (G.2.1 2) (n, .inl (fun j => zI (f j)))).slots[i]? = some (zi (f i)) := arrV_read _ _ hi
      have ev : v = zi (f i) := Option.some.inj (hv.symm.trans e9)
      subst ev
      show State.fitsSlot _ (G.2.1 2) _ i _ = true
      simpa [State.fitsSlot, State.slotType?, hk', hkind] using hfit i)
    (g := F0 m pc ls0 (.ref a :: st)) rfl (by rw [hml]) rfl (by rw [hb]; exact hd) hfr (by show 2 * 0 + _ + 14 ≤ _; omega) (by omega) (by rw [hsz]; omega) (hloader := Vm.clonesLoader_of_array hkS hkindS)
  rw [hsz] at X'
  generalize hH1 : H.push (vp_cell (G.2.1 2) (n, .inl (fun j => zI (f j)))) = H1
  have z1 : H1.size = H.size + 1 := by rw [← hH1, Array.size_push]
  have e1 : H1[H.size]? = some (vp_cell (G.2.1 2) (n, .inl (fun j => zI (f j)))) := by rw [← hH1, Array.getElem?_push_size]
  have o1 : ∀ q : Nat, q < H.size → H1[q]? = H[q]? := fun q hq => by rw [← hH1, Array.getElem?_push, if_neg (Nat.ne_of_lt hq)]
  obtain ⟨t, b1, b2⟩ := kk H.size _ (fun a e ha => hP.lt ha) hP.1 (zup_same h H.size (some (zBytes G n f))) (fun x hx => zup_ne hx) p e s m args below meth c H1 locs (cells + 1) (slots + n) ls0 C0 (hP.push e1 z1 o1) (hS.push z1 o1) hL (by omega) (by omega)
    ((T.setVm vm').pushCell (vp_cell (G.2.1 2) (n, .inl (fun j => zI (f j))))) (by rw [← hH1, ← hT]; rfl) X'
  refine ⟨t, st9 t ?_, b2⟩
  rw [hT]
  exact b1
/-- super.m(..) -/
theorem z_callSU {d mc ms i b n : Nat} {y : MethodName} {hd' : zHd} {As rest : List Value} {Qn : Option Value → zHp → Prop} {Qx : String → zHp → Prop} {fs : List Value} {bc' bs' : Nat} (M : zMe y hd' n) (hin : Cond.instanceMethod y ∈ zWS) (hsm : Cond.sameMethod y.cls y.cls y.name y.desc ∈ zWS) (hsu : Cond.superclass J.1.1 y.cls ∈ zWS) (hno : y.name ≠ "<init>") (hw : Cond.methodLink J.1.1 i y ∈ zWS) (hd : decode J.1.2.1 pc = .ok (.invokespecial i, 3)) (hM : zM G l hd' y d (.ref b :: As) h Qn Qx mc ms) (hst : st = As.reverse ++ .ref b :: rest)
    (hn : As.length = n) (hcat : (rest.map fun v => v.category).sum ≤ 8) (hb : h b = some (.inr (zkSbd, fs))) (hfr : d + 1 ≤ J.2.1.frames) (hlo : d * 64 + 64 ≤ J.2.1.locals) (hb1 : mc + bc' ≤ bc) (hb2 : ms + bs' ≤ bs)
    (kx : ∀ E h', Qx E h' → zT G l J bc' bs' h' E pc ls) (kk : ∀ v h', Qn v h' → zR G l J bc' bs' h' (pc + 3) ls (v.toList ++ rest)) : zR G l J bc bs h pc ls st := by
  intro p e s m args below meth c H locs cells slots ls0 C0 hP hS hL h1 h2
  have hts := C0.2.2.2.2.2.2.2.1
  have hK := C0.2.2.2.2.2.2.2.2.2.1.1
  obtain ⟨-, hfc, kC, hkC, hkind⟩ := hK.1 zkSbd _ rfl
  refine z_after C0 hP hS hL h1 h2 hb1 hb2 (vx_runSU (C := RSbd) (As := As) (rest := rest) (Ts := zWS) ⟨hfc, kC, hkC, hkind⟩ ⟨C0.1, C0.2.1, rfl, C0.2.2.2.2.2.2.1, hts⟩ (hM C0.2.2.2.2.2.2.2.2.2.2.1) (va_cwSU n hts (zgoodIn (fun _ h => h) (zw M (by
    intro w hw9
    simp only [List.mem_cons, List.not_mem_nil, or_false] at hw9
    rcases hw9 with q | q | q | q | q <;> rw [q]
    · exact hw
    · exact hsm
    · exact hsu
    · exact hin
    · exact M.1))) rfl rfl rfl ⟨hno, M.2.2.1.2.2⟩ ⟨hfr, by have := M.2.2.2; show 8 + (_ + 11) + d * 64 ≤ _; omega⟩) ⟨zPc_blind, va_recv hK (hP.ok hb) rfl (q0 := 0) rfl, fun U hU hW => zPc_pre C0.2.2.2.2.2.2.2.2.2.1 hP hS U hU hW⟩ rfl hn (hL.1.trans C0.2.2.1.symm) hst (lv_room hcat) hd ⟨by show cells + mc ≤ _; omega, by show slots + ms ≤ _; omega⟩) kx kk
/-- an overriding method, called by what it overrides -/
theorem z_callO {d mc ms i b n : Nat} {x y : MethodName} {hd' : zHd} {As rest : List Value} {Qn : Option Value → zHp → Prop} {Qx : String → zHp → Prop} {fs : List Value} {bc' bs' : Nat} {b0 : ByteArray} {m0 : Nat} {r0 : Option FieldType} (M : zMe y hd' n) (hin : Cond.instanceMethod y ∈ zWS) (hsm : Cond.sameMethod x.cls x.cls x.name x.desc ∈ zWS) (hix : Cond.instanceMethod x ∈ zWS) (hse : Cond.selects RSbd x y ∈ zWS) (hcx : Cond.code x b0 m0 r0 ∈ zWS) (hdx : x.cls ≠ "java/lang/invoke/MethodHandle" ∧ x.cls ≠ "java/lang/invoke/VarHandle" ∧ (parseMethodDescriptor x.desc).map (fun d => d.parameters.length) = some n) (hw : Cond.methodLink J.1.1 i x ∈ zWS) (hd : decode J.1.2.1 pc = .ok (.invokevirtual i, 3)) (hM : zM G l hd' y d (.ref b :: As) h Qn Qx mc ms) (hst : st = As.reverse ++ .ref b :: rest)
    (hn : As.length = n) (hcat : (rest.map fun v => v.category).sum ≤ 8) (hb : h b = some (.inr (zkSbd, fs))) (hfr : d + 1 ≤ J.2.1.frames) (hlo : d * 64 + 64 ≤ J.2.1.locals) (hb1 : mc + bc' ≤ bc) (hb2 : ms + bs' ≤ bs)
    (kx : ∀ E h', Qx E h' → zT G l J bc' bs' h' E pc ls) (kk : ∀ v h', Qn v h' → zR G l J bc' bs' h' (pc + 3) ls (v.toList ++ rest)) : zR G l J bc bs h pc ls st := by
  intro p e s m args below meth c H locs cells slots ls0 C0 hP hS hL h1 h2
  have hts := C0.2.2.2.2.2.2.2.1
  have hK := C0.2.2.2.2.2.2.2.2.2.1.1
  refine z_after C0 hP hS hL h1 h2 hb1 hb2 (vx_runU (C := RSbd) (owner := x.cls) (x := x) (As := As) (rest := rest) (Ts := zWS) ⟨C0.1, C0.2.1, rfl, C0.2.2.2.2.2.2.1, hts⟩ (hM C0.2.2.2.2.2.2.2.2.2.2.1) (va_cwO (owner := x.cls) (x := x) n hts (zgoodIn (fun _ h => h) (zw M (by
    intro w hw9
    simp only [List.mem_cons, List.not_mem_nil, or_false] at hw9
    rcases hw9 with q | q | q | q | q | q <;> rw [q]
    · exact hw
    · exact hsm
    · exact hix
    · exact hse
    · exact hin
    · exact M.1))) rfl rfl rfl hcx hdx ⟨hfr, by have := M.2.2.2; show 8 + (_ + 11) + d * 64 ≤ _; omega⟩) ⟨zPc_blind, va_recv hK (hP.ok hb) rfl (q0 := 0) rfl, fun U hU hW => zPc_pre C0.2.2.2.2.2.2.2.2.2.1 hP hS U hU hW⟩ rfl hn (hL.1.trans C0.2.2.1.symm) hst (lv_room hcat) hd ⟨by show cells + mc ≤ _; omega, by show slots + ms ≤ _; omega⟩) kx kk
end STR2
end
section
set_option maxRecDepth 40000 in
theorem ME_Asb_length_8abf5 : zMe yAsb_length_8abf5 hAsb_length_8abf5 0 := ⟨(zin_of zc1 (i := 12) rfl rfl), (zin_of zc2 (i := 102) rfl rfl), by decide +kernel, by decide +kernel⟩
set_option maxRecDepth 40000 in
theorem IN_Asb_length_8abf5 : Cond.instanceMethod yAsb_length_8abf5 ∈ zWS := (zin_of zc2 (i := 96) rfl rfl)
set_option maxRecDepth 40000 in
theorem SM_Asb_length_8abf5 : Cond.sameMethod yAsb_length_8abf5.cls yAsb_length_8abf5.cls yAsb_length_8abf5.name yAsb_length_8abf5.desc ∈ zWS := (zin_of zc2 (i := 97) rfl rfl)
set_option maxRecDepth 40000 in
theorem ME_Asb_ensureCapacityInternal_d00df : zMe yAsb_ensureCapacityInternal_d00df hAsb_ensureCapacityInternal_d00df 1 := ⟨(zin_of zc1 (i := 12) rfl rfl), (zin_of zc1 (i := 198) rfl rfl), by decide +kernel, by decide +kernel⟩
set_option maxRecDepth 40000 in
theorem IN_Asb_ensureCapacityInternal_d00df : Cond.instanceMethod yAsb_ensureCapacityInternal_d00df ∈ zWS := (zin_of zc1 (i := 197) rfl rfl)
set_option maxRecDepth 40000 in
theorem SM_Asb_ensureCapacityInternal_d00df : Cond.sameMethod yAsb_ensureCapacityInternal_d00df.cls yAsb_ensureCapacityInternal_d00df.cls yAsb_ensureCapacityInternal_d00df.name yAsb_ensureCapacityInternal_d00df.desc ∈ zWS := (zin_of zc7 (i := 69) rfl rfl)
set_option maxRecDepth 40000 in
theorem ME_Asb_newCapacity_0f7a4 : zMe yAsb_newCapacity_0f7a4 hAsb_newCapacity_0f7a4 1 := ⟨(zin_of zc1 (i := 12) rfl rfl), (zin_of zc1 (i := 202) rfl rfl), by decide +kernel, by decide +kernel⟩
set_option maxRecDepth 40000 in
theorem IN_Asb_newCapacity_0f7a4 : Cond.instanceMethod yAsb_newCapacity_0f7a4 ∈ zWS := (zin_of zc1 (i := 201) rfl rfl)
set_option maxRecDepth 40000 in
theorem SM_Asb_newCapacity_0f7a4 : Cond.sameMethod yAsb_newCapacity_0f7a4.cls yAsb_newCapacity_0f7a4.cls yAsb_newCapacity_0f7a4.name yAsb_newCapacity_0f7a4.desc ∈ zWS := (zin_of zc7 (i := 70) rfl rfl)
set_option maxRecDepth 40000 in
theorem ME_Asb_inflate_da8c8 : zMe yAsb_inflate_da8c8 hAsb_inflate_da8c8 0 := ⟨(zin_of zc1 (i := 12) rfl rfl), (zin_of zc2 (i := 1) rfl rfl), by decide +kernel, by decide +kernel⟩
set_option maxRecDepth 40000 in
theorem IN_Asb_inflate_da8c8 : Cond.instanceMethod yAsb_inflate_da8c8 ∈ zWS := (zin_of zc2 (i := 0) rfl rfl)
set_option maxRecDepth 40000 in
theorem SM_Asb_inflate_da8c8 : Cond.sameMethod yAsb_inflate_da8c8.cls yAsb_inflate_da8c8.cls yAsb_inflate_da8c8.name yAsb_inflate_da8c8.desc ∈ zWS := (zin_of zc7 (i := 71) rfl rfl)
set_option maxRecDepth 40000 in
theorem ME_Asb_append_cf1ce : zMe yAsb_append_cf1ce hAsb_append_cf1ce 1 := ⟨(zin_of zc1 (i := 12) rfl rfl), (zin_of zc2 (i := 164) rfl rfl), by decide +kernel, by decide +kernel⟩
set_option maxRecDepth 40000 in
theorem IN_Asb_append_cf1ce : Cond.instanceMethod yAsb_append_cf1ce ∈ zWS := (zin_of zc2 (i := 163) rfl rfl)
set_option maxRecDepth 40000 in
theorem SM_Asb_append_cf1ce : Cond.sameMethod yAsb_append_cf1ce.cls yAsb_append_cf1ce.cls yAsb_append_cf1ce.name yAsb_append_cf1ce.desc ∈ zWS := (zin_of zc7 (i := 74) rfl rfl)
set_option maxRecDepth 40000 in
theorem ME_Asb_appendNull_278bc : zMe yAsb_appendNull_278bc hAsb_appendNull_278bc 0 := ⟨(zin_of zc1 (i := 12) rfl rfl), (zin_of zc2 (i := 168) rfl rfl), by decide +kernel, by decide +kernel⟩
set_option maxRecDepth 40000 in
theorem IN_Asb_appendNull_278bc : Cond.instanceMethod yAsb_appendNull_278bc ∈ zWS := (zin_of zc2 (i := 167) rfl rfl)
set_option maxRecDepth 40000 in
theorem SM_Asb_appendNull_278bc : Cond.sameMethod yAsb_appendNull_278bc.cls yAsb_appendNull_278bc.cls yAsb_appendNull_278bc.name yAsb_appendNull_278bc.desc ∈ zWS := (zin_of zc7 (i := 75) rfl rfl)
set_option maxRecDepth 40000 in
theorem ME_Asb_append_3fe6f : zMe yAsb_append_3fe6f hAsb_append_3fe6f 1 := ⟨(zin_of zc1 (i := 12) rfl rfl), (zin_of zc1 (i := 194) rfl rfl), by decide +kernel, by decide +kernel⟩
set_option maxRecDepth 40000 in
theorem IN_Asb_append_3fe6f : Cond.instanceMethod yAsb_append_3fe6f ∈ zWS := (zin_of zc1 (i := 193) rfl rfl)
set_option maxRecDepth 40000 in
theorem SM_Asb_append_3fe6f : Cond.sameMethod yAsb_append_3fe6f.cls yAsb_append_3fe6f.cls yAsb_append_3fe6f.name yAsb_append_3fe6f.desc ∈ zWS := (zin_of zc7 (i := 68) rfl rfl)
set_option maxRecDepth 40000 in
theorem ME_Asb_append_c97b9 : zMe yAsb_append_c97b9 hAsb_append_c97b9 1 := ⟨(zin_of zc1 (i := 12) rfl rfl), (zin_of zc2 (i := 49) rfl rfl), by decide +kernel, by decide +kernel⟩
set_option maxRecDepth 40000 in
theorem IN_Asb_append_c97b9 : Cond.instanceMethod yAsb_append_c97b9 ∈ zWS := (zin_of zc2 (i := 48) rfl rfl)
set_option maxRecDepth 40000 in
theorem SM_Asb_append_c97b9 : Cond.sameMethod yAsb_append_c97b9.cls yAsb_append_c97b9.cls yAsb_append_c97b9.name yAsb_append_c97b9.desc ∈ zWS := (zin_of zc7 (i := 72) rfl rfl)
set_option maxRecDepth 40000 in
theorem ME_Asb_getValue_6d5f1 : zMe yAsb_getValue_6d5f1 hAsb_getValue_6d5f1 0 := ⟨(zin_of zc1 (i := 12) rfl rfl), (zin_of zc2 (i := 94) rfl rfl), by decide +kernel, by decide +kernel⟩
set_option maxRecDepth 40000 in
theorem IN_Asb_getValue_6d5f1 : Cond.instanceMethod yAsb_getValue_6d5f1 ∈ zWS := (zin_of zc2 (i := 91) rfl rfl)
set_option maxRecDepth 40000 in
theorem SM_Asb_getValue_6d5f1 : Cond.sameMethod yAsb_getValue_6d5f1.cls yAsb_getValue_6d5f1.cls yAsb_getValue_6d5f1.name yAsb_getValue_6d5f1.desc ∈ zWS := (zin_of zc2 (i := 92) rfl rfl)
set_option maxRecDepth 40000 in
theorem SE_Asb_getValue_6d5f1 {G : zG} : ∀ (args : Array Value) (s : State), zS G s s.heap → (∀ w ∈ zWS, w.before args s = true) → (Cond.selects RSbd yAsb_getValue_6d5f1 yAsb_getValue_6d5f1).before args s = true := fun _ _ _ h => h _ (zin_of zc2 (i := 93) rfl rfl)
set_option maxRecDepth 40000 in
theorem ME_Asb_isLatin1_aae02 : zMe yAsb_isLatin1_aae02 hAsb_isLatin1_aae02 0 := ⟨(zin_of zc1 (i := 12) rfl rfl), (zin_of zc1 (i := 234) rfl rfl), by decide +kernel, by decide +kernel⟩
set_option maxRecDepth 40000 in
theorem IN_Asb_isLatin1_aae02 : Cond.instanceMethod yAsb_isLatin1_aae02 ∈ zWS := (zin_of zc1 (i := 231) rfl rfl)
set_option maxRecDepth 40000 in
theorem SM_Asb_isLatin1_aae02 : Cond.sameMethod yAsb_isLatin1_aae02.cls yAsb_isLatin1_aae02.cls yAsb_isLatin1_aae02.name yAsb_isLatin1_aae02.desc ∈ zWS := (zin_of zc1 (i := 232) rfl rfl)
set_option maxRecDepth 40000 in
theorem SE_Asb_isLatin1_aae02 {G : zG} : ∀ (args : Array Value) (s : State), zS G s s.heap → (∀ w ∈ zWS, w.before args s = true) → (Cond.selects RSbd yAsb_isLatin1_aae02 yAsb_isLatin1_aae02).before args s = true := fun _ _ _ h => h _ (zin_of zc1 (i := 233) rfl rfl)
set_option maxRecDepth 40000 in
theorem ME_Asb_inflateIfNeededFor_a7421 : zMe yAsb_inflateIfNeededFor_a7421 hAsb_inflateIfNeededFor_a7421 1 := ⟨(zin_of zc1 (i := 12) rfl rfl), (zin_of zc2 (i := 188) rfl rfl), by decide +kernel, by decide +kernel⟩
set_option maxRecDepth 40000 in
theorem IN_Asb_inflateIfNeededFor_a7421 : Cond.instanceMethod yAsb_inflateIfNeededFor_a7421 ∈ zWS := (zin_of zc2 (i := 187) rfl rfl)
set_option maxRecDepth 40000 in
theorem SM_Asb_inflateIfNeededFor_a7421 : Cond.sameMethod yAsb_inflateIfNeededFor_a7421.cls yAsb_inflateIfNeededFor_a7421.cls yAsb_inflateIfNeededFor_a7421.name yAsb_inflateIfNeededFor_a7421.desc ∈ zWS := (zin_of zc7 (i := 77) rfl rfl)
set_option maxRecDepth 40000 in
theorem ME_Asb_putStringAt_47b60 : zMe yAsb_putStringAt_47b60 hAsb_putStringAt_47b60 2 := ⟨(zin_of zc1 (i := 12) rfl rfl), (zin_of zc2 (i := 184) rfl rfl), by decide +kernel, by decide +kernel⟩
set_option maxRecDepth 40000 in
theorem IN_Asb_putStringAt_47b60 : Cond.instanceMethod yAsb_putStringAt_47b60 ∈ zWS := (zin_of zc2 (i := 183) rfl rfl)
set_option maxRecDepth 40000 in
theorem SM_Asb_putStringAt_47b60 : Cond.sameMethod yAsb_putStringAt_47b60.cls yAsb_putStringAt_47b60.cls yAsb_putStringAt_47b60.name yAsb_putStringAt_47b60.desc ∈ zWS := (zin_of zc7 (i := 76) rfl rfl)
theorem SE_Asb_ensureCapacityInternal_d00df {G : zG} : ∀ (args : Array Value) (s : State), zS G s s.heap → (∀ w ∈ zWS, w.before args s = true) → (Cond.selects RSbd yAsb_ensureCapacityInternal_d00df yAsb_ensureCapacityInternal_d00df).before args s = true := fun args s hZ _ => word_at (State.WarmedH.refl s) (Or.inl (by first | rfl | simp [Cond.onTables, Cond.keeps, Cond.steady])) (hZ.sj.2.2.2.2.2.2 yAsb_ensureCapacityInternal_d00df (by simp [zSbP]))
theorem SE_Asb_newCapacity_0f7a4 {G : zG} : ∀ (args : Array Value) (s : State), zS G s s.heap → (∀ w ∈ zWS, w.before args s = true) → (Cond.selects RSbd yAsb_newCapacity_0f7a4 yAsb_newCapacity_0f7a4).before args s = true := fun args s hZ _ => word_at (State.WarmedH.refl s) (Or.inl (by first | rfl | simp [Cond.onTables, Cond.keeps, Cond.steady])) (hZ.sj.2.2.2.2.2.2 yAsb_newCapacity_0f7a4 (by simp [zSbP]))
theorem SE_Asb_inflate_da8c8 {G : zG} : ∀ (args : Array Value) (s : State), zS G s s.heap → (∀ w ∈ zWS, w.before args s = true) → (Cond.selects RSbd yAsb_inflate_da8c8 yAsb_inflate_da8c8).before args s = true := fun args s hZ _ => word_at (State.WarmedH.refl s) (Or.inl (by first | rfl | simp [Cond.onTables, Cond.keeps, Cond.steady])) (hZ.sj.2.2.2.2.2.2 yAsb_inflate_da8c8 (by simp [zSbP]))
theorem SE_Asb_appendNull_278bc {G : zG} : ∀ (args : Array Value) (s : State), zS G s s.heap → (∀ w ∈ zWS, w.before args s = true) → (Cond.selects RSbd yAsb_appendNull_278bc yAsb_appendNull_278bc).before args s = true := fun args s hZ _ => word_at (State.WarmedH.refl s) (Or.inl (by first | rfl | simp [Cond.onTables, Cond.keeps, Cond.steady])) (hZ.sj.2.2.2.2.2.2 yAsb_appendNull_278bc (by simp [zSbP]))
theorem SE_Asb_inflateIfNeededFor_a7421 {G : zG} : ∀ (args : Array Value) (s : State), zS G s s.heap → (∀ w ∈ zWS, w.before args s = true) → (Cond.selects RSbd yAsb_inflateIfNeededFor_a7421 yAsb_inflateIfNeededFor_a7421).before args s = true := fun args s hZ _ => word_at (State.WarmedH.refl s) (Or.inl (by first | rfl | simp [Cond.onTables, Cond.keeps, Cond.steady])) (hZ.sj.2.2.2.2.2.2 yAsb_inflateIfNeededFor_a7421 (by simp [zSbP]))
theorem SE_Asb_putStringAt_47b60 {G : zG} : ∀ (args : Array Value) (s : State), zS G s s.heap → (∀ w ∈ zWS, w.before args s = true) → (Cond.selects RSbd yAsb_putStringAt_47b60 yAsb_putStringAt_47b60).before args s = true := fun args s hZ _ => word_at (State.WarmedH.refl s) (Or.inl (by first | rfl | simp [Cond.onTables, Cond.keeps, Cond.steady])) (hZ.sj.2.2.2.2.2.2 yAsb_putStringAt_47b60 (by simp [zSbP]))
set_option maxRecDepth 40000 in
theorem SU_Sbd : Cond.superclass RSbd "java/lang/AbstractStringBuilder" ∈ zWS := (zin_of zc1 (i := 186) rfl rfl)
set_option maxRecDepth 40000 in
theorem ME_Sbd_length : zMe ySbd_length_8abf5 hSbd_length_8abf5 0 := ⟨(zin_of zc1 (i := 13) rfl rfl), (zin_of zc2 (i := 100) rfl rfl), by decide +kernel, by decide +kernel⟩
set_option maxRecDepth 40000 in
theorem IN_Sbd_length : Cond.instanceMethod ySbd_length_8abf5 ∈ zWS := (zin_of zc2 (i := 99) rfl rfl)
set_option maxRecDepth 40000 in
theorem SE_length : Cond.selects RSbd yAsb_length_8abf5 ySbd_length_8abf5 ∈ zWS := (zin_of zc2 (i := 98) rfl rfl)
end
section
section STR4
variable {G : zG} {l : Launch} {h h' h0 : zHp}
theorem zshr0 (x : Int32) : x >>> (zI 0 &&& 31) = x := by
  have e : (zI 0 &&& 31 : Int32) = 0 := by decide
  rw [e]
  simp
theorem zshl0 (x : Int32) : x <<< (zI 0 &&& 31) = x := by
  have e : (zI 0 &&& 31 : Int32) = 0 := by decide
  rw [e]
  simp
/-- a call of an instance method, its receiver whatever it is -/
theorem z_callVR {J : zJ} {bc bs pc : Nat} {ls : List (Option Value)} {st : List Value} {d mc ms i b n : Nat} {y : MethodName} {hd' : zHd} {As rest : List Value} {Qn : Option Value → zHp → Prop} {Qx : String → zHp → Prop} {bc' bs' : Nat} (M : zMV y hd' n) (hw : Cond.methodLink J.1.1 i y ∈ zWS) (hd : decode J.1.2.1 pc = .ok (.invokevirtual i, 3)) (hM : zM G l hd' y d (.ref b :: As) h Qn Qx mc ms) (hst : st = As.reverse ++ .ref b :: rest)
    (hn : As.length = n) (hcat : (rest.map fun v => v.category).sum ≤ 8) (hrv : ∀ (s : State) (H : Heap) (locs : List Loc), zS G s s.heap → zRel G h H → va_S (zA G) s.heap H locs → ∃ cell : Cell, H[b]? = some cell ∧ cell.vm.isStatics = false ∧ s.vm.findClass y.cls = some cell.cls) (hfr : d + 1 ≤ J.2.1.frames) (hlo : d * 64 + 64 ≤ J.2.1.locals) (hb1 : mc + bc' ≤ bc) (hb2 : ms + bs' ≤ bs)
    (kx : ∀ E h', Qx E h' → zT G l J bc' bs' h' E pc ls) (kk : ∀ v h', Qn v h' → zR G l J bc' bs' h' (pc + 3) ls (v.toList ++ rest)) : zR G l J bc bs h pc ls st := by
  intro p e s m args below meth c H locs cells slots ls0 C0 hP hS hL h1 h2
  have hts := C0.2.2.2.2.2.2.2.1
  refine z_after C0 hP hS hL h1 h2 hb1 hb2 (vx_runV (As := As) (rest := rest) (Ts := zWS) ⟨C0.1, C0.2.1, rfl, C0.2.2.2.2.2.2.1, hts⟩ (hM C0.2.2.2.2.2.2.2.2.2.2.1) (cwV n hts (zgoodIn (fun _ h => h) (zw M.1 (by
    intro w hw9
    simp only [List.mem_cons, List.not_mem_nil, or_false] at hw9
    rcases hw9 with q | q | q | q <;> rw [q]
    · exact hw
    · exact M.2.1
    · exact M.2.2
    · exact M.1.1))) rfl rfl rfl ⟨rfl, M.1.2.2.1⟩ ⟨hfr, by have := M.1.2.2.2; show 8 + (_ + 11) + d * 64 ≤ _; omega⟩) ⟨zPc_blind, hrv s H locs C0.2.2.2.2.2.2.2.2.2.1 hP hS, fun U hU hW => zPc_pre C0.2.2.2.2.2.2.2.2.2.1 hP hS U hU hW⟩ rfl hn (hL.1.trans C0.2.2.1.symm) hst (lv_room hcat) hd ⟨by show cells + mc ≤ _; omega, by show slots + ms ≤ _; omega⟩) kx kk
/-- a text of n bytes: "" and " " as constants, or a new one -/
def zSr (G : zG) (h : zHp) (q n : Nat) : Prop := (∃ b : Bool, q = G.2.1 (if b then 7 else 9) ∧ n = if b then 0 else 1) ∨ ∃ (v : Nat) (f : Nat → Int) (x2 x3 : Value), h q = some (.inr (zkStr, [.ref v, zi 0, x2, x3])) ∧ h v = some (zBytes G n f) ∧ zFit f
theorem zSr.ext {q n : Nat} (H : zSr G h q n) (hx : zExt h h') : zSr G h' q n := by
  rcases H with H | ⟨v, f, x2, x3, e1, e2, e3⟩
  · exact Or.inl H
  · exact Or.inr ⟨v, f, x2, x3, hx _ _ e1, hx _ _ e2, e3⟩
theorem zSr.recv {q n : Nat} (H : zSr G h q n) : ∀ (s : State) (H9 : Heap) (locs : List Loc), zS G s s.heap → zRel G h H9 → va_S (zA G) s.heap H9 locs → ∃ cell : Cell, H9[q]? = some cell ∧ cell.vm.isStatics = false ∧ s.vm.findClass "java/lang/String" = some cell.cls := by
  intro s H9 locs hZ hP hS
  rcases H with ⟨b, rfl, -⟩ | ⟨v, f, x2, x3, e1, e2, e3⟩
  · exact va_Orecv (zOo b _ _ hZ) hS
  · exact va_recv hZ.1 (hP.ok e1) (ci := zkStr) rfl (q0 := 0) rfl
/-- a StringBuilder that was made since h0: its array, its room, how many bytes -/
def zSb (G : zG) (h0 h : zHp) (b a cap n : Nat) : Prop := ∃ (ml : Value) (f : Nat → Int), h b = some (.inr (zkSbd, [.ref a, zi 0, ml, zi (n : Int)])) ∧ h a = some (zBytes G cap f) ∧ zFit f ∧ n ≤ cap ∧ b ≠ a ∧ zDm h0 b ∧ zDm h0 a ∧ zExt h0 h
def zNc (cap m : Nat) : Nat := cap + (if m - cap < cap + 2 then cap + 2 else m - cap)
def zCp (cap m : Nat) : Nat := if m ≤ cap then cap else zNc cap m
def zGr (cap m : Nat) : Nat := if m ≤ cap then 0 else zNc cap m
theorem zGr_ok {cap m bs : Nat} (hm : m ≤ 120) (hc : cap ≤ 240) (hb : 2 * (240 - cap) ≤ bs) : zGr cap m ≤ bs ∧ zCp cap m ≤ 240 ∧ 2 * (240 - zCp cap m) ≤ bs - zGr cap m ∧ m ≤ zCp cap m := by
  unfold zGr zCp zNc
  by_cases c : m ≤ cap
  · rw [if_pos c, if_pos c]; omega
  · rw [if_neg c, if_neg c]; split <;> omega
theorem k_Mth_max_7cf53 {a b : Int} (ha : zI32 a) (hb : zI32 b) : zM G l hMth_max_7cf53 yMth_max_7cf53 1 [zi a, zi b] h (fun v h' => v = some (zi (if a < b then b else a)) ∧ h = h') zNo 0 0 := by
  refine zM.of [some (zi a), some (zi b)] (by decide +kernel) rfl (by decide) rfl (Nat.le_of_ble_eq_true rfl) rfl ?_
  refine z_iload_n dMth_max_7cf53_0 rfl ?_
  refine z_iload_n dMth_max_7cf53_1 rfl ?_
  refine z_icmp_lt (tgt := 9) dMth_max_7cf53_2 (by decide) (by omega) (by omega) (fun c2 => ?_) (fun c2 => ?_)
  · refine z_iload_n dMth_max_7cf53_9 rfl ?_
    refine z_iret rfl rfl dMth_max_7cf53_10 ?_
    first
      | exact ⟨by rw [if_pos (by omega)], rfl⟩
      | exact ⟨by rw [if_neg (by omega)], rfl⟩
  · refine z_iload_n dMth_max_7cf53_5 rfl ?_
    refine z_goto (tgt := 10) dMth_max_7cf53_6 (by decide) ?_
    refine z_iret rfl rfl dMth_max_7cf53_10 ?_
    first
      | exact ⟨by rw [if_pos (by omega)], rfl⟩
      | exact ⟨by rw [if_neg (by omega)], rfl⟩
theorem k_Mth_min_7cf53 {a b : Int} (ha : zI32 a) (hb : zI32 b) : zM G l hMth_min_7cf53 yMth_min_7cf53 1 [zi a, zi b] h (fun v h' => v = some (zi (if a ≤ b then a else b)) ∧ h = h') zNo 0 0 := by
  refine zM.of [some (zi a), some (zi b)] (by decide +kernel) rfl (by decide) rfl (Nat.le_of_ble_eq_true rfl) rfl ?_
  refine z_iload_n dMth_min_7cf53_0 rfl ?_
  refine z_iload_n dMth_min_7cf53_1 rfl ?_
  refine z_icmp_gt (tgt := 9) dMth_min_7cf53_2 (by decide) (by omega) (by omega) (fun c2 => ?_) (fun c2 => ?_)
  · refine z_iload_n dMth_min_7cf53_9 rfl ?_
    refine z_iret rfl rfl dMth_min_7cf53_10 ?_
    first
      | exact ⟨by rw [if_pos (by omega)], rfl⟩
      | exact ⟨by rw [if_neg (by omega)], rfl⟩
  · refine z_iload_n dMth_min_7cf53_5 rfl ?_
    refine z_goto (tgt := 10) dMth_min_7cf53_6 (by decide) ?_
    refine z_iret rfl rfl dMth_min_7cf53_10 ?_
    first
      | exact ⟨by rw [if_pos (by omega)], rfl⟩
      | exact ⟨by rw [if_neg (by omega)], rfl⟩
theorem k_Asu_newLength_cabcc {o g p : Int} (h1 : 0 ≤ o ∧ o ≤ 1000) (h2 : 0 ≤ g ∧ g ≤ 1000) (h3 : 0 < p ∧ p ≤ 3000) : zM G l hAsu_newLength_cabcc yAsu_newLength_cabcc 2 [zi o, zi g, zi p] h (fun v h' => v = some (zi (o + (if g < p then p else g))) ∧ h = h') zNo 0 0 := by
  refine zM.of [some (zi o), some (zi g), some (zi p), none] (by decide +kernel) rfl (by decide) rfl (Nat.le_of_ble_eq_true rfl) rfl ?_
  refine z_iload_n dAsu_newLength_cabcc_0 rfl ?_
  refine z_iload_n dAsu_newLength_cabcc_1 rfl ?_
  refine z_iload_n dAsu_newLength_cabcc_2 rfl ?_
  refine z_callS MS_Mth_max_7cf53 lk_Asu_194 dAsu_newLength_cabcc_3 (k_Mth_max_7cf53 (by omega) (by omega)) rfl rfl (Nat.le_of_ble_eq_true rfl)  (Nat.le_of_ble_eq_true rfl) (Nat.le_of_ble_eq_true rfl) (Nat.le_of_eq (Nat.zero_add _)) (Nat.le_of_eq (Nat.zero_add _)) (fun _ _ q => q.elim) ?_
  rintro _ _ ⟨rfl, rfl⟩
  have hmx : 0 < (if g < p then p else g) ∧ (if g < p then p else g) ≤ 3000 := by split <;> omega
  refine z_iadd dAsu_newLength_cabcc_6 ?_
  refine z_istore_n dAsu_newLength_cabcc_7 (Nat.le_of_ble_eq_true rfl) ?_
  refine z_iconst dAsu_newLength_cabcc_8 ?_
  refine z_iload_n dAsu_newLength_cabcc_9 rfl ?_
  refine z_icmp_ge (tgt := 21) dAsu_newLength_cabcc_10 (by decide) (by omega) (by omega) (fun c10 => ?_) (fun c10 => ?_)
  · exfalso; omega
  · refine z_iload_n dAsu_newLength_cabcc_13 rfl ?_
    refine z_ldc (v := (2147483639 : Int32)) dAsu_newLength_cabcc_14 (2147483639) (by decide) ct_Asu_200 ?_
    refine z_icmp_gt (tgt := 21) dAsu_newLength_cabcc_16 (by decide) (by omega) (by omega) (fun c16 => ?_) (fun c16 => ?_)
    · exfalso; omega
    · refine z_iload_n dAsu_newLength_cabcc_19 rfl ?_
      refine z_iret rfl rfl dAsu_newLength_cabcc_20 ?_
      exact ⟨rfl, rfl⟩
theorem k_Asb_newCapacity_0f7a4 {b a cap k : Nat} {ml x3 : Value} {f : Nat → Int} (e : h b = some (.inr (zkSbd, [.ref a, zi 0, ml, x3]))) (ea : h a = some (zBytes G cap f)) (hm : cap < k ∧ k ≤ 300) (hc : cap ≤ 300) : zM G l hAsb_newCapacity_0f7a4 yAsb_newCapacity_0f7a4 3 [.ref b, zi (k : Int)] h (fun v h' => v = some (zi (zNc cap k : Int)) ∧ h = h') zNo 0 0 := by
  refine zM.of [some (.ref b), some (zi (k : Int)), none, none, none, none] (by decide +kernel) rfl (by decide) rfl (Nat.le_of_ble_eq_true rfl) rfl ?_
  refine z_aload_n dAsb_newCapacity_0f7a4_0 rfl ?_
  refine z_get (k := 0) fd_Sbd (by decide) fl_Asb_15 dAsb_newCapacity_0f7a4_1 (by assumption) (by rfl) ?_
  refine z_alenB dAsb_newCapacity_0f7a4_4 ea ?_
  refine z_istore_n dAsb_newCapacity_0f7a4_5 (Nat.le_of_ble_eq_true rfl) ?_
  refine z_iload_n dAsb_newCapacity_0f7a4_6 rfl ?_
  refine z_aload_n dAsb_newCapacity_0f7a4_7 rfl ?_
  refine z_get (k := 1) fd_Sbd (by decide) fl_Asb_22 dAsb_newCapacity_0f7a4_8 (by assumption) (by rfl) ?_
  refine z_ishl _ (zshl0 _) dAsb_newCapacity_0f7a4_11 ?_
  refine z_istore_n dAsb_newCapacity_0f7a4_12 (Nat.le_of_ble_eq_true rfl) ?_
  refine z_iload_n dAsb_newCapacity_0f7a4_13 rfl ?_
  refine z_iload_n dAsb_newCapacity_0f7a4_14 rfl ?_
  refine z_isub dAsb_newCapacity_0f7a4_15 ?_
  refine z_istore dAsb_newCapacity_0f7a4_16 (Nat.le_of_ble_eq_true rfl) ?_
  refine z_iload_n dAsb_newCapacity_0f7a4_18 rfl ?_
  refine z_iload dAsb_newCapacity_0f7a4_19 rfl ?_
  refine z_iload_n dAsb_newCapacity_0f7a4_21 rfl ?_
  refine z_iconst dAsb_newCapacity_0f7a4_22 ?_
  refine z_aload_n dAsb_newCapacity_0f7a4_23 rfl ?_
  refine z_get (k := 1) fd_Sbd (by decide) fl_Asb_22 dAsb_newCapacity_0f7a4_24 (by assumption) (by rfl) ?_
  refine z_ishl _ (zshl0 _) dAsb_newCapacity_0f7a4_27 ?_
  refine z_iadd dAsb_newCapacity_0f7a4_28 ?_
  refine z_callS MS_Asu_newLength_cabcc lk_Asb_114 dAsb_newCapacity_0f7a4_29 (k_Asu_newLength_cabcc (by omega) (by omega) (by omega)) rfl rfl (Nat.le_of_ble_eq_true rfl)  (Nat.le_of_ble_eq_true rfl) (Nat.le_of_ble_eq_true rfl) (Nat.le_of_eq (Nat.zero_add _)) (Nat.le_of_eq (Nat.zero_add _)) (fun _ _ q => q.elim) ?_
  rintro _ _ ⟨rfl, rfl⟩
  have hnc : (cap : Int) + (if (k : Int) - cap < (cap : Int) + 2 then (cap : Int) + 2 else (k : Int) - cap) = (zNc cap k : Int) := by
    unfold zNc
    split <;> split <;> omega
  rw [hnc]
  have hnb : zNc cap k ≤ 1000 := by unfold zNc; split <;> omega
  refine z_istore dAsb_newCapacity_0f7a4_32 (Nat.le_of_ble_eq_true rfl) ?_
  refine z_iload dAsb_newCapacity_0f7a4_34 rfl ?_
  refine z_ldc (v := (2147483647 : Int32)) dAsb_newCapacity_0f7a4_36 (2147483647) (by decide) ct_Asb_39 ?_
  refine z_icmp_ne (tgt := 51) dAsb_newCapacity_0f7a4_38 (by decide) (by omega) (by omega) (fun c38 => ?_) (fun c38 => ?_)
  · refine z_iload dAsb_newCapacity_0f7a4_51 rfl ?_
    refine z_aload_n dAsb_newCapacity_0f7a4_53 rfl ?_
    refine z_get (k := 1) fd_Sbd (by decide) fl_Asb_22 dAsb_newCapacity_0f7a4_54 (by assumption) (by rfl) ?_
    refine z_ishr _ (zshr0 _) dAsb_newCapacity_0f7a4_57 ?_
    refine z_iret rfl rfl dAsb_newCapacity_0f7a4_58 ?_
    exact ⟨rfl, rfl⟩
  · exfalso; omega
theorem k_Arr_copyOf_9075b {a cap n : Nat} {f : Nat → Int} (ea : h a = some (zBytes G cap f)) (hf : zFit f) (hn : cap < n ∧ n ≤ 1000) : zM G l hArr_copyOf_9075b yArr_copyOf_9075b 2 [.ref a, zi (n : Int)] h (fun v h' => ∃ (q : Nat) (f' : Nat → Int), v = some (.ref q) ∧ zDm h q ∧ G.2.2 ≤ q ∧ h' q = some (zBytes G n f') ∧ zFit f' ∧ ∀ z, z ≠ q → h' z = h z) zNo 1 n := by
  refine zM.of [some (.ref a), some (zi (n : Int)), none] (by decide +kernel) rfl (by decide) rfl (Nat.le_of_ble_eq_true rfl) rfl ?_
  refine z_iload_n dArr_copyOf_9075b_0 rfl ?_
  refine z_aload_n dArr_copyOf_9075b_1 rfl ?_
  refine z_alenB dArr_copyOf_9075b_2 ea ?_
  refine z_icmp_ne (tgt := 14) dArr_copyOf_9075b_3 (by decide) (by omega) (by omega) (fun c3 => ?_) (fun c3 => ?_)
  · refine z_iload_n dArr_copyOf_9075b_14 rfl ?_
    refine z_newB (n := n) (bc' := 0) (bs' := 0) rfl dArr_copyOf_9075b_15 (by omega) (by decide) (by omega) (fun q h1 hq gq p1 F1 => ?_)
    have ea1 := (F1 a (Nat.ne_of_lt (hq a _ ea))).trans ea
    refine z_astore_n dArr_copyOf_9075b_17 (Nat.le_of_ble_eq_true rfl) ?_
    refine z_aload_n dArr_copyOf_9075b_18 rfl ?_
    refine z_iconst dArr_copyOf_9075b_19 ?_
    refine z_aload_n dArr_copyOf_9075b_20 rfl ?_
    refine z_iconst dArr_copyOf_9075b_21 ?_
    refine z_aload_n dArr_copyOf_9075b_22 rfl ?_
    refine z_alenB dArr_copyOf_9075b_23 ea1 ?_
    refine z_iload_n dArr_copyOf_9075b_24 rfl ?_
    refine z_callS MS_Mth_min_7cf53 lk_Arr_304 dArr_copyOf_9075b_25 (k_Mth_min_7cf53 (by omega) (by omega)) rfl rfl (Nat.le_of_ble_eq_true rfl)  (Nat.le_of_ble_eq_true rfl) (Nat.le_of_ble_eq_true rfl) (Nat.le_of_eq (Nat.zero_add _)) (Nat.le_of_eq (Nat.zero_add _)) (fun _ _ q => q.elim) ?_
    rintro _ _ ⟨rfl, rfl⟩
    rw [if_pos (show (cap : Int) ≤ n by omega)]
    refine z_copyb (n0 := cap) (n1 := n) (sp := 0) (dp := 0) (n := cap) lk_Arr_150 dArr_copyOf_9075b_28 ea1 p1 (by omega) (by omega) (by omega) hf (Nat.le_of_ble_eq_true rfl) (show 0 + (nativeFrameWords "java/lang/System" "arraycopy" 5 + 11) ≤ 2 * 64 by decide) ?_
    refine z_hx (fun h2 p2 F2 => ?_)
    refine z_aload_n dArr_copyOf_9075b_31 rfl ?_
    refine z_aret rfl (Or.inr ⟨_, rfl⟩) (Or.inr ⟨_, rfl⟩) dArr_copyOf_9075b_32 ?_
    exact ⟨q, _, rfl, hq, gq, p2, zFit_cpy hf zFit_0, fun z hz => (F2 z hz).trans (F1 z hz)⟩
  · exfalso; omega
theorem k_Asb_ensure {b a cap n k : Nat} (B : zSb G h0 h b a cap n) (hk : k ≤ 120) (hc : cap ≤ 240) : zM G l hAsb_ensureCapacityInternal_d00df yAsb_ensureCapacityInternal_d00df 4 [.ref b, zi (k : Int)] h (fun v h' => v = none ∧ ∃ a', zSb G h0 h' b a' (zCp cap k) n) zNo 1 (zGr cap k) := by
  have B0 := B
  obtain ⟨ml, f, e, ea, hf, hnc, hba, db, da, hx⟩ := B
  refine zM.of [some (.ref b), some (zi (k : Int)), none] (by decide +kernel) rfl (by decide) rfl (Nat.le_of_ble_eq_true rfl) rfl ?_
  refine z_aload_n dAsb_ensureCapacityInternal_d00df_0 rfl ?_
  refine z_get (k := 0) fd_Sbd (by decide) fl_Asb_15 dAsb_ensureCapacityInternal_d00df_1 (by assumption) (by rfl) ?_
  refine z_alenB dAsb_ensureCapacityInternal_d00df_4 ea ?_
  refine z_aload_n dAsb_ensureCapacityInternal_d00df_5 rfl ?_
  refine z_get (k := 1) fd_Sbd (by decide) fl_Asb_22 dAsb_ensureCapacityInternal_d00df_6 (by assumption) (by rfl) ?_
  refine z_ishr _ (zshr0 _) dAsb_ensureCapacityInternal_d00df_9 ?_
  refine z_istore_n dAsb_ensureCapacityInternal_d00df_10 (Nat.le_of_ble_eq_true rfl) ?_
  refine z_iload_n dAsb_ensureCapacityInternal_d00df_11 rfl ?_
  refine z_iload_n dAsb_ensureCapacityInternal_d00df_12 rfl ?_
  refine z_isub dAsb_ensureCapacityInternal_d00df_13 ?_
  refine z_if_le (tgt := 38) dAsb_ensureCapacityInternal_d00df_14 (by decide) (by omega) (fun c14 => ?_) (fun c14 => ?_)
  · refine z_vret rfl dAsb_ensureCapacityInternal_d00df_38 ?_
    exact ⟨rfl, a, by unfold zCp; rw [if_pos (by omega)]; exact B0⟩
  · refine z_aload_n dAsb_ensureCapacityInternal_d00df_17 rfl ?_
    refine z_aload_n dAsb_ensureCapacityInternal_d00df_18 rfl ?_
    refine z_get (k := 0) fd_Sbd (by decide) fl_Asb_15 dAsb_ensureCapacityInternal_d00df_19 (by assumption) (by rfl) ?_
    refine z_aload_n dAsb_ensureCapacityInternal_d00df_22 rfl ?_
    refine z_iload_n dAsb_ensureCapacityInternal_d00df_23 rfl ?_
    refine z_callC ME_Asb_newCapacity_0f7a4 IN_Asb_newCapacity_0f7a4 SE_Asb_newCapacity_0f7a4 lk_Asb_104 dAsb_ensureCapacityInternal_d00df_24 (k_Asb_newCapacity_0f7a4 e ea (by omega) (by omega)) rfl rfl (Nat.le_of_ble_eq_true rfl) (ci := zkSbd) rfl (by assumption) (Nat.le_of_ble_eq_true rfl) (Nat.le_of_ble_eq_true rfl) (Nat.le_of_eq (Nat.zero_add _)) (Nat.le_of_eq (Nat.zero_add _)) (fun _ _ q => q.elim) ?_
    rintro _ _ ⟨rfl, rfl⟩
    have hg : zGr cap k = zNc cap k := if_neg (by omega)
    have hp : zCp cap k = zNc cap k := if_neg (by omega)
    have hb1 : cap < zNc cap k ∧ zNc cap k ≤ 1000 ∧ k ≤ zNc cap k := by unfold zNc; split <;> omega
    refine z_aload_n dAsb_ensureCapacityInternal_d00df_27 rfl ?_
    refine z_get (k := 1) fd_Sbd (by decide) fl_Asb_22 dAsb_ensureCapacityInternal_d00df_28 (by assumption) (by rfl) ?_
    refine z_ishl _ (zshl0 _) dAsb_ensureCapacityInternal_d00df_31 ?_
    refine z_callS (bc' := 0) (bs' := 0) MS_Arr_copyOf_9075b lk_Asb_108 dAsb_ensureCapacityInternal_d00df_32 (k_Arr_copyOf_9075b ea hf (by omega)) rfl rfl (Nat.le_of_ble_eq_true rfl)  (Nat.le_of_ble_eq_true rfl) (Nat.le_of_ble_eq_true rfl) (by omega) (by omega) (fun _ _ q => q.elim) ?_
    rintro _ h2 ⟨q, f', rfl, hq, gq, p2, hf2, F2⟩
    have e2 := (F2 b (Nat.ne_of_lt (hq b _ e))).trans e
    refine z_put (k := 0) fd_Sbd (by decide) fl_Asb_15 rfl dAsb_ensureCapacityInternal_d00df_35 e2 (by simp) rfl rfl ?_
    refine z_hx (fun h3 p3 F3 => ?_)
    refine z_vret rfl dAsb_ensureCapacityInternal_d00df_38 ?_
    refine ⟨rfl, q, ml, f', p3, ?_, hf2, by omega, Nat.ne_of_lt (hq b _ e), db, hq.dn hx, fun z x hz => ?_⟩
    · rw [hp]
      exact (F3 q (Nat.ne_of_lt (hq b _ e)).symm).trans p2
    · have hz1 := hx z x hz
      have z1 : z ≠ b := Nat.ne_of_lt (db z x hz)
      have z2 : z ≠ q := Nat.ne_of_lt (hq z x hz1)
      exact (F3 z z1).trans ((F2 z z2).trans hz1)
end STR4
end
section
section STR5
variable {G : zG} {l : Launch} {h h' h0 : zHp}
theorem k_Asb_init {b : Nat} (e : h b = some (.inr (zkSbd, [.null, zi 0, zi 0, zi 0]))) : zM G l hAsb_init_d00df yAsb_init_d00df 2 [.ref b, zi 16] h (fun v h' => v = none ∧ ∃ q, zDm h q ∧ G.2.2 ≤ q ∧ h' b = some (.inr (zkSbd, [.ref q, zi 0, zi 0, zi 0])) ∧ h' q = some (zBytes G 16 (fun _ => 0)) ∧ ∀ z, z ≠ b → z ≠ q → h' z = h z) zNo 1 16 := by
  refine zM.of [some (.ref b), some (zi 16)] (by decide +kernel) rfl (by decide) rfl (Nat.le_of_ble_eq_true rfl) rfl ?_
  refine z_aload_n dAsb_init_d00df_0 rfl ?_
  refine z_obj lk_Asb_3 ob_i ob_c dAsb_init_d00df_1 (Nat.le_of_ble_eq_true rfl) (Nat.le_of_ble_eq_true rfl) (Nat.le_of_ble_eq_true rfl) ?_
  refine z_gets zZcs fl_Asb_18 dAsb_init_d00df_4 ?_
  refine z_if_eq (tgt := 25) dAsb_init_d00df_7 (by decide) (by omega) (fun c7 => ?_) (fun c7 => ?_)
  · exact absurd c7 (by decide)
  · refine z_aload_n dAsb_init_d00df_10 rfl ?_
    refine z_iload_n dAsb_init_d00df_11 rfl ?_
    refine z_newB (n := 16) (bc' := 0) (bs' := 0) rfl dAsb_init_d00df_12 (by decide) (by decide) (by decide) (fun q h1 hq gq p1 f1 => ?_)
    have hbq : b ≠ q := Nat.ne_of_lt (hq b _ e)
    have e1 := (f1 b hbq).trans e
    refine z_put (k := 0) fd_Sbd (by decide) fl_Asb_15 rfl dAsb_init_d00df_14 e1 (by simp) rfl rfl ?_
    refine z_hx (fun h2 p2 F2 => ?_)
    refine z_aload_n dAsb_init_d00df_17 rfl ?_
    refine z_iconst dAsb_init_d00df_18 ?_
    refine z_put (k := 1) fd_Sbd (by decide) fl_Asb_22 rfl dAsb_init_d00df_19 p2 (by simp) rfl rfl ?_
    refine z_hx (fun h3 p3 F3 => ?_)
    refine z_goto (tgt := 38) dAsb_init_d00df_22 (by decide) ?_
    refine z_vret rfl dAsb_init_d00df_38 ?_
    exact ⟨rfl, q, hq, gq, p3, (F3 q (Ne.symm hbq)).trans ((F2 q (Ne.symm hbq)).trans p1), fun z z1 z2 => (F3 z z1).trans ((F2 z z1).trans (f1 z z2))⟩
theorem k_Sbd_init {b : Nat} (e : h b = some (.inr (zkSbd, [.null, zi 0, zi 0, zi 0]))) : zM G l hSbd_init_da8c8 ySbd_init_da8c8 3 [.ref b] h (fun v h' => v = none ∧ ∃ q, zDm h q ∧ G.2.2 ≤ q ∧ h' b = some (.inr (zkSbd, [.ref q, zi 0, zi 0, zi 0])) ∧ h' q = some (zBytes G 16 (fun _ => 0)) ∧ ∀ z, z ≠ b → z ≠ q → h' z = h z) zNo 1 16 := by
  refine zM.of [some (.ref b)] (by decide +kernel) rfl (by decide) rfl (Nat.le_of_ble_eq_true rfl) rfl ?_
  refine z_aload_n dSbd_init_da8c8_0 rfl ?_
  refine z_bipush dSbd_init_da8c8_1 rfl ?_
  refine z_callI (bc' := 0) (bs' := 0) MI_Asb_init_d00df lk_Sbd_1 dSbd_init_da8c8_3 (k_Asb_init e) rfl rfl (Nat.le_of_ble_eq_true rfl)  (Nat.le_of_ble_eq_true rfl) (Nat.le_of_ble_eq_true rfl) (by decide) (by decide) (fun _ _ q => q.elim) ?_
  rintro _ h1 ⟨rfl, hq9⟩
  refine z_vret rfl dSbd_init_da8c8_6 ?_
  exact ⟨rfl, hq9⟩
theorem k_Str_coder {q n : Nat} (hs : zSr G h q n) : zM G l hStr_coder_7d493 yStr_coder_7d493 1 [.ref q] h (fun v h' => v = some (zi 0) ∧ h = h') zNo 0 0 := by
  refine zM.of [some (.ref q)] (by decide +kernel) rfl (by decide) rfl (Nat.le_of_ble_eq_true rfl) rfl ?_
  rcases hs with ⟨b9, rfl, hn9⟩ | ⟨v, f, x2, x3, e, ev, hf⟩
  · refine z_gets zZcs fl_Str_38 dStr_coder_7d493_0 ?_
    refine z_if_eq (tgt := 13) dStr_coder_7d493_3 (by decide) (by omega) (fun c3 => ?_) (fun c3 => ?_)
    · exact absurd c3 (by decide)
    · refine z_aload_n dStr_coder_7d493_6 rfl ?_
      refine z_getO (o := "java/lang/String") (n := "coder") (d := "B") (zOc b9) fl_Str_15 dStr_coder_7d493_7 ?_
      refine z_goto (tgt := 14) dStr_coder_7d493_10 (by decide) ?_
      refine z_iret rfl rfl dStr_coder_7d493_14 ?_
      exact ⟨rfl, rfl⟩
  · refine z_gets zZcs fl_Str_38 dStr_coder_7d493_0 ?_
    refine z_if_eq (tgt := 13) dStr_coder_7d493_3 (by decide) (by omega) (fun c3 => ?_) (fun c3 => ?_)
    · exact absurd c3 (by decide)
    · refine z_aload_n dStr_coder_7d493_6 rfl ?_
      refine z_get (k := 1) fd_Str (by decide) fl_Str_15 dStr_coder_7d493_7 (by assumption) (by rfl) ?_
      refine z_goto (tgt := 14) dStr_coder_7d493_10 (by decide) ?_
      refine z_iret rfl rfl dStr_coder_7d493_14 ?_
      exact ⟨rfl, rfl⟩
theorem k_Str_length {q n : Nat} (hs : zSr G h q n) : zM G l hStr_length_8abf5 yStr_length_8abf5 2 [.ref q] h (fun v h' => v = some (zi (n : Int)) ∧ h = h') zNo 0 0 := by
  have hs0 := hs
  refine zM.of [some (.ref q)] (by decide +kernel) rfl (by decide) rfl (Nat.le_of_ble_eq_true rfl) rfl ?_
  rcases hs with ⟨b9, rfl, hn9⟩ | ⟨v, f, x2, x3, e, ev, hf⟩
  · refine z_aload_n dStr_length_8abf5_0 rfl ?_
    refine z_getO (o := "java/lang/String") (n := "value") (d := "[B") (zOv b9) fl_Str_9 dStr_length_8abf5_1 ?_
    refine z_alenO (ty := .byte) (N := if b9 then 0 else 1) (fun U H hZ => ⟨_, (zOt b9 U H hZ).choose_spec.1⟩) dStr_length_8abf5_4 ?_
    refine z_aload_n dStr_length_8abf5_5 rfl ?_
    refine z_callVR MV_Str_coder_7d493 lk_Str_335 dStr_length_8abf5_6 (k_Str_coder hs0) rfl rfl (Nat.le_of_ble_eq_true rfl) hs0.recv (Nat.le_of_ble_eq_true rfl) (Nat.le_of_ble_eq_true rfl) (Nat.le_of_eq (Nat.zero_add _)) (Nat.le_of_eq (Nat.zero_add _)) (fun _ _ q => q.elim) ?_
    rintro _ _ ⟨rfl, rfl⟩
    refine z_ishr _ (zshr0 _) dStr_length_8abf5_9 ?_
    refine z_iret rfl rfl dStr_length_8abf5_10 ?_
    exact ⟨by rw [hn9], rfl⟩
  · refine z_aload_n dStr_length_8abf5_0 rfl ?_
    refine z_get (k := 0) fd_Str (by decide) fl_Str_9 dStr_length_8abf5_1 (by assumption) (by rfl) ?_
    refine z_alenB dStr_length_8abf5_4 ev ?_
    refine z_aload_n dStr_length_8abf5_5 rfl ?_
    refine z_callVR MV_Str_coder_7d493 lk_Str_335 dStr_length_8abf5_6 (k_Str_coder hs0) rfl rfl (Nat.le_of_ble_eq_true rfl) hs0.recv (Nat.le_of_ble_eq_true rfl) (Nat.le_of_ble_eq_true rfl) (Nat.le_of_eq (Nat.zero_add _)) (Nat.le_of_eq (Nat.zero_add _)) (fun _ _ q => q.elim) ?_
    rintro _ _ ⟨rfl, rfl⟩
    refine z_ishr _ (zshr0 _) dStr_length_8abf5_9 ?_
    refine z_iret rfl rfl dStr_length_8abf5_10 ?_
    exact ⟨rfl, rfl⟩
theorem k_Asb_isLatin1 {b : Nat} {x0 ml x3 : Value} (e : h b = some (.inr (zkSbd, [x0, zi 0, ml, x3]))) : zM G l hAsb_isLatin1_aae02 yAsb_isLatin1_aae02 1 [.ref b] h (fun v h' => v = some (zi 1) ∧ h = h') zNo 0 0 := by
  refine zM.of [some (.ref b)] (by decide +kernel) rfl (by decide) rfl (Nat.le_of_ble_eq_true rfl) rfl ?_
  refine z_gets zZcs fl_Asb_18 dAsb_isLatin1_aae02_0 ?_
  refine z_if_eq (tgt := 17) dAsb_isLatin1_aae02_3 (by decide) (by omega) (fun c3 => ?_) (fun c3 => ?_)
  · first
      | exact absurd c3 (by decide)
      | exact absurd rfl c10
  · refine z_aload_n dAsb_isLatin1_aae02_6 rfl ?_
    refine z_get (k := 1) fd_Sbd (by decide) fl_Asb_22 dAsb_isLatin1_aae02_7 (by assumption) (by rfl) ?_
    refine z_if_ne (tgt := 17) dAsb_isLatin1_aae02_10 (by decide) (by omega) (fun c10 => ?_) (fun c10 => ?_)
    · first
        | exact absurd c3 (by decide)
        | exact absurd rfl c10
    · refine z_iconst dAsb_isLatin1_aae02_13 ?_
      refine z_goto (tgt := 18) dAsb_isLatin1_aae02_14 (by decide) ?_
      refine z_iret rfl rfl dAsb_isLatin1_aae02_18 ?_
      exact ⟨rfl, rfl⟩
theorem k_Str_getBytes {q n a cap p : Nat} {g : Nat → Int} (hs : zSr G h q n) (ea : h a = some (zBytes G cap g)) (hg : zFit g) (hp : p + n ≤ cap) (hc : cap ≤ 1000) : zM G l hStr_getBytes_840e7 yStr_getBytes_840e7 2 [.ref q, .ref a, zi (p : Int), zi 0] h (fun v h' => v = none ∧ ∃ g', zFit g' ∧ h' a = some (zBytes G cap g') ∧ ∀ z, z ≠ a → h' z = h z) zNo 0 0 := by
  have hs0 := hs
  refine zM.of [some (.ref q), some (.ref a), some (zi (p : Int)), some (zi 0)] (by decide +kernel) rfl (by decide) rfl (Nat.le_of_ble_eq_true rfl) rfl ?_
  rcases hs with ⟨b9, rfl, hn9⟩ | ⟨v, f, x2, x3, e, ev, hf⟩
  · refine z_aload_n dStr_getBytes_840e7_0 rfl ?_
    refine z_callVR MV_Str_coder_7d493 lk_Str_335 dStr_getBytes_840e7_1 (k_Str_coder hs0) rfl rfl (Nat.le_of_ble_eq_true rfl) hs0.recv (Nat.le_of_ble_eq_true rfl) (Nat.le_of_ble_eq_true rfl) (Nat.le_of_eq (Nat.zero_add _)) (Nat.le_of_eq (Nat.zero_add _)) (fun _ _ q => q.elim) ?_
    rintro _ _ ⟨rfl, rfl⟩
    refine z_iload_n dStr_getBytes_840e7_4 rfl ?_
    refine z_icmp_ne (tgt := 28) dStr_getBytes_840e7_5 (by decide) (by omega) (by omega) (fun c5 => ?_) (fun c5 => ?_)
    · exact absurd rfl c5
    · refine z_aload_n dStr_getBytes_840e7_8 rfl ?_
      refine z_getO (o := "java/lang/String") (n := "value") (d := "[B") (zOv b9) fl_Str_9 dStr_getBytes_840e7_9 ?_
      refine z_iconst dStr_getBytes_840e7_12 ?_
      refine z_aload_n dStr_getBytes_840e7_13 rfl ?_
      refine z_iload_n dStr_getBytes_840e7_14 rfl ?_
      refine z_iload_n dStr_getBytes_840e7_15 rfl ?_
      refine z_ishl _ (zshl0 _) dStr_getBytes_840e7_16 ?_
      refine z_aload_n dStr_getBytes_840e7_17 rfl ?_
      refine z_getO (o := "java/lang/String") (n := "value") (d := "[B") (zOv b9) fl_Str_9 dStr_getBytes_840e7_18 ?_
      refine z_alenO (ty := .byte) (N := if b9 then 0 else 1) (fun U H hZ => ⟨_, (zOt b9 U H hZ).choose_spec.1⟩) dStr_getBytes_840e7_21 ?_
      refine z_copyO lk_Str_212 dStr_getBytes_840e7_22 ea (by rw [← hn9]; exact hp) (by omega) hg (Nat.le_of_ble_eq_true rfl) (show 0 + (nativeFrameWords "java/lang/System" "arraycopy" 5 + 11) ≤ 2 * 64 by decide) (fun g2 hg2 => ?_)
      refine z_hx (fun h2 p2 F2 => ?_)
      refine z_goto (tgt := 43) dStr_getBytes_840e7_25 (by decide) ?_
      refine z_vret rfl dStr_getBytes_840e7_43 ?_
      exact ⟨rfl, g2, hg2, p2, F2⟩
  · refine z_aload_n dStr_getBytes_840e7_0 rfl ?_
    refine z_callVR MV_Str_coder_7d493 lk_Str_335 dStr_getBytes_840e7_1 (k_Str_coder hs0) rfl rfl (Nat.le_of_ble_eq_true rfl) hs0.recv (Nat.le_of_ble_eq_true rfl) (Nat.le_of_ble_eq_true rfl) (Nat.le_of_eq (Nat.zero_add _)) (Nat.le_of_eq (Nat.zero_add _)) (fun _ _ q => q.elim) ?_
    rintro _ _ ⟨rfl, rfl⟩
    refine z_iload_n dStr_getBytes_840e7_4 rfl ?_
    refine z_icmp_ne (tgt := 28) dStr_getBytes_840e7_5 (by decide) (by omega) (by omega) (fun c5 => ?_) (fun c5 => ?_)
    · exact absurd rfl c5
    · refine z_aload_n dStr_getBytes_840e7_8 rfl ?_
      refine z_get (k := 0) fd_Str (by decide) fl_Str_9 dStr_getBytes_840e7_9 e (by rfl) ?_
      refine z_iconst dStr_getBytes_840e7_12 ?_
      refine z_aload_n dStr_getBytes_840e7_13 rfl ?_
      refine z_iload_n dStr_getBytes_840e7_14 rfl ?_
      refine z_iload_n dStr_getBytes_840e7_15 rfl ?_
      refine z_ishl _ (zshl0 _) dStr_getBytes_840e7_16 ?_
      refine z_aload_n dStr_getBytes_840e7_17 rfl ?_
      refine z_get (k := 0) fd_Str (by decide) fl_Str_9 dStr_getBytes_840e7_18 e (by rfl) ?_
      refine z_alenB dStr_getBytes_840e7_21 ev ?_
      refine z_copyb (n0 := n) (n1 := cap) (sp := 0) (dp := p) (n := n) lk_Str_212 dStr_getBytes_840e7_22 ev ea (by omega) (by omega) (by omega) hf (Nat.le_of_ble_eq_true rfl) (show 0 + (nativeFrameWords "java/lang/System" "arraycopy" 5 + 11) ≤ 2 * 64 by decide) ?_
      refine z_hx (fun h2 p2 F2 => ?_)
      refine z_goto (tgt := 43) dStr_getBytes_840e7_25 (by decide) ?_
      refine z_vret rfl dStr_getBytes_840e7_43 ?_
      exact ⟨rfl, _, zFit_cpy hf hg, p2, F2⟩
theorem k_Asb_inflateIf {b q n : Nat} {x0 ml x3 : Value} (e : h b = some (.inr (zkSbd, [x0, zi 0, ml, x3]))) (hs : zSr G h q n) : zM G l hAsb_inflateIfNeededFor_a7421 yAsb_inflateIfNeededFor_a7421 2 [.ref b, .ref q] h (fun v h' => v = none ∧ h = h') zNo 0 0 := by
  refine zM.of [some (.ref b), some (.ref q)] (by decide +kernel) rfl (by decide) rfl (Nat.le_of_ble_eq_true rfl) rfl ?_
  refine z_gets zZcs fl_Asb_18 dAsb_inflateIfNeededFor_a7421_0 ?_
  refine z_if_eq (tgt := 21) dAsb_inflateIfNeededFor_a7421_3 (by decide) (by omega) (fun c3 => ?_) (fun c3 => ?_)
  · refine z_vret rfl dAsb_inflateIfNeededFor_a7421_21 ?_
    exact ⟨rfl, rfl⟩
  · refine z_aload_n dAsb_inflateIfNeededFor_a7421_6 rfl ?_
    refine z_get (k := 1) fd_Sbd (by decide) fl_Asb_22 dAsb_inflateIfNeededFor_a7421_7 (by assumption) (by rfl) ?_
    refine z_aload_n dAsb_inflateIfNeededFor_a7421_10 rfl ?_
    refine z_callVR MV_Str_coder_7d493 lk_Asb_40 dAsb_inflateIfNeededFor_a7421_11 (k_Str_coder hs) rfl rfl (Nat.le_of_ble_eq_true rfl) hs.recv (Nat.le_of_ble_eq_true rfl) (Nat.le_of_ble_eq_true rfl) (Nat.le_of_eq (Nat.zero_add _)) (Nat.le_of_eq (Nat.zero_add _)) (fun _ _ q => q.elim) ?_
    rintro _ _ ⟨rfl, rfl⟩
    refine z_icmp_eq (tgt := 21) dAsb_inflateIfNeededFor_a7421_14 (by decide) (by omega) (by omega) (fun c14 => ?_) (fun c14 => ?_)
    · refine z_vret rfl dAsb_inflateIfNeededFor_a7421_21 ?_
      exact ⟨rfl, rfl⟩
    · exact absurd rfl c14
theorem k_Asb_putStringAt {b a cap q w p : Nat} {ml x3 : Value} {f : Nat → Int} (e : h b = some (.inr (zkSbd, [.ref a, zi 0, ml, x3]))) (ea : h a = some (zBytes G cap f)) (hf : zFit f) (hs : zSr G h q w) (hp : p + w ≤ cap) (hc : cap ≤ 1000) : zM G l hAsb_putStringAt_47b60 yAsb_putStringAt_47b60 3 [.ref b, zi (p : Int), .ref q] h (fun v h' => v = none ∧ ∃ g', zFit g' ∧ h' a = some (zBytes G cap g') ∧ ∀ z, z ≠ a → h' z = h z) zNo 0 0 := by
  refine zM.of [some (.ref b), some (zi (p : Int)), some (.ref q)] (by decide +kernel) rfl (by decide) rfl (Nat.le_of_ble_eq_true rfl) rfl ?_
  refine z_aload_n dAsb_putStringAt_47b60_0 rfl ?_
  refine z_aload_n dAsb_putStringAt_47b60_1 rfl ?_
  refine z_callC ME_Asb_inflateIfNeededFor_a7421 IN_Asb_inflateIfNeededFor_a7421 SE_Asb_inflateIfNeededFor_a7421 lk_Asb_397 dAsb_putStringAt_47b60_2 (k_Asb_inflateIf e hs) rfl rfl (Nat.le_of_ble_eq_true rfl) (ci := zkSbd) rfl (by assumption) (Nat.le_of_ble_eq_true rfl) (Nat.le_of_ble_eq_true rfl) (Nat.le_of_eq (Nat.zero_add _)) (Nat.le_of_eq (Nat.zero_add _)) (fun _ _ q => q.elim) ?_
  rintro _ _ ⟨rfl, rfl⟩
  refine z_aload_n dAsb_putStringAt_47b60_5 rfl ?_
  refine z_aload_n dAsb_putStringAt_47b60_6 rfl ?_
  refine z_get (k := 0) fd_Sbd (by decide) fl_Asb_15 dAsb_putStringAt_47b60_7 (by assumption) (by rfl) ?_
  refine z_iload_n dAsb_putStringAt_47b60_10 rfl ?_
  refine z_aload_n dAsb_putStringAt_47b60_11 rfl ?_
  refine z_get (k := 1) fd_Sbd (by decide) fl_Asb_22 dAsb_putStringAt_47b60_12 (by assumption) (by rfl) ?_
  refine z_callVR MV_Str_getBytes_840e7 lk_Asb_399 dAsb_putStringAt_47b60_15 (k_Str_getBytes hs ea hf hp hc) rfl rfl (Nat.le_of_ble_eq_true rfl) hs.recv (Nat.le_of_ble_eq_true rfl) (Nat.le_of_ble_eq_true rfl) (Nat.le_of_eq (Nat.zero_add _)) (Nat.le_of_eq (Nat.zero_add _)) (fun _ _ q => q.elim) ?_
  rintro _ h2 ⟨rfl, hq9⟩
  refine z_vret rfl dAsb_putStringAt_47b60_18 ?_
  exact ⟨rfl, hq9⟩
theorem k_Asb_appendS {b a cap n q w : Nat} (B : zSb G h0 h b a cap n) (hs : zSr G h0 q w) (hm : n + w ≤ 120) (hc : cap ≤ 240) : zM G l hAsb_append_cf1ce yAsb_append_cf1ce 5 [.ref b, .ref q] h (fun v h' => v = some (.ref b) ∧ ∃ a', zSb G h0 h' b a' (zCp cap (n + w)) (n + w)) zNo 1 (zGr cap (n + w)) := by
  have B0 := B
  obtain ⟨ml, f, e, ea, hf, hnc, hba, db, da, hx⟩ := B
  refine zM.of [some (.ref b), some (.ref q), none] (by decide +kernel) rfl (by decide) rfl (Nat.le_of_ble_eq_true rfl) rfl ?_
  refine z_aload_n dAsb_append_cf1ce_0 rfl ?_
  refine z_ifnonnull (tgt := 9) dAsb_append_cf1ce_1 (by decide) ?_
  refine z_aload_n dAsb_append_cf1ce_9 rfl ?_
  refine z_callVR MV_Str_length_8abf5 lk_Asb_32 dAsb_append_cf1ce_10 (k_Str_length (hs.ext hx)) rfl rfl (Nat.le_of_ble_eq_true rfl) (hs.ext hx).recv (Nat.le_of_ble_eq_true rfl) (Nat.le_of_ble_eq_true rfl) (Nat.le_of_eq (Nat.zero_add _)) (Nat.le_of_eq (Nat.zero_add _)) (fun _ _ q => q.elim) ?_
  rintro _ _ ⟨rfl, rfl⟩
  refine z_istore_n dAsb_append_cf1ce_13 (Nat.le_of_ble_eq_true rfl) ?_
  refine z_aload_n dAsb_append_cf1ce_14 rfl ?_
  refine z_aload_n dAsb_append_cf1ce_15 rfl ?_
  refine z_get (k := 3) fd_Sbd (by decide) fl_Asb_79 dAsb_append_cf1ce_16 (by assumption) (by rfl) ?_
  refine z_iload_n dAsb_append_cf1ce_19 rfl ?_
  refine z_iadd dAsb_append_cf1ce_20 ?_
  rw [show (n : Int) + (w : Int) = ((n + w : Nat) : Int) by omega]
  refine z_callC (bc' := 0) (bs' := 0) ME_Asb_ensureCapacityInternal_d00df IN_Asb_ensureCapacityInternal_d00df SE_Asb_ensureCapacityInternal_d00df lk_Asb_100 dAsb_append_cf1ce_21 (k_Asb_ensure (k := n + w) B0 (by omega) hc) rfl rfl (Nat.le_of_ble_eq_true rfl) (ci := zkSbd) rfl (by assumption) (Nat.le_of_ble_eq_true rfl) (Nat.le_of_ble_eq_true rfl) (by omega) (by omega) (fun _ _ q => q.elim) ?_
  rintro _ h2 ⟨rfl, a2, B2⟩
  obtain ⟨ml2, f2, e2, ea2, hf2, hnc2, hba2, db2, da2, hx2⟩ := B2
  have hcp : n + w ≤ zCp cap (n + w) ∧ zCp cap (n + w) ≤ 240 := by unfold zCp zNc; split <;> (try split) <;> omega
  refine z_aload_n dAsb_append_cf1ce_24 rfl ?_
  refine z_aload_n dAsb_append_cf1ce_25 rfl ?_
  refine z_get (k := 3) fd_Sbd (by decide) fl_Asb_79 dAsb_append_cf1ce_26 (by assumption) (by rfl) ?_
  refine z_aload_n dAsb_append_cf1ce_29 rfl ?_
  refine z_callC ME_Asb_putStringAt_47b60 IN_Asb_putStringAt_47b60 SE_Asb_putStringAt_47b60 lk_Asb_208 dAsb_append_cf1ce_30 (k_Asb_putStringAt e2 ea2 hf2 (hs.ext hx2) hcp.1 (by omega)) rfl rfl (Nat.le_of_ble_eq_true rfl) (ci := zkSbd) rfl (by assumption) (Nat.le_of_ble_eq_true rfl) (Nat.le_of_ble_eq_true rfl) (Nat.le_of_eq (Nat.zero_add _)) (Nat.le_of_eq (Nat.zero_add _)) (fun _ _ q => q.elim) ?_
  rintro _ h3 ⟨rfl, g3, hg3, p3, F3⟩
  have e3 := (F3 b hba2).trans e2
  refine z_aload_n dAsb_append_cf1ce_33 rfl ?_
  refine z_dup rfl dAsb_append_cf1ce_34 ?_
  refine z_get (k := 3) fd_Sbd (by decide) fl_Asb_79 dAsb_append_cf1ce_35 (by assumption) (by rfl) ?_
  refine z_iload_n dAsb_append_cf1ce_38 rfl ?_
  refine z_iadd dAsb_append_cf1ce_39 ?_
  refine z_put (k := 3) fd_Sbd (by decide) fl_Asb_79 rfl dAsb_append_cf1ce_40 e3 (by simp) rfl rfl ?_
  refine z_hx (fun h4 p4 F4 => ?_)
  refine z_aload_n dAsb_append_cf1ce_43 rfl ?_
  refine z_aret rfl (Or.inl ⟨_, rfl⟩) (Or.inr ⟨_, rfl⟩) dAsb_append_cf1ce_44 ?_
  refine ⟨rfl, a2, ml2, g3, ?_, (F4 a2 (Ne.symm hba2)).trans p3, hg3, hcp.1, hba2, db2, da2, fun z x hz => ?_⟩
  · rw [show ((n + w : Nat) : Int) = (n : Int) + (w : Int) by omega]
    exact p4
  · exact (F4 z (Nat.ne_of_lt (db2 z x hz))).trans ((F3 z (Nat.ne_of_lt (da2 z x hz))).trans (hx2 z x hz))
theorem k_Sbd_appendS {b a cap n q w : Nat} (B : zSb G h0 h b a cap n) (hs : zSr G h0 q w) (hm : n + w ≤ 120) (hc : cap ≤ 240) : zM G l hSbd_append_15ec4 ySbd_append_15ec4 6 [.ref b, .ref q] h (fun v h' => v = some (.ref b) ∧ ∃ a', zSb G h0 h' b a' (zCp cap (n + w)) (n + w)) zNo 1 (zGr cap (n + w)) := by
  have B0 := B
  obtain ⟨ml, f, e, ea, hf, hnc, hba, db, da, hx⟩ := B
  refine zM.of [some (.ref b), some (.ref q)] (by decide +kernel) rfl (by decide) rfl (Nat.le_of_ble_eq_true rfl) rfl ?_
  refine z_aload_n dSbd_append_15ec4_0 rfl ?_
  refine z_aload_n dSbd_append_15ec4_1 rfl ?_
  refine z_callSU (bc' := 0) (bs' := 0) ME_Asb_append_cf1ce IN_Asb_append_cf1ce SM_Asb_append_cf1ce SU_Sbd (by decide) lk_Sbd_29 dSbd_append_15ec4_2 (k_Asb_appendS B0 hs hm hc) rfl rfl (Nat.le_of_ble_eq_true rfl) (by assumption) (Nat.le_of_ble_eq_true rfl) (Nat.le_of_ble_eq_true rfl) (by omega) (by omega) (fun _ _ q => q.elim) ?_
  rintro _ h2 ⟨rfl, a2, B2⟩
  refine z_pop rfl dSbd_append_15ec4_5 ?_
  refine z_aload_n dSbd_append_15ec4_6 rfl ?_
  refine z_aret rfl (Or.inl ⟨_, rfl⟩) (Or.inr ⟨_, rfl⟩) dSbd_append_15ec4_7 ?_
  exact ⟨rfl, a2, B2⟩
end STR5
end
section
section STR6
variable {G : zG} {l : Launch} {h h' h0 : zHp}
def zSz (x : Int) : Nat := (if x < 0 then 1 else 0) + (if -10 < x ∧ x < 10 then 1 else if -100 < x ∧ x < 100 then 2 else if -1000 < x ∧ x < 1000 then 3 else 4)
theorem zSz_spec (x : Int) : 1 ≤ zSz x ∧ (x ≤ -1 → 2 ≤ zSz x) ∧ (10 ≤ x → 2 ≤ zSz x) ∧ (x ≤ -10 → 3 ≤ zSz x) ∧ (100 ≤ x → 3 ≤ zSz x) ∧ (x ≤ -100 → 4 ≤ zSz x) ∧ (1000 ≤ x → 4 ≤ zSz x) ∧ (x ≤ -1000 → 5 ≤ zSz x) ∧ zSz x ≤ 5 := by
  unfold zSz
  (repeat' split) <;> omega
theorem zdivn {i : Int} (h : -2147483648 < i ∧ i ≤ 0) : zI i / zI 100 = zI (-((-i) / 100)) := by
  apply Int32.toInt_inj.mp
  have e : i.tdiv 100 = -((-i) / 100) := by
    have e1 : i.tdiv 100 = -((-i).tdiv 100) := by rw [Int.neg_tdiv]; omega
    rw [e1, Int.tdiv_eq_ediv_of_nonneg (by omega)]
  rw [Int32.toInt_div, zI_toInt (by omega), zI_toInt (by omega), zI_toInt (by omega), e]
  exact Int.bmod_eq_of_le_mul_two (by omega) (by omega)
theorem zbst (x : Int) : (zI x).toInt8.toInt32 = zI ((zI x).toInt8.toInt32).toInt := (zI_of _).symm
theorem zfitb (x : Int) : fits .byte (zi ((zI x).toInt8.toInt32).toInt) = true := by
  rw [zi, zI_of]
  have h1 := Int8.le_toInt (zI x).toInt8
  have h2 := Int8.toInt_lt (zI x).toInt8
  have e : ((zI x).toInt8.toInt32).toInt = (zI x).toInt8.toInt := Int8.toInt_toInt32 _
  simp only [fits, Bool.and_eq_true, decide_eq_true_eq, Int32.le_iff_toInt_le, e]
  exact ⟨by show (-128 : Int) ≤ _; omega, by show _ ≤ (127 : Int); omega⟩
theorem k_Int_stringSize {x : Int} (hx : zIn x) : zM G l hInt_stringSize_0f7a4 yInt_stringSize_0f7a4 1 [zi x] h (fun v h' => v = some (zi (zSz x : Int)) ∧ h = h') zNo 0 0 := by
  refine zM.of [some (zi x), none, none, none] (by decide +kernel) rfl (by decide) rfl (Nat.le_of_ble_eq_true rfl) rfl ?_
  refine z_iconst dInt_stringSize_0f7a4_0 ?_
  refine z_istore_n dInt_stringSize_0f7a4_1 (Nat.le_of_ble_eq_true rfl) ?_
  refine z_iload_n dInt_stringSize_0f7a4_2 rfl ?_
  refine z_if_lt (tgt := 11) dInt_stringSize_0f7a4_3 (by decide) (by omega) (fun c3 => ?_) (fun c3 => ?_)
  · refine z_bipush dInt_stringSize_0f7a4_11 rfl ?_
    refine z_istore_n dInt_stringSize_0f7a4_13 (Nat.le_of_ble_eq_true rfl) ?_
    refine z_iconst dInt_stringSize_0f7a4_14 ?_
    refine z_istore_n dInt_stringSize_0f7a4_15 (Nat.le_of_ble_eq_true rfl) ?_
    show zR _ _ _ _ _ _ 16 [some (zi x), some (zi 1), some (zi (-10)), some (zi 1)] []
    refine z_iload_n dInt_stringSize_0f7a4_16 rfl ?_
    refine z_bipush dInt_stringSize_0f7a4_17 rfl ?_
    refine z_icmp_ge (tgt := 42) dInt_stringSize_0f7a4_19 (by decide) (by omega) (by omega) (fun c19 => ?_) (fun c19 => ?_)
    · exfalso; omega
    · refine z_iload_n dInt_stringSize_0f7a4_22 rfl ?_
      refine z_iload_n dInt_stringSize_0f7a4_23 rfl ?_
      refine z_icmp_le (tgt := 31) dInt_stringSize_0f7a4_24 (by decide) (by omega) (by omega) (fun c24 => ?_) (fun c24 => ?_)
      · refine z_bipush dInt_stringSize_0f7a4_31 rfl ?_
        refine z_iload_n dInt_stringSize_0f7a4_33 rfl ?_
        refine z_imul dInt_stringSize_0f7a4_34 ?_
        refine z_istore_n dInt_stringSize_0f7a4_35 (Nat.le_of_ble_eq_true rfl) ?_
        refine z_iinc dInt_stringSize_0f7a4_36 rfl (Nat.le_of_ble_eq_true rfl) ?_
        refine z_goto (tgt := 16) dInt_stringSize_0f7a4_39 (by decide) ?_
        show zR _ _ _ _ _ _ 16 [some (zi x), some (zi 1), some (zi (-100)), some (zi 2)] []
        refine z_iload_n dInt_stringSize_0f7a4_16 rfl ?_
        refine z_bipush dInt_stringSize_0f7a4_17 rfl ?_
        refine z_icmp_ge (tgt := 42) dInt_stringSize_0f7a4_19 (by decide) (by omega) (by omega) (fun c19 => ?_) (fun c19 => ?_)
        · exfalso; omega
        · refine z_iload_n dInt_stringSize_0f7a4_22 rfl ?_
          refine z_iload_n dInt_stringSize_0f7a4_23 rfl ?_
          refine z_icmp_le (tgt := 31) dInt_stringSize_0f7a4_24 (by decide) (by omega) (by omega) (fun c24 => ?_) (fun c24 => ?_)
          · refine z_bipush dInt_stringSize_0f7a4_31 rfl ?_
            refine z_iload_n dInt_stringSize_0f7a4_33 rfl ?_
            refine z_imul dInt_stringSize_0f7a4_34 ?_
            refine z_istore_n dInt_stringSize_0f7a4_35 (Nat.le_of_ble_eq_true rfl) ?_
            refine z_iinc dInt_stringSize_0f7a4_36 rfl (Nat.le_of_ble_eq_true rfl) ?_
            refine z_goto (tgt := 16) dInt_stringSize_0f7a4_39 (by decide) ?_
            show zR _ _ _ _ _ _ 16 [some (zi x), some (zi 1), some (zi (-1000)), some (zi 3)] []
            refine z_iload_n dInt_stringSize_0f7a4_16 rfl ?_
            refine z_bipush dInt_stringSize_0f7a4_17 rfl ?_
            refine z_icmp_ge (tgt := 42) dInt_stringSize_0f7a4_19 (by decide) (by omega) (by omega) (fun c19 => ?_) (fun c19 => ?_)
            · exfalso; omega
            · refine z_iload_n dInt_stringSize_0f7a4_22 rfl ?_
              refine z_iload_n dInt_stringSize_0f7a4_23 rfl ?_
              refine z_icmp_le (tgt := 31) dInt_stringSize_0f7a4_24 (by decide) (by omega) (by omega) (fun c24 => ?_) (fun c24 => ?_)
              · refine z_bipush dInt_stringSize_0f7a4_31 rfl ?_
                refine z_iload_n dInt_stringSize_0f7a4_33 rfl ?_
                refine z_imul dInt_stringSize_0f7a4_34 ?_
                refine z_istore_n dInt_stringSize_0f7a4_35 (Nat.le_of_ble_eq_true rfl) ?_
                refine z_iinc dInt_stringSize_0f7a4_36 rfl (Nat.le_of_ble_eq_true rfl) ?_
                refine z_goto (tgt := 16) dInt_stringSize_0f7a4_39 (by decide) ?_
                show zR _ _ _ _ _ _ 16 [some (zi x), some (zi 1), some (zi (-10000)), some (zi 4)] []
                refine z_iload_n dInt_stringSize_0f7a4_16 rfl ?_
                refine z_bipush dInt_stringSize_0f7a4_17 rfl ?_
                refine z_icmp_ge (tgt := 42) dInt_stringSize_0f7a4_19 (by decide) (by omega) (by omega) (fun c19 => ?_) (fun c19 => ?_)
                · exfalso; omega
                · refine z_iload_n dInt_stringSize_0f7a4_22 rfl ?_
                  refine z_iload_n dInt_stringSize_0f7a4_23 rfl ?_
                  refine z_icmp_le (tgt := 31) dInt_stringSize_0f7a4_24 (by decide) (by omega) (by omega) (fun c24 => ?_) (fun c24 => ?_)
                  · exfalso; omega
                  · refine z_iload_n dInt_stringSize_0f7a4_27 rfl ?_
                    refine z_iload_n dInt_stringSize_0f7a4_28 rfl ?_
                    refine z_iadd dInt_stringSize_0f7a4_29 ?_
                    refine z_iret rfl rfl dInt_stringSize_0f7a4_30 ?_
                    exact ⟨congrArg (fun z => some (zi z)) (by unfold zSz; (repeat' split) <;> omega), rfl⟩
              · refine z_iload_n dInt_stringSize_0f7a4_27 rfl ?_
                refine z_iload_n dInt_stringSize_0f7a4_28 rfl ?_
                refine z_iadd dInt_stringSize_0f7a4_29 ?_
                refine z_iret rfl rfl dInt_stringSize_0f7a4_30 ?_
                exact ⟨congrArg (fun z => some (zi z)) (by unfold zSz; (repeat' split) <;> omega), rfl⟩
          · refine z_iload_n dInt_stringSize_0f7a4_27 rfl ?_
            refine z_iload_n dInt_stringSize_0f7a4_28 rfl ?_
            refine z_iadd dInt_stringSize_0f7a4_29 ?_
            refine z_iret rfl rfl dInt_stringSize_0f7a4_30 ?_
            exact ⟨congrArg (fun z => some (zi z)) (by unfold zSz; (repeat' split) <;> omega), rfl⟩
      · refine z_iload_n dInt_stringSize_0f7a4_27 rfl ?_
        refine z_iload_n dInt_stringSize_0f7a4_28 rfl ?_
        refine z_iadd dInt_stringSize_0f7a4_29 ?_
        refine z_iret rfl rfl dInt_stringSize_0f7a4_30 ?_
        exact ⟨congrArg (fun z => some (zi z)) (by unfold zSz; (repeat' split) <;> omega), rfl⟩
  · refine z_iconst dInt_stringSize_0f7a4_6 ?_
    refine z_istore_n dInt_stringSize_0f7a4_7 (Nat.le_of_ble_eq_true rfl) ?_
    refine z_iload_n dInt_stringSize_0f7a4_8 rfl ?_
    refine z_ineg dInt_stringSize_0f7a4_9 ?_
    refine z_istore_n dInt_stringSize_0f7a4_10 (Nat.le_of_ble_eq_true rfl) ?_
    refine z_bipush dInt_stringSize_0f7a4_11 rfl ?_
    refine z_istore_n dInt_stringSize_0f7a4_13 (Nat.le_of_ble_eq_true rfl) ?_
    refine z_iconst dInt_stringSize_0f7a4_14 ?_
    refine z_istore_n dInt_stringSize_0f7a4_15 (Nat.le_of_ble_eq_true rfl) ?_
    show zR _ _ _ _ _ _ 16 [some (zi (-x)), some (zi 0), some (zi (-10)), some (zi 1)] []
    refine z_iload_n dInt_stringSize_0f7a4_16 rfl ?_
    refine z_bipush dInt_stringSize_0f7a4_17 rfl ?_
    refine z_icmp_ge (tgt := 42) dInt_stringSize_0f7a4_19 (by decide) (by omega) (by omega) (fun c19 => ?_) (fun c19 => ?_)
    · exfalso; omega
    · refine z_iload_n dInt_stringSize_0f7a4_22 rfl ?_
      refine z_iload_n dInt_stringSize_0f7a4_23 rfl ?_
      refine z_icmp_le (tgt := 31) dInt_stringSize_0f7a4_24 (by decide) (by omega) (by omega) (fun c24 => ?_) (fun c24 => ?_)
      · refine z_bipush dInt_stringSize_0f7a4_31 rfl ?_
        refine z_iload_n dInt_stringSize_0f7a4_33 rfl ?_
        refine z_imul dInt_stringSize_0f7a4_34 ?_
        refine z_istore_n dInt_stringSize_0f7a4_35 (Nat.le_of_ble_eq_true rfl) ?_
        refine z_iinc dInt_stringSize_0f7a4_36 rfl (Nat.le_of_ble_eq_true rfl) ?_
        refine z_goto (tgt := 16) dInt_stringSize_0f7a4_39 (by decide) ?_
        show zR _ _ _ _ _ _ 16 [some (zi (-x)), some (zi 0), some (zi (-100)), some (zi 2)] []
        refine z_iload_n dInt_stringSize_0f7a4_16 rfl ?_
        refine z_bipush dInt_stringSize_0f7a4_17 rfl ?_
        refine z_icmp_ge (tgt := 42) dInt_stringSize_0f7a4_19 (by decide) (by omega) (by omega) (fun c19 => ?_) (fun c19 => ?_)
        · exfalso; omega
        · refine z_iload_n dInt_stringSize_0f7a4_22 rfl ?_
          refine z_iload_n dInt_stringSize_0f7a4_23 rfl ?_
          refine z_icmp_le (tgt := 31) dInt_stringSize_0f7a4_24 (by decide) (by omega) (by omega) (fun c24 => ?_) (fun c24 => ?_)
          · refine z_bipush dInt_stringSize_0f7a4_31 rfl ?_
            refine z_iload_n dInt_stringSize_0f7a4_33 rfl ?_
            refine z_imul dInt_stringSize_0f7a4_34 ?_
            refine z_istore_n dInt_stringSize_0f7a4_35 (Nat.le_of_ble_eq_true rfl) ?_
            refine z_iinc dInt_stringSize_0f7a4_36 rfl (Nat.le_of_ble_eq_true rfl) ?_
            refine z_goto (tgt := 16) dInt_stringSize_0f7a4_39 (by decide) ?_
            show zR _ _ _ _ _ _ 16 [some (zi (-x)), some (zi 0), some (zi (-1000)), some (zi 3)] []
            refine z_iload_n dInt_stringSize_0f7a4_16 rfl ?_
            refine z_bipush dInt_stringSize_0f7a4_17 rfl ?_
            refine z_icmp_ge (tgt := 42) dInt_stringSize_0f7a4_19 (by decide) (by omega) (by omega) (fun c19 => ?_) (fun c19 => ?_)
            · exfalso; omega
            · refine z_iload_n dInt_stringSize_0f7a4_22 rfl ?_
              refine z_iload_n dInt_stringSize_0f7a4_23 rfl ?_
              refine z_icmp_le (tgt := 31) dInt_stringSize_0f7a4_24 (by decide) (by omega) (by omega) (fun c24 => ?_) (fun c24 => ?_)
              · refine z_bipush dInt_stringSize_0f7a4_31 rfl ?_
                refine z_iload_n dInt_stringSize_0f7a4_33 rfl ?_
                refine z_imul dInt_stringSize_0f7a4_34 ?_
                refine z_istore_n dInt_stringSize_0f7a4_35 (Nat.le_of_ble_eq_true rfl) ?_
                refine z_iinc dInt_stringSize_0f7a4_36 rfl (Nat.le_of_ble_eq_true rfl) ?_
                refine z_goto (tgt := 16) dInt_stringSize_0f7a4_39 (by decide) ?_
                show zR _ _ _ _ _ _ 16 [some (zi (-x)), some (zi 0), some (zi (-10000)), some (zi 4)] []
                refine z_iload_n dInt_stringSize_0f7a4_16 rfl ?_
                refine z_bipush dInt_stringSize_0f7a4_17 rfl ?_
                refine z_icmp_ge (tgt := 42) dInt_stringSize_0f7a4_19 (by decide) (by omega) (by omega) (fun c19 => ?_) (fun c19 => ?_)
                · exfalso; omega
                · refine z_iload_n dInt_stringSize_0f7a4_22 rfl ?_
                  refine z_iload_n dInt_stringSize_0f7a4_23 rfl ?_
                  refine z_icmp_le (tgt := 31) dInt_stringSize_0f7a4_24 (by decide) (by omega) (by omega) (fun c24 => ?_) (fun c24 => ?_)
                  · exfalso; omega
                  · refine z_iload_n dInt_stringSize_0f7a4_27 rfl ?_
                    refine z_iload_n dInt_stringSize_0f7a4_28 rfl ?_
                    refine z_iadd dInt_stringSize_0f7a4_29 ?_
                    refine z_iret rfl rfl dInt_stringSize_0f7a4_30 ?_
                    exact ⟨congrArg (fun z => some (zi z)) (by unfold zSz; (repeat' split) <;> omega), rfl⟩
              · refine z_iload_n dInt_stringSize_0f7a4_27 rfl ?_
                refine z_iload_n dInt_stringSize_0f7a4_28 rfl ?_
                refine z_iadd dInt_stringSize_0f7a4_29 ?_
                refine z_iret rfl rfl dInt_stringSize_0f7a4_30 ?_
                exact ⟨congrArg (fun z => some (zi z)) (by unfold zSz; (repeat' split) <;> omega), rfl⟩
          · refine z_iload_n dInt_stringSize_0f7a4_27 rfl ?_
            refine z_iload_n dInt_stringSize_0f7a4_28 rfl ?_
            refine z_iadd dInt_stringSize_0f7a4_29 ?_
            refine z_iret rfl rfl dInt_stringSize_0f7a4_30 ?_
            exact ⟨congrArg (fun z => some (zi z)) (by unfold zSz; (repeat' split) <;> omega), rfl⟩
      · refine z_iload_n dInt_stringSize_0f7a4_27 rfl ?_
        refine z_iload_n dInt_stringSize_0f7a4_28 rfl ?_
        refine z_iadd dInt_stringSize_0f7a4_29 ?_
        refine z_iret rfl rfl dInt_stringSize_0f7a4_30 ?_
        exact ⟨congrArg (fun z => some (zi z)) (by unfold zSz; (repeat' split) <;> omega), rfl⟩
theorem k_Int_getChars {x : Int} {i9 a cap : Nat} {f : Nat → Int} (hx : zIn x) (hi : zSz x ≤ i9 ∧ i9 ≤ cap) (hc : cap ≤ 1000) (ea : h a = some (zBytes G cap f)) (hf : zFit f) : zM G l hInt_getChars_ba4f3 yInt_getChars_ba4f3 1 [zi x, zi (i9 : Int), .ref a] h (fun v h' => ∃ r g', v = some (zi r) ∧ zFit g' ∧ h' a = some (zBytes G cap g') ∧ ∀ z, z ≠ a → h' z = h z) zNo 0 0 := by
  have hz := zSz_spec x
  have hfx := hf
  have Fx : ∀ z, z ≠ a → h z = h z := fun _ _ => rfl
  refine zM.of [some (zi x), some (zi (i9 : Int)), some (.ref a), none, none, none, none] (by decide +kernel) rfl (by decide) rfl (Nat.le_of_ble_eq_true rfl) rfl ?_
  refine z_iload_n dInt_getChars_ba4f3_0 rfl ?_
  refine z_istore dInt_getChars_ba4f3_1 (Nat.le_of_ble_eq_true rfl) ?_
  refine z_iload_n dInt_getChars_ba4f3_3 rfl ?_
  refine z_if_ge (tgt := 11) dInt_getChars_ba4f3_4 (by decide) (by omega) (fun c4 => ?_) (fun c4 => ?_)
  · refine z_iconst dInt_getChars_ba4f3_11 ?_
    refine z_istore dInt_getChars_ba4f3_12 (Nat.le_of_ble_eq_true rfl) ?_
    refine z_iload dInt_getChars_ba4f3_14 rfl ?_
    refine z_if_ne (tgt := 22) dInt_getChars_ba4f3_16 (by decide) (by omega) (fun c16 => absurd rfl c16) (fun c16 => ?_)
    refine z_iload_n dInt_getChars_ba4f3_19 rfl ?_
    refine z_ineg dInt_getChars_ba4f3_20 ?_
    refine z_istore_n dInt_getChars_ba4f3_21 (Nat.le_of_ble_eq_true rfl) ?_
    show zR _ _ _ _ _ _ 22 [some (zi (-x)), some (zi (i9 : Int)), some (.ref a), none, none, some (zi (i9 : Int)), some (zi 0)] []
    refine z_iload_n dInt_getChars_ba4f3_22 rfl ?_
    refine z_bipush dInt_getChars_ba4f3_23 rfl ?_
    refine z_icmp_gt (tgt := 72) dInt_getChars_ba4f3_25 (by decide) (by omega) (by omega) (fun c25 => ?_) (fun c25 => ?_)
    · refine z_aload_n dInt_getChars_ba4f3_72 rfl ?_
      refine z_iinc dInt_getChars_ba4f3_73 rfl (Nat.le_of_ble_eq_true rfl) ?_
      refine z_iload dInt_getChars_ba4f3_76 rfl ?_
      refine z_gets zZd1 fl_Int_83 dInt_getChars_ba4f3_78 ?_
      refine z_iload_n dInt_getChars_ba4f3_81 rfl ?_
      refine z_ineg dInt_getChars_ba4f3_82 ?_
      refine z_baldO (N := 100) zTd1 (by refine ⟨?_, ?_, ?_⟩ <;> omega) dInt_getChars_ba4f3_83 (fun y83 => ?_)
      refine z_bast _ (zbst y83) dInt_getChars_ba4f3_84 (by assumption) (by refine ⟨?_, ?_, ?_⟩ <;> omega) ?_
      refine z_hx (fun h84 p84 f84 => ?_)
      obtain ⟨g84, p84, hfx⟩ : ∃ g, h84 a = some (zBytes G cap g) ∧ zFit g := ⟨_, p84, zFit_up hfx (zfitb y83)⟩
      have Fx : ∀ z, z ≠ a → h84 z = h z := fun z hz => (f84 z hz).trans (Fx z hz)
      refine z_iload_n dInt_getChars_ba4f3_85 rfl ?_
      refine z_bipush dInt_getChars_ba4f3_86 rfl ?_
      refine z_icmp_ge (tgt := 104) dInt_getChars_ba4f3_88 (by decide) (by omega) (by omega) (fun c88 => ?_) (fun c88 => ?_)
      · refine z_iload dInt_getChars_ba4f3_104 rfl ?_
        refine z_if_eq (tgt := 118) dInt_getChars_ba4f3_106 (by decide) (by omega) (fun c106 => ?_) (fun c106 => ?_)
        · refine z_iload dInt_getChars_ba4f3_118 rfl ?_
          refine z_iret rfl rfl dInt_getChars_ba4f3_120 ?_
          exact ⟨_, _, rfl, hfx, by assumption, Fx⟩
        · refine z_aload_n dInt_getChars_ba4f3_109 rfl ?_
          refine z_iinc dInt_getChars_ba4f3_110 rfl (Nat.le_of_ble_eq_true rfl) ?_
          refine z_iload dInt_getChars_ba4f3_113 rfl ?_
          refine z_bipush dInt_getChars_ba4f3_115 rfl ?_
          refine z_bast 45 (by decide) dInt_getChars_ba4f3_117 (by assumption) (by refine ⟨?_, ?_, ?_⟩ <;> omega) ?_
          refine z_hx (fun h117 p117 f117 => ?_)
          obtain ⟨g117, p117, hfx⟩ : ∃ g, h117 a = some (zBytes G cap g) ∧ zFit g := ⟨_, p117, zFit_up hfx (show fits .byte (zi 45) = true from rfl)⟩
          have Fx : ∀ z, z ≠ a → h117 z = h z := fun z hz => (f117 z hz).trans (Fx z hz)
          refine z_iload dInt_getChars_ba4f3_118 rfl ?_
          refine z_iret rfl rfl dInt_getChars_ba4f3_120 ?_
          exact ⟨_, _, rfl, hfx, by assumption, Fx⟩
      · refine z_aload_n dInt_getChars_ba4f3_91 rfl ?_
        refine z_iinc dInt_getChars_ba4f3_92 rfl (Nat.le_of_ble_eq_true rfl) ?_
        refine z_iload dInt_getChars_ba4f3_95 rfl ?_
        refine z_gets zZd2 fl_Int_87 dInt_getChars_ba4f3_97 ?_
        refine z_iload_n dInt_getChars_ba4f3_100 rfl ?_
        refine z_ineg dInt_getChars_ba4f3_101 ?_
        refine z_baldO (N := 100) zTd2 (by refine ⟨?_, ?_, ?_⟩ <;> omega) dInt_getChars_ba4f3_102 (fun y102 => ?_)
        refine z_bast _ (zbst y102) dInt_getChars_ba4f3_103 (by assumption) (by refine ⟨?_, ?_, ?_⟩ <;> omega) ?_
        refine z_hx (fun h103 p103 f103 => ?_)
        obtain ⟨g103, p103, hfx⟩ : ∃ g, h103 a = some (zBytes G cap g) ∧ zFit g := ⟨_, p103, zFit_up hfx (zfitb y102)⟩
        have Fx : ∀ z, z ≠ a → h103 z = h z := fun z hz => (f103 z hz).trans (Fx z hz)
        refine z_iload dInt_getChars_ba4f3_104 rfl ?_
        refine z_if_eq (tgt := 118) dInt_getChars_ba4f3_106 (by decide) (by omega) (fun c106 => ?_) (fun c106 => ?_)
        · refine z_iload dInt_getChars_ba4f3_118 rfl ?_
          refine z_iret rfl rfl dInt_getChars_ba4f3_120 ?_
          exact ⟨_, _, rfl, hfx, by assumption, Fx⟩
        · refine z_aload_n dInt_getChars_ba4f3_109 rfl ?_
          refine z_iinc dInt_getChars_ba4f3_110 rfl (Nat.le_of_ble_eq_true rfl) ?_
          refine z_iload dInt_getChars_ba4f3_113 rfl ?_
          refine z_bipush dInt_getChars_ba4f3_115 rfl ?_
          refine z_bast 45 (by decide) dInt_getChars_ba4f3_117 (by assumption) (by refine ⟨?_, ?_, ?_⟩ <;> omega) ?_
          refine z_hx (fun h117 p117 f117 => ?_)
          obtain ⟨g117, p117, hfx⟩ : ∃ g, h117 a = some (zBytes G cap g) ∧ zFit g := ⟨_, p117, zFit_up hfx (show fits .byte (zi 45) = true from rfl)⟩
          have Fx : ∀ z, z ≠ a → h117 z = h z := fun z hz => (f117 z hz).trans (Fx z hz)
          refine z_iload dInt_getChars_ba4f3_118 rfl ?_
          refine z_iret rfl rfl dInt_getChars_ba4f3_120 ?_
          exact ⟨_, _, rfl, hfx, by assumption, Fx⟩
    · refine z_iload_n dInt_getChars_ba4f3_28 rfl ?_
      refine z_bipush dInt_getChars_ba4f3_29 rfl ?_
      refine z_idiv (-((-(-x)) / 100)) (zdivn (by omega)) (by decide) dInt_getChars_ba4f3_31 ?_
      refine z_istore_n dInt_getChars_ba4f3_32 (Nat.le_of_ble_eq_true rfl) ?_
      refine z_iload_n dInt_getChars_ba4f3_33 rfl ?_
      refine z_bipush dInt_getChars_ba4f3_34 rfl ?_
      refine z_imul dInt_getChars_ba4f3_36 ?_
      refine z_iload_n dInt_getChars_ba4f3_37 rfl ?_
      refine z_isub dInt_getChars_ba4f3_38 ?_
      refine z_istore dInt_getChars_ba4f3_39 (Nat.le_of_ble_eq_true rfl) ?_
      refine z_iload_n dInt_getChars_ba4f3_41 rfl ?_
      refine z_istore_n dInt_getChars_ba4f3_42 (Nat.le_of_ble_eq_true rfl) ?_
      refine z_aload_n dInt_getChars_ba4f3_43 rfl ?_
      refine z_iinc dInt_getChars_ba4f3_44 rfl (Nat.le_of_ble_eq_true rfl) ?_
      refine z_iload dInt_getChars_ba4f3_47 rfl ?_
      refine z_gets zZd1 fl_Int_83 dInt_getChars_ba4f3_49 ?_
      refine z_iload dInt_getChars_ba4f3_52 rfl ?_
      refine z_baldO (N := 100) zTd1 (by refine ⟨?_, ?_, ?_⟩ <;> omega) dInt_getChars_ba4f3_54 (fun y54 => ?_)
      refine z_bast _ (zbst y54) dInt_getChars_ba4f3_55 (by assumption) (by refine ⟨?_, ?_, ?_⟩ <;> omega) ?_
      refine z_hx (fun h55 p55 f55 => ?_)
      obtain ⟨g55, p55, hfx⟩ : ∃ g, h55 a = some (zBytes G cap g) ∧ zFit g := ⟨_, p55, zFit_up hfx (zfitb y54)⟩
      have Fx : ∀ z, z ≠ a → h55 z = h z := fun z hz => (f55 z hz).trans (Fx z hz)
      refine z_aload_n dInt_getChars_ba4f3_56 rfl ?_
      refine z_iinc dInt_getChars_ba4f3_57 rfl (Nat.le_of_ble_eq_true rfl) ?_
      refine z_iload dInt_getChars_ba4f3_60 rfl ?_
      refine z_gets zZd2 fl_Int_87 dInt_getChars_ba4f3_62 ?_
      refine z_iload dInt_getChars_ba4f3_65 rfl ?_
      refine z_baldO (N := 100) zTd2 (by refine ⟨?_, ?_, ?_⟩ <;> omega) dInt_getChars_ba4f3_67 (fun y67 => ?_)
      refine z_bast _ (zbst y67) dInt_getChars_ba4f3_68 (by assumption) (by refine ⟨?_, ?_, ?_⟩ <;> omega) ?_
      refine z_hx (fun h68 p68 f68 => ?_)
      obtain ⟨g68, p68, hfx⟩ : ∃ g, h68 a = some (zBytes G cap g) ∧ zFit g := ⟨_, p68, zFit_up hfx (zfitb y67)⟩
      have Fx : ∀ z, z ≠ a → h68 z = h z := fun z hz => (f68 z hz).trans (Fx z hz)
      refine z_goto (tgt := 22) dInt_getChars_ba4f3_69 (by decide) ?_
      show zR _ _ _ _ _ _ 22 [some (zi (-((-(-x)) / 100))), some (zi (i9 : Int)), some (.ref a), some (zi (-((-(-x)) / 100))), some (zi ((-((-(-x)) / 100)) * 100 - (-x))), some (zi ((i9 : Int) + -1 + -1)), some (zi 0)] []
      refine z_iload_n dInt_getChars_ba4f3_22 rfl ?_
      refine z_bipush dInt_getChars_ba4f3_23 rfl ?_
      refine z_icmp_gt (tgt := 72) dInt_getChars_ba4f3_25 (by decide) (by omega) (by omega) (fun c25 => ?_) (fun c25 => ?_)
      · refine z_aload_n dInt_getChars_ba4f3_72 rfl ?_
        refine z_iinc dInt_getChars_ba4f3_73 rfl (Nat.le_of_ble_eq_true rfl) ?_
        refine z_iload dInt_getChars_ba4f3_76 rfl ?_
        refine z_gets zZd1 fl_Int_83 dInt_getChars_ba4f3_78 ?_
        refine z_iload_n dInt_getChars_ba4f3_81 rfl ?_
        refine z_ineg dInt_getChars_ba4f3_82 ?_
        refine z_baldO (N := 100) zTd1 (by refine ⟨?_, ?_, ?_⟩ <;> omega) dInt_getChars_ba4f3_83 (fun y83 => ?_)
        refine z_bast _ (zbst y83) dInt_getChars_ba4f3_84 (by assumption) (by refine ⟨?_, ?_, ?_⟩ <;> omega) ?_
        refine z_hx (fun h84 p84 f84 => ?_)
        obtain ⟨g84, p84, hfx⟩ : ∃ g, h84 a = some (zBytes G cap g) ∧ zFit g := ⟨_, p84, zFit_up hfx (zfitb y83)⟩
        have Fx : ∀ z, z ≠ a → h84 z = h z := fun z hz => (f84 z hz).trans (Fx z hz)
        refine z_iload_n dInt_getChars_ba4f3_85 rfl ?_
        refine z_bipush dInt_getChars_ba4f3_86 rfl ?_
        refine z_icmp_ge (tgt := 104) dInt_getChars_ba4f3_88 (by decide) (by omega) (by omega) (fun c88 => ?_) (fun c88 => ?_)
        · refine z_iload dInt_getChars_ba4f3_104 rfl ?_
          refine z_if_eq (tgt := 118) dInt_getChars_ba4f3_106 (by decide) (by omega) (fun c106 => ?_) (fun c106 => ?_)
          · refine z_iload dInt_getChars_ba4f3_118 rfl ?_
            refine z_iret rfl rfl dInt_getChars_ba4f3_120 ?_
            exact ⟨_, _, rfl, hfx, by assumption, Fx⟩
          · refine z_aload_n dInt_getChars_ba4f3_109 rfl ?_
            refine z_iinc dInt_getChars_ba4f3_110 rfl (Nat.le_of_ble_eq_true rfl) ?_
            refine z_iload dInt_getChars_ba4f3_113 rfl ?_
            refine z_bipush dInt_getChars_ba4f3_115 rfl ?_
            refine z_bast 45 (by decide) dInt_getChars_ba4f3_117 (by assumption) (by refine ⟨?_, ?_, ?_⟩ <;> omega) ?_
            refine z_hx (fun h117 p117 f117 => ?_)
            obtain ⟨g117, p117, hfx⟩ : ∃ g, h117 a = some (zBytes G cap g) ∧ zFit g := ⟨_, p117, zFit_up hfx (show fits .byte (zi 45) = true from rfl)⟩
            have Fx : ∀ z, z ≠ a → h117 z = h z := fun z hz => (f117 z hz).trans (Fx z hz)
            refine z_iload dInt_getChars_ba4f3_118 rfl ?_
            refine z_iret rfl rfl dInt_getChars_ba4f3_120 ?_
            exact ⟨_, _, rfl, hfx, by assumption, Fx⟩
        · refine z_aload_n dInt_getChars_ba4f3_91 rfl ?_
          refine z_iinc dInt_getChars_ba4f3_92 rfl (Nat.le_of_ble_eq_true rfl) ?_
          refine z_iload dInt_getChars_ba4f3_95 rfl ?_
          refine z_gets zZd2 fl_Int_87 dInt_getChars_ba4f3_97 ?_
          refine z_iload_n dInt_getChars_ba4f3_100 rfl ?_
          refine z_ineg dInt_getChars_ba4f3_101 ?_
          refine z_baldO (N := 100) zTd2 (by refine ⟨?_, ?_, ?_⟩ <;> omega) dInt_getChars_ba4f3_102 (fun y102 => ?_)
          refine z_bast _ (zbst y102) dInt_getChars_ba4f3_103 (by assumption) (by refine ⟨?_, ?_, ?_⟩ <;> omega) ?_
          refine z_hx (fun h103 p103 f103 => ?_)
          obtain ⟨g103, p103, hfx⟩ : ∃ g, h103 a = some (zBytes G cap g) ∧ zFit g := ⟨_, p103, zFit_up hfx (zfitb y102)⟩
          have Fx : ∀ z, z ≠ a → h103 z = h z := fun z hz => (f103 z hz).trans (Fx z hz)
          refine z_iload dInt_getChars_ba4f3_104 rfl ?_
          refine z_if_eq (tgt := 118) dInt_getChars_ba4f3_106 (by decide) (by omega) (fun c106 => ?_) (fun c106 => ?_)
          · refine z_iload dInt_getChars_ba4f3_118 rfl ?_
            refine z_iret rfl rfl dInt_getChars_ba4f3_120 ?_
            exact ⟨_, _, rfl, hfx, by assumption, Fx⟩
          · refine z_aload_n dInt_getChars_ba4f3_109 rfl ?_
            refine z_iinc dInt_getChars_ba4f3_110 rfl (Nat.le_of_ble_eq_true rfl) ?_
            refine z_iload dInt_getChars_ba4f3_113 rfl ?_
            refine z_bipush dInt_getChars_ba4f3_115 rfl ?_
            refine z_bast 45 (by decide) dInt_getChars_ba4f3_117 (by assumption) (by refine ⟨?_, ?_, ?_⟩ <;> omega) ?_
            refine z_hx (fun h117 p117 f117 => ?_)
            obtain ⟨g117, p117, hfx⟩ : ∃ g, h117 a = some (zBytes G cap g) ∧ zFit g := ⟨_, p117, zFit_up hfx (show fits .byte (zi 45) = true from rfl)⟩
            have Fx : ∀ z, z ≠ a → h117 z = h z := fun z hz => (f117 z hz).trans (Fx z hz)
            refine z_iload dInt_getChars_ba4f3_118 rfl ?_
            refine z_iret rfl rfl dInt_getChars_ba4f3_120 ?_
            exact ⟨_, _, rfl, hfx, by assumption, Fx⟩
      · exfalso; omega
  · refine z_iconst dInt_getChars_ba4f3_7 ?_
    refine z_goto (tgt := 12) dInt_getChars_ba4f3_8 (by decide) ?_
    refine z_istore dInt_getChars_ba4f3_12 (Nat.le_of_ble_eq_true rfl) ?_
    refine z_iload dInt_getChars_ba4f3_14 rfl ?_
    refine z_if_ne (tgt := 22) dInt_getChars_ba4f3_16 (by decide) (by omega) (fun c16 => ?_) (fun c16 => absurd c16 (by decide))
    show zR _ _ _ _ _ _ 22 [some (zi x), some (zi (i9 : Int)), some (.ref a), none, none, some (zi (i9 : Int)), some (zi 1)] []
    refine z_iload_n dInt_getChars_ba4f3_22 rfl ?_
    refine z_bipush dInt_getChars_ba4f3_23 rfl ?_
    refine z_icmp_gt (tgt := 72) dInt_getChars_ba4f3_25 (by decide) (by omega) (by omega) (fun c25 => ?_) (fun c25 => ?_)
    · refine z_aload_n dInt_getChars_ba4f3_72 rfl ?_
      refine z_iinc dInt_getChars_ba4f3_73 rfl (Nat.le_of_ble_eq_true rfl) ?_
      refine z_iload dInt_getChars_ba4f3_76 rfl ?_
      refine z_gets zZd1 fl_Int_83 dInt_getChars_ba4f3_78 ?_
      refine z_iload_n dInt_getChars_ba4f3_81 rfl ?_
      refine z_ineg dInt_getChars_ba4f3_82 ?_
      refine z_baldO (N := 100) zTd1 (by refine ⟨?_, ?_, ?_⟩ <;> omega) dInt_getChars_ba4f3_83 (fun y83 => ?_)
      refine z_bast _ (zbst y83) dInt_getChars_ba4f3_84 (by assumption) (by refine ⟨?_, ?_, ?_⟩ <;> omega) ?_
      refine z_hx (fun h84 p84 f84 => ?_)
      obtain ⟨g84, p84, hfx⟩ : ∃ g, h84 a = some (zBytes G cap g) ∧ zFit g := ⟨_, p84, zFit_up hfx (zfitb y83)⟩
      have Fx : ∀ z, z ≠ a → h84 z = h z := fun z hz => (f84 z hz).trans (Fx z hz)
      refine z_iload_n dInt_getChars_ba4f3_85 rfl ?_
      refine z_bipush dInt_getChars_ba4f3_86 rfl ?_
      refine z_icmp_ge (tgt := 104) dInt_getChars_ba4f3_88 (by decide) (by omega) (by omega) (fun c88 => ?_) (fun c88 => ?_)
      · refine z_iload dInt_getChars_ba4f3_104 rfl ?_
        refine z_if_eq (tgt := 118) dInt_getChars_ba4f3_106 (by decide) (by omega) (fun c106 => ?_) (fun c106 => ?_)
        · refine z_iload dInt_getChars_ba4f3_118 rfl ?_
          refine z_iret rfl rfl dInt_getChars_ba4f3_120 ?_
          exact ⟨_, _, rfl, hfx, by assumption, Fx⟩
        · refine z_aload_n dInt_getChars_ba4f3_109 rfl ?_
          refine z_iinc dInt_getChars_ba4f3_110 rfl (Nat.le_of_ble_eq_true rfl) ?_
          refine z_iload dInt_getChars_ba4f3_113 rfl ?_
          refine z_bipush dInt_getChars_ba4f3_115 rfl ?_
          refine z_bast 45 (by decide) dInt_getChars_ba4f3_117 (by assumption) (by refine ⟨?_, ?_, ?_⟩ <;> omega) ?_
          refine z_hx (fun h117 p117 f117 => ?_)
          obtain ⟨g117, p117, hfx⟩ : ∃ g, h117 a = some (zBytes G cap g) ∧ zFit g := ⟨_, p117, zFit_up hfx (show fits .byte (zi 45) = true from rfl)⟩
          have Fx : ∀ z, z ≠ a → h117 z = h z := fun z hz => (f117 z hz).trans (Fx z hz)
          refine z_iload dInt_getChars_ba4f3_118 rfl ?_
          refine z_iret rfl rfl dInt_getChars_ba4f3_120 ?_
          exact ⟨_, _, rfl, hfx, by assumption, Fx⟩
      · refine z_aload_n dInt_getChars_ba4f3_91 rfl ?_
        refine z_iinc dInt_getChars_ba4f3_92 rfl (Nat.le_of_ble_eq_true rfl) ?_
        refine z_iload dInt_getChars_ba4f3_95 rfl ?_
        refine z_gets zZd2 fl_Int_87 dInt_getChars_ba4f3_97 ?_
        refine z_iload_n dInt_getChars_ba4f3_100 rfl ?_
        refine z_ineg dInt_getChars_ba4f3_101 ?_
        refine z_baldO (N := 100) zTd2 (by refine ⟨?_, ?_, ?_⟩ <;> omega) dInt_getChars_ba4f3_102 (fun y102 => ?_)
        refine z_bast _ (zbst y102) dInt_getChars_ba4f3_103 (by assumption) (by refine ⟨?_, ?_, ?_⟩ <;> omega) ?_
        refine z_hx (fun h103 p103 f103 => ?_)
        obtain ⟨g103, p103, hfx⟩ : ∃ g, h103 a = some (zBytes G cap g) ∧ zFit g := ⟨_, p103, zFit_up hfx (zfitb y102)⟩
        have Fx : ∀ z, z ≠ a → h103 z = h z := fun z hz => (f103 z hz).trans (Fx z hz)
        refine z_iload dInt_getChars_ba4f3_104 rfl ?_
        refine z_if_eq (tgt := 118) dInt_getChars_ba4f3_106 (by decide) (by omega) (fun c106 => ?_) (fun c106 => ?_)
        · refine z_iload dInt_getChars_ba4f3_118 rfl ?_
          refine z_iret rfl rfl dInt_getChars_ba4f3_120 ?_
          exact ⟨_, _, rfl, hfx, by assumption, Fx⟩
        · refine z_aload_n dInt_getChars_ba4f3_109 rfl ?_
          refine z_iinc dInt_getChars_ba4f3_110 rfl (Nat.le_of_ble_eq_true rfl) ?_
          refine z_iload dInt_getChars_ba4f3_113 rfl ?_
          refine z_bipush dInt_getChars_ba4f3_115 rfl ?_
          refine z_bast 45 (by decide) dInt_getChars_ba4f3_117 (by assumption) (by refine ⟨?_, ?_, ?_⟩ <;> omega) ?_
          refine z_hx (fun h117 p117 f117 => ?_)
          obtain ⟨g117, p117, hfx⟩ : ∃ g, h117 a = some (zBytes G cap g) ∧ zFit g := ⟨_, p117, zFit_up hfx (show fits .byte (zi 45) = true from rfl)⟩
          have Fx : ∀ z, z ≠ a → h117 z = h z := fun z hz => (f117 z hz).trans (Fx z hz)
          refine z_iload dInt_getChars_ba4f3_118 rfl ?_
          refine z_iret rfl rfl dInt_getChars_ba4f3_120 ?_
          exact ⟨_, _, rfl, hfx, by assumption, Fx⟩
    · refine z_iload_n dInt_getChars_ba4f3_28 rfl ?_
      refine z_bipush dInt_getChars_ba4f3_29 rfl ?_
      refine z_idiv (-((-x) / 100)) (zdivn (by omega)) (by decide) dInt_getChars_ba4f3_31 ?_
      refine z_istore_n dInt_getChars_ba4f3_32 (Nat.le_of_ble_eq_true rfl) ?_
      refine z_iload_n dInt_getChars_ba4f3_33 rfl ?_
      refine z_bipush dInt_getChars_ba4f3_34 rfl ?_
      refine z_imul dInt_getChars_ba4f3_36 ?_
      refine z_iload_n dInt_getChars_ba4f3_37 rfl ?_
      refine z_isub dInt_getChars_ba4f3_38 ?_
      refine z_istore dInt_getChars_ba4f3_39 (Nat.le_of_ble_eq_true rfl) ?_
      refine z_iload_n dInt_getChars_ba4f3_41 rfl ?_
      refine z_istore_n dInt_getChars_ba4f3_42 (Nat.le_of_ble_eq_true rfl) ?_
      refine z_aload_n dInt_getChars_ba4f3_43 rfl ?_
      refine z_iinc dInt_getChars_ba4f3_44 rfl (Nat.le_of_ble_eq_true rfl) ?_
      refine z_iload dInt_getChars_ba4f3_47 rfl ?_
      refine z_gets zZd1 fl_Int_83 dInt_getChars_ba4f3_49 ?_
      refine z_iload dInt_getChars_ba4f3_52 rfl ?_
      refine z_baldO (N := 100) zTd1 (by refine ⟨?_, ?_, ?_⟩ <;> omega) dInt_getChars_ba4f3_54 (fun y54 => ?_)
      refine z_bast _ (zbst y54) dInt_getChars_ba4f3_55 (by assumption) (by refine ⟨?_, ?_, ?_⟩ <;> omega) ?_
      refine z_hx (fun h55 p55 f55 => ?_)
      obtain ⟨g55, p55, hfx⟩ : ∃ g, h55 a = some (zBytes G cap g) ∧ zFit g := ⟨_, p55, zFit_up hfx (zfitb y54)⟩
      have Fx : ∀ z, z ≠ a → h55 z = h z := fun z hz => (f55 z hz).trans (Fx z hz)
      refine z_aload_n dInt_getChars_ba4f3_56 rfl ?_
      refine z_iinc dInt_getChars_ba4f3_57 rfl (Nat.le_of_ble_eq_true rfl) ?_
      refine z_iload dInt_getChars_ba4f3_60 rfl ?_
      refine z_gets zZd2 fl_Int_87 dInt_getChars_ba4f3_62 ?_
      refine z_iload dInt_getChars_ba4f3_65 rfl ?_
      refine z_baldO (N := 100) zTd2 (by refine ⟨?_, ?_, ?_⟩ <;> omega) dInt_getChars_ba4f3_67 (fun y67 => ?_)
      refine z_bast _ (zbst y67) dInt_getChars_ba4f3_68 (by assumption) (by refine ⟨?_, ?_, ?_⟩ <;> omega) ?_
      refine z_hx (fun h68 p68 f68 => ?_)
      obtain ⟨g68, p68, hfx⟩ : ∃ g, h68 a = some (zBytes G cap g) ∧ zFit g := ⟨_, p68, zFit_up hfx (zfitb y67)⟩
      have Fx : ∀ z, z ≠ a → h68 z = h z := fun z hz => (f68 z hz).trans (Fx z hz)
      refine z_goto (tgt := 22) dInt_getChars_ba4f3_69 (by decide) ?_
      show zR _ _ _ _ _ _ 22 [some (zi (-((-x) / 100))), some (zi (i9 : Int)), some (.ref a), some (zi (-((-x) / 100))), some (zi ((-((-x) / 100)) * 100 - x)), some (zi ((i9 : Int) + -1 + -1)), some (zi 1)] []
      refine z_iload_n dInt_getChars_ba4f3_22 rfl ?_
      refine z_bipush dInt_getChars_ba4f3_23 rfl ?_
      refine z_icmp_gt (tgt := 72) dInt_getChars_ba4f3_25 (by decide) (by omega) (by omega) (fun c25 => ?_) (fun c25 => ?_)
      · refine z_aload_n dInt_getChars_ba4f3_72 rfl ?_
        refine z_iinc dInt_getChars_ba4f3_73 rfl (Nat.le_of_ble_eq_true rfl) ?_
        refine z_iload dInt_getChars_ba4f3_76 rfl ?_
        refine z_gets zZd1 fl_Int_83 dInt_getChars_ba4f3_78 ?_
        refine z_iload_n dInt_getChars_ba4f3_81 rfl ?_
        refine z_ineg dInt_getChars_ba4f3_82 ?_
        refine z_baldO (N := 100) zTd1 (by refine ⟨?_, ?_, ?_⟩ <;> omega) dInt_getChars_ba4f3_83 (fun y83 => ?_)
        refine z_bast _ (zbst y83) dInt_getChars_ba4f3_84 (by assumption) (by refine ⟨?_, ?_, ?_⟩ <;> omega) ?_
        refine z_hx (fun h84 p84 f84 => ?_)
        obtain ⟨g84, p84, hfx⟩ : ∃ g, h84 a = some (zBytes G cap g) ∧ zFit g := ⟨_, p84, zFit_up hfx (zfitb y83)⟩
        have Fx : ∀ z, z ≠ a → h84 z = h z := fun z hz => (f84 z hz).trans (Fx z hz)
        refine z_iload_n dInt_getChars_ba4f3_85 rfl ?_
        refine z_bipush dInt_getChars_ba4f3_86 rfl ?_
        refine z_icmp_ge (tgt := 104) dInt_getChars_ba4f3_88 (by decide) (by omega) (by omega) (fun c88 => ?_) (fun c88 => ?_)
        · refine z_iload dInt_getChars_ba4f3_104 rfl ?_
          refine z_if_eq (tgt := 118) dInt_getChars_ba4f3_106 (by decide) (by omega) (fun c106 => ?_) (fun c106 => ?_)
          · refine z_iload dInt_getChars_ba4f3_118 rfl ?_
            refine z_iret rfl rfl dInt_getChars_ba4f3_120 ?_
            exact ⟨_, _, rfl, hfx, by assumption, Fx⟩
          · refine z_aload_n dInt_getChars_ba4f3_109 rfl ?_
            refine z_iinc dInt_getChars_ba4f3_110 rfl (Nat.le_of_ble_eq_true rfl) ?_
            refine z_iload dInt_getChars_ba4f3_113 rfl ?_
            refine z_bipush dInt_getChars_ba4f3_115 rfl ?_
            refine z_bast 45 (by decide) dInt_getChars_ba4f3_117 (by assumption) (by refine ⟨?_, ?_, ?_⟩ <;> omega) ?_
            refine z_hx (fun h117 p117 f117 => ?_)
            obtain ⟨g117, p117, hfx⟩ : ∃ g, h117 a = some (zBytes G cap g) ∧ zFit g := ⟨_, p117, zFit_up hfx (show fits .byte (zi 45) = true from rfl)⟩
            have Fx : ∀ z, z ≠ a → h117 z = h z := fun z hz => (f117 z hz).trans (Fx z hz)
            refine z_iload dInt_getChars_ba4f3_118 rfl ?_
            refine z_iret rfl rfl dInt_getChars_ba4f3_120 ?_
            exact ⟨_, _, rfl, hfx, by assumption, Fx⟩
        · refine z_aload_n dInt_getChars_ba4f3_91 rfl ?_
          refine z_iinc dInt_getChars_ba4f3_92 rfl (Nat.le_of_ble_eq_true rfl) ?_
          refine z_iload dInt_getChars_ba4f3_95 rfl ?_
          refine z_gets zZd2 fl_Int_87 dInt_getChars_ba4f3_97 ?_
          refine z_iload_n dInt_getChars_ba4f3_100 rfl ?_
          refine z_ineg dInt_getChars_ba4f3_101 ?_
          refine z_baldO (N := 100) zTd2 (by refine ⟨?_, ?_, ?_⟩ <;> omega) dInt_getChars_ba4f3_102 (fun y102 => ?_)
          refine z_bast _ (zbst y102) dInt_getChars_ba4f3_103 (by assumption) (by refine ⟨?_, ?_, ?_⟩ <;> omega) ?_
          refine z_hx (fun h103 p103 f103 => ?_)
          obtain ⟨g103, p103, hfx⟩ : ∃ g, h103 a = some (zBytes G cap g) ∧ zFit g := ⟨_, p103, zFit_up hfx (zfitb y102)⟩
          have Fx : ∀ z, z ≠ a → h103 z = h z := fun z hz => (f103 z hz).trans (Fx z hz)
          refine z_iload dInt_getChars_ba4f3_104 rfl ?_
          refine z_if_eq (tgt := 118) dInt_getChars_ba4f3_106 (by decide) (by omega) (fun c106 => ?_) (fun c106 => ?_)
          · refine z_iload dInt_getChars_ba4f3_118 rfl ?_
            refine z_iret rfl rfl dInt_getChars_ba4f3_120 ?_
            exact ⟨_, _, rfl, hfx, by assumption, Fx⟩
          · refine z_aload_n dInt_getChars_ba4f3_109 rfl ?_
            refine z_iinc dInt_getChars_ba4f3_110 rfl (Nat.le_of_ble_eq_true rfl) ?_
            refine z_iload dInt_getChars_ba4f3_113 rfl ?_
            refine z_bipush dInt_getChars_ba4f3_115 rfl ?_
            refine z_bast 45 (by decide) dInt_getChars_ba4f3_117 (by assumption) (by refine ⟨?_, ?_, ?_⟩ <;> omega) ?_
            refine z_hx (fun h117 p117 f117 => ?_)
            obtain ⟨g117, p117, hfx⟩ : ∃ g, h117 a = some (zBytes G cap g) ∧ zFit g := ⟨_, p117, zFit_up hfx (show fits .byte (zi 45) = true from rfl)⟩
            have Fx : ∀ z, z ≠ a → h117 z = h z := fun z hz => (f117 z hz).trans (Fx z hz)
            refine z_iload dInt_getChars_ba4f3_118 rfl ?_
            refine z_iret rfl rfl dInt_getChars_ba4f3_120 ?_
            exact ⟨_, _, rfl, hfx, by assumption, Fx⟩
      · exfalso; omega
theorem k_Asb_appendI {b a cap n : Nat} {x : Int} (B : zSb G h0 h b a cap n) (hx : zIn x) (hm : n + zSz x ≤ 120) (hc : cap ≤ 240) : zM G l hAsb_append_c97b9 yAsb_append_c97b9 5 [.ref b, zi x] h (fun v h' => v = some (.ref b) ∧ ∃ a', zSb G h0 h' b a' (zCp cap (n + zSz x)) (n + zSz x)) zNo 1 (zGr cap (n + zSz x)) := by
  have B0 := B
  obtain ⟨ml, f, e, ea, hf, hnc, hba, db, da, hx0⟩ := B
  refine zM.of [some (.ref b), some (zi x), none, none] (by decide +kernel) rfl (by decide) rfl (Nat.le_of_ble_eq_true rfl) rfl ?_
  refine z_aload_n dAsb_append_c97b9_0 rfl ?_
  refine z_get (k := 3) fd_Sbd (by decide) fl_Asb_79 dAsb_append_c97b9_1 (by assumption) (by rfl) ?_
  refine z_istore_n dAsb_append_c97b9_4 (Nat.le_of_ble_eq_true rfl) ?_
  refine z_iload_n dAsb_append_c97b9_5 rfl ?_
  refine z_iload_n dAsb_append_c97b9_6 rfl ?_
  refine z_callS MS_Int_stringSize_0f7a4 lk_Asb_245 dAsb_append_c97b9_7 (k_Int_stringSize hx) rfl rfl (Nat.le_of_ble_eq_true rfl)  (Nat.le_of_ble_eq_true rfl) (Nat.le_of_ble_eq_true rfl) (Nat.le_of_eq (Nat.zero_add _)) (Nat.le_of_eq (Nat.zero_add _)) (fun _ _ q => q.elim) ?_
  rintro _ _ ⟨rfl, rfl⟩
  refine z_iadd dAsb_append_c97b9_10 ?_
  rw [show (n : Int) + (zSz x : Int) = ((n + zSz x : Nat) : Int) by omega]
  refine z_istore_n dAsb_append_c97b9_11 (Nat.le_of_ble_eq_true rfl) ?_
  refine z_aload_n dAsb_append_c97b9_12 rfl ?_
  refine z_iload_n dAsb_append_c97b9_13 rfl ?_
  refine z_callC (bc' := 0) (bs' := 0) ME_Asb_ensureCapacityInternal_d00df IN_Asb_ensureCapacityInternal_d00df SE_Asb_ensureCapacityInternal_d00df lk_Asb_100 dAsb_append_c97b9_14 (k_Asb_ensure (k := n + zSz x) B0 (by omega) hc) rfl rfl (Nat.le_of_ble_eq_true rfl) (ci := zkSbd) rfl (by assumption) (Nat.le_of_ble_eq_true rfl) (Nat.le_of_ble_eq_true rfl) (by omega) (by omega) (fun _ _ q => q.elim) ?_
  rintro _ h2 ⟨rfl, a2, B2⟩
  obtain ⟨ml2, f2, e2, ea2, hf2, hnc2, hba2, db2, da2, hx2⟩ := B2
  have hcp : n + zSz x ≤ zCp cap (n + zSz x) ∧ zCp cap (n + zSz x) ≤ 240 := by unfold zCp zNc; split <;> (try split) <;> omega
  refine z_aload_n dAsb_append_c97b9_17 rfl ?_
  refine z_callC ME_Asb_isLatin1_aae02 IN_Asb_isLatin1_aae02 SE_Asb_isLatin1_aae02 lk_Asb_83 dAsb_append_c97b9_18 (k_Asb_isLatin1 e2) rfl rfl (Nat.le_of_ble_eq_true rfl) (ci := zkSbd) rfl (by assumption) (Nat.le_of_ble_eq_true rfl) (Nat.le_of_ble_eq_true rfl) (Nat.le_of_eq (Nat.zero_add _)) (Nat.le_of_eq (Nat.zero_add _)) (fun _ _ q => q.elim) ?_
  rintro _ _ ⟨rfl, rfl⟩
  refine z_if_eq (tgt := 37) dAsb_append_c97b9_21 (by decide) (by omega) (fun c21 => ?_) (fun c21 => ?_)
  · exact absurd c21 (by decide)
  · refine z_iload_n dAsb_append_c97b9_24 rfl ?_
    refine z_iload_n dAsb_append_c97b9_25 rfl ?_
    refine z_aload_n dAsb_append_c97b9_26 rfl ?_
    refine z_get (k := 0) fd_Sbd (by decide) fl_Asb_15 dAsb_append_c97b9_27 (by assumption) (by rfl) ?_
    refine z_callS MS_Int_getChars_ba4f3 lk_Asb_248 dAsb_append_c97b9_30 (k_Int_getChars hx ⟨by omega, hcp.1⟩ (by omega) ea2 hf2) rfl rfl (Nat.le_of_ble_eq_true rfl)  (Nat.le_of_ble_eq_true rfl) (Nat.le_of_ble_eq_true rfl) (Nat.le_of_eq (Nat.zero_add _)) (Nat.le_of_eq (Nat.zero_add _)) (fun _ _ q => q.elim) ?_
    rintro _ h3 ⟨r9, g3, rfl, hg3, p3, F3⟩
    have e3 := (F3 b hba2).trans e2
    refine z_pop rfl dAsb_append_c97b9_33 ?_
    refine z_goto (tgt := 48) dAsb_append_c97b9_34 (by decide) ?_
    refine z_aload_n dAsb_append_c97b9_48 rfl ?_
    refine z_iload_n dAsb_append_c97b9_49 rfl ?_
    refine z_put (k := 3) fd_Sbd (by decide) fl_Asb_79 rfl dAsb_append_c97b9_50 e3 (by simp) rfl rfl ?_
    refine z_hx (fun h4 p4 F4 => ?_)
    refine z_aload_n dAsb_append_c97b9_53 rfl ?_
    refine z_aret rfl (Or.inl ⟨_, rfl⟩) (Or.inr ⟨_, rfl⟩) dAsb_append_c97b9_54 ?_
    refine ⟨rfl, a2, ml2, g3, p4, (F4 a2 (Ne.symm hba2)).trans p3, hg3, hcp.1, hba2, db2, da2, fun z x hz => ?_⟩
    exact (F4 z (Nat.ne_of_lt (db2 z x hz))).trans ((F3 z (Nat.ne_of_lt (da2 z x hz))).trans (hx2 z x hz))
theorem k_Sbd_appendI {b a cap n : Nat} {x : Int} (B : zSb G h0 h b a cap n) (hx : zIn x) (hm : n + zSz x ≤ 120) (hc : cap ≤ 240) : zM G l hSbd_append_bf812 ySbd_append_bf812 6 [.ref b, zi x] h (fun v h' => v = some (.ref b) ∧ ∃ a', zSb G h0 h' b a' (zCp cap (n + zSz x)) (n + zSz x)) zNo 1 (zGr cap (n + zSz x)) := by
  have B0 := B
  obtain ⟨ml, f, e, ea, hf, hnc, hba, db, da, hx0⟩ := B
  refine zM.of [some (.ref b), some (zi x)] (by decide +kernel) rfl (by decide) rfl (Nat.le_of_ble_eq_true rfl) rfl ?_
  refine z_aload_n dSbd_append_bf812_0 rfl ?_
  refine z_iload_n dSbd_append_bf812_1 rfl ?_
  refine z_callSU (bc' := 0) (bs' := 0) ME_Asb_append_c97b9 IN_Asb_append_c97b9 SM_Asb_append_c97b9 SU_Sbd (by decide) lk_Sbd_53 dSbd_append_bf812_2 (k_Asb_appendI B0 hx hm hc) rfl rfl (Nat.le_of_ble_eq_true rfl) (by assumption) (Nat.le_of_ble_eq_true rfl) (Nat.le_of_ble_eq_true rfl) (by omega) (by omega) (fun _ _ q => q.elim) ?_
  rintro _ h2 ⟨rfl, a2, B2⟩
  refine z_pop rfl dSbd_append_bf812_5 ?_
  refine z_aload_n dSbd_append_bf812_6 rfl ?_
  refine z_aret rfl (Or.inl ⟨_, rfl⟩) (Or.inr ⟨_, rfl⟩) dSbd_append_bf812_7 ?_
  exact ⟨rfl, a2, B2⟩
theorem k_Lat_canEncode_fc78d  : zM G l hLat_canEncode_fc78d yLat_canEncode_fc78d 1 [zi 32] h (fun v h' => v = some (zi 1) ∧ h = h') zNo 0 0 := by
  refine zM.of [some (zi 32)] (by decide +kernel) rfl (by decide) rfl (Nat.le_of_ble_eq_true rfl) rfl ?_
  refine z_iload_n dLat_canEncode_fc78d_0 rfl ?_
  refine z_sipush dLat_canEncode_fc78d_1 rfl ?_
  refine z_icmp_gt (tgt := 11) dLat_canEncode_fc78d_4 (by decide) (by omega) (by omega) (fun c4 => ?_) (fun c4 => ?_)
  · exfalso; omega
  · refine z_iconst dLat_canEncode_fc78d_7 ?_
    refine z_goto (tgt := 12) dLat_canEncode_fc78d_8 (by decide) ?_
    refine z_iret rfl rfl dLat_canEncode_fc78d_12 ?_
    exact ⟨rfl, rfl⟩
theorem k_Asb_appendC {b a cap n : Nat} (B : zSb G h0 h b a cap n) (hm : n + 1 ≤ 120) (hc : cap ≤ 240) : zM G l hAsb_append_3fe6f yAsb_append_3fe6f 5 [.ref b, zi 32] h (fun v h' => v = some (.ref b) ∧ ∃ a', zSb G h0 h' b a' (zCp cap (n + 1)) (n + 1)) zNo 1 (zGr cap (n + 1)) := by
  have B0 := B
  obtain ⟨ml, f, e, ea, hf, hnc, hba, db, da, hx0⟩ := B
  refine zM.of [some (.ref b), some (zi 32)] (by decide +kernel) rfl (by decide) rfl (Nat.le_of_ble_eq_true rfl) rfl ?_
  refine z_aload_n dAsb_append_3fe6f_0 rfl ?_
  refine z_aload_n dAsb_append_3fe6f_1 rfl ?_
  refine z_get (k := 3) fd_Sbd (by decide) fl_Asb_79 dAsb_append_3fe6f_2 (by assumption) (by rfl) ?_
  refine z_iconst dAsb_append_3fe6f_5 ?_
  refine z_iadd dAsb_append_3fe6f_6 ?_
  rw [show (n : Int) + 1 = ((n + 1 : Nat) : Int) by omega]
  refine z_callC (bc' := 0) (bs' := 0) ME_Asb_ensureCapacityInternal_d00df IN_Asb_ensureCapacityInternal_d00df SE_Asb_ensureCapacityInternal_d00df lk_Asb_100 dAsb_append_3fe6f_7 (k_Asb_ensure (k := n + 1) B0 (by omega) hc) rfl rfl (Nat.le_of_ble_eq_true rfl) (ci := zkSbd) rfl (by assumption) (Nat.le_of_ble_eq_true rfl) (Nat.le_of_ble_eq_true rfl) (by omega) (by omega) (fun _ _ q => q.elim) ?_
  rintro _ h2 ⟨rfl, a2, B2⟩
  obtain ⟨ml2, f2, e2, ea2, hf2, hnc2, hba2, db2, da2, hx2⟩ := B2
  have hcp : n + 1 ≤ zCp cap (n + 1) ∧ zCp cap (n + 1) ≤ 240 := by unfold zCp zNc; split <;> (try split) <;> omega
  refine z_aload_n dAsb_append_3fe6f_10 rfl ?_
  refine z_callC ME_Asb_isLatin1_aae02 IN_Asb_isLatin1_aae02 SE_Asb_isLatin1_aae02 lk_Asb_83 dAsb_append_3fe6f_11 (k_Asb_isLatin1 e2) rfl rfl (Nat.le_of_ble_eq_true rfl) (ci := zkSbd) rfl (by assumption) (Nat.le_of_ble_eq_true rfl) (Nat.le_of_ble_eq_true rfl) (Nat.le_of_eq (Nat.zero_add _)) (Nat.le_of_eq (Nat.zero_add _)) (fun _ _ q => q.elim) ?_
  rintro _ _ ⟨rfl, rfl⟩
  refine z_if_eq (tgt := 45) dAsb_append_3fe6f_14 (by decide) (by omega) (fun c14 => ?_) (fun c14 => ?_)
  · first
      | exact absurd c14 (by decide)
      | exact absurd c21 (by decide)
  · refine z_iload_n dAsb_append_3fe6f_17 rfl ?_
    refine z_callS MS_Lat_canEncode_fc78d lk_Asb_191 dAsb_append_3fe6f_18 (k_Lat_canEncode_fc78d) rfl rfl (Nat.le_of_ble_eq_true rfl)  (Nat.le_of_ble_eq_true rfl) (Nat.le_of_ble_eq_true rfl) (Nat.le_of_eq (Nat.zero_add _)) (Nat.le_of_eq (Nat.zero_add _)) (fun _ _ q => q.elim) ?_
    rintro _ _ ⟨rfl, rfl⟩
    refine z_if_eq (tgt := 45) dAsb_append_3fe6f_21 (by decide) (by omega) (fun c21 => ?_) (fun c21 => ?_)
    · first
        | exact absurd c14 (by decide)
        | exact absurd c21 (by decide)
    · refine z_aload_n dAsb_append_3fe6f_24 rfl ?_
      refine z_get (k := 0) fd_Sbd (by decide) fl_Asb_15 dAsb_append_3fe6f_25 (by assumption) (by rfl) ?_
      refine z_aload_n dAsb_append_3fe6f_28 rfl ?_
      refine z_dup rfl dAsb_append_3fe6f_29 ?_
      refine z_get (k := 3) fd_Sbd (by decide) fl_Asb_79 dAsb_append_3fe6f_30 (by assumption) (by rfl) ?_
      refine z_dup_x1 rfl rfl dAsb_append_3fe6f_33 ?_
      refine z_iconst dAsb_append_3fe6f_34 ?_
      refine z_iadd dAsb_append_3fe6f_35 ?_
      refine z_put (k := 3) fd_Sbd (by decide) fl_Asb_79 rfl dAsb_append_3fe6f_36 e2 (by simp) rfl rfl ?_
      refine z_hx (fun h3 p3 F3 => ?_)
      have ea3 := (F3 a2 (Ne.symm hba2)).trans ea2
      refine z_iload_n dAsb_append_3fe6f_39 rfl ?_
      refine z_i2b 32 (by decide) dAsb_append_3fe6f_40 ?_
      refine z_bast 32 (by decide) dAsb_append_3fe6f_41 ea3 (by refine ⟨?_, ?_, ?_⟩ <;> omega) ?_
      refine z_hx (fun h4 p4 F4 => ?_)
      refine z_goto (tgt := 75) dAsb_append_3fe6f_42 (by decide) ?_
      refine z_aload_n dAsb_append_3fe6f_75 rfl ?_
      refine z_aret rfl (Or.inl ⟨_, rfl⟩) (Or.inr ⟨_, rfl⟩) dAsb_append_3fe6f_76 ?_
      refine ⟨rfl, a2, ml2, _, (F4 b hba2).trans p3, p4, zFit_up hf2 rfl, hcp.1, hba2, db2, da2, fun z x hz => ?_⟩
      exact (F4 z (Nat.ne_of_lt (da2 z x hz))).trans ((F3 z (Nat.ne_of_lt (db2 z x hz))).trans (hx2 z x hz))
theorem k_Sbd_appendC {b a cap n : Nat} (B : zSb G h0 h b a cap n) (hm : n + 1 ≤ 120) (hc : cap ≤ 240) : zM G l hSbd_append_cf468 ySbd_append_cf468 6 [.ref b, zi 32] h (fun v h' => v = some (.ref b) ∧ ∃ a', zSb G h0 h' b a' (zCp cap (n + 1)) (n + 1)) zNo 1 (zGr cap (n + 1)) := by
  have B0 := B
  obtain ⟨ml, f, e, ea, hf, hnc, hba, db, da, hx0⟩ := B
  refine zM.of [some (.ref b), some (zi 32)] (by decide +kernel) rfl (by decide) rfl (Nat.le_of_ble_eq_true rfl) rfl ?_
  refine z_aload_n dSbd_append_cf468_0 rfl ?_
  refine z_iload_n dSbd_append_cf468_1 rfl ?_
  refine z_callSU (bc' := 0) (bs' := 0) ME_Asb_append_3fe6f IN_Asb_append_3fe6f SM_Asb_append_3fe6f SU_Sbd (by decide) lk_Sbd_50 dSbd_append_cf468_2 (k_Asb_appendC B0 hm hc) rfl rfl (Nat.le_of_ble_eq_true rfl) (by assumption) (Nat.le_of_ble_eq_true rfl) (Nat.le_of_ble_eq_true rfl) (by omega) (by omega) (fun _ _ q => q.elim) ?_
  rintro _ h2 ⟨rfl, a2, B2⟩
  refine z_pop rfl dSbd_append_cf468_5 ?_
  refine z_aload_n dSbd_append_cf468_6 rfl ?_
  refine z_aret rfl (Or.inl ⟨_, rfl⟩) (Or.inr ⟨_, rfl⟩) dSbd_append_cf468_7 ?_
  exact ⟨rfl, a2, B2⟩
end STR6
end
section
section STR7
variable {G : zG} {l : Launch} {h h' h0 : zHp}
theorem k_Arr_checkLength {n : Nat} (hn : n ≤ 1000) : zM G l hArr_checkLength_df160 yArr_checkLength_df160 1 [zi 0, zi (n : Int)] h (fun v h' => v = none ∧ h = h') zNo 0 0 := by
  refine zM.of [some (zi 0), some (zi (n : Int))] (by decide +kernel) rfl (by decide) rfl (Nat.le_of_ble_eq_true rfl) rfl ?_
  refine z_iload_n dArr_checkLength_df160_0 rfl ?_
  refine z_iload_n dArr_checkLength_df160_1 rfl ?_
  refine z_icmp_ge (tgt := 37) dArr_checkLength_df160_2 (by decide) (by omega) (by omega) (fun c2 => ?_) (fun c2 => ?_)
  rotate_left
  · exfalso; omega
  refine z_vret rfl dArr_checkLength_df160_37 ?_
  exact ⟨rfl, rfl⟩
theorem k_Arr_copyOfRangeByte {a cap n : Nat} {f : Nat → Int} (ea : h a = some (zBytes G cap f)) (hf : zFit f) (hn : n ≤ cap) (hc : cap ≤ 1000) : zM G l hArr_copyOfRangeByte_39247 yArr_copyOfRangeByte_39247 2 [.ref a, zi 0, zi (n : Int)] h (fun v h' => ∃ (q : Nat) (f' : Nat → Int), v = some (.ref q) ∧ zDm h q ∧ G.2.2 ≤ q ∧ h' q = some (zBytes G n f') ∧ zFit f' ∧ ∀ z, z ≠ q → h' z = h z) zNo 1 n := by
  refine zM.of [some (.ref a), some (zi 0), some (zi (n : Int)), none, none] (by decide +kernel) rfl (by decide) rfl (Nat.le_of_ble_eq_true rfl) rfl ?_
  refine z_iload_n dArr_copyOfRangeByte_39247_0 rfl ?_
  refine z_iload_n dArr_copyOfRangeByte_39247_1 rfl ?_
  refine z_callS MS_Arr_checkLength_df160 lk_Arr_343 dArr_copyOfRangeByte_39247_2 (k_Arr_checkLength (by omega)) rfl rfl (Nat.le_of_ble_eq_true rfl)  (Nat.le_of_ble_eq_true rfl) (Nat.le_of_ble_eq_true rfl) (Nat.le_of_eq (Nat.zero_add _)) (Nat.le_of_eq (Nat.zero_add _)) (fun _ _ q => q.elim) ?_
  rintro _ _ ⟨rfl, rfl⟩
  refine z_iload_n dArr_copyOfRangeByte_39247_5 rfl ?_
  refine z_iload_n dArr_copyOfRangeByte_39247_6 rfl ?_
  refine z_isub dArr_copyOfRangeByte_39247_7 ?_
  refine z_istore_n dArr_copyOfRangeByte_39247_8 (Nat.le_of_ble_eq_true rfl) ?_
  refine z_iload_n dArr_copyOfRangeByte_39247_9 rfl ?_
  rw [show (n : Int) - 0 = (n : Int) by omega]
  refine z_newB (n := n) (bc' := 0) (bs' := 0) rfl dArr_copyOfRangeByte_39247_10 (by omega) (by decide) (by omega) (fun q h1 hq gq p1 F1 => ?_)
  have ea1 := (F1 a (Nat.ne_of_lt (hq a _ ea))).trans ea
  refine z_astore dArr_copyOfRangeByte_39247_12 (Nat.le_of_ble_eq_true rfl) ?_
  refine z_aload_n dArr_copyOfRangeByte_39247_14 rfl ?_
  refine z_iload_n dArr_copyOfRangeByte_39247_15 rfl ?_
  refine z_aload dArr_copyOfRangeByte_39247_16 rfl ?_
  refine z_iconst dArr_copyOfRangeByte_39247_18 ?_
  refine z_aload_n dArr_copyOfRangeByte_39247_19 rfl ?_
  refine z_alenB dArr_copyOfRangeByte_39247_20 ea1 ?_
  refine z_iload_n dArr_copyOfRangeByte_39247_21 rfl ?_
  refine z_isub dArr_copyOfRangeByte_39247_22 ?_
  refine z_iload_n dArr_copyOfRangeByte_39247_23 rfl ?_
  refine z_callS MS_Mth_min_7cf53 lk_Arr_304 dArr_copyOfRangeByte_39247_24 (k_Mth_min_7cf53 (by omega) (by omega)) rfl rfl (Nat.le_of_ble_eq_true rfl)  (Nat.le_of_ble_eq_true rfl) (Nat.le_of_ble_eq_true rfl) (Nat.le_of_eq (Nat.zero_add _)) (Nat.le_of_eq (Nat.zero_add _)) (fun _ _ q => q.elim) ?_
  rintro _ _ ⟨rfl, rfl⟩
  rw [show (if (cap : Int) - 0 ≤ (n : Int) then (cap : Int) - 0 else (n : Int)) = (n : Int) by split <;> omega]
  refine z_copyb (n0 := cap) (n1 := n) (sp := 0) (dp := 0) (n := n) lk_Arr_150 dArr_copyOfRangeByte_39247_27 ea1 p1 (by omega) (by omega) (by omega) hf (Nat.le_of_ble_eq_true rfl) (show 0 + (nativeFrameWords "java/lang/System" "arraycopy" 5 + 11) ≤ 2 * 64 by decide) ?_
  refine z_hx (fun h2 p2 F2 => ?_)
  refine z_aload dArr_copyOfRangeByte_39247_30 rfl ?_
  refine z_aret rfl (Or.inr ⟨_, rfl⟩) (Or.inr ⟨_, rfl⟩) dArr_copyOfRangeByte_39247_32 ?_
  exact ⟨q, _, rfl, hq, gq, p2, zFit_cpy hf zFit_0, fun z hz => (F2 z hz).trans (F1 z hz)⟩
theorem k_Arr_copyOfRange {a cap n : Nat} {f : Nat → Int} (ea : h a = some (zBytes G cap f)) (hf : zFit f) (hn : n ≤ cap) (hc : cap ≤ 1000) : zM G l hArr_copyOfRange_39247 yArr_copyOfRange_39247 3 [.ref a, zi 0, zi (n : Int)] h (fun v h' => ∃ (q : Nat) (f' : Nat → Int), v = some (.ref q) ∧ zDm h q ∧ G.2.2 ≤ q ∧ h' q = some (zBytes G n f') ∧ zFit f' ∧ ∀ z, z ≠ q → h' z = h z) zNo 1 n := by
  refine zM.of [some (.ref a), some (zi 0), some (zi (n : Int))] (by decide +kernel) rfl (by decide) rfl (Nat.le_of_ble_eq_true rfl) rfl ?_
  refine z_iload_n dArr_copyOfRange_39247_0 rfl ?_
  refine z_if_ne (tgt := 10) dArr_copyOfRange_39247_1 (by decide) (by omega) (fun c1 => absurd rfl c1) (fun c1 => ?_)
  refine z_iload_n dArr_copyOfRange_39247_4 rfl ?_
  refine z_aload_n dArr_copyOfRange_39247_5 rfl ?_
  refine z_alenB dArr_copyOfRange_39247_6 ea ?_
  refine z_icmp_eq (tgt := 17) dArr_copyOfRange_39247_7 (by decide) (by omega) (by omega) (fun c7 => ?_) (fun c7 => ?_)
  · refine z_aload_n dArr_copyOfRange_39247_17 rfl ?_
    refine z_clone (bc' := 0) (bs' := 0) lk_Arr_310 dArr_copyOfRange_39247_18 ea hf (Nat.le_of_ble_eq_true rfl) (show 0 + 14 ≤ 3 * 64 by decide) (by omega) (by omega) (fun q h1 hq gq p1 F1 => ?_)
    have hcn : cap = n := by omega
    have hf1 := hf
    refine z_castB cl_Arr_311 dArr_copyOfRange_39247_21 p1 ?_
    rw [hcn] at p1
    refine z_aret rfl (Or.inr ⟨_, rfl⟩) (Or.inr ⟨_, rfl⟩) dArr_copyOfRange_39247_24 ?_
    exact ⟨q, _, rfl, hq, gq, p1, hf1, F1⟩
  · refine z_aload_n dArr_copyOfRange_39247_10 rfl ?_
    refine z_iload_n dArr_copyOfRange_39247_11 rfl ?_
    refine z_iload_n dArr_copyOfRange_39247_12 rfl ?_
    refine z_callS (bc' := 0) (bs' := 0) MS_Arr_copyOfRangeByte_39247 lk_Arr_339 dArr_copyOfRange_39247_13 (k_Arr_copyOfRangeByte ea hf hn hc) rfl rfl (Nat.le_of_ble_eq_true rfl)  (Nat.le_of_ble_eq_true rfl) (Nat.le_of_ble_eq_true rfl) (by omega) (by omega) (fun _ _ q => q.elim) ?_
    rintro _ h1 ⟨q, f', rfl, hq, gq, p1, hf1, F1⟩
    refine z_aret rfl (Or.inr ⟨_, rfl⟩) (Or.inr ⟨_, rfl⟩) dArr_copyOfRange_39247_16 ?_
    exact ⟨q, _, rfl, hq, gq, p1, hf1, F1⟩
theorem k_Asb_getValue {b a : Nat} {x1 ml x3 : Value} (e : h b = some (.inr (zkSbd, [.ref a, x1, ml, x3]))) : zM G l hAsb_getValue_6d5f1 yAsb_getValue_6d5f1 1 [.ref b] h (fun v h' => v = some (.ref a) ∧ h = h') zNo 0 0 := by
  refine zM.of [some (.ref b)] (by decide +kernel) rfl (by decide) rfl (Nat.le_of_ble_eq_true rfl) rfl ?_
  refine z_aload_n dAsb_getValue_6d5f1_0 rfl ?_
  refine z_get (k := 0) fd_Sbd (by decide) fl_Asb_15 dAsb_getValue_6d5f1_1 (by assumption) (by rfl) ?_
  refine z_aret rfl (Or.inr ⟨_, rfl⟩) (Or.inr ⟨_, rfl⟩) dAsb_getValue_6d5f1_4 ?_
  exact ⟨rfl, rfl⟩
theorem k_Asb_length {b : Nat} {n : Int} {x0 x1 ml : Value} (e : h b = some (.inr (zkSbd, [x0, x1, ml, zi n]))) : zM G l hAsb_length_8abf5 yAsb_length_8abf5 1 [.ref b] h (fun v h' => v = some (zi n) ∧ h = h') zNo 0 0 := by
  refine zM.of [some (.ref b)] (by decide +kernel) rfl (by decide) rfl (Nat.le_of_ble_eq_true rfl) rfl ?_
  refine z_aload_n dAsb_length_8abf5_0 rfl ?_
  refine z_get (k := 3) fd_Sbd (by decide) fl_Asb_79 dAsb_length_8abf5_1 (by assumption) (by rfl) ?_
  refine z_iret rfl rfl dAsb_length_8abf5_4 ?_
  exact ⟨rfl, rfl⟩
theorem k_Sbd_length {b : Nat} {n : Int} {x0 x1 ml : Value} (e : h b = some (.inr (zkSbd, [x0, x1, ml, zi n]))) : zM G l hSbd_length_8abf5 ySbd_length_8abf5 2 [.ref b] h (fun v h' => v = some (zi n) ∧ h = h') zNo 0 0 := by
  refine zM.of [some (.ref b)] (by decide +kernel) rfl (by decide) rfl (Nat.le_of_ble_eq_true rfl) rfl ?_
  refine z_aload_n dSbd_length_8abf5_0 rfl ?_
  refine z_callSU ME_Asb_length_8abf5 IN_Asb_length_8abf5 SM_Asb_length_8abf5 SU_Sbd (by decide) lk_Sbd_343 dSbd_length_8abf5_1 (k_Asb_length e) rfl rfl (Nat.le_of_ble_eq_true rfl) (by assumption) (Nat.le_of_ble_eq_true rfl) (Nat.le_of_ble_eq_true rfl) (Nat.le_of_eq (Nat.zero_add _)) (Nat.le_of_eq (Nat.zero_add _)) (fun _ _ q => q.elim) ?_
  rintro _ _ ⟨rfl, rfl⟩
  refine z_iret rfl rfl dSbd_length_8abf5_4 ?_
  exact ⟨rfl, rfl⟩
set_option maxRecDepth 40000 in
theorem CX_length : Cond.code yAsb_length_8abf5 hAsb_length_8abf5.2.1 hAsb_length_8abf5.2.2.1 hAsb_length_8abf5.2.2.2.1 ∈ zWS := (zin_of zc2 (i := 102) rfl rfl)
theorem k_Str_initA {s b a cap n : Nat} {ml : Value} {f : Nat → Int} (es : h s = some (.inr (zkStr, [.null, zi 0, zi 0, zi 0]))) (e : h b = some (.inr (zkSbd, [.ref a, zi 0, ml, zi (n : Int)]))) (ea : h a = some (zBytes G cap f)) (hf : zFit f) (hn : n ≤ cap) (hc : cap ≤ 1000) (hsb : s ≠ b) (hsa : s ≠ a) : zM G l hStr_init_db425 yStr_init_db425 4 [.ref s, .ref b, .null] h (fun v h' => v = none ∧ zSr G h' s n ∧ ∀ z e, h z = some e → z ≠ s → h' z = some e) zNo 1 n := by
  refine zM.of [some (.ref s), some (.ref b), some .null, none, none] (by decide +kernel) rfl (by decide) rfl (Nat.le_of_ble_eq_true rfl) rfl ?_
  refine z_aload_n dStr_init_db425_0 rfl ?_
  refine z_obj lk_Str_1 ob_i ob_c dStr_init_db425_1 (Nat.le_of_ble_eq_true rfl) (Nat.le_of_ble_eq_true rfl) (Nat.le_of_ble_eq_true rfl) ?_
  refine z_aload_n dStr_init_db425_4 rfl ?_
  refine z_callC ME_Asb_getValue_6d5f1 IN_Asb_getValue_6d5f1 SE_Asb_getValue_6d5f1 lk_Str_552 dStr_init_db425_5 (k_Asb_getValue e) rfl rfl (Nat.le_of_ble_eq_true rfl) (ci := zkSbd) rfl (by assumption) (Nat.le_of_ble_eq_true rfl) (Nat.le_of_ble_eq_true rfl) (Nat.le_of_eq (Nat.zero_add _)) (Nat.le_of_eq (Nat.zero_add _)) (fun _ _ q => q.elim) ?_
  rintro _ _ ⟨rfl, rfl⟩
  refine z_astore_n dStr_init_db425_8 (Nat.le_of_ble_eq_true rfl) ?_
  refine z_aload_n dStr_init_db425_9 rfl ?_
  refine z_callO ME_Sbd_length IN_Sbd_length SM_Asb_length_8abf5 IN_Asb_length_8abf5 SE_length CX_length ⟨by decide +kernel, by decide +kernel, by decide +kernel⟩ lk_Str_549 dStr_init_db425_10 (k_Sbd_length e) rfl rfl (Nat.le_of_ble_eq_true rfl) (by assumption) (Nat.le_of_ble_eq_true rfl) (Nat.le_of_ble_eq_true rfl) (Nat.le_of_eq (Nat.zero_add _)) (Nat.le_of_eq (Nat.zero_add _)) (fun _ _ q => q.elim) ?_
  rintro _ _ ⟨rfl, rfl⟩
  refine z_istore dStr_init_db425_13 (Nat.le_of_ble_eq_true rfl) ?_
  refine z_aload_n dStr_init_db425_15 rfl ?_
  refine z_callC ME_Asb_isLatin1_aae02 IN_Asb_isLatin1_aae02 SE_Asb_isLatin1_aae02 lk_Str_1047 dStr_init_db425_16 (k_Asb_isLatin1 e) rfl rfl (Nat.le_of_ble_eq_true rfl) (ci := zkSbd) rfl (by assumption) (Nat.le_of_ble_eq_true rfl) (Nat.le_of_ble_eq_true rfl) (Nat.le_of_eq (Nat.zero_add _)) (Nat.le_of_eq (Nat.zero_add _)) (fun _ _ q => q.elim) ?_
  rintro _ _ ⟨rfl, rfl⟩
  refine z_if_eq (tgt := 41) dStr_init_db425_19 (by decide) (by omega) (fun c19 => ?_) (fun c19 => ?_)
  · exact absurd c19 (by decide)
  · refine z_aload_n dStr_init_db425_22 rfl ?_
    refine z_iconst dStr_init_db425_23 ?_
    refine z_putF (k := 1) fd_Str (by decide) fl_Str_15 rfl rfl rfl dStr_init_db425_24 es (by simp) rfl rfl ?_
    refine z_hx (fun h1 p1 F1 => ?_)
    have ea1 := (F1 a (Ne.symm hsa)).trans ea
    refine z_aload_n dStr_init_db425_27 rfl ?_
    refine z_aload_n dStr_init_db425_28 rfl ?_
    refine z_iconst dStr_init_db425_29 ?_
    refine z_iload dStr_init_db425_30 rfl ?_
    refine z_callS (bc' := 0) (bs' := 0) MS_Arr_copyOfRange_39247 lk_Str_54 dStr_init_db425_32 (k_Arr_copyOfRange ea1 hf hn hc) rfl rfl (Nat.le_of_ble_eq_true rfl)  (Nat.le_of_ble_eq_true rfl) (Nat.le_of_ble_eq_true rfl) (by omega) (by omega) (fun _ _ q => q.elim) ?_
    rintro _ h2 ⟨q, f', rfl, hq, gq, p2, hf2, F2⟩
    have hsq : s ≠ q := Nat.ne_of_lt (hq s _ p1)
    have es2 := (F2 s hsq).trans p1
    refine z_putF (k := 0) fd_Str (by decide) fl_Str_9 rfl rfl rfl dStr_init_db425_35 es2 (by simp) rfl rfl ?_
    refine z_hx (fun h3 p3 F3 => ?_)
    refine z_goto (tgt := 97) dStr_init_db425_38 (by decide) ?_
    refine z_vret rfl dStr_init_db425_97 ?_
    refine ⟨rfl, Or.inr ⟨q, f', _, _, p3, (F3 q (Ne.symm hsq)).trans p2, hf2⟩, fun z x hz hs => ?_⟩
    have z1 := (F1 z hs).trans hz
    exact (F3 z hs).trans ((F2 z (Nat.ne_of_lt (hq z _ z1))).trans z1)
theorem k_Str_init {s b a cap n : Nat} {ml : Value} {f : Nat → Int} (es : h s = some (.inr (zkStr, [.null, zi 0, zi 0, zi 0]))) (e : h b = some (.inr (zkSbd, [.ref a, zi 0, ml, zi (n : Int)]))) (ea : h a = some (zBytes G cap f)) (hf : zFit f) (hn : n ≤ cap) (hc : cap ≤ 1000) (hsb : s ≠ b) (hsa : s ≠ a) : zM G l hStr_init_81219 yStr_init_81219 5 [.ref s, .ref b] h (fun v h' => v = none ∧ zSr G h' s n ∧ ∀ z e, h z = some e → z ≠ s → h' z = some e) zNo 1 n := by
  refine zM.of [some (.ref s), some (.ref b)] (by decide +kernel) rfl (by decide) rfl (Nat.le_of_ble_eq_true rfl) rfl ?_
  refine z_aload_n dStr_init_81219_0 rfl ?_
  refine z_aload_n dStr_init_81219_1 rfl ?_
  refine z_null dStr_init_81219_2 ?_
  refine z_callI (bc' := 0) (bs' := 0) MI_Str_init_db425 lk_Str_489 dStr_init_81219_3 (k_Str_initA es e ea hf hn hc hsb hsa) rfl rfl (Nat.le_of_ble_eq_true rfl)  (Nat.le_of_ble_eq_true rfl) (Nat.le_of_ble_eq_true rfl) (by omega) (by omega) (fun _ _ q => q.elim) ?_
  rintro _ h1 ⟨rfl, hq9⟩
  refine z_vret rfl dStr_init_81219_6 ?_
  exact ⟨rfl, hq9⟩
theorem k_Sbd_toString {b a cap n : Nat} (B : zSb G h0 h b a cap n) (hc : cap ≤ 1000) : zM G l hSbd_toString_0e30d ySbd_toString_0e30d 6 [.ref b] h (fun v h' => ∃ s, v = some (.ref s) ∧ zSr G h' s n ∧ zExt h h') zNo 2 (4 + n) := by
  obtain ⟨ml, f, e, ea, hf, hnc, hba, db, da, hx⟩ := B
  refine zM.of [some (.ref b)] (by decide +kernel) rfl (by decide) rfl (Nat.le_of_ble_eq_true rfl) rfl ?_
  refine z_new (fs := [.null, zi 0, zi 0, zi 0]) (bc' := 1) (bs' := n) fd_Str cl_Sbd_18 im_Str in_Str (by intro j hj; match j, hj with | 0, _ => rfl | 1, _ => rfl | 2, _ => rfl | 3, _ => rfl) dSbd_toString_0e30d_0 (by omega) (by omega) (fun s hs gs => ?_)
  refine z_hx (fun h1 p1 F1 => ?_)
  have nb : b ≠ s := Nat.ne_of_lt (hs b _ e)
  have na : a ≠ s := Nat.ne_of_lt (hs a _ ea)
  have e1 := (F1 b nb).trans e
  have ea1 := (F1 a na).trans ea
  refine z_dup rfl dSbd_toString_0e30d_3 ?_
  refine z_aload_n dSbd_toString_0e30d_4 rfl ?_
  refine z_callI (bc' := 0) (bs' := 0) MI_Str_init_81219 lk_Sbd_137 dSbd_toString_0e30d_5 (k_Str_init p1 e1 ea1 hf hnc hc (Ne.symm nb) (Ne.symm na)) rfl rfl (Nat.le_of_ble_eq_true rfl)  (Nat.le_of_ble_eq_true rfl) (Nat.le_of_ble_eq_true rfl) (by omega) (by omega) (fun _ _ q => q.elim) ?_
  rintro _ h2 ⟨rfl, S2, F2⟩
  refine z_aret rfl (Or.inl ⟨_, rfl⟩) (Or.inr ⟨_, rfl⟩) dSbd_toString_0e30d_8 ?_
  exact ⟨s, rfl, S2, fun z x hz => F2 z x ((F1 z (Nat.ne_of_lt (hs z _ hz))).trans hz) (Nat.ne_of_lt (hs z _ hz))⟩
end STR7
end
section
section STR8
variable {G : zG} {l : Launch} {h h' h0 : zHp} {ad : Nat → Nat} {ma : Nat → Nat} {S : zSt} {th : Int}
/-- what isn't spoken of any more is forgotten -/
theorem z_weak {J : zJ} {bc bs pc : Nat} {h1 : zHp} {ls : List (Option Value)} {st : List Value} (hx : zExt h h1) (k : zR G l J bc bs h pc ls st) : zR G l J bc bs h1 pc ls st := fun p e s m args below meth c H locs cells slots ls0 C0 hP hS hL g1 g2 => k p e s m args below meth c H locs cells slots ls0 C0 (hP.mono hx) hS hL g1 g2
theorem z_sz5 (X : Int) : 1 ≤ zSz X ∧ zSz X ≤ 5 := by unfold zSz; (repeat' split) <;> omega
theorem l_Row_joined {mc ms : Nat} {Qn : Option Value → zHp → Prop} {Qx : String → zHp → Prop} {r a b : Nat} {L : List Int} {d : Int} (hr : zRow G h r a L) (hd : d = 0 ∨ d = 1)
    (K : ∀ bc bs (h1 : zHp) a1 cap n9 y, zSb G h h1 b a1 cap n9 → n9 ≤ 96 → cap ≤ 240 → 2 ≤ bc → 124 ≤ bs → zR G l (zMJ G hRow_joined 7 Qn Qx mc ms) bc bs h1 61 [some (.ref r), some (zi d), some (.ref b), y] []) :
    ∀ (n m bc bs : Nat) (h1 : zHp) (a1 cap n9 : Nat), L.length - m < n → m ≤ L.length → zSb G h h1 b a1 cap n9 → n9 ≤ 6 * m → cap ≤ 240 → 2 * (L.length - m) + 2 ≤ bc → 2 * (240 - cap) + 124 ≤ bs → zR G l (zMJ G hRow_joined 7 Qn Qx mc ms) bc bs h1 10 [some (.ref r), some (zi d), some (.ref b), some (zi (m : Int))] [] := by
  intro n
  induction n with
  | zero => intro m bc bs h1 a1 cap n9 x1 x2 B1 x3 x4 x5 x6; omega
  | succ n ih =>
  intro m bc bs h1 a1 cap n9 x1 x2 B1 x3 x4 x5 x6
  have hr0 := hr
  obtain ⟨fr, er, eitm, hlen, e4, e5⟩ := id hr
  obtain ⟨ml1, f1, eb1, ea1, hf1, hnc1, hba1, db1, da1, hx1⟩ := id B1
  have er1 := hx1 _ _ er
  have eitm1 := hx1 _ _ eitm
  have g1 := zGr_ok (cap := cap) (m := n9 + 1) (bs := bs - 124) (by omega) (by omega) (by omega)
  refine z_iload_n dRow_joined_10 rfl ?_
  refine z_aload_n dRow_joined_11 rfl ?_
  refine z_get (k := 1) fd_Row (by decide) fl_Row_15 dRow_joined_12 er1 rfl ?_
  refine z_icmp_ge (tgt := 61) dRow_joined_15 (by decide) (by omega) (by omega) (fun c15 => ?_) (fun c15 => ?_)
  · exact K bc bs h1 a1 cap n9 _ B1 (by omega) (by omega) (by omega) (by omega)
  · refine z_iload_n dRow_joined_18 rfl ?_
    refine z_if_le (tgt := 29) dRow_joined_19 (by decide) (by omega) (fun c19 => ?_) (fun c19 => ?_)
    · refine z_aload_n dRow_joined_29 rfl ?_
      refine z_aload_n dRow_joined_30 rfl ?_
      refine z_get (k := 0) fd_Row (by decide) fl_Row_9 dRow_joined_31 er1 rfl ?_
      refine z_iload_n dRow_joined_34 rfl ?_
      refine z_if_eq (tgt := 49) dRow_joined_35 (by decide) (by omega) (fun c35 => ?_) (fun c35 => ?_)
      · refine z_iload_n dRow_joined_49 rfl ?_
        refine z_iald dRow_joined_50 eitm1 (by refine ⟨?_, ?_, ?_⟩ <;> omega) ?_
        obtain ⟨X, hX, hin⟩ : ∃ X, fr ((m : Int)).toNat = X ∧ zIn X := ⟨_, rfl, by rw [e4 _ (by omega)]; exact e5 _ (by omega)⟩
        rw [hX]
        have hsz := z_sz5 X
        have g3 := zGr_ok (cap := cap) (m := n9 + zSz X) (bs := bs - 124) (by omega) (by omega) (by omega)
        refine z_callV (bc' := bc - 1) (bs' := bs - zGr cap (n9 + zSz X)) MV_Sbd_append_bf812 lk_Row_33 dRow_joined_51 (k_Sbd_appendI B1 hin (by omega) (by omega)) rfl rfl (Nat.le_of_ble_eq_true rfl) rfl (by assumption) (Nat.le_of_ble_eq_true rfl) (Nat.le_of_ble_eq_true rfl) (by omega) (by omega) (fun _ _ q => q.elim) ?_
        rintro _ h3 ⟨rfl, a3, B3⟩
        obtain ⟨ml3, f3, eb3, ea3, hf3, hnc3, hba3, db3, da3, hx3⟩ := id B3
        refine z_pop rfl dRow_joined_54 ?_
        refine z_iinc dRow_joined_55 rfl (Nat.le_of_ble_eq_true rfl) ?_
        refine z_goto (tgt := 10) dRow_joined_58 (by decide) ?_
        exact ih (m + 1) _ _ h3 a3 _ _ (by omega) (by omega) B3 (by omega) (by omega) (by omega) (by omega)
      · refine z_aload_n dRow_joined_38 rfl ?_
        refine z_get (k := 1) fd_Row (by decide) fl_Row_15 dRow_joined_39 er1 rfl ?_
        refine z_iconst dRow_joined_42 ?_
        refine z_isub dRow_joined_43 ?_
        refine z_iload_n dRow_joined_44 rfl ?_
        refine z_isub dRow_joined_45 ?_
        refine z_goto (tgt := 50) dRow_joined_46 (by decide) ?_
        refine z_iald dRow_joined_50 eitm1 (by refine ⟨?_, ?_, ?_⟩ <;> omega) ?_
        obtain ⟨X, hX, hin⟩ : ∃ X, fr ((L.length : Int) - 1 - (m : Int)).toNat = X ∧ zIn X := ⟨_, rfl, by rw [e4 _ (by omega)]; exact e5 _ (by omega)⟩
        rw [hX]
        have hsz := z_sz5 X
        have g3 := zGr_ok (cap := cap) (m := n9 + zSz X) (bs := bs - 124) (by omega) (by omega) (by omega)
        refine z_callV (bc' := bc - 1) (bs' := bs - zGr cap (n9 + zSz X)) MV_Sbd_append_bf812 lk_Row_33 dRow_joined_51 (k_Sbd_appendI B1 hin (by omega) (by omega)) rfl rfl (Nat.le_of_ble_eq_true rfl) rfl (by assumption) (Nat.le_of_ble_eq_true rfl) (Nat.le_of_ble_eq_true rfl) (by omega) (by omega) (fun _ _ q => q.elim) ?_
        rintro _ h3 ⟨rfl, a3, B3⟩
        obtain ⟨ml3, f3, eb3, ea3, hf3, hnc3, hba3, db3, da3, hx3⟩ := id B3
        refine z_pop rfl dRow_joined_54 ?_
        refine z_iinc dRow_joined_55 rfl (Nat.le_of_ble_eq_true rfl) ?_
        refine z_goto (tgt := 10) dRow_joined_58 (by decide) ?_
        exact ih (m + 1) _ _ h3 a3 _ _ (by omega) (by omega) B3 (by omega) (by omega) (by omega) (by omega)
    · refine z_aload_n dRow_joined_22 rfl ?_
      refine z_bipush dRow_joined_23 rfl ?_
      refine z_callV (bc' := bc - 1) (bs' := bs - zGr cap (n9 + 1)) MV_Sbd_append_cf468 lk_Row_29 dRow_joined_25 (k_Sbd_appendC B1 (by omega) (by omega)) rfl rfl (Nat.le_of_ble_eq_true rfl) rfl (by assumption) (Nat.le_of_ble_eq_true rfl) (Nat.le_of_ble_eq_true rfl) (by omega) (by omega) (fun _ _ q => q.elim) ?_
      rintro _ h2 ⟨rfl, a2, B2⟩
      obtain ⟨ml2, f2, eb2, ea2, hf2, hnc2, hba2, db2, da2, hx2⟩ := id B2
      have er2 := hx2 _ _ er
      have eitm2 := hx2 _ _ eitm
      refine z_pop rfl dRow_joined_28 ?_
      refine z_aload_n dRow_joined_29 rfl ?_
      refine z_aload_n dRow_joined_30 rfl ?_
      refine z_get (k := 0) fd_Row (by decide) fl_Row_9 dRow_joined_31 er2 rfl ?_
      refine z_iload_n dRow_joined_34 rfl ?_
      refine z_if_eq (tgt := 49) dRow_joined_35 (by decide) (by omega) (fun c35 => ?_) (fun c35 => ?_)
      · refine z_iload_n dRow_joined_49 rfl ?_
        refine z_iald dRow_joined_50 eitm2 (by refine ⟨?_, ?_, ?_⟩ <;> omega) ?_
        obtain ⟨X, hX, hin⟩ : ∃ X, fr ((m : Int)).toNat = X ∧ zIn X := ⟨_, rfl, by rw [e4 _ (by omega)]; exact e5 _ (by omega)⟩
        rw [hX]
        have hsz := z_sz5 X
        have g3 := zGr_ok (cap := (zCp cap (n9 + 1))) (m := (n9 + 1) + zSz X) (bs := (bs - zGr cap (n9 + 1)) - 124) (by omega) (by omega) (by omega)
        refine z_callV (bc' := bc - 2) (bs' := (bs - zGr cap (n9 + 1)) - zGr (zCp cap (n9 + 1)) ((n9 + 1) + zSz X)) MV_Sbd_append_bf812 lk_Row_33 dRow_joined_51 (k_Sbd_appendI B2 hin (by omega) (by omega)) rfl rfl (Nat.le_of_ble_eq_true rfl) rfl (by assumption) (Nat.le_of_ble_eq_true rfl) (Nat.le_of_ble_eq_true rfl) (by omega) (by omega) (fun _ _ q => q.elim) ?_
        rintro _ h3 ⟨rfl, a3, B3⟩
        obtain ⟨ml3, f3, eb3, ea3, hf3, hnc3, hba3, db3, da3, hx3⟩ := id B3
        refine z_pop rfl dRow_joined_54 ?_
        refine z_iinc dRow_joined_55 rfl (Nat.le_of_ble_eq_true rfl) ?_
        refine z_goto (tgt := 10) dRow_joined_58 (by decide) ?_
        exact ih (m + 1) _ _ h3 a3 _ _ (by omega) (by omega) B3 (by omega) (by omega) (by omega) (by omega)
      · refine z_aload_n dRow_joined_38 rfl ?_
        refine z_get (k := 1) fd_Row (by decide) fl_Row_15 dRow_joined_39 er2 rfl ?_
        refine z_iconst dRow_joined_42 ?_
        refine z_isub dRow_joined_43 ?_
        refine z_iload_n dRow_joined_44 rfl ?_
        refine z_isub dRow_joined_45 ?_
        refine z_goto (tgt := 50) dRow_joined_46 (by decide) ?_
        refine z_iald dRow_joined_50 eitm2 (by refine ⟨?_, ?_, ?_⟩ <;> omega) ?_
        obtain ⟨X, hX, hin⟩ : ∃ X, fr ((L.length : Int) - 1 - (m : Int)).toNat = X ∧ zIn X := ⟨_, rfl, by rw [e4 _ (by omega)]; exact e5 _ (by omega)⟩
        rw [hX]
        have hsz := z_sz5 X
        have g3 := zGr_ok (cap := (zCp cap (n9 + 1))) (m := (n9 + 1) + zSz X) (bs := (bs - zGr cap (n9 + 1)) - 124) (by omega) (by omega) (by omega)
        refine z_callV (bc' := bc - 2) (bs' := (bs - zGr cap (n9 + 1)) - zGr (zCp cap (n9 + 1)) ((n9 + 1) + zSz X)) MV_Sbd_append_bf812 lk_Row_33 dRow_joined_51 (k_Sbd_appendI B2 hin (by omega) (by omega)) rfl rfl (Nat.le_of_ble_eq_true rfl) rfl (by assumption) (Nat.le_of_ble_eq_true rfl) (Nat.le_of_ble_eq_true rfl) (by omega) (by omega) (fun _ _ q => q.elim) ?_
        rintro _ h3 ⟨rfl, a3, B3⟩
        obtain ⟨ml3, f3, eb3, ea3, hf3, hnc3, hba3, db3, da3, hx3⟩ := id B3
        refine z_pop rfl dRow_joined_54 ?_
        refine z_iinc dRow_joined_55 rfl (Nat.le_of_ble_eq_true rfl) ?_
        refine z_goto (tgt := 10) dRow_joined_58 (by decide) ?_
        exact ih (m + 1) _ _ h3 a3 _ _ (by omega) (by omega) B3 (by omega) (by omega) (by omega) (by omega)
theorem k_Row_joined {r a : Nat} {L : List Int} {d : Int} (hr : zRow G h r a L) (hd : d = 0 ∨ d = 1) : zM G l hRow_joined yRow_joined 7 [.ref r, zi d] h (fun v h' => (∃ s, v = some (.ref s)) ∧ h = h') zNo 36 600 := by
  obtain ⟨fr, er, eitm, hlen, e4, e5⟩ := id hr
  refine zM.of [some (.ref r), some (zi d), none, none] (by decide +kernel) rfl (by decide) rfl (Nat.le_of_ble_eq_true rfl) rfl ?_
  refine z_new (fs := [.null, zi 0, zi 0, zi 0]) (bc' := 35) (bs' := 596) fd_Sbd cl_Row_26 im_Sbd in_Sbd (by intro j hj; match j, hj with | 0, _ => rfl | 1, _ => rfl | 2, _ => rfl | 3, _ => rfl) dRow_joined_0 (by omega) (by omega) (fun b hb gb => ?_)
  refine z_hx (fun h1 p1 F1 => ?_)
  refine z_dup rfl dRow_joined_3 ?_
  refine z_callI (bc' := 34) (bs' := 580) MI_Sbd_init_da8c8 lk_Row_28 dRow_joined_4 (k_Sbd_init p1) rfl rfl (Nat.le_of_ble_eq_true rfl)  (Nat.le_of_ble_eq_true rfl) (Nat.le_of_ble_eq_true rfl) (by omega) (by omega) (fun _ _ q => q.elim) ?_
  rintro _ h2 ⟨rfl, a2, ha2, ga2, p2, q2, F2⟩
  have hba2 : b ≠ a2 := Nat.ne_of_lt (ha2 b _ p1)
  have x01 : zExt h h1 := fun z x hz => (F1 z (Nat.ne_of_lt (hb z x hz))).trans hz
  have B2 : zSb G h h2 b a2 16 0 := ⟨_, _, p2, q2, zFit_0, by omega, hba2, hb, ha2.dn x01, fun z x hz => (F2 z (Nat.ne_of_lt (hb z x hz)) (Nat.ne_of_lt (ha2 z x (x01 z x hz)))).trans (x01 z x hz)⟩
  refine z_astore_n dRow_joined_7 (Nat.le_of_ble_eq_true rfl) ?_
  refine z_iconst dRow_joined_8 ?_
  refine z_istore_n dRow_joined_9 (Nat.le_of_ble_eq_true rfl) ?_
  refine l_Row_joined (h := h) hr hd (fun bc bs h3 a3 cap n9 y B3 y1 y2 y3 y4 => ?_) (L.length + 1) 0 34 580 h2 a2 16 0 (by omega) (by omega) B2 (by omega) (by omega) (by omega) (by omega)
  obtain ⟨ml3, f3, eb3, ea3, hf3, hnc3, hba3, db3, da3, hx3⟩ := id B3
  refine z_aload_n dRow_joined_61 rfl ?_
  refine z_callV (bc' := bc - 2) (bs' := bs - (4 + n9)) MV_Sbd_toString_0e30d lk_Row_36 dRow_joined_62 (k_Sbd_toString B3 (by omega)) rfl rfl (Nat.le_of_ble_eq_true rfl) rfl (by assumption) (Nat.le_of_ble_eq_true rfl) (Nat.le_of_ble_eq_true rfl) (by omega) (by omega) (fun _ _ q => q.elim) ?_
  rintro _ h4 ⟨s9, rfl, S4, x4⟩
  refine z_weak (hx3.tr x4) ?_
  refine z_aret rfl (Or.inl ⟨_, rfl⟩) (Or.inr ⟨_, rfl⟩) dRow_joined_65 ?_
  exact ⟨⟨_, rfl⟩, rfl⟩
end STR8
end
section
section STR9
variable {G : zG} {l : Launch} {h h' h0 : zHp} {ad : Nat → Nat} {ma : Nat → Nat} {S : zSt} {th : Int}
theorem k_Cls_text {p d : Int} (hC : zCls G h ad S) (hp : zI32 p) (hd : d = 0 ∨ d = 1) : zM G l hCls_text yCls_text 8 [.ref (ad 0), zi p, zi d] h (fun v h' => (∃ s, v = some (.ref s)) ∧ (0 ≤ p ∧ p < 4) ∧ h = h') (fun E h' => E = zE1 ∧ ¬ (0 ≤ p ∧ p < 4) ∧ h = h') 37 606 := by
  obtain ⟨c1, c2, ⟨g3, c3, d3⟩, ⟨g4, c4, d4⟩, c5, ⟨T6, c6, d6⟩, c7, c8, ⟨R9, c9⟩, c10⟩ := id hC
  refine zM.of [some (.ref (ad 0)), some (zi p), some (zi d)] (by decide +kernel) rfl (by decide) rfl (Nat.le_of_ble_eq_true rfl) rfl ?_
  refine z_aload_n dCls_text_0 rfl ?_
  refine z_iload_n dCls_text_1 rfl ?_
  refine z_callV (bc' := 36) (bs' := 600) MV_Cls_listAt lk_Cls_34 dCls_text_2 (k_Cls_listAt hC (by omega)) rfl rfl (Nat.le_of_ble_eq_true rfl) rfl (by assumption) (Nat.le_of_ble_eq_true rfl) (Nat.le_of_ble_eq_true rfl) (by decide) (by decide) (fun E h9 q9 => z_out rfl q9) ?_
  rintro _ _ ⟨rfl, k1, k2, rfl⟩
  obtain ⟨k, rfl⟩ := Int.eq_ofNat_of_zero_le k1
  rw [Int.toNat_natCast]
  refine z_iload_n dCls_text_5 rfl ?_
  refine z_callVN (bc' := 0) (bs' := 0) MV_Row_joined lk_Cls_94 dCls_text_6 (k_Row_joined (hC.ls (show k < 4 by omega)) hd) rfl rfl (Nat.le_of_ble_eq_true rfl) rfl (hC.ls (show k < 4 by omega)).choose_spec.1 (Nat.le_of_ble_eq_true rfl) (Nat.le_of_ble_eq_true rfl) (by decide) (by decide) (fun _ _ q => q.elim) ?_
  rintro _ _ ⟨⟨s9, rfl⟩, rfl⟩
  refine z_aret rfl (Or.inl ⟨_, rfl⟩) (Or.inr ⟨_, rfl⟩) dCls_text_9 ?_
  exact ⟨⟨_, rfl⟩, ⟨k1, k2⟩, rfl⟩
theorem k_Cls_recent (hC : zCls G h ad S) : zM G l hCls_recent yCls_recent 8 [.ref (ad 0)] h (fun v h' => (∃ s, v = some (.ref s)) ∧ h = h') zNo 36 600 := by
  obtain ⟨c1, c2, ⟨g3, c3, d3⟩, ⟨g4, c4, d4⟩, c5, ⟨T6, c6, d6⟩, c7, c8, ⟨R9, c9⟩, c10⟩ := id hC
  refine zM.of [some (.ref (ad 0))] (by decide +kernel) rfl (by decide) rfl (Nat.le_of_ble_eq_true rfl) rfl ?_
  refine z_aload_n dCls_recent_0 rfl ?_
  refine z_get (k := 2) fd_Cls (by decide) fl_Cls_24 dCls_recent_1 (by assumption) (by rfl) ?_
  refine z_getN (k := 0) fd_Rec (by decide) fl_Cls_234 dCls_recent_4 (by assumption) (by rfl) ?_
  refine z_iconst dCls_recent_7 ?_
  refine z_callVN (bc' := 0) (bs' := 0) MV_Row_joined lk_Cls_94 dCls_recent_8 (k_Row_joined c10 (Or.inl rfl)) rfl rfl (Nat.le_of_ble_eq_true rfl) rfl c10.choose_spec.1 (Nat.le_of_ble_eq_true rfl) (Nat.le_of_ble_eq_true rfl) (by decide) (by decide) (fun _ _ q => q.elim) ?_
  rintro _ _ ⟨⟨s9, rfl⟩, rfl⟩
  refine z_aret rfl (Or.inl ⟨_, rfl⟩) (Or.inr ⟨_, rfl⟩) dCls_recent_11 ?_
  exact ⟨⟨_, rfl⟩, rfl⟩
theorem zREm : ∀ U H, zS G U H → vk_R RMod 53 "" (G.2.1 7) U := fun _ _ hZ => (hZ.sj.2.2.2.2.1.choose_spec.1)
theorem zRBm : ∀ U H, zS G U H → vk_R RMod 68 " " (G.2.1 9) U := fun _ _ hZ => (hZ.sj.2.2.2.2.2.1.choose_spec.1)
theorem l_Mod_told {mc ms : Nat} {Qn : Option Value → zHp → Prop} {Qx : String → zHp → Prop} {a : Nat} {L : List Int} (hr : zAr G h a L) (h16 : L.length ≤ 16)
    (K : ∀ bc bs (h1 : zHp) q y9 y, zExt h h1 → zR G l (zMJ G hMod_told 7 Qn Qx mc ms) bc bs h1 66 [some (.ref a), some (.ref q), some (.ref a), some (zi (L.length : Int)), y9, y] []) :
    ∀ (n m bc bs : Nat) (h1 : zHp) (q n9 : Nat) (y : Option Value), L.length - m < n → m ≤ L.length → zSr G h1 q n9 → n9 ≤ 6 * m → 7 * (L.length - m) ≤ bc → 584 * (L.length - m) ≤ bs → zExt h h1 → zR G l (zMJ G hMod_told 7 Qn Qx mc ms) bc bs h1 11 [some (.ref a), some (.ref q), some (.ref a), some (zi (L.length : Int)), some (zi (m : Int)), y] [] := by
  intro n
  induction n with
  | zero => intro m bc bs h1 q n9 y x1 x2 T1 x3 x4 x5 hx; omega
  | succ n ih =>
  intro m bc bs h1 q n9 y x1 x2 T1 x3 x4 x5 hx
  obtain ⟨fr, er, e3, e4, e5⟩ := id hr
  have er1 := hx _ _ er
  refine z_iload dMod_told_11 rfl ?_
  refine z_iload_n dMod_told_13 rfl ?_
  refine z_icmp_ge (tgt := 66) dMod_told_14 (by decide) (by omega) (by omega) (fun c14 => ?_) (fun c14 => ?_)
  · exact K bc bs h1 q _ _ hx
  · refine z_aload_n dMod_told_17 rfl ?_
    refine z_iload dMod_told_18 rfl ?_
    refine z_iald dMod_told_20 er1 (by refine ⟨?_, ?_, ?_⟩ <;> omega) ?_
    obtain ⟨X, hX, hin⟩ : ∃ X, fr ((m : Int)).toNat = X ∧ zIn X := ⟨_, rfl, by rw [e4 _ (by omega)]; exact e5 _ (by omega)⟩
    rw [hX]
    have hsz := z_sz5 X
    refine z_istore dMod_told_21 (Nat.le_of_ble_eq_true rfl) ?_
    refine z_new (fs := [.null, zi 0, zi 0, zi 0]) (bc' := bc - 1) (bs' := bs - 4) fd_Sbd cl_Mod_55 im_Sbd in_Sbd (by intro j hj; match j, hj with | 0, _ => rfl | 1, _ => rfl | 2, _ => rfl | 3, _ => rfl) dMod_told_23 (by omega) (by omega) (fun b hb gb => ?_)
    refine z_hx (fun h2 p1 F1 => ?_)
    refine z_dup rfl dMod_told_26 ?_
    refine z_callI (bc' := bc - 2) (bs' := bs - 20) MI_Sbd_init_da8c8 lk_Mod_57 dMod_told_27 (k_Sbd_init p1) rfl rfl (Nat.le_of_ble_eq_true rfl)  (Nat.le_of_ble_eq_true rfl) (Nat.le_of_ble_eq_true rfl) (by omega) (by omega) (fun _ _ q => q.elim) ?_
    rintro _ h3 ⟨rfl, a2, ha2, ga2, p2, q2, F2⟩
    have hba2 : b ≠ a2 := Nat.ne_of_lt (ha2 b _ p1)
    have x01 : zExt h1 h2 := fun z x hz => (F1 z (Nat.ne_of_lt (hb z x hz))).trans hz
    have B2 : zSb G h1 h3 b a2 16 0 := ⟨_, _, p2, q2, zFit_0, by omega, hba2, hb, ha2.dn x01, fun z x hz => (F2 z (Nat.ne_of_lt (hb z x hz)) (Nat.ne_of_lt (ha2 z x (x01 z x hz)))).trans (x01 z x hz)⟩
    have g1 := zGr_ok (cap := 16) (m := 0 + n9) (bs := 448) (by omega) (by omega) (by omega)
    refine z_aload_n dMod_told_30 rfl ?_
    refine z_callV (bc' := bc - 3) (bs' := bs - 20 - zGr 16 (0 + n9)) MV_Sbd_append_15ec4 lk_Mod_58 dMod_told_31 (k_Sbd_appendS B2 T1 (by omega) (by omega)) rfl rfl (Nat.le_of_ble_eq_true rfl) rfl (by assumption) (Nat.le_of_ble_eq_true rfl) (Nat.le_of_ble_eq_true rfl) (by omega) (by omega) (fun _ _ q => q.elim) ?_
    rintro _ h4 ⟨rfl, a3, B3⟩
    obtain ⟨ml3, f3, eb3, ea3, hf3, hnc3, hba3, db3, da3, hx3⟩ := id B3
    refine z_aload_n dMod_told_34 rfl ?_
    refine z_callVR MV_Str_length_8abf5 lk_Mod_62 dMod_told_35 (k_Str_length (T1.ext hx3)) rfl rfl (Nat.le_of_ble_eq_true rfl) (T1.ext hx3).recv (Nat.le_of_ble_eq_true rfl) (Nat.le_of_ble_eq_true rfl) (Nat.le_of_eq (Nat.zero_add _)) (Nat.le_of_eq (Nat.zero_add _)) (fun _ _ q => q.elim) ?_
    rintro _ _ ⟨rfl, rfl⟩
    refine z_if_ne (tgt := 46) dMod_told_38 (by decide) (by omega) (fun c38 => ?_) (fun c38 => ?_)
    · refine z_ldcT (q := G.2.1 9) zRBm dMod_told_46 ?_
      have g2 := zGr_ok (cap := zCp 16 (0 + n9)) (m := 0 + n9 + 1) (bs := 448 - zGr 16 (0 + n9)) (by omega) (by omega) (by omega)
      refine z_callV (bc' := bc - 4) (bs' := bs - 20 - zGr 16 (0 + n9) - zGr (zCp 16 (0 + n9)) (0 + n9 + 1)) MV_Sbd_append_15ec4 lk_Mod_58 dMod_told_48 (k_Sbd_appendS (w := 1) B3 (Or.inl ⟨false, rfl, rfl⟩) (by omega) (by omega)) rfl rfl (Nat.le_of_ble_eq_true rfl) rfl (by assumption) (Nat.le_of_ble_eq_true rfl) (Nat.le_of_ble_eq_true rfl) (by omega) (by omega) (fun _ _ q => q.elim) ?_
      rintro _ h5 ⟨rfl, a4, B4⟩
      obtain ⟨ml4, f4, eb4, ea4, hf4, hnc4, hba4, db4, da4, hx4⟩ := id B4
      have g3 := zGr_ok (cap := zCp (zCp 16 (0 + n9)) (0 + n9 + 1)) (m := 0 + n9 + 1 + zSz X) (bs := 448 - zGr 16 (0 + n9) - zGr (zCp 16 (0 + n9)) (0 + n9 + 1)) (by omega) (by omega) (by omega)
      refine z_iload dMod_told_51 rfl ?_
      refine z_callV (bc' := bc - 5) (bs' := bs - 20 - zGr 16 (0 + n9) - zGr (zCp 16 (0 + n9)) (0 + n9 + 1) - zGr (zCp (zCp 16 (0 + n9)) (0 + n9 + 1)) (0 + n9 + 1 + zSz X)) MV_Sbd_append_bf812 lk_Mod_70 dMod_told_53 (k_Sbd_appendI B4 hin (by omega) (by omega)) rfl rfl (Nat.le_of_ble_eq_true rfl) rfl (by assumption) (Nat.le_of_ble_eq_true rfl) (Nat.le_of_ble_eq_true rfl) (by omega) (by omega) (fun _ _ q => q.elim) ?_
      rintro _ h6 ⟨rfl, a5, B5⟩
      obtain ⟨ml5, f5, eb5, ea5, hf5, hnc5, hba5, db5, da5, hx5⟩ := id B5
      refine z_callV (bc' := bc - 7) (bs' := bs - 584) MV_Sbd_toString_0e30d lk_Mod_73 dMod_told_56 (k_Sbd_toString B5 (by omega)) rfl rfl (Nat.le_of_ble_eq_true rfl) rfl (by assumption) (Nat.le_of_ble_eq_true rfl) (Nat.le_of_ble_eq_true rfl) (by omega) (by omega) (fun _ _ q => q.elim) ?_
      rintro _ h7 ⟨s9, rfl, T7, x7⟩
      refine z_astore_n dMod_told_59 (Nat.le_of_ble_eq_true rfl) ?_
      refine z_iinc dMod_told_60 rfl (Nat.le_of_ble_eq_true rfl) ?_
      refine z_goto (tgt := 11) dMod_told_63 (by decide) ?_
      exact ih (m + 1) _ _ h7 _ (0 + n9 + 1 + zSz X) _ (by omega) (by omega) T7 (by omega) (by omega) (by omega) (hx5.tr x7 |> fun z => hx.tr z)
    · refine z_ldcT (q := G.2.1 7) zREm dMod_told_41 ?_
      refine z_goto (tgt := 48) dMod_told_43 (by decide) ?_
      have g2 := zGr_ok (cap := zCp 16 (0 + n9)) (m := 0 + n9 + 0) (bs := 448 - zGr 16 (0 + n9)) (by omega) (by omega) (by omega)
      refine z_callV (bc' := bc - 4) (bs' := bs - 20 - zGr 16 (0 + n9) - zGr (zCp 16 (0 + n9)) (0 + n9 + 0)) MV_Sbd_append_15ec4 lk_Mod_58 dMod_told_48 (k_Sbd_appendS (w := 0) B3 (Or.inl ⟨true, rfl, rfl⟩) (by omega) (by omega)) rfl rfl (Nat.le_of_ble_eq_true rfl) rfl (by assumption) (Nat.le_of_ble_eq_true rfl) (Nat.le_of_ble_eq_true rfl) (by omega) (by omega) (fun _ _ q => q.elim) ?_
      rintro _ h5 ⟨rfl, a4, B4⟩
      obtain ⟨ml4, f4, eb4, ea4, hf4, hnc4, hba4, db4, da4, hx4⟩ := id B4
      have g3 := zGr_ok (cap := zCp (zCp 16 (0 + n9)) (0 + n9 + 0)) (m := 0 + n9 + 0 + zSz X) (bs := 448 - zGr 16 (0 + n9) - zGr (zCp 16 (0 + n9)) (0 + n9 + 0)) (by omega) (by omega) (by omega)
      refine z_iload dMod_told_51 rfl ?_
      refine z_callV (bc' := bc - 5) (bs' := bs - 20 - zGr 16 (0 + n9) - zGr (zCp 16 (0 + n9)) (0 + n9 + 0) - zGr (zCp (zCp 16 (0 + n9)) (0 + n9 + 0)) (0 + n9 + 0 + zSz X)) MV_Sbd_append_bf812 lk_Mod_70 dMod_told_53 (k_Sbd_appendI B4 hin (by omega) (by omega)) rfl rfl (Nat.le_of_ble_eq_true rfl) rfl (by assumption) (Nat.le_of_ble_eq_true rfl) (Nat.le_of_ble_eq_true rfl) (by omega) (by omega) (fun _ _ q => q.elim) ?_
      rintro _ h6 ⟨rfl, a5, B5⟩
      obtain ⟨ml5, f5, eb5, ea5, hf5, hnc5, hba5, db5, da5, hx5⟩ := id B5
      refine z_callV (bc' := bc - 7) (bs' := bs - 584) MV_Sbd_toString_0e30d lk_Mod_73 dMod_told_56 (k_Sbd_toString B5 (by omega)) rfl rfl (Nat.le_of_ble_eq_true rfl) rfl (by assumption) (Nat.le_of_ble_eq_true rfl) (Nat.le_of_ble_eq_true rfl) (by omega) (by omega) (fun _ _ q => q.elim) ?_
      rintro _ h7 ⟨s9, rfl, T7, x7⟩
      refine z_astore_n dMod_told_59 (Nat.le_of_ble_eq_true rfl) ?_
      refine z_iinc dMod_told_60 rfl (Nat.le_of_ble_eq_true rfl) ?_
      refine z_goto (tgt := 11) dMod_told_63 (by decide) ?_
      exact ih (m + 1) _ _ h7 _ (0 + n9 + 0 + zSz X) _ (by omega) (by omega) T7 (by omega) (by omega) (by omega) (hx5.tr x7 |> fun z => hx.tr z)
theorem k_Mod_told {a : Nat} {L : List Int} (hr : zAr G h a L) (h16 : L.length ≤ 16) : zM G l hMod_told yMod_told 7 [.ref a] h (fun v h' => (∃ s, v = some (.ref s)) ∧ h = h') zNo 112 9344 := by
  obtain ⟨fr, er, e3, e4, e5⟩ := id hr
  refine zM.of [some (.ref a), none, none, none, none, none] (by decide +kernel) rfl (by decide) rfl (Nat.le_of_ble_eq_true rfl) rfl ?_
  refine z_ldcT (q := G.2.1 7) zREm dMod_told_0 ?_
  refine z_astore_n dMod_told_2 (Nat.le_of_ble_eq_true rfl) ?_
  refine z_aload_n dMod_told_3 rfl ?_
  refine z_astore_n dMod_told_4 (Nat.le_of_ble_eq_true rfl) ?_
  refine z_aload_n dMod_told_5 rfl ?_
  refine z_alenI dMod_told_6 er ?_
  refine z_istore_n dMod_told_7 (Nat.le_of_ble_eq_true rfl) ?_
  refine z_iconst dMod_told_8 ?_
  refine z_istore dMod_told_9 (Nat.le_of_ble_eq_true rfl) ?_
  refine l_Mod_told (h := h) hr h16 (fun bc bs h3 q y9 y hx3 => ?_) (L.length + 1) 0 112 9344 h (G.2.1 7) 0 _ (by omega) (by omega) (Or.inl ⟨true, rfl, rfl⟩) (by omega) (by omega) (by omega) zExt.rf
  refine z_aload_n dMod_told_66 rfl ?_
  refine z_weak hx3 ?_
  refine z_aret rfl (Or.inl ⟨_, rfl⟩) (Or.inr ⟨_, rfl⟩) dMod_told_67 ?_
  exact ⟨⟨_, rfl⟩, rfl⟩
theorem k_Mod_text {p d : Int} (H : zMod G h ma S th) (z_p : zI32 p) (hd : d = 0 ∨ d = 1) (h16 : ∀ k, k < 4 → (S.1 k).length ≤ 16) : zM G l hMod_text yMod_text 8 [.ref (ma 0), zi p, zi d] h (fun v h' => (∃ s, v = some (.ref s)) ∧ ∃ t, zMod G h' ma S t ∧ zMfr ma h h' ∧ ((t = 0 ∧ (0 ≤ p ∧ p ≤ 3)) ∨ (t = 1 ∧ ¬ (0 ≤ p ∧ p ≤ 3)))) zNo 113 9405 := by
  obtain ⟨m1, m2, ⟨g, m3, m3a⟩, m4, ⟨f6, m5, m5a⟩, m6, m7⟩ := id H
  unfold zMfs at m2
  refine zM.of [some (.ref (ma 0)), some (zi p), some (zi d)] (by decide +kernel) rfl (by decide) rfl (Nat.le_of_ble_eq_true rfl) rfl ?_
  refine z_aload_n dMod_text_0 rfl ?_
  refine z_iload_n dMod_text_1 rfl ?_
  refine z_callS MS_Mod_isNo lk_Mod_81 dMod_text_2 (k_Mod_isNo (by omega)) rfl rfl (Nat.le_of_ble_eq_true rfl)  (Nat.le_of_ble_eq_true rfl) (Nat.le_of_ble_eq_true rfl) (Nat.le_of_eq (Nat.zero_add _)) (Nat.le_of_eq (Nat.zero_add _)) (fun _ _ q => q.elim) ?_
  rintro _ _ ⟨n9, rfl, hn9, rfl⟩
  refine z_iconst dMod_text_5 ?_
  refine z_iconst dMod_text_6 ?_
  refine z_callV MV_Mod_fails lk_Mod_88 dMod_text_7 (k_Mod_fails (by assumption) rfl (by omega) (by omega) (by omega)) rfl rfl (Nat.le_of_ble_eq_true rfl) rfl (by assumption) (Nat.le_of_ble_eq_true rfl) (Nat.le_of_ble_eq_true rfl) (Nat.le_of_eq (Nat.zero_add _)) (Nat.le_of_eq (Nat.zero_add _)) (fun _ _ q => q.elim) ?_
  rintro _ h1 ⟨t9, b8, rfl, ht, p1, g1⟩
  have H1 : zMod G h1 ma S t9 := H.obj (nu := S.2.2.2.2) (th' := t9) p1 g1
  have fz1 : zMfr ma h h1 := zMfr.of0 g1
  obtain ⟨-, n2, ⟨gg, n3, n3a⟩, n4, ⟨f61, n5, n5a⟩, n6, n7⟩ := id H1
  unfold zMfs at n2
  refine z_if_eq (tgt := 18) dMod_text_10 (by decide) (by omega) (fun c10 => ?_) (fun c10 => ?_)
  · obtain ⟨k, rfl⟩ := Int.eq_ofNat_of_zero_le (show 0 ≤ p by omega)
    obtain ⟨frk, rk1, rk2, rk3, rk4⟩ := id (n6 k (by omega))
    have h16k := h16 k (by omega)
    have ezk : ∀ i : Int, 0 ≤ i → i < ((S.1 k).length : Int) → frk i.toNat = zAt (S.1 k) i := fun i x1 x2 => by rw [rk3 _ (by omega), zAt_eq x1 x2]
    refine z_iload_n dMod_text_18 rfl ?_
    refine z_if_eq (tgt := 34) dMod_text_19 (by decide) (by omega) (fun c19 => ?_) (fun c19 => ?_)
    · refine z_aload_n dMod_text_34 rfl ?_
      refine z_get (k := 0) fd_Mod (by decide) fl_Mod_11 dMod_text_35 (by assumption) (by rfl) ?_
      refine z_iload_n dMod_text_38 rfl ?_
      refine z_aald (t := 4) (ty := .array .int) rfl rfl dMod_text_39 n3 (by refine ⟨?_, ?_, ?_⟩ <;> omega) ?_
      rw [show (k : Int).toNat = k from rfl, n3a k (by omega)]
      refine z_callS (bc' := 1) (bs' := 61) MS_Mod_told lk_Mod_118 dMod_text_40 (k_Mod_told (n6 k (by omega)) (by omega)) rfl rfl (Nat.le_of_ble_eq_true rfl)  (Nat.le_of_ble_eq_true rfl) (Nat.le_of_ble_eq_true rfl) (by decide) (by decide) (fun _ _ q => q.elim) ?_
      rintro _ _ ⟨⟨s9, rfl⟩, rfl⟩
      refine z_aret rfl (Or.inl ⟨_, rfl⟩) (Or.inr ⟨_, rfl⟩) dMod_text_43 ?_
      exact ⟨⟨_, rfl⟩, t9, H1, fz1, by omega⟩
    · refine z_aload_n dMod_text_22 rfl ?_
      refine z_get (k := 0) fd_Mod (by decide) fl_Mod_11 dMod_text_23 (by assumption) (by rfl) ?_
      refine z_iload_n dMod_text_26 rfl ?_
      refine z_aald (t := 4) (ty := .array .int) rfl rfl dMod_text_27 n3 (by refine ⟨?_, ?_, ?_⟩ <;> omega) ?_
      rw [show (k : Int).toNat = k from rfl, n3a k (by omega)]
      refine z_callS (bc' := 112) (bs' := 9344) MS_Mod_turned lk_Mod_114 dMod_text_28 (k_Mod_turned (n6 k (by omega)) (by omega)) rfl rfl (Nat.le_of_ble_eq_true rfl)  (Nat.le_of_ble_eq_true rfl) (Nat.le_of_ble_eq_true rfl) (by decide) (by decide) (fun _ _ q => q.elim) ?_
      rintro _ h2 ⟨q2, rfl, hq2, gq2, r2, F2⟩
      have x12 : zExt h1 h2 := fun z x hz => (F2 z (Nat.ne_of_lt (hq2 z x hz))).trans hz
      have H2 : zMod G h2 ma S t9 := H1.ext x12
      have fz2 : zMfr ma h h2 := fz1.tr (zMfr.ext x12)
      refine z_goto (tgt := 40) dMod_text_31 (by decide) ?_
      refine z_callS (bc' := 0) (bs' := 0) MS_Mod_told lk_Mod_118 dMod_text_40 (k_Mod_told r2 (by rw [zRev_len]; omega)) rfl rfl (Nat.le_of_ble_eq_true rfl)  (Nat.le_of_ble_eq_true rfl) (Nat.le_of_ble_eq_true rfl) (by decide) (by decide) (fun _ _ q => q.elim) ?_
      rintro _ _ ⟨⟨s9, rfl⟩, rfl⟩
      refine z_aret rfl (Or.inl ⟨_, rfl⟩) (Or.inr ⟨_, rfl⟩) dMod_text_43 ?_
      exact ⟨⟨_, rfl⟩, t9, H2, fz2, by omega⟩
  · refine z_ldcT (q := G.2.1 7) zREm dMod_text_13 ?_
    refine z_goto (tgt := 43) dMod_text_15 (by decide) ?_
    refine z_aret rfl (Or.inl ⟨_, rfl⟩) (Or.inr ⟨_, rfl⟩) dMod_text_43 ?_
    exact ⟨⟨_, rfl⟩, t9, H1, fz1, by omega⟩
theorem k_Mod_recent (H : zMod G h ma S th) (hO : zOk S) : zM G l hMod_recent yMod_recent 8 [.ref (ma 0)] h (fun v h' => (∃ s, v = some (.ref s)) ∧ zMod G h' ma S 0 ∧ zMfr ma h h') zNo 112 9344 := by
  obtain ⟨m1, m2, ⟨g, m3, m3a⟩, m4, ⟨f6, m5, m5a⟩, m6, m7⟩ := id H
  unfold zMfs at m2
  refine zM.of [some (.ref (ma 0))] (by decide +kernel) rfl (by decide) rfl (Nat.le_of_ble_eq_true rfl) rfl ?_
  refine z_aload_n dMod_recent_0 rfl ?_
  refine z_iconst dMod_recent_1 ?_
  refine z_put (k := 12) fd_Mod (by decide) fl_Mod_37 rfl dMod_recent_2 (by assumption) (by simp) rfl rfl ?_
  refine z_hx (fun h1 p1 f1 => ?_)
  have H1 : zMod G h1 ma S 0 := H.obj (nu := S.2.2.2.2) p1 f1
  have fz1 : zMfr ma h h1 := zMfr.of0 f1
  obtain ⟨-, u2, ⟨ug, u3, u3a⟩, -, -, u6, rk⟩ := id H1
  unfold zMfs at u2
  refine z_aload_n dMod_recent_5 rfl ?_
  refine z_get (k := 6) fd_Mod (by decide) fl_Mod_31 dMod_recent_6 (by assumption) (by rfl) ?_
  refine z_callS (bc' := 0) (bs' := 0) MS_Mod_told lk_Mod_118 dMod_recent_9 (k_Mod_told rk (by have := hO.2.2.1; omega)) rfl rfl (Nat.le_of_ble_eq_true rfl)  (Nat.le_of_ble_eq_true rfl) (Nat.le_of_ble_eq_true rfl) (by decide) (by decide) (fun _ _ q => q.elim) ?_
  rintro _ _ ⟨⟨s9, rfl⟩, rfl⟩
  refine z_aret rfl (Or.inl ⟨_, rfl⟩) (Or.inr ⟨_, rfl⟩) dMod_recent_12 ?_
  exact ⟨⟨_, rfl⟩, H1, fz1⟩
end STR9
end
section
section MOD25
variable {G : zG} {l : Launch} {h h' h0 : zHp} {ma : Nat → Nat} {S : zSt} {th : Int}
variable {J : zJ} {bc bs pc : Nat} {ls : List (Option Value)} {st : List Value}
theorem z_outer (c : ClassId) (N h0 : Nat) : ∀ i : Nat, Jvm.Free.Multi.outerC c N h0 i = arrV c N (fun j => va_rf (if j < i then some (h0 + 1 + j) else none))
  | 0 => by
    show ({ cls := c, slots := Array.replicate N .null, vm := .none } : Cell) = _
    rw [arrV_new]
    exact congrArg (arrV c N) (funext fun j => by simp [va_rf])
  | i + 1 => by
    show (Jvm.Free.Multi.outerC c N h0 i).setSlot i (.ref (h0 + 1 + i)) = _
    rw [z_outer c N h0 i, arrV_store]
    refine congrArg (arrV c N) (funext fun j => ?_)
    by_cases e : j = i
    · subst e
      simp [updV, va_rf]
    · by_cases h : j < i
      · simp [updV, e, h, Nat.lt_succ_of_lt h]
      · simp [updV, e, h, show ¬ j < i + 1 by omega]
def zMna (G : zG) (h : zHp) (q : Nat) : zHp := fun a => if a = q then some (zRefs G 4 4 (fun j => if j < 4 then some (q + 1 + j) else none)) else if q < a ∧ a < q + 5 then some (zInts G 0 (fun _ => 0)) else h a
/-- new int[4][0] -/
theorem z_mna {i : Nat} (hw : Cond.classLink J.1.1 i "[[I" ∈ zWS) (hd : decode J.1.2.1 pc = .ok (.multianewarray i 2, 4)) {bc' bs' : Nat} (hb1 : bc' + 5 ≤ bc) (hb2 : bs' + 4 ≤ bs)
    (kk : ∀ q : Nat, zDm h q → G.2.2 ≤ q → zR G l J bc' bs' (zMna G h q) (pc + 4) ls (.ref q :: st)) : zR G l J bc bs h pc ls (zi 0 :: zi 4 :: st) := by
  intro p e s m args below meth c H locs cells slots ls0 C0 hP hS hL h1 h2
  have hZ := C0.2.2.2.2.2.2.2.2.2.1
  have fI : s.vm.findClass (FieldType.array .int).toString = some (G.2.1 0) := va_nm_int (hZ.1.2 0 _ rfl).2
  have fQ : s.vm.findClass ("[" ++ (FieldType.array .int).toString) = some (G.2.1 4) := (hZ.1.2 4 _ rfl).2
  have hAOA : va_AOA .int s := hZ.2.2.2.2.2.2.2.2.2.1
  intro T hT Xs
  obtain ⟨vm₁, cA, comp, -, fA, fC, hO, -, X', step⟩ := Xs.multianewarray2F C0.1 (own := J.1.1) (index := i) (ty := .int) C0.2.2.2.2.2.2.1 (C0.2.2.2.2.2.2.2.1 _ (by exact hw)) (va_AOA.use hAOA) (C0.2.2.2.2.2.2.2.1 _ ac_int) (g := F0 m pc ls0 (zi 0 :: zi 4 :: st)) rfl (by rw [C0.2.1]; exact hd) rfl (by decide) (by decide) (by decide) (by decide) (by decide) rfl rfl (by show cells + (1 + 4) ≤ _; omega) (by show slots + (4 + 4 * 0) ≤ _; omega)
  have ec : G.2.1 0 = comp := Option.some.inj (fI.symm.trans fC)
  have eA : G.2.1 4 = cA := Option.some.inj (fQ.symm.trans fA)
  subst ec
  subst eA
  have hn4 : (zI 4).toNatClampNeg = 4 := by decide
  have hn0 : (zI 0).toNatClampNeg = 0 := by decide
  rw [hn4, hn0] at X' step
  generalize hF : Jvm.Free.Multi.fill (T.setVm vm₁) (G.2.1 4) (G.2.1 0) 4 0 (defaultValue .int) 4 = F at X' step
  have hTh : (T.setVm vm₁).heap = H := hT
  obtain ⟨f1, f2, -, -⟩ := Jvm.Free.Multi.fill_facts (T.setVm vm₁) (G.2.1 4) (G.2.1 0) 4 0 (defaultValue .int) 4
  rw [hF, hTh] at f1 f2
  have hold : ∀ x : Nat, x < H.size → F.heap[x]? = H[x]? := fun x hx => by
    have := Jvm.Free.Multi.fill_old (T.setVm vm₁) (G.2.1 4) (G.2.1 0) 4 0 (defaultValue .int) (a := x) (by rw [hTh]; exact hx) 4
    rw [hF, hTh] at this
    exact this
  have hrow : ∀ j : Nat, j < 4 → F.heap[H.size + 1 + j]? = some (vp_cell (G.2.1 0) (0, .inl (fun _ => zI 0))) := fun j hj => by
    have := Jvm.Free.Multi.fill_inner (T.setVm vm₁) (G.2.1 4) (G.2.1 0) 4 0 (defaultValue .int) 4 j hj
    rw [hF, hTh] at this
    rw [vp_cell_i]
    exact this
  rw [z_outer] at f2
  have hPn : zRel G (zMna G h H.size) F.heap := by
    refine ⟨by rw [f1]; have := hP.1; omega, fun a x hx => ?_⟩
    unfold zMna at hx
    by_cases ha : a = H.size
    · subst ha
      rw [if_pos rfl] at hx
      cases hx
      refine ⟨hP.1, ?_⟩
      show F.heap[H.size]? = some (vp_cell _ _)
      rw [vp_cell_q]
      exact f2
    · rw [if_neg ha] at hx
      by_cases hb : H.size < a ∧ a < H.size + 5
      · rw [if_pos hb] at hx
        cases hx
        refine ⟨by have := hP.1; omega, ?_⟩
        have := hrow (a - H.size - 1) (by omega)
        rw [show H.size + 1 + (a - H.size - 1) = a by omega] at this
        exact this
      · rw [if_neg hb] at hx
        exact ⟨(hP.2 _ _ hx).1, (hP.2 _ _ hx).2.kept (hold a (hP.lt hx))⟩
  obtain ⟨t, a1, b1⟩ := kk H.size (fun a e ha => hP.lt ha) hP.1 p e s m args below meth c F.heap locs (cells + 5) (slots + 4) ls0 C0 hPn ⟨by rw [f1]; have := hS.1; omega, fun x h1 h2 => (hold x (Nat.lt_of_lt_of_le h1 hS.1)).trans (hS.2.1 x h1 h2), hS.2.2⟩ hL (by omega) (by omega) F rfl X'
  refine ⟨t, step t ?_, b1⟩
  have e9 : T.heap.size = H.size := by rw [hT]
  rw [e9]
  exact a1
theorem zMna_q {q : Nat} : zMna G h q q = some (zRefs G 4 4 (fun j => if j < 4 then some (q + 1 + j) else none)) := if_pos rfl
theorem zMna_r {q j : Nat} (hj : j < 4) : zMna G h q (q + 1 + j) = some (zInts G 0 (fun _ => 0)) := by unfold zMna; rw [if_neg (by omega), if_pos (by omega)]
theorem zMna_o {q z : Nat} (hz : z < q) : zMna G h q z = h z := by unfold zMna; rw [if_neg (by omega), if_neg (by omega)]
theorem zMna_f {q z : Nat} (hz : z < q ∨ q + 5 ≤ z) : zMna G h q z = h z := by unfold zMna; rw [if_neg (by omega), if_neg (by omega)]
theorem z_newZ {n : Nat} {bc' bs' : Nat} {m : Int} (hm : m = n) (hd : decode J.1.2.1 pc = .ok (.newarray .boolean, 2)) (hn : n ≤ 1000) (hb1 : bc' + 1 ≤ bc) (hb2 : bs' + n ≤ bs)
    (kk : ∀ (q : Nat) (h1 : zHp), zDm h q → G.2.2 ≤ q → h1 q = some (zBools G n (fun _ => 0)) → (∀ x, x ≠ q → h1 x = h x) → zR G l J bc' bs' h1 (pc + 2) ls (.ref q :: st)) : zR G l J bc bs h pc ls (zi m :: st) := by
  subst hm
  refine z_newa (at9 := .boolean) (ty := .boolean) (t := 1) (x := .inl (fun _ => zI 0)) rfl trivial rfl ac_boolean (fun cA => by rw [vp_cell_i]; rfl) ⟨by omega, by rw [Int.toNat_natCast]; show n * 1 ≤ 536870912; omega, by omega⟩ hd hb1 (by rw [Int.toNat_natCast]; exact hb2) (fun q hq hg => ?_)
  rw [Int.toNat_natCast]
  exact kk q _ hq hg (zup_same _ _ _) (fun x hx => zup_ne hx)
/-- what isn't the object stays -/
def zXb (b : Nat) (h h' : zHp) : Prop := ∀ z e, z ≠ b → h z = some e → h' z = some e
theorem zXb.tr {b : Nat} {h h' h'' : zHp} (x : zXb b h h') (y : zXb b h' h'') : zXb b h h'' := fun z e n q => y z e n (x z e n q)
theorem z_hxn {h1 : zHp} (k : ∀ h2 : zHp, h2 = h1 → zR G l J bc bs h2 pc ls st) : zR G l J bc bs h1 pc ls st := k h1 rfl
def zAm (b q1 q2 q3 q4 q5 q6 q12 q7 : Nat) : Nat → Nat
  | 0 => b
  | 1 => q1
  | 2 => q2
  | 3 => q3
  | 4 => q4
  | 5 => q5
  | 6 => q6
  | 7 => q7
  | 8 => q1 + 1
  | 9 => q1 + 2
  | 10 => q1 + 3
  | 11 => q1 + 4
  | _ => q12
def zQo : Nat → Nat
  | 0 => 0
  | 1 => 1
  | 2 => 8
  | 3 => 9
  | 4 => 10
  | 5 => 11
  | 6 => 2
  | 7 => 3
  | 8 => 4
  | 9 => 5
  | 10 => 6
  | 11 => 12
  | _ => 7
def zQr : Nat → Nat
  | 0 => 0
  | 1 => 1
  | 8 => 2
  | 9 => 3
  | 10 => 4
  | 11 => 5
  | 2 => 6
  | 3 => 7
  | 4 => 8
  | 5 => 9
  | 6 => 10
  | 12 => 11
  | _ => 12
theorem zQr_in : ∀ i, i < 13 → zQr i < 13 := by decide
theorem zQr_inj : ∀ i, i < 13 → ∀ j, j < 13 → zQr i = zQr j → i = j := by decide
theorem zQo_r : ∀ i, i < 13 → zQo (zQr i) = i := by decide
theorem zAm_up {b q1 q2 q3 q4 q5 q6 q12 q7 : Nat} (o1 : b < q1) (o2 : q1 + 4 < q2) (o3 : q2 < q3) (o4 : q3 < q4) (o5 : q4 < q5) (o6 : q5 < q6) (o7 : q6 < q12) (o8 : q12 < q7) : ∀ r, r < 12 → zAm b q1 q2 q3 q4 q5 q6 q12 q7 (zQo r) < zAm b q1 q2 q3 q4 q5 q6 q12 q7 (zQo (r + 1)) := fun r hr => match r, hr with
  | 0, _ => o1
  | 1, _ => show q1 < q1 + 1 by omega
  | 2, _ => show q1 + 1 < q1 + 2 by omega
  | 3, _ => show q1 + 2 < q1 + 3 by omega
  | 4, _ => show q1 + 3 < q1 + 4 by omega
  | 5, _ => o2
  | 6, _ => o3
  | 7, _ => o4
  | 8, _ => o5
  | 9, _ => o6
  | 10, _ => o7
  | 11, _ => o8
  | n + 12, hr => absurd hr (by omega)
theorem zMod_asm {b q1 q2 q3 q4 q5 q6 q12 q7 : Nat} {R9 : Nat → Int} (o1 : b < q1) (o2 : q1 + 4 < q2) (o3 : q2 < q3) (o4 : q3 < q4) (o5 : q4 < q5) (o6 : q5 < q6) (o7 : q6 < q12) (o8 : q12 < q7)
    (e0 : h b = some (.inr (zkMod, [.ref q1, .ref q2, .ref q3, .ref q4, .ref q5, .ref q6, .ref q12, .ref q7, zi 0, zi 0, zi 0, zi 0, zi 0]))) (e1 : h q1 = some (zRefs G 4 4 (fun j => if j < 4 then some (q1 + 1 + j) else none))) (er : ∀ j, j < 4 → h (q1 + 1 + j) = some (zInts G 0 (fun _ => 0)))
    (e2 : h q2 = some (zBools G 3 (fun _ => 0))) (e3 : h q3 = some (zBools G 3 (fun _ => 0))) (e4 : h q4 = some (zInts G 3 (fun _ => 0))) (e5 : h q5 = some (zInts G 3 (fun _ => 0))) (e6 : h q6 = some (zInts G 3 (fun _ => 0))) (e7 : h q7 = some (zInts G 60 (fun _ => 0))) (e12 : h q12 = some (zInts G 8 R9)) (hR : ∀ j : Nat, j < 8 → R9 j = (j : Int)) : zMod G h (zAm b q1 q2 q3 q4 q5 q6 q12 q7) zS0 0 := by
  have hup := zAm_up o1 o2 o3 o4 o5 o6 o7 o8
  have ne1 : ∀ x : Int, ¬ ((zS0.2.1 0 0 : Int) = 1) := fun _ q => absurd (show (0 : Int) = 1 from q) (by decide)
  have hcu : ∀ c, zS0.2.1 c 0 = 0 := fun _ => rfl
  have hab : ∀ {P : Prop} c, zS0.2.1 c 0 = 1 → P := fun c q => absurd ((hcu c).symm.trans q) (by decide)
  refine ⟨fun i j hi hj e => ?_, e0, ⟨_, e1, fun k hk => ?_⟩, ⟨⟨_, e2, fun c hc => ⟨rfl, Or.inl rfl⟩⟩, ⟨_, e3, fun c hc => ⟨Or.inl rfl, fun q => hab c q⟩⟩, ⟨_, e4, fun c hc => ⟨by constructor <;> decide, fun q => hab c q⟩⟩, ⟨_, e5, fun c hc => ⟨by constructor <;> decide, fun q => hab c q⟩⟩, ⟨_, e6, fun c hc => ⟨by constructor <;> decide, fun q => hab c q⟩⟩⟩, ⟨_, e7, fun j hj => absurd hj (Nat.not_lt_zero j)⟩, fun k hk => ?_, ?_⟩
  · have h1 := zQr_in i hi
    have h2 := zQr_in j hj
    have e9 : zAm b q1 q2 q3 q4 q5 q6 q12 q7 (zQo (zQr i)) = zAm b q1 q2 q3 q4 q5 q6 q12 q7 (zQo (zQr j)) := by rw [zQo_r i hi, zQo_r j hj]; exact e
    by_cases c1 : zQr i < zQr j
    · have := zmono (f := fun r => zAm b q1 q2 q3 q4 q5 q6 q12 q7 (zQo r)) hup (zQr j) (zQr i) c1 (by omega)
      omega
    · by_cases c2 : zQr j < zQr i
      · have := zmono (f := fun r => zAm b q1 q2 q3 q4 q5 q6 q12 q7 (zQo r)) hup (zQr i) (zQr j) c2 (by omega)
        omega
      · exact zQr_inj i hi j hj (by omega)
  · match k, hk with
    | 0, _ => rfl
    | 1, _ => rfl
    | 2, _ => rfl
    | 3, _ => rfl
  · have := er k hk
    refine ⟨fun _ => 0, ?_, Nat.zero_le _, fun j hj => absurd hj (Nat.not_lt_zero j), fun j hj => absurd hj (Nat.not_lt_zero j)⟩
    match k, hk with
    | 0, _ => exact this
    | 1, _ => exact this
    | 2, _ => exact this
    | 3, _ => exact this
  · have hl : zS0.2.2.1.length = 8 := zPl9_len 8
    have hg : ∀ j : Nat, j < 8 → zS0.2.2.1.getD j 0 = (j : Int) := fun j hj => match j, hj with
      | 0, _ => rfl
      | 1, _ => rfl
      | 2, _ => rfl
      | 3, _ => rfl
      | 4, _ => rfl
      | 5, _ => rfl
      | 6, _ => rfl
      | 7, _ => rfl
      | n + 8, hr => absurd hr (by omega)
    refine ⟨R9, by rw [hl]; exact e12, by omega, fun j hj => ?_, fun j hj => ?_⟩
    · rw [hR j (by omega), hg j (by omega)]
    · rw [hg j (by omega)]
      unfold zIn
      omega
theorem k_Mod_init {b : Nat} (e : h b = some (.inr (zkMod, [.null, .null, .null, .null, .null, .null, .null, .null, zi 0, zi 0, zi 0, zi 0, zi 0]))) : zM G l hMod_init yMod_init 2 [.ref b] h (fun v h' => v = none ∧ ∃ ma : Nat → Nat, ma 0 = b ∧ zMod G h' ma zS0 0 ∧ (∀ i, 0 < i → i < 13 → zDm h (ma i) ∧ G.2.2 ≤ ma i) ∧ ∀ q, (∀ i, i < 13 → q ≠ ma i) → h' q = h q) zNo 12 87 := by
  refine zM.of [some (.ref b)] (by decide +kernel) rfl (by decide) rfl (Nat.le_of_ble_eq_true rfl) rfl ?_
  refine z_aload_n dMod_init_0 rfl ?_
  refine z_obj lk_Mod_1 ob_i ob_c dMod_init_1 (Nat.le_of_ble_eq_true rfl) (Nat.le_of_ble_eq_true rfl) (Nat.le_of_ble_eq_true rfl) ?_
  refine z_aload_n dMod_init_4 rfl ?_
  refine z_iconst dMod_init_5 ?_
  refine z_iconst dMod_init_6 ?_
  refine z_mna cl_Mod_9 dMod_init_7 (bc' := 7) (bs' := 83) (by decide) (by decide) (fun q1 dq1 gq1 => ?_)
  have n1 : b < q1 := dq1 _ _ e
  refine z_hxn (fun h1 eh1 => ?_)
  have pb1 : h1 b = _ := (congrFun eh1 b).trans ((zMna_o n1).trans e)
  have a1 : h1 q1 = _ := (congrFun eh1 q1).trans zMna_q
  have r1 : ∀ j, j < 4 → h1 (q1 + 1 + j) = some (zInts G 0 (fun _ => 0)) := fun j hj => (congrFun eh1 _).trans (zMna_r hj)
  have X1 : zXb b h h1 := fun z e9 _ q => (congrFun eh1 z).trans ((zMna_o (dq1 _ _ q)).trans q)
  have D1 : ∀ z e9, h z = some e9 → ∃ e8, h1 z = some e8 := fun z e9 q => ⟨_, (congrFun eh1 z).trans ((zMna_o (dq1 _ _ q)).trans q)⟩
  have F1 : ∀ z, (z < q1 ∨ q1 + 5 ≤ z) → h1 z = h z := fun z hz => (congrFun eh1 z).trans (zMna_f hz)
  refine z_putF (k := 0) fd_Mod (by decide) fl_Mod_11 rfl rfl rfl dMod_init_11 (by assumption) (by simp) rfl rfl ?_
  refine z_hx (fun h2 pb2 F2 => ?_)
  have X2 : zXb b h1 h2 := fun z e9 n q => (F2 z n).trans q
  refine z_aload_n dMod_init_14 rfl ?_
  refine z_iconst dMod_init_15 ?_
  refine z_newZ (n := 3) (bc' := 6) (bs' := 80) rfl dMod_init_16 (by decide) (by decide) (by decide) (fun q2 h3 dq2 gq2 a3 F3 => ?_)
  have nq2 : b < q2 := dq2 _ _ pb2
  have pb3 := (F3 b (Nat.ne_of_lt nq2)).trans pb2
  have X3 : zXb b h2 h3 := fun z e9 n q => (F3 z (Nat.ne_of_lt (dq2 _ _ q))).trans q
  refine z_putF (k := 1) fd_Mod (by decide) fl_Mod_14 rfl rfl rfl dMod_init_18 (by assumption) (by simp) rfl rfl ?_
  refine z_hx (fun h4 pb4 F4 => ?_)
  have X4 : zXb b h3 h4 := fun z e9 n q => (F4 z n).trans q
  refine z_aload_n dMod_init_21 rfl ?_
  refine z_iconst dMod_init_22 ?_
  refine z_newZ (n := 3) (bc' := 5) (bs' := 77) rfl dMod_init_23 (by decide) (by decide) (by decide) (fun q3 h5 dq3 gq3 a5 F5 => ?_)
  have nq3 : b < q3 := dq3 _ _ pb4
  have pb5 := (F5 b (Nat.ne_of_lt nq3)).trans pb4
  have X5 : zXb b h4 h5 := fun z e9 n q => (F5 z (Nat.ne_of_lt (dq3 _ _ q))).trans q
  refine z_putF (k := 2) fd_Mod (by decide) fl_Mod_18 rfl rfl rfl dMod_init_25 (by assumption) (by simp) rfl rfl ?_
  refine z_hx (fun h6 pb6 F6 => ?_)
  have X6 : zXb b h5 h6 := fun z e9 n q => (F6 z n).trans q
  refine z_aload_n dMod_init_28 rfl ?_
  refine z_iconst dMod_init_29 ?_
  refine z_newI (n := 3) (bc' := 4) (bs' := 74) rfl dMod_init_30 (by decide) (by decide) (by decide) (fun q4 h7 dq4 gq4 a7 F7 => ?_)
  have nq4 : b < q4 := dq4 _ _ pb6
  have pb7 := (F7 b (Nat.ne_of_lt nq4)).trans pb6
  have X7 : zXb b h6 h7 := fun z e9 n q => (F7 z (Nat.ne_of_lt (dq4 _ _ q))).trans q
  refine z_putF (k := 3) fd_Mod (by decide) fl_Mod_21 rfl rfl rfl dMod_init_32 (by assumption) (by simp) rfl rfl ?_
  refine z_hx (fun h8 pb8 F8 => ?_)
  have X8 : zXb b h7 h8 := fun z e9 n q => (F8 z n).trans q
  refine z_aload_n dMod_init_35 rfl ?_
  refine z_iconst dMod_init_36 ?_
  refine z_newI (n := 3) (bc' := 3) (bs' := 71) rfl dMod_init_37 (by decide) (by decide) (by decide) (fun q5 h9 dq5 gq5 a9 F9 => ?_)
  have nq5 : b < q5 := dq5 _ _ pb8
  have pb9 := (F9 b (Nat.ne_of_lt nq5)).trans pb8
  have X9 : zXb b h8 h9 := fun z e9 n q => (F9 z (Nat.ne_of_lt (dq5 _ _ q))).trans q
  refine z_putF (k := 4) fd_Mod (by decide) fl_Mod_25 rfl rfl rfl dMod_init_39 (by assumption) (by simp) rfl rfl ?_
  refine z_hx (fun h10 pb10 F10 => ?_)
  have X10 : zXb b h9 h10 := fun z e9 n q => (F10 z n).trans q
  refine z_aload_n dMod_init_42 rfl ?_
  refine z_iconst dMod_init_43 ?_
  refine z_newI (n := 3) (bc' := 2) (bs' := 68) rfl dMod_init_44 (by decide) (by decide) (by decide) (fun q6 h11 dq6 gq6 a11 F11 => ?_)
  have nq6 : b < q6 := dq6 _ _ pb10
  have pb11 := (F11 b (Nat.ne_of_lt nq6)).trans pb10
  have X11 : zXb b h10 h11 := fun z e9 n q => (F11 z (Nat.ne_of_lt (dq6 _ _ q))).trans q
  refine z_putF (k := 5) fd_Mod (by decide) fl_Mod_28 rfl rfl rfl dMod_init_46 (by assumption) (by simp) rfl rfl ?_
  refine z_hx (fun h12 pb12 F12 => ?_)
  have X12 : zXb b h11 h12 := fun z e9 n q => (F12 z n).trans q
  refine z_aload_n dMod_init_49 rfl ?_
  refine z_bipush dMod_init_50 rfl ?_
  refine z_newI (n := 8) (bc' := 1) (bs' := 60) rfl dMod_init_52 (by decide) (by decide) (by decide) (fun q12 h13 dq12 gq12 a13 F13 => ?_)
  have nq12 : b < q12 := dq12 _ _ pb12
  have pb13 := (F13 b (Nat.ne_of_lt nq12)).trans pb12
  have X13 : zXb b h12 h13 := fun z e9 n q => (F13 z (Nat.ne_of_lt (dq12 _ _ q))).trans q
  refine z_dup rfl dMod_init_54 ?_
  refine z_iconst dMod_init_55 ?_
  refine z_iconst dMod_init_56 ?_
  refine z_iast dMod_init_57 (by assumption) (by refine ⟨?_, ?_, ?_⟩ <;> omega) ?_
  refine z_hx (fun h14 a14 g14 => ?_)
  have F14 : ∀ z, z ≠ q12 → h14 z = h12 z := fun z hz => (g14 z hz).trans (F13 z hz)
  refine z_dup rfl dMod_init_58 ?_
  refine z_iconst dMod_init_59 ?_
  refine z_iconst dMod_init_60 ?_
  refine z_iast dMod_init_61 (by assumption) (by refine ⟨?_, ?_, ?_⟩ <;> omega) ?_
  refine z_hx (fun h15 a15 g15 => ?_)
  have F15 : ∀ z, z ≠ q12 → h15 z = h12 z := fun z hz => (g15 z hz).trans (F14 z hz)
  refine z_dup rfl dMod_init_62 ?_
  refine z_iconst dMod_init_63 ?_
  refine z_iconst dMod_init_64 ?_
  refine z_iast dMod_init_65 (by assumption) (by refine ⟨?_, ?_, ?_⟩ <;> omega) ?_
  refine z_hx (fun h16 a16 g16 => ?_)
  have F16 : ∀ z, z ≠ q12 → h16 z = h12 z := fun z hz => (g16 z hz).trans (F15 z hz)
  refine z_dup rfl dMod_init_66 ?_
  refine z_iconst dMod_init_67 ?_
  refine z_iconst dMod_init_68 ?_
  refine z_iast dMod_init_69 (by assumption) (by refine ⟨?_, ?_, ?_⟩ <;> omega) ?_
  refine z_hx (fun h17 a17 g17 => ?_)
  have F17 : ∀ z, z ≠ q12 → h17 z = h12 z := fun z hz => (g17 z hz).trans (F16 z hz)
  refine z_dup rfl dMod_init_70 ?_
  refine z_iconst dMod_init_71 ?_
  refine z_iconst dMod_init_72 ?_
  refine z_iast dMod_init_73 (by assumption) (by refine ⟨?_, ?_, ?_⟩ <;> omega) ?_
  refine z_hx (fun h18 a18 g18 => ?_)
  have F18 : ∀ z, z ≠ q12 → h18 z = h12 z := fun z hz => (g18 z hz).trans (F17 z hz)
  refine z_dup rfl dMod_init_74 ?_
  refine z_iconst dMod_init_75 ?_
  refine z_iconst dMod_init_76 ?_
  refine z_iast dMod_init_77 (by assumption) (by refine ⟨?_, ?_, ?_⟩ <;> omega) ?_
  refine z_hx (fun h19 a19 g19 => ?_)
  have F19 : ∀ z, z ≠ q12 → h19 z = h12 z := fun z hz => (g19 z hz).trans (F18 z hz)
  refine z_dup rfl dMod_init_78 ?_
  refine z_bipush dMod_init_79 rfl ?_
  refine z_bipush dMod_init_81 rfl ?_
  refine z_iast dMod_init_83 (by assumption) (by refine ⟨?_, ?_, ?_⟩ <;> omega) ?_
  refine z_hx (fun h20 a20 g20 => ?_)
  have F20 : ∀ z, z ≠ q12 → h20 z = h12 z := fun z hz => (g20 z hz).trans (F19 z hz)
  refine z_dup rfl dMod_init_84 ?_
  refine z_bipush dMod_init_85 rfl ?_
  refine z_bipush dMod_init_87 rfl ?_
  refine z_iast dMod_init_89 (by assumption) (by refine ⟨?_, ?_, ?_⟩ <;> omega) ?_
  refine z_hx (fun h21 a21 g21 => ?_)
  have F21 : ∀ z, z ≠ q12 → h21 z = h12 z := fun z hz => (g21 z hz).trans (F20 z hz)
  have pb21 := (F21 b (Nat.ne_of_lt nq12)).trans pb12
  have X21 : zXb b h12 h21 := fun z e9 n q => (F21 z (Nat.ne_of_lt (dq12 _ _ q))).trans q
  refine z_put (k := 6) fd_Mod (by decide) fl_Mod_31 rfl dMod_init_90 (by assumption) (by simp) rfl rfl ?_
  refine z_hx (fun h22 pb22 F22 => ?_)
  have X22 : zXb b h21 h22 := fun z e9 n q => (F22 z n).trans q
  refine z_aload_n dMod_init_93 rfl ?_
  refine z_bipush dMod_init_94 rfl ?_
  refine z_newI (n := 60) (bc' := 0) (bs' := 0) rfl dMod_init_96 (by decide) (by decide) (by decide) (fun q7 h23 dq7 gq7 a23 F23 => ?_)
  have nq7 : b < q7 := dq7 _ _ pb22
  have pb23 := (F23 b (Nat.ne_of_lt nq7)).trans pb22
  have X23 : zXb b h22 h23 := fun z e9 n q => (F23 z (Nat.ne_of_lt (dq7 _ _ q))).trans q
  refine z_putF (k := 7) fd_Mod (by decide) fl_Mod_34 rfl rfl rfl dMod_init_98 (by assumption) (by simp) rfl rfl ?_
  refine z_hx (fun h24 pb24 F24 => ?_)
  have X24 : zXb b h23 h24 := fun z e9 n q => (F24 z n).trans q
  refine z_vret rfl dMod_init_101 ?_
  have oq2 : q1 + 4 < q2 := dq2 _ _ (X2 _ _ (by omega) (r1 3 (by omega)))
  have oq3 : q2 < q3 := dq3 _ _ (X4 _ _ (Nat.ne_of_gt nq2) a3)
  have oq4 : q3 < q4 := dq4 _ _ (X6 _ _ (Nat.ne_of_gt nq3) a5)
  have oq5 : q4 < q5 := dq5 _ _ (X8 _ _ (Nat.ne_of_gt nq4) a7)
  have oq6 : q5 < q6 := dq6 _ _ (X10 _ _ (Nat.ne_of_gt nq5) a9)
  have oq12 : q6 < q12 := dq12 _ _ (X12 _ _ (Nat.ne_of_gt nq6) a11)
  have oq7 : q12 < q7 := dq7 _ _ (X22 _ _ (Nat.ne_of_gt nq12) a21)
  have zq1 := ((((((((((((((X2.tr X3).tr X4).tr X5).tr X6).tr X7).tr X8).tr X9).tr X10).tr X11).tr X12).tr X21).tr X22).tr X23).tr X24) _ _ (Nat.ne_of_gt n1) a1
  have zq2 := ((((((((((((X4.tr X5).tr X6).tr X7).tr X8).tr X9).tr X10).tr X11).tr X12).tr X21).tr X22).tr X23).tr X24) _ _ (Nat.ne_of_gt nq2) a3
  have zq3 := ((((((((((X6.tr X7).tr X8).tr X9).tr X10).tr X11).tr X12).tr X21).tr X22).tr X23).tr X24) _ _ (Nat.ne_of_gt nq3) a5
  have zq4 := ((((((((X8.tr X9).tr X10).tr X11).tr X12).tr X21).tr X22).tr X23).tr X24) _ _ (Nat.ne_of_gt nq4) a7
  have zq5 := ((((((X10.tr X11).tr X12).tr X21).tr X22).tr X23).tr X24) _ _ (Nat.ne_of_gt nq5) a9
  have zq6 := ((((X12.tr X21).tr X22).tr X23).tr X24) _ _ (Nat.ne_of_gt nq6) a11
  have zq12 := ((X22.tr X23).tr X24) _ _ (Nat.ne_of_gt nq12) a21
  have zq7 := X24 _ _ (Nat.ne_of_gt nq7) a23
  have zr : ∀ j, j < 4 → h24 (q1 + 1 + j) = some (zInts G 0 (fun _ => 0)) := fun j hj => ((((((((((((((X2.tr X3).tr X4).tr X5).tr X6).tr X7).tr X8).tr X9).tr X10).tr X11).tr X12).tr X21).tr X22).tr X23).tr X24) _ _ (by omega) (r1 j hj)
  refine ⟨rfl, zAm b q1 q2 q3 q4 q5 q6 q12 q7, rfl, zMod_asm n1 oq2 oq3 oq4 oq5 oq6 oq12 oq7 pb24 zq1 zr zq2 zq3 zq4 zq5 zq6 zq7 zq12 (by intro j hj; match j, hj with | 0, _ => rfl | 1, _ => rfl | 2, _ => rfl | 3, _ => rfl | 4, _ => rfl | 5, _ => rfl | 6, _ => rfl | 7, _ => rfl), ?_, ?_⟩
  · have D : ∀ z e9, h z = some e9 → z < q1 := dq1
    have gq := gq1
    intro i i1 i2
    have hm : q1 ≤ zAm b q1 q2 q3 q4 q5 q6 q12 q7 i := by
      match i, i1, i2 with
      | 1, _, _ => show q1 ≤ q1; omega
      | 2, _, _ => show q1 ≤ q2; omega
      | 3, _, _ => show q1 ≤ q3; omega
      | 4, _, _ => show q1 ≤ q4; omega
      | 5, _, _ => show q1 ≤ q5; omega
      | 6, _, _ => show q1 ≤ q6; omega
      | 7, _, _ => show q1 ≤ q7; omega
      | 8, _, _ => show q1 ≤ q1 + 1; omega
      | 9, _, _ => show q1 ≤ q1 + 2; omega
      | 10, _, _ => show q1 ≤ q1 + 3; omega
      | 11, _, _ => show q1 ≤ q1 + 4; omega
      | 12, _, _ => show q1 ≤ q12; omega
    exact ⟨fun z e9 hz => Nat.lt_of_lt_of_le (D z e9 hz) hm, Nat.le_trans gq hm⟩
  · intro z hz
    have k0 : z ≠ b := hz 0 (by omega)
    have k1 : z ≠ q1 := hz 1 (by omega)
    have k2 : z ≠ q2 := hz 2 (by omega)
    have k3 : z ≠ q3 := hz 3 (by omega)
    have k4 : z ≠ q4 := hz 4 (by omega)
    have k5 : z ≠ q5 := hz 5 (by omega)
    have k6 : z ≠ q6 := hz 6 (by omega)
    have k7 : z ≠ q7 := hz 7 (by omega)
    have k8 : z ≠ q1 + 1 := hz 8 (by omega)
    have k9 : z ≠ q1 + 2 := hz 9 (by omega)
    have k10 : z ≠ q1 + 3 := hz 10 (by omega)
    have k11 : z ≠ q1 + 4 := hz 11 (by omega)
    have k12 : z ≠ q12 := hz 12 (by omega)
    exact ((F24 z k0).trans ((F23 z k7).trans ((F22 z k0).trans ((F21 z k12).trans ((F12 z k0).trans ((F11 z k6).trans ((F10 z k0).trans ((F9 z k5).trans ((F8 z k0).trans ((F7 z k4).trans ((F6 z k0).trans ((F5 z k3).trans ((F4 z k0).trans ((F3 z k2).trans ((F2 z k0).trans (F1 z (by omega)))))))))))))))))
end MOD25
end
