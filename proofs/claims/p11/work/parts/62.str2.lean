section STR2
variable {G : zG} {l : Launch} {h h' : zHp} {J : zJ} {bc bs pc : Nat} {ls : List (Option Value)} {st : List Value}
theorem z_castB {i a n : Nat} {f : Nat → Int} (hw : Cond.classLink J.1.1 i "[B" ∈ zWS) (hd : decode J.1.2.1 pc = .ok (.checkcast i, 3)) (hh : h a = some (zBytes G n f)) (kk : zR G l J bc bs h (pc + 3) ls (.ref a :: st)) : zR G l J bc bs h pc ls (.ref a :: st) := by
  intro p e s m args below meth c H locs cells slots ls0 C0 hP hS hL h1 h2
  have hnm : s.vm.findClass "[B" = some (G.2.1 2) := (C0.2.2.2.2.2.2.2.2.2.1.1.2 2 _ rfl).2
  exact va_castA (D := G.1) C0.1 C0.2.1 C0.2.2.2.2.2.2.1 (C0.2.2.2.2.2.2.2.1 _ hw) (hP.ok hh) 0 rfl hnm hd (kk p e s m args below meth c H locs cells slots ls0 C0 hP hS hL h1 h2)
theorem z_clone {i a n : Nat} {f : Nat → Int} (hw : Cond.methodLink J.1.1 i ⟨"[B", "clone", "()Ljava/lang/Object;"⟩ ∈ zWS) (hd : decode J.1.2.1 pc = .ok (.invokevirtual i, 3)) (hh : h a = some (zBytes G n f)) (hfit : zFit f) (hfr : 1 ≤ J.2.1.frames) (hlo : (st.map fun v => v.category).sum + 14 ≤ J.2.1.locals) {bc' bs' : Nat} (hb1 : bc' + 1 ≤ bc) (hb2 : bs' + n ≤ bs)
    (kk : ∀ (q : Nat) (h1 : zHp), zDm h q → G.2.2 ≤ q → h1 q = some (zBytes G n f) → (∀ x, x ≠ q → h1 x = h x) → zR G l J bc' bs' h1 (pc + 3) ls (.ref q :: st)) : zR G l J bc bs h pc ls (.ref a :: st) := by
  intro p e s m args below meth c H locs cells slots ls0 C0 hP hS hL g1 g2
  have hts := C0.2.2.2.2.2.2.2.1
  have hK := C0.2.2.2.2.2.2.2.2.2.1.1
  have hb := C0.2.1
  have hml : c.maxLocals = ls0.size := (hL.1.trans C0.2.2.1.symm).symm
  have hnm : s.vm.findClass "[B" = some (G.2.1 2) := (hK.2 2 _ rfl).2
  have hcl : va_Nw (.castable "[B" "java/lang/Cloneable") s := C0.2.2.2.2.2.2.2.2.2.1.2.2.1 _ ws_clc
  have hc0 : H[a]? = some (vp_cell (G.2.1 2) (n, .inl (fun j => zI (f j)))) := (hP.2 a _ hh).2
  have hsz : (vp_cell (G.2.1 2) (n, .inl (fun j => zI (f j)))).slots.size = n := arrV_size _ _ _
  obtain ⟨c0, t0', f1, f2, f3⟩ := Cond.castable_spec (va_Nw.use (A := args) rfl hcl)
  cases hnm.symm.trans f1
  intro T hT X
  have hcellT : T.heap[a]? = some (vp_cell (G.2.1 2) (n, .inl (fun j => zI (f j)))) := by rw [hT]; exact hc0
  obtain ⟨-, kA, hkA, comp, hkind⟩ := State.isArrayOf_alike X.warmed.alike ((hK.2 2 _ rfl).1 0 (fun _ => .null))
  obtain ⟨-, kS, hkS, compS, hkindS⟩ := (hK.2 2 _ rfl).1 0 (fun _ => .null)
  obtain ⟨vm', X', st9⟩ := X.cloneArray C0.1 C0.2.2.2.2.2.2.1 (hts _ hw) (hts _ ws_cls) (hts _ ws_cln) (hts _ ws_cli) (hts _ ws_clx) (a := a) (cell := vp_cell (G.2.1 2) (n, .inl (fun j => zI (f j)))) hcellT (fun k h => by cases h) (fun h => by cases h) hnm f2 f3
    (fun i v hv => by
      have hk' : T.vm.classes[G.2.1 2]? = some kA := hkA
      have hi : i < n := by
        have := (Array.getElem?_eq_some_iff.mp hv).1
        rw [hsz] at this
        exact this
      have e9 : (vp_cell (G.2.1 2) (n, .inl (fun j => zI (f j)))).slots[i]? = some (zi (f i)) := arrV_read _ _ hi
      have ev : v = zi (f i) := Option.some.inj (hv.symm.trans e9)
      subst ev
      show State.fitsSlot _ (G.2.1 2) _ i _ = true
      simpa [State.fitsSlot, State.slotType?, hk', hkind] using hfit i)
    (g := F0 m pc ls0 (.ref a :: st)) rfl (by rw [hml]) rfl (by rw [hb]; exact hd) hfr (by show 2 * 0 + _ + 14 ≤ _; omega) (by omega) (by rw [hsz]; omega) (hloader := Vm.clonesLoader_of_array hkS hkindS)
  rw [hsz] at X'
  generalize hH1 : H.push (vp_cell (G.2.1 2) (n, .inl (fun j => zI (f j)))) = H1
  have z1 : H1.size = H.size + 1 := by rw [← hH1, Array.size_push]
  have e1 : H1[H.size]? = some (vp_cell (G.2.1 2) (n, .inl (fun j => zI (f j)))) := by rw [← hH1, Array.getElem?_push_size]
  have o1 : ∀ q : Nat, q < H.size → H1[q]? = H[q]? := fun q hq => by rw [← hH1, Array.getElem?_push, if_neg (Nat.ne_of_lt hq)]
  obtain ⟨t, b1, b2⟩ := kk H.size _ (fun a e ha => hP.lt ha) hP.1 (zup_same h H.size (some (zBytes G n f))) (fun x hx => zup_ne hx) p e s m args below meth c H1 locs (cells + 1) (slots + n) ls0 C0 (hP.push e1 z1 o1) (hS.push z1 o1) hL (by omega) (by omega)
    ((T.setVm vm').pushCell (vp_cell (G.2.1 2) (n, .inl (fun j => zI (f j))))) (by rw [← hH1, ← hT]; rfl) X'
  refine ⟨t, st9 t ?_, b2⟩
  rw [hT]
  exact b1
/-- super.m(..) -/
theorem z_callSU {d mc ms i b n : Nat} {y : MethodName} {hd' : zHd} {As rest : List Value} {Qn : Option Value → zHp → Prop} {Qx : String → zHp → Prop} {fs : List Value} {bc' bs' : Nat} (M : zMe y hd' n) (hin : Cond.instanceMethod y ∈ zWS) (hsm : Cond.sameMethod y.cls y.cls y.name y.desc ∈ zWS) (hsu : Cond.superclass J.1.1 y.cls ∈ zWS) (hno : y.name ≠ "<init>") (hw : Cond.methodLink J.1.1 i y ∈ zWS) (hd : decode J.1.2.1 pc = .ok (.invokespecial i, 3)) (hM : zM G l hd' y d (.ref b :: As) h Qn Qx mc ms) (hst : st = As.reverse ++ .ref b :: rest)
    (hn : As.length = n) (hcat : (rest.map fun v => v.category).sum ≤ 8) (hb : h b = some (.inr (zkSbd, fs))) (hfr : d + 1 ≤ J.2.1.frames) (hlo : d * 64 + 64 ≤ J.2.1.locals) (hb1 : mc + bc' ≤ bc) (hb2 : ms + bs' ≤ bs)
    (kx : ∀ E h', Qx E h' → zT G l J bc' bs' h' E pc ls) (kk : ∀ v h', Qn v h' → zR G l J bc' bs' h' (pc + 3) ls (v.toList ++ rest)) : zR G l J bc bs h pc ls st := by
  intro p e s m args below meth c H locs cells slots ls0 C0 hP hS hL h1 h2
  have hts := C0.2.2.2.2.2.2.2.1
  have hK := C0.2.2.2.2.2.2.2.2.2.1.1
  obtain ⟨-, hfc, kC, hkC, hkind⟩ := hK.1 zkSbd _ rfl
  refine z_after C0 hP hS hL h1 h2 hb1 hb2 (vx_runSU (C := RSbd) (As := As) (rest := rest) (Ts := zWS) ⟨hfc, kC, hkC, hkind⟩ ⟨C0.1, C0.2.1, rfl, C0.2.2.2.2.2.2.1, hts⟩ (hM C0.2.2.2.2.2.2.2.2.2.2.1) (va_cwSU n hts (zgoodIn (fun _ h => h) (zw M (by
    intro w hw9
    simp only [List.mem_cons, List.not_mem_nil, or_false] at hw9
    rcases hw9 with q | q | q | q | q <;> rw [q]
    · exact hw
    · exact hsm
    · exact hsu
    · exact hin
    · exact M.1))) rfl rfl rfl ⟨hno, M.2.2.1.2.2⟩ ⟨hfr, by have := M.2.2.2; show 8 + (_ + 11) + d * 64 ≤ _; omega⟩) ⟨zPc_blind, va_recv hK (hP.ok hb) rfl (q0 := 0) rfl, fun U hU hW => zPc_pre C0.2.2.2.2.2.2.2.2.2.1 hP hS U hU hW⟩ rfl hn (hL.1.trans C0.2.2.1.symm) hst (lv_room hcat) hd ⟨by show cells + mc ≤ _; omega, by show slots + ms ≤ _; omega⟩) kx kk
/-- an overriding method, called by what it overrides -/
theorem z_callO {d mc ms i b n : Nat} {x y : MethodName} {hd' : zHd} {As rest : List Value} {Qn : Option Value → zHp → Prop} {Qx : String → zHp → Prop} {fs : List Value} {bc' bs' : Nat} {b0 : ByteArray} {m0 : Nat} {r0 : Option FieldType} (M : zMe y hd' n) (hin : Cond.instanceMethod y ∈ zWS) (hsm : Cond.sameMethod x.cls x.cls x.name x.desc ∈ zWS) (hix : Cond.instanceMethod x ∈ zWS) (hse : Cond.selects RSbd x y ∈ zWS) (hcx : Cond.code x b0 m0 r0 ∈ zWS) (hdx : x.cls ≠ "java/lang/invoke/MethodHandle" ∧ x.cls ≠ "java/lang/invoke/VarHandle" ∧ (parseMethodDescriptor x.desc).map (fun d => d.parameters.length) = some n) (hw : Cond.methodLink J.1.1 i x ∈ zWS) (hd : decode J.1.2.1 pc = .ok (.invokevirtual i, 3)) (hM : zM G l hd' y d (.ref b :: As) h Qn Qx mc ms) (hst : st = As.reverse ++ .ref b :: rest)
    (hn : As.length = n) (hcat : (rest.map fun v => v.category).sum ≤ 8) (hb : h b = some (.inr (zkSbd, fs))) (hfr : d + 1 ≤ J.2.1.frames) (hlo : d * 64 + 64 ≤ J.2.1.locals) (hb1 : mc + bc' ≤ bc) (hb2 : ms + bs' ≤ bs)
    (kx : ∀ E h', Qx E h' → zT G l J bc' bs' h' E pc ls) (kk : ∀ v h', Qn v h' → zR G l J bc' bs' h' (pc + 3) ls (v.toList ++ rest)) : zR G l J bc bs h pc ls st := by
  intro p e s m args below meth c H locs cells slots ls0 C0 hP hS hL h1 h2
  have hts := C0.2.2.2.2.2.2.2.1
  have hK := C0.2.2.2.2.2.2.2.2.2.1.1
  refine z_after C0 hP hS hL h1 h2 hb1 hb2 (vx_runU (C := RSbd) (owner := x.cls) (x := x) (As := As) (rest := rest) (Ts := zWS) ⟨C0.1, C0.2.1, rfl, C0.2.2.2.2.2.2.1, hts⟩ (hM C0.2.2.2.2.2.2.2.2.2.2.1) (va_cwO (owner := x.cls) (x := x) n hts (zgoodIn (fun _ h => h) (zw M (by
    intro w hw9
    simp only [List.mem_cons, List.not_mem_nil, or_false] at hw9
    rcases hw9 with q | q | q | q | q | q <;> rw [q]
    · exact hw
    · exact hsm
    · exact hix
    · exact hse
    · exact hin
    · exact M.1))) rfl rfl rfl hcx hdx ⟨hfr, by have := M.2.2.2; show 8 + (_ + 11) + d * 64 ≤ _; omega⟩) ⟨zPc_blind, va_recv hK (hP.ok hb) rfl (q0 := 0) rfl, fun U hU hW => zPc_pre C0.2.2.2.2.2.2.2.2.2.1 hP hS U hU hW⟩ rfl hn (hL.1.trans C0.2.2.1.symm) hst (lv_room hcat) hd ⟨by show cells + mc ≤ _; omega, by show slots + ms ≤ _; omega⟩) kx kk
end STR2
