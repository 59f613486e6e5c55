/-! ===== calls ===== -/
def zMe (y : MethodName) (hd : zHd) (n : Nat) : Prop := Cond.initialized y.cls ∈ zWS ∧ Cond.code y hd.2.1 hd.2.2.1 hd.2.2.2.1 ∈ zWS ∧ (y.cls ≠ "java/lang/invoke/MethodHandle" ∧ y.cls ≠ "java/lang/invoke/VarHandle" ∧ (parseMethodDescriptor y.desc).map (fun d => d.parameters.length) = some n) ∧ hd.2.2.1 ≤ 40
/-- a method of an object, found by its class -/
def zMV (y : MethodName) (hd : zHd) (n : Nat) : Prop := zMe y hd n ∧ Cond.instanceMethod y ∈ zWS ∧ Cond.selects y.cls y y ∈ zWS
def zMS (y : MethodName) (hd : zHd) (n : Nat) : Prop := zMe y hd n ∧ Cond.static y ∈ zWS
def zMI (y : MethodName) (hd : zHd) (n : Nat) : Prop := zMe y hd n ∧ Cond.instanceMethod y ∈ zWS ∧ y.name = "<init>" ∧ hd.2.2.2.1 = none
def zMSW (y : MethodName) (hd : zHd) (n : Nat) : Prop := Cond.initialized y.cls ∈ zWS ∧ Cond.codeWith y hd.2.1 hd.2.2.1 hd.2.2.2.1 hd.2.2.2.2.1 ∈ zWS ∧ (y.cls ≠ "java/lang/invoke/MethodHandle" ∧ y.cls ≠ "java/lang/invoke/VarHandle" ∧ (parseMethodDescriptor y.desc).map (fun d => d.parameters.length) = some n) ∧ hd.2.2.1 ≤ 40 ∧ Cond.static y ∈ zWS
theorem zPc_blind {G : zG} {vs : List Value} {h : zHp} : FrameBlind (va_Pc vs (zPc G h)) := fun a U g mk q => ⟨q.1, q.2.1, zS.go (s := U) (U := U.calling g mk a) (State.WarmedH.refl U) (fun _ _ _ => rfl) q.2.2⟩
theorem zPc_pre {G : zG} {s : State} {H : Heap} {locs : List Loc} {vs : List Value} {h : zHp} (hZ : zS G s s.heap) (hP : zRel G h H) (hS : va_S (zA G) s.heap H locs) : ∀ U : State, U.heap = H → s.WarmedH U.vm → va_Pc vs (zPc G h) vs.toArray U := fun U hU hW =>
  ⟨rfl, by rw [hU]; exact hP, by rw [hU]; exact hZ.go hW (fun a h1 h2 => hS.2.1 a h1 h2)⟩
section ZD
variable {G : zG} {l : Launch} {J : zJ} {bc bs : Nat} {h : zHp} {pc : Nat} {ls : List (Option Value)} {st : List Value}
/-- behind any call: the callee has returned or thrown -/
theorem z_after {p : Program} {e : Env} {s : State} {m : MethodId} {args : Array Value} {below : List Frame} {meth : Method} {c : Code} {H : Heap} {locs : List Loc} {cells slots mc ms bc' bs' : Nat} {ls0 : Array Slot} {st0 rest : List Value} {a : Array Value} {Qn : Option Value → zHp → Prop} {Qx : String → zHp → Prop}
    (C0 : zCx G l J p s m args meth c) (hP : zRel G h H) (hS : va_S (zA G) s.heap H locs) (hL : zLs ls0 J.1.2.2.1 ls) (h1 : cells + bc ≤ J.2.1.cells) (h2 : slots + bs ≤ J.2.1.slots) (hb1 : mc + bc' ≤ bc) (hb2 : ms + bs' ≤ bs)
    (hr : vx_Run p l e J.2.1 s m args below meth c H locs cells slots mc ms (F0 m pc ls0 st0) rest (zQ G Qn a) (zX G Qx) (zA G))
    (kx : ∀ E h', Qx E h' → zT G l J bc' bs' h' E pc ls) (kk : ∀ v h', Qn v h' → zR G l J bc' bs' h' (pc + 3) ls (v.toList ++ rest)) : W p l e J.2.1 s m args below meth c H locs cells slots (J.2.2.1 below args s) (F0 m pc ls0 st0) := by
  intro T hT X
  have hA : ∀ q : Nat, H.size ≤ q → zA G q := fun q hq => Nat.le_trans hP.1 hq
  rcases hr T hT X with ⟨v, st₀, t, T', L, h0, X', hL9, e1, e2, ⟨v', h', hv, hq, hR, hF⟩, sst⟩ | ⟨q, st₀, t, T', L, E, ce, h0, X', hL9, e1, e2, ⟨h', hq, hR, hF⟩, hce, hcv, hcl, sst⟩
  · cases hv
    obtain ⟨k1, k2, k3⟩ := vx_keep h0 e1 hS (fun q _ hq => hq) (fun q hq => hq) hL9 hF
    obtain ⟨t2, a1, b1⟩ := kk v h' hq p e s m args below meth c T'.heap (locs ++ L) (cells + mc) (slots + ms) ls0 C0 (by rw [e1]; exact hR) k3 hL (by omega) (by omega) T' rfl X'
    exact ⟨t2, sst t2 a1, b1⟩
  · obtain ⟨k1, k2, k3⟩ := vx_keep h0 e1 hS (fun q _ hq => hq) (fun q hq => hq) hL9 hF
    obtain ⟨t2, a1, b1⟩ := kx E h' hq p e s m args below meth c T'.heap (locs ++ L) (cells + mc) (slots + ms) ls0 q ce rest C0 (by rw [e1]; exact hR) k3 hL (by omega) (by omega) (by rw [e1]; exact hce) hcv hcl T' rfl X'
    exact ⟨t2, sst.trans a1, b1⟩
theorem zw {ws : List Cond} {y : MethodName} {hd : zHd} {n : Nat} (M : zMe y hd n) (h : ∀ w ∈ ws, w ∈ zWS) : ∀ w ∈ ws ++ (Cond.code y hd.2.1 hd.2.2.1 hd.2.2.2.1 :: zWS), w ∈ zWS := by
  intro w hw
  rcases List.mem_append.mp hw with q | q
  · exact h w q
  · rcases List.mem_cons.mp q with q | q
    · rw [q]; exact M.2.1
    · exact q
theorem z_callV {d mc ms i b n : Nat} {y : MethodName} {hd' : zHd} {As rest : List Value} {Qn : Option Value → zHp → Prop} {Qx : String → zHp → Prop} {ci N : Nat} {T : u_T} {fs : List Value} {bc' bs' : Nat} (M : zMV y hd' n) (hw : Cond.methodLink J.1.1 i y ∈ zWS) (hd : decode J.1.2.1 pc = .ok (.invokevirtual i, 3)) (hM : zM G l hd' y d (.ref b :: As) h Qn Qx mc ms) (hst : st = As.reverse ++ .ref b :: rest)
    (hn : As.length = n) (hcat : (rest.map fun v => v.category).sum ≤ 8) (hc : vwCl[ci]? = some (y.cls, T, N)) (hb : h b = some (.inr (ci, fs))) (hfr : d + 1 ≤ J.2.1.frames) (hlo : d * 64 + 64 ≤ J.2.1.locals) (hb1 : mc + bc' ≤ bc) (hb2 : ms + bs' ≤ bs)
    (kx : ∀ E h', Qx E h' → zT G l J bc' bs' h' E pc ls) (kk : ∀ v h', Qn v h' → zR G l J bc' bs' h' (pc + 3) ls (v.toList ++ rest)) : zR G l J bc bs h pc ls st := by
  intro p e s m args below meth c H locs cells slots ls0 C0 hP hS hL h1 h2
  have hts := C0.2.2.2.2.2.2.2.1
  have hK := C0.2.2.2.2.2.2.2.2.2.1.1
  refine z_after C0 hP hS hL h1 h2 hb1 hb2 (vx_runV (As := As) (rest := rest) (Ts := zWS) ⟨C0.1, C0.2.1, rfl, C0.2.2.2.2.2.2.1, hts⟩ (hM C0.2.2.2.2.2.2.2.2.2.2.1) (cwV n hts (zgoodIn (fun _ h => h) (zw M.1 (by
    intro w hw9
    simp only [List.mem_cons, List.not_mem_nil, or_false] at hw9
    rcases hw9 with q | q | q | q <;> rw [q]
    · exact hw
    · exact M.2.1
    · exact M.2.2
    · exact M.1.1))) rfl rfl rfl ⟨rfl, M.1.2.2.1⟩ ⟨hfr, by have := M.1.2.2.2; show 8 + (_ + 11) + d * 64 ≤ _; omega⟩) ⟨zPc_blind, va_recv hK (hP.ok hb) hc (q0 := 0) rfl, fun U hU hW => zPc_pre C0.2.2.2.2.2.2.2.2.2.1 hP hS U hU hW⟩ rfl hn (hL.1.trans C0.2.2.1.symm) hst (lv_room hcat) hd ⟨by show cells + mc ≤ _; omega, by show slots + ms ≤ _; omega⟩) kx kk
/-- a private method of a nest mate -/
theorem z_callVN {d mc ms i b n : Nat} {host : String} {y : MethodName} {hd' : zHd} {As rest : List Value} {Qn : Option Value → zHp → Prop} {Qx : String → zHp → Prop} {ci N : Nat} {T : u_T} {fs : List Value} {bc' bs' : Nat} (M : zMV y hd' n) (hw : Cond.methodLinkNest J.1.1 i y host ∈ zNW) (hd : decode J.1.2.1 pc = .ok (.invokevirtual i, 3)) (hM : zM G l hd' y d (.ref b :: As) h Qn Qx mc ms) (hst : st = As.reverse ++ .ref b :: rest)
    (hn : As.length = n) (hcat : (rest.map fun v => v.category).sum ≤ 8) (hc : vwCl[ci]? = some (y.cls, T, N)) (hb : h b = some (.inr (ci, fs))) (hfr : d + 1 ≤ J.2.1.frames) (hlo : d * 64 + 64 ≤ J.2.1.locals) (hb1 : mc + bc' ≤ bc) (hb2 : ms + bs' ≤ bs)
    (kx : ∀ E h', Qx E h' → zT G l J bc' bs' h' E pc ls) (kk : ∀ v h', Qn v h' → zR G l J bc' bs' h' (pc + 3) ls (v.toList ++ rest)) : zR G l J bc bs h pc ls st := by
  intro p e s m args below meth c H locs cells slots ls0 C0 hP hS hL h1 h2
  have hts := C0.2.2.2.2.2.2.2.1
  have hK := C0.2.2.2.2.2.2.2.2.2.1.1
  refine z_after C0 hP hS hL h1 h2 hb1 hb2 (vx_runVN (C := y.cls) (As := As) (rest := rest) (Ts := zWS) ⟨C0.1, C0.2.1, rfl, C0.2.2.2.2.2.2.1, hts⟩ (hM C0.2.2.2.2.2.2.2.2.2.2.1) ⟨va_cnB n hts (zgoodIn (ws := [] ++ _) (fun _ h => h) (zw M.1 (fun w hw9 => nomatch hw9))) rfl rfl rfl (C0.2.2.2.2.2.2.2.2.2.1.2.2.1 _ hw) (hts _ M.1.1) M.1.2.2.1 ⟨hfr, by have := M.1.2.2.2; show 8 + (_ + 11) + d * 64 ≤ _; omega⟩, hts _ M.2.1, hts _ M.2.2⟩ ⟨zPc_blind, va_recv hK (hP.ok hb) hc (q0 := 0) rfl, fun U hU hW => zPc_pre C0.2.2.2.2.2.2.2.2.2.1 hP hS U hU hW⟩ rfl hn (hL.1.trans C0.2.2.1.symm) hst (lv_room hcat) hd ⟨by show cells + mc ≤ _; omega, by show slots + ms ≤ _; omega⟩) kx kk
theorem z_callS {d mc ms i n : Nat} {y : MethodName} {hd' : zHd} {As rest : List Value} {Qn : Option Value → zHp → Prop} {Qx : String → zHp → Prop} {bc' bs' : Nat} (M : zMS y hd' n) (hw : Cond.methodLink J.1.1 i y ∈ zWS) (hd : decode J.1.2.1 pc = .ok (.invokestatic i, 3)) (hM : zM G l hd' y d As h Qn Qx mc ms) (hst : st = As.reverse ++ rest)
    (hn : As.length = n) (hcat : (rest.map fun v => v.category).sum ≤ 8) (hfr : d + 1 ≤ J.2.1.frames) (hlo : d * 64 + 64 ≤ J.2.1.locals) (hb1 : mc + bc' ≤ bc) (hb2 : ms + bs' ≤ bs)
    (kx : ∀ E h', Qx E h' → zT G l J bc' bs' h' E pc ls) (kk : ∀ v h', Qn v h' → zR G l J bc' bs' h' (pc + 3) ls (v.toList ++ rest)) : zR G l J bc bs h pc ls st := by
  intro p e s m args below meth c H locs cells slots ls0 C0 hP hS hL h1 h2
  have hts := C0.2.2.2.2.2.2.2.1
  refine z_after C0 hP hS hL h1 h2 hb1 hb2 (vx_runS (As := As) (rest := rest) (Ts := zWS) ⟨C0.1, C0.2.1, rfl, C0.2.2.2.2.2.2.1, hts⟩ (hM C0.2.2.2.2.2.2.2.2.2.2.1) (va_cwS n hts (zgoodIn (fun _ h => h) (zw M.1 (by
    intro w hw9
    simp only [List.mem_cons, List.not_mem_nil, or_false] at hw9
    rcases hw9 with q | q | q <;> rw [q]
    · exact hw
    · exact M.2
    · exact M.1.1))) rfl rfl rfl M.1.2.2.1 ⟨hfr, by have := M.1.2.2.2; show 8 + (_ + 11) + d * 64 ≤ _; omega⟩) ⟨zPc_blind, fun U hU hW => zPc_pre C0.2.2.2.2.2.2.2.2.2.1 hP hS U hU hW⟩ rfl hn (hL.1.trans C0.2.2.1.symm) hst (lv_room hcat) hd ⟨by show cells + mc ≤ _; omega, by show slots + ms ≤ _; omega⟩) kx kk
theorem z_callSN {d mc ms i n : Nat} {host : String} {y : MethodName} {hd' : zHd} {As rest : List Value} {Qn : Option Value → zHp → Prop} {Qx : String → zHp → Prop} {bc' bs' : Nat} (M : zMS y hd' n) (hw : Cond.methodLinkNest J.1.1 i y host ∈ zNW) (hd : decode J.1.2.1 pc = .ok (.invokestatic i, 3)) (hM : zM G l hd' y d As h Qn Qx mc ms) (hst : st = As.reverse ++ rest)
    (hn : As.length = n) (hcat : (rest.map fun v => v.category).sum ≤ 8) (hfr : d + 1 ≤ J.2.1.frames) (hlo : d * 64 + 64 ≤ J.2.1.locals) (hb1 : mc + bc' ≤ bc) (hb2 : ms + bs' ≤ bs)
    (kx : ∀ E h', Qx E h' → zT G l J bc' bs' h' E pc ls) (kk : ∀ v h', Qn v h' → zR G l J bc' bs' h' (pc + 3) ls (v.toList ++ rest)) : zR G l J bc bs h pc ls st := by
  intro p e s m args below meth c H locs cells slots ls0 C0 hP hS hL h1 h2
  have hts := C0.2.2.2.2.2.2.2.1
  refine z_after C0 hP hS hL h1 h2 hb1 hb2 (vx_runSN (As := As) (rest := rest) (Ts := zWS) ⟨C0.1, C0.2.1, rfl, C0.2.2.2.2.2.2.1, hts⟩ (hM C0.2.2.2.2.2.2.2.2.2.2.1) ⟨va_cnB n hts (zgoodIn (ws := [] ++ _) (fun _ h => h) (zw M.1 (fun w hw9 => nomatch hw9))) rfl rfl rfl (C0.2.2.2.2.2.2.2.2.2.1.2.2.1 _ hw) (hts _ M.1.1) M.1.2.2.1 ⟨hfr, by have := M.1.2.2.2; show 8 + (_ + 11) + d * 64 ≤ _; omega⟩, hts _ M.2, trivial⟩ ⟨zPc_blind, fun U hU hW => zPc_pre C0.2.2.2.2.2.2.2.2.2.1 hP hS U hU hW⟩ rfl hn (hL.1.trans C0.2.2.1.symm) hst (lv_room hcat) hd ⟨by show cells + mc ≤ _; omega, by show slots + ms ≤ _; omega⟩) kx kk
theorem z_callI {d mc ms i b n : Nat} {y : MethodName} {hd' : zHd} {As rest : List Value} {Qn : Option Value → zHp → Prop} {Qx : String → zHp → Prop} {bc' bs' : Nat} (M : zMI y hd' n) (hw : Cond.methodLink J.1.1 i y ∈ zWS) (hd : decode J.1.2.1 pc = .ok (.invokespecial i, 3)) (hM : zM G l hd' y d (.ref b :: As) h Qn Qx mc ms) (hst : st = As.reverse ++ .ref b :: rest)
    (hn : As.length = n) (hcat : (rest.map fun v => v.category).sum ≤ 8) (hfr : d + 1 ≤ J.2.1.frames) (hlo : d * 64 + 64 ≤ J.2.1.locals) (hb1 : mc + bc' ≤ bc) (hb2 : ms + bs' ≤ bs)
    (kx : ∀ E h', Qx E h' → zT G l J bc' bs' h' E pc ls) (kk : ∀ v h', Qn v h' → zR G l J bc' bs' h' (pc + 3) ls (v.toList ++ rest)) : zR G l J bc bs h pc ls st := by
  intro p e s m args below meth c H locs cells slots ls0 C0 hP hS hL h1 h2
  have hts := C0.2.2.2.2.2.2.2.1
  have hM1 := hM C0.2.2.2.2.2.2.2.2.2.2.1
  rw [M.2.2.2] at hM1
  have hc9 : Cond.code y hd'.2.1 hd'.2.2.1 none ∈ zWS := by rw [← M.2.2.2]; exact M.1.2.1
  refine z_after C0 hP hS hL h1 h2 hb1 hb2 (vx_runI (As := As) (rest := rest) (Ts := zWS) ⟨C0.1, C0.2.1, rfl, C0.2.2.2.2.2.2.1, hts⟩ hM1 (cwI n hts (zgoodIn (fun _ h => h) (by
    intro w hw9
    rcases List.mem_cons.mp hw9 with q | q
    · rw [q]; exact hc9
    · exact q)) rfl rfl rfl (hts _ M.1.1) (hts _ hw) (hts _ M.2.1) M.2.2.1 M.1.2.2.1 ⟨hfr, by have := M.1.2.2.2; show 8 + (_ + 11) + d * 64 ≤ _; omega⟩) ⟨zPc_blind, fun U hU hW => zPc_pre C0.2.2.2.2.2.2.2.2.2.1 hP hS U hU hW⟩ rfl hn (hL.1.trans C0.2.2.1.symm) hst (lv_room hcat) hd ⟨by show cells + mc ≤ _; omega, by show slots + ms ≤ _; omega⟩) kx kk
theorem z_callIN {d mc ms i b n : Nat} {host : String} {y : MethodName} {hd' : zHd} {As rest : List Value} {Qn : Option Value → zHp → Prop} {Qx : String → zHp → Prop} {bc' bs' : Nat} (M : zMI y hd' n) (hw : Cond.methodLinkNest J.1.1 i y host ∈ zNW) (hd : decode J.1.2.1 pc = .ok (.invokespecial i, 3)) (hM : zM G l hd' y d (.ref b :: As) h Qn Qx mc ms) (hst : st = As.reverse ++ .ref b :: rest)
    (hn : As.length = n) (hcat : (rest.map fun v => v.category).sum ≤ 8) (hfr : d + 1 ≤ J.2.1.frames) (hlo : d * 64 + 64 ≤ J.2.1.locals) (hb1 : mc + bc' ≤ bc) (hb2 : ms + bs' ≤ bs)
    (kx : ∀ E h', Qx E h' → zT G l J bc' bs' h' E pc ls) (kk : ∀ v h', Qn v h' → zR G l J bc' bs' h' (pc + 3) ls (v.toList ++ rest)) : zR G l J bc bs h pc ls st := by
  intro p e s m args below meth c H locs cells slots ls0 C0 hP hS hL h1 h2
  have hts := C0.2.2.2.2.2.2.2.1
  have hM1 := hM C0.2.2.2.2.2.2.2.2.2.2.1
  rw [M.2.2.2] at hM1
  have hc9 : Cond.code y hd'.2.1 hd'.2.2.1 none ∈ zWS := by rw [← M.2.2.2]; exact M.1.2.1
  refine z_after C0 hP hS hL h1 h2 hb1 hb2 (vx_runIN (As := As) (rest := rest) (Ts := zWS) ⟨C0.1, C0.2.1, rfl, C0.2.2.2.2.2.2.1, hts⟩ hM1 ⟨va_cnB n hts (zgoodIn (fun _ h => h) (by
    intro w hw9
    rcases List.mem_cons.mp hw9 with q | q
    · rw [q]; exact hc9
    · exact q)) rfl rfl rfl (C0.2.2.2.2.2.2.2.2.2.1.2.2.1 _ hw) (hts _ M.1.1) M.1.2.2.1 ⟨hfr, by have := M.1.2.2.2; show 8 + (_ + 11) + d * 64 ≤ _; omega⟩, M.2.2.1, hts _ M.2.1⟩ ⟨zPc_blind, fun U hU hW => zPc_pre C0.2.2.2.2.2.2.2.2.2.1 hP hS U hU hW⟩ rfl hn (hL.1.trans C0.2.2.1.symm) hst (lv_room hcat) hd ⟨by show cells + mc ≤ _; omega, by show slots + ms ≤ _; omega⟩) kx kk
/-- Object.<init> -/
theorem z_obj {i b : Nat} {rest : List Value} (hw : Cond.methodLink J.1.1 i objectInit ∈ zWS) (hi : Cond.instanceMethod objectInit ∈ zWS) (hc : Cond.code objectInit ⟨#[0xb1]⟩ 1 none ∈ zWS) (hd : decode J.1.2.1 pc = .ok (.invokespecial i, 3)) (hcat : (rest.map fun v => v.category).sum ≤ 8) (hfr : 1 ≤ J.2.1.frames) (hlo : 64 ≤ J.2.1.locals)
    (kk : zR G l J bc bs h (pc + 3) ls rest) : zR G l J bc bs h pc ls (.ref b :: rest) := by
  intro p e s m args below meth c H locs cells slots ls0 C0 hP hS hL h1 h2
  have hts := C0.2.2.2.2.2.2.2.1
  have hr := lv_room (m := m) (pc := pc) (ls := ls0) (rest := .ref b :: rest) hcat
  refine W.objInit C0.1 C0.2.1 C0.2.2.2.2.2.2.1 (hts _ hw) (hts _ hi) (hts _ hc) rfl (hL.1.trans C0.2.2.1.symm) rfl hd hfr (by omega) ?_
  exact kk p e s m args below meth c H locs cells slots ls0 C0 hP hS hL h1 h2
/-! ===== ends ===== -/
variable {hd9 : zHd} {d mc ms : Nat} {Qn : Option Value → zHp → Prop} {Qx : String → zHp → Prop}
theorem z_iret {ty : FieldType} {x : Int32} (hrt : hd9.2.2.2.1 = some ty) (hn : narrow ty (.int x) = .int x) (hd : decode hd9.2.1 pc = .ok (.ireturn, 1)) (hq : Qn (some (.int x)) h) : zR G l (zMJ G hd9 d Qn Qx mc ms) bc bs h pc ls [.int x] := by
  intro p e s m args below meth c H locs cells slots ls0 C0 hP hS hL h1 h2
  have e1 : cells ≤ mc := by have : cells + bc ≤ mc := h1; omega
  have e2 : slots ≤ ms := by have : slots + bs ≤ ms := h2; omega
  refine vx_ret (W.widen (k := mc) (n := ms) e1 e2 ?_)
  exact W.zret (v := x) C0.1 C0.2.1 (C0.2.2.2.1.trans hrt) hn (fun t ht hW => ⟨_, h, rfl, hq, by rw [ht]; exact hP, hS.F ht⟩) hS.2.2 hd C0.2.2.2.2.2.2.2.2.1
theorem z_lret {x : Int64} (hrt : hd9.2.2.2.1 = some .long) (hd : decode hd9.2.1 pc = .ok (.lreturn, 1)) (hq : Qn (some (.long x)) h) : zR G l (zMJ G hd9 d Qn Qx mc ms) bc bs h pc ls [.long x] := by
  intro p e s m args below meth c H locs cells slots ls0 C0 hP hS hL h1 h2
  have e1 : cells ≤ mc := by have : cells + bc ≤ mc := h1; omega
  have e2 : slots ≤ ms := by have : slots + bs ≤ ms := h2; omega
  refine vx_ret (W.widen (k := mc) (n := ms) e1 e2 ?_)
  exact W.lret (v := x) C0.1 C0.2.1 (C0.2.2.2.1.trans hrt) (fun t ht hW => ⟨_, h, rfl, hq, by rw [ht]; exact hP, hS.F ht⟩) hS.2.2 hd C0.2.2.2.2.2.2.2.2.1
theorem z_vret (hrt : hd9.2.2.2.1 = none) (hd : decode hd9.2.1 pc = .ok (.return_, 1)) (hq : Qn none h) : zR G l (zMJ G hd9 d Qn Qx mc ms) bc bs h pc ls [] := by
  intro p e s m args below meth c H locs cells slots ls0 C0 hP hS hL h1 h2
  have e1 : cells ≤ mc := by have : cells + bc ≤ mc := h1; omega
  have e2 : slots ≤ ms := by have : slots + bs ≤ ms := h2; omega
  refine vx_ret (W.widen (k := mc) (n := ms) e1 e2 ?_)
  exact W.vret C0.1 C0.2.1 (C0.2.2.2.1.trans hrt) (fun t ht hW => ⟨_, h, rfl, hq, by rw [ht]; exact hP, hS.F ht⟩) hS.2.2 hd C0.2.2.2.2.2.2.2.2.1
theorem z_aret {rt : FieldType} {v : Value} (hrt : hd9.2.2.2.1 = some rt) (hk : (∃ n, rt = .object n) ∨ ∃ t, rt = .array t) (hv : v = .null ∨ ∃ a, v = .ref a) (hd : decode hd9.2.1 pc = .ok (.areturn, 1)) (hq : Qn (some v) h) : zR G l (zMJ G hd9 d Qn Qx mc ms) bc bs h pc ls [v] := by
  intro p e s m args below meth c H locs cells slots ls0 C0 hP hS hL h1 h2
  have e1 : cells ≤ mc := by have : cells + bc ≤ mc := h1; omega
  have e2 : slots ≤ ms := by have : slots + bs ≤ ms := h2; omega
  refine vx_ret (W.widen (k := mc) (n := ms) e1 e2 ?_)
  exact W.aret (v := v) C0.1 C0.2.1 (C0.2.2.2.1.trans hrt) hk hv (fun t ht hW => ⟨_, h, rfl, hq, by rw [ht]; exact hP, hS.F ht⟩) hS.2.2 hd C0.2.2.2.2.2.2.2.2.1
/-- it goes on to the caller -/
theorem z_out {E : String} (ht : hd9.2.2.2.2.1 = []) (hq : Qx E h) : zT G l (zMJ G hd9 d Qn Qx mc ms) bc bs h E pc ls := by
  intro p e s m args below meth c H locs cells slots ls0 q ce rest C0 hP hS hL h1 h2 hq9 hv hcl
  refine vx_out (fun x hx => ?_) C0.2.2.2.2.2.2.2.2.1 hq9 hv hcl (fun t ht9 hA => ⟨h, hq, by rw [ht9]; exact hP, hS.F ht9⟩) hS.2.2 (by have : cells + bc ≤ mc := h1; omega) (by have : slots + bs ≤ ms := h2; omega)
  rw [C0.2.2.2.2.1] at hx
  have h9 : tableOf hd9.2.2.2.2.1 = [] := by rw [ht]; rfl
  exact absurd (h9 ▸ hx) (by simp)
/-- throw new E("text") -/
theorem z_throw {ik is ic : Nat} {E text : String} {names : List String} (hE : Bundle.fit E = true) (hnm : ∀ n ∈ names, Bundle.fit n = true) (hw : Cond.classLink hd9.1 ik E ∈ zWS) (hini : Cond.initialized E ∈ zWS) (htx : (hd9.1, is, text) ∈ zTexts) (hat : ∀ w ∈ vx_atS hd9.1 ic E names, w ∈ lw_tbl) (hgd : ∀ w ∈ vx_atS hd9.1 ic E names, goodWord w = true ∨ zIsN w = true)
    (hot : ∀ w ∈ Cond.classLink hd9.1 ik E :: Cond.initialized E :: vx_atS hd9.1 ic E names, vx_ot w = true) (ht : hd9.2.2.2.2.1 = [])
    (d0 : decode hd9.2.1 pc = .ok (.new ik, 3)) (d3 : decode hd9.2.1 (pc + 3) = .ok (.dup, 1)) (d4 : decode hd9.2.1 (pc + 4) = .ok (.ldc is, 2)) (d6 : decode hd9.2.1 (pc + 6) = .ok (.invokespecial ic, 3)) (d9 : decode hd9.2.1 (pc + 9) = .ok (.athrow, 1))
    (hfr : names.length + 3 < d) (hlo : (st.map fun v => v.category).sum + (13 * (names.length + 1) + 43) ≤ d * 64) (hb1 : 1 ≤ bc) (hb2 : 6 ≤ bs) (hq : Qx E h) : zR G l (zMJ G hd9 d Qn Qx mc ms) bc bs h pc ls st := by
  intro p e s m args below meth c H locs cells slots ls0 C0 hP hS hL h1 h2
  have hts := C0.2.2.2.2.2.2.2.1
  have hZ := C0.2.2.2.2.2.2.2.2.2.1
  have g1 : cells + bc ≤ mc := h1
  have g2 : slots + bs ≤ ms := h2
  obtain ⟨sa, hsa⟩ := hZ.2.2.2.1 _ htx
  refine vx_throwS (sa := sa) (names := names) (text := text) C0.1 C0.2.1 C0.2.2.2.2.2.2.2.2.2.2.1 C0.2.2.2.2.2.2.1 hE hnm (hts _ hw) (hts _ hini) hsa (fun w hw9 => ?_) hot hZ.2.2.2.2.2.1 hZ.2.2.2.2.2.2.1 hS (hL.1.trans C0.2.2.1.symm) d0 d3 d4 d6 d9 (fun x hx => ?_) hfr hlo (by show cells + 1 ≤ mc; omega) (by show slots + 6 ≤ ms; omega) C0.2.2.2.2.2.2.2.2.1 (fun t hA hz hk => ⟨h, hq, hP.keep hz hk, ?_⟩) hS.2.2 (by omega) (by omega)
  · rcases hgd w hw9 with q | q
    · exact hts _ (List.mem_filter.mpr ⟨hat w hw9, q⟩)
    · have h9 := hZ.2.2.1 w (List.mem_filter.mpr ⟨hat w hw9, q⟩)
      cases w <;> first | exact va_Nw.use rfl h9 | (simp [zIsN] at q)
  · rw [C0.2.2.2.2.1] at hx
    have h9 : tableOf hd9.2.2.2.2.1 = [] := by rw [ht]; rfl
    exact absurd (h9 ▸ hx) (by simp)
  · exact ⟨Nat.le_trans hS.1 hz, fun q q1 q2 => (hk q (Nat.lt_of_lt_of_le q1 hS.1)).trans (hS.2.1 q q1 q2)⟩
end ZD
section ZTW
variable {G : zG} {l : Launch} {bc bs : Nat} {h : zHp} {pc : Nat} {ls : List (Option Value)} {st : List Value} {hd9 : zHd} {d mc ms : Nat} {Qn : Option Value → zHp → Prop} {Qx : String → zHp → Prop}
/-- .. the text by a wide index -/
theorem z_throwW {ik is ic : Nat} {E text : String} {names : List String} (hE : Bundle.fit E = true) (hnm : ∀ n ∈ names, Bundle.fit n = true) (hw : Cond.classLink hd9.1 ik E ∈ zWS) (hini : Cond.initialized E ∈ zWS) (htx : (hd9.1, is, text) ∈ zTexts) (hat : ∀ w ∈ vx_atS hd9.1 ic E names, w ∈ lw_tbl) (hgd : ∀ w ∈ vx_atS hd9.1 ic E names, goodWord w = true ∨ zIsN w = true)
    (hot : ∀ w ∈ Cond.classLink hd9.1 ik E :: Cond.initialized E :: vx_atS hd9.1 ic E names, vx_ot w = true) (ht : hd9.2.2.2.2.1 = [])
    (d0 : decode hd9.2.1 pc = .ok (.new ik, 3)) (d3 : decode hd9.2.1 (pc + 3) = .ok (.dup, 1)) (d4 : decode hd9.2.1 (pc + 4) = .ok (.ldc_w is, 3)) (d7 : decode hd9.2.1 (pc + 7) = .ok (.invokespecial ic, 3)) (d10 : decode hd9.2.1 (pc + 10) = .ok (.athrow, 1))
    (hfr : names.length + 3 < d) (hlo : (st.map fun v => v.category).sum + (13 * (names.length + 1) + 43) ≤ d * 64) (hb1 : 1 ≤ bc) (hb2 : 6 ≤ bs) (hq : Qx E h) : zR G l (zMJ G hd9 d Qn Qx mc ms) bc bs h pc ls st := by
  intro p e s m args below meth c H locs cells slots ls0 C0 hP hS hL h1 h2
  have hts := C0.2.2.2.2.2.2.2.1
  have hZ := C0.2.2.2.2.2.2.2.2.2.1
  have g1 : cells + bc ≤ mc := h1
  have g2 : slots + bs ≤ ms := h2
  obtain ⟨sa, hsa⟩ := hZ.2.2.2.1 _ htx
  refine vx_throwSW (sa := sa) (names := names) (text := text) C0.1 C0.2.1 C0.2.2.2.2.2.2.2.2.2.2.1 C0.2.2.2.2.2.2.1 hE hnm (hts _ hw) (hts _ hini) hsa (fun w hw9 => ?_) hot hZ.2.2.2.2.2.1 hZ.2.2.2.2.2.2.1 hS (hL.1.trans C0.2.2.1.symm) d0 d3 d4 d7 d10 (fun x hx => ?_) hfr hlo (by show cells + 1 ≤ mc; omega) (by show slots + 6 ≤ ms; omega) C0.2.2.2.2.2.2.2.2.1 (fun t hA hz hk => ⟨h, hq, hP.keep hz hk, ?_⟩) hS.2.2 (by omega) (by omega)
  · rcases hgd w hw9 with q | q
    · exact hts _ (List.mem_filter.mpr ⟨hat w hw9, q⟩)
    · have h9 := hZ.2.2.1 w (List.mem_filter.mpr ⟨hat w hw9, q⟩)
      cases w <;> first | exact va_Nw.use rfl h9 | (simp [zIsN] at q)
  · rw [C0.2.2.2.2.1] at hx
    have h9 : tableOf hd9.2.2.2.2.1 = [] := by rw [ht]; rfl
    exact absurd (h9 ▸ hx) (by simp)
  · exact ⟨Nat.le_trans hS.1 hz, fun q q1 q2 => (hk q (Nat.lt_of_lt_of_le q1 hS.1)).trans (hS.2.1 q q1 q2)⟩
end ZTW
