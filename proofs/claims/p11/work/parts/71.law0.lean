theorem wl_zE1 : Cond.classLink RLaw 19 zE1 ∈ zWS := (zin_of zc3 (i := 220) rfl rfl)
theorem wk_zE1 : Cond.castable zE1 zE1 ∈ zNW := (zinN_of zc3 (i := 166) rfl rfl)
theorem wl_zE2 : Cond.classLink RLaw 21 zE2 ∈ zWS := (zin_of zc3 (i := 221) rfl rfl)
theorem wk_zE2 : Cond.castable zE2 zE2 ∈ zNW := (zinN_of zc2 (i := 115) rfl rfl)
theorem wl_zE3 : Cond.classLink RLaw 115 zE3 ∈ zWS := (zin_of zc4 (i := 234) rfl rfl)
theorem wk_zE3 : Cond.castable zE3 zE3 ∈ zNW := (zinN_of zc5 (i := 4) rfl rfl)
section LAW0
variable {G : zG} {l : Launch} {h h' h0 : zHp} {ad ma : Nat → Nat} {S : zSt} {th : Int}
variable {J : zJ} {bc bs pc : Nat} {ls : List (Option Value)} {st : List Value}
/-- a call of a static method with handlers -/
theorem z_callSX {d mc ms i n : Nat} {y : MethodName} {hd' : zHd} {As rest : List Value} {Qn : Option Value → zHp → Prop} {Qx : String → zHp → Prop} {bc' bs' : Nat} (M : zMSW y hd' n) (hw : Cond.methodLink J.1.1 i y ∈ zWS) (hd : decode J.1.2.1 pc = .ok (.invokestatic i, 3)) (hM : zMW G l hd' y d As h Qn Qx mc ms) (hst : st = As.reverse ++ rest)
    (hn : As.length = n) (hcat : (rest.map fun v => v.category).sum ≤ 8) (hfr : d + 1 ≤ J.2.1.frames) (hlo : d * 64 + 64 ≤ J.2.1.locals) (hb1 : mc + bc' ≤ bc) (hb2 : ms + bs' ≤ bs)
    (kx : ∀ E h', Qx E h' → zT G l J bc' bs' h' E pc ls) (kk : ∀ v h', Qn v h' → zR G l J bc' bs' h' (pc + 3) ls (v.toList ++ rest)) : zR G l J bc bs h pc ls st := by
  intro p e s m args below meth c H locs cells slots ls0 C0 hP hS hL h1 h2
  have hts := C0.2.2.2.2.2.2.2.1
  refine z_after C0 hP hS hL h1 h2 hb1 hb2 (vx_runSX (As := As) (rest := rest) (Ts := zWS) ⟨C0.1, C0.2.1, rfl, C0.2.2.2.2.2.2.1, hts⟩ (hM C0.2.2.2.2.2.2.2.2.2.2.1) (vx_cwSW n hts (zgoodIn (fun _ h => h) (by
    intro w hw9
    unfold va_wsS at hw9
    rcases List.mem_append.mp hw9 with q | q
    · simp only [List.mem_cons, List.not_mem_nil, or_false] at q
      rcases q with q | q | q <;> rw [q]
      · exact hw
      · exact M.2.2.2.2
      · exact M.1
    · rcases List.mem_cons.mp q with q | q
      · rw [q]; exact M.2.1
      · exact q)) rfl rfl rfl M.2.2.1 ⟨hfr, by have := M.2.2.2.1; show 8 + (_ + 11) + d * 64 ≤ _; omega⟩) ⟨zPc_blind, fun U hU hW => zPc_pre C0.2.2.2.2.2.2.2.2.2.1 hP hS U hU hW⟩ rfl hn (hL.1.trans C0.2.2.1.symm) hst (lv_room hcat) hd ⟨by show cells + mc ≤ _; omega, by show slots + ms ≤ _; omega⟩) kx kk
/-- caught: the handlers ahead don't take it -/
theorem z_catch {E name : String} {a b hp ct : Nat} (pre suf : List (Nat × Nat × Nat × Nat)) (ht : J.1.2.2.2.2.1 = pre ++ (a, b, hp, ct) :: suf) (hpre : ∀ z ∈ pre, z.2.2.2 ≠ 0 ∧ ∃ nm, Cond.classLink J.1.1 z.2.2.2 nm ∈ zWS ∧ (E, nm) ∈ zNcs) (hx : a ≤ pc ∧ pc < b) (h0 : ct ≠ 0) (hlink : Cond.classLink J.1.1 ct name ∈ zWS) (hcast : Cond.castable E name ∈ zNW)
    (kk : ∀ q, zR G l J bc bs h hp ls [.ref q]) : zT G l J bc bs h E pc ls := by
  intro p e s m args below meth c H locs cells slots ls0 q ce rest C0 hP hS hL h1 h2 hq9 hv hcl
  have hts := C0.2.2.2.2.2.2.2.1
  have hZ := C0.2.2.2.2.2.2.2.2.2.1
  refine vx_catch C0.2.2.2.2.2.2.1 (tableOf pre) ⟨a, b, hp, ct⟩ (tableOf suf) (by rw [C0.2.2.2.2.1, ht]; unfold tableOf; simp) (fun z hz => Or.inr ?_) (by unfold covers; simp; omega) h0 (hts _ hlink) ((hZ.2.2.1 _ hcast).use rfl) hq9 hv hcl (kk q p e s m args below meth c H locs cells slots ls0 C0 hP hS hL h1 h2)
  unfold tableOf at hz
  obtain ⟨y, hy, rfl⟩ := List.mem_map.mp hz
  obtain ⟨g1, nm, g2, g3⟩ := hpre y hy
  exact ⟨g1, nm, hts _ g2, hZ.2.2.2.2.1 _ g3⟩
/-- what a wrapper answers: its code, and the number in out -/
def zQw (G : zG) (ad : Nat → Nat) (o : Nat) (h : zHp) (k1 k2 k3 : Int) (r : zRes) : Option Value → zHp → Prop := fun v h' => ∃ (k z : Int) (sv : Value), v = some (zi k) ∧ zCls G h' ad r.2 ∧ (∀ q, q ≠ o → (∀ i, i < 20 → q ≠ ad i) → h' q = h q) ∧ h' o = some (.inr (zkOut, [zl (zwd z), sv])) ∧
  ((r.1 = .inl z ∧ k = 0) ∨ (r.1 = .inr zE1 ∧ k = k1) ∨ (r.1 = .inr zE2 ∧ k = k2) ∨ (r.1 = .inr zE3 ∧ k = k3))
theorem zwd_64 (z : Int) : -9223372036854775808 ≤ zwd z ∧ zwd z ≤ 9223372036854775807 := by have := zwd_r z; omega
theorem zRow.at {r a : Nat} {L : List Int} (H : zRow G h r a L) (h1 : h' r = h r) (h2 : h' a = h a) : zRow G h' r a L := by
  obtain ⟨f, e1, e2, e3⟩ := H
  exact ⟨f, h1.trans e1, h2.trans e2, e3⟩
theorem zCls.at (H : zCls G h ad S) (hf : ∀ i, i < 20 → h' (ad i) = h (ad i)) : zCls G h' ad S := by
  obtain ⟨c1, c2, ⟨g3, c3, d3⟩, ⟨g4, c4, d4⟩, c5, ⟨T6, c6, d6⟩, c7, c8, ⟨R9, c9⟩, c10⟩ := H
  refine ⟨c1, (hf 0 (by omega)).trans c2, ⟨g3, (hf 1 (by omega)).trans c3, d3⟩, ⟨g4, (hf 2 (by omega)).trans c4, d4⟩, (hf 3 (by omega)).trans c5, ⟨T6, (hf 4 (by omega)).trans c6, d6⟩, fun c hc => ?_, fun k hk => (c8 k hk).at (hf _ (by omega)) (hf _ (by omega)), ⟨R9, c9.at (hf _ (by omega)) (hf _ (by omega))⟩, c10.at (hf _ (by omega)) (hf _ (by omega))⟩
  have := c7 c hc
  unfold zCurAt at this ⊢
  rw [hf _ (by omega)]
  exact this
theorem zAr.at {a : Nat} {L : List Int} (H : zAr G h a L) (h1 : h' a = h a) : zAr G h' a L := H.kept h1
theorem zMod.at (H : zMod G h ma S th) (hf : ∀ i, i < 13 → h' (ma i) = h (ma i)) : zMod G h' ma S th := by
  obtain ⟨m1, m2, ⟨g, m3, m3'⟩, ⟨⟨f1, a1, b1⟩, ⟨f2, a2, b2⟩, ⟨f3, a3, b3⟩, ⟨f4, a4, b4⟩, ⟨f5, a5, b5⟩⟩, ⟨f6, m5, m5'⟩, m6, m7⟩ := H
  exact ⟨m1, (hf 0 (by omega)).trans m2, ⟨g, (hf 1 (by omega)).trans m3, m3'⟩, ⟨⟨f1, (hf 2 (by omega)).trans a1, b1⟩, ⟨f2, (hf 3 (by omega)).trans a2, b2⟩, ⟨f3, (hf 4 (by omega)).trans a3, b3⟩, ⟨f4, (hf 5 (by omega)).trans a4, b4⟩, ⟨f5, (hf 6 (by omega)).trans a5, b5⟩⟩, ⟨f6, (hf 7 (by omega)).trans m5, m5'⟩, fun k hk => (m6 k hk).kept (hf _ (by omega)), m7.kept (hf _ (by omega))⟩
/-- out is told the number -/
theorem zCls.out {o : Nat} (H : zCls G h ad S) (hn : ∀ i, i < 20 → o ≠ ad i) (hf : ∀ q, q ≠ o → h' q = h q) : zCls G h' ad S := H.at (fun i hi => hf _ (Ne.symm (hn i hi)))
theorem zQw.ok {o : Nat} {k1 k2 k3 z : Int} {sv : Value} {S' : zSt} {r : zRes} {h1 : zHp} (e : r = (.inl z, S')) (H : zCls G h1 ad S') (hF : zFrm ad h h1) (hn : ∀ i, i < 20 → o ≠ ad i) (p : h' o = some (.inr (zkOut, [zl (zwd z), sv]))) (g : ∀ q, q ≠ o → h' q = h1 q) : zQw G ad o h k1 k2 k3 r (some (zi 0)) h' := by
  subst e
  exact ⟨0, z, sv, rfl, H.out hn g, fun q q1 q2 => (g q q1).trans (hF q q2), p, Or.inl ⟨rfl, rfl⟩⟩
theorem zQw.tw {o : Nat} {k1 k2 k3 k : Int} {z0 : Int} {sv : Value} {S' : zSt} {r : zRes} {E : String} (e : r = (.inr E, S')) (H : zCls G h' ad S') (hF : zFrm ad h h') (p : h o = some (.inr (zkOut, [zl (zwd z0), sv]))) (hn : ∀ i, i < 20 → o ≠ ad i) (hk : (E = zE1 ∧ k = k1) ∨ (E = zE2 ∧ k = k2) ∨ (E = zE3 ∧ k = k3)) : zQw G ad o h k1 k2 k3 r (some (zi k)) h' := by
  subst e
  refine ⟨k, z0, sv, rfl, H, fun q q1 q2 => hF q q2, (hF o hn).trans p, Or.inr ?_⟩
  rcases hk with ⟨rfl, h⟩ | ⟨rfl, h⟩ | ⟨rfl, h⟩
  · exact Or.inl ⟨rfl, h⟩
  · exact Or.inr (Or.inl ⟨rfl, h⟩)
  · exact Or.inr (Or.inr ⟨rfl, h⟩)
end LAW0
