/-! ===== fields, arrays, new cells, calls, ends ===== -/
theorem zRel.mono {G : zG} {h h' : zHp} {H : Heap} (hP : zRel G h H) (hs : ∀ a e, h' a = some e → h a = some e) : zRel G h' H := ⟨hP.1, fun a e q => hP.2 a e (hs a e q)⟩
theorem zRel.lt {G : zG} {h : zHp} {H : Heap} {a : Nat} {e : va_E} (hP : zRel G h H) (ha : h a = some e) : a < H.size := (hP.2 a e ha).2.lt
theorem zRel.ok {G : zG} {h : zHp} {H : Heap} {a : Nat} {e : va_E} (hP : zRel G h H) (ha : h a = some e) : va_P G.1 vwCl [(a, e)] H := by
  intro k q hk
  match k, hk with
  | 0, hk => cases hk; exact (hP.2 a e ha).2
theorem zRel.set {G : zG} {h : zHp} {H H1 : Heap} {a : Nat} {e0 e : va_E} (hP : zRel G h H) (ha : h a = some e0) (he : va_at G.1 vwCl (a, e) H1) (hz : H1.size = H.size) (oq : ∀ q : Nat, q ≠ a → H1[q]? = H[q]?) : zRel G (zup h a (some e)) H1 := by
  refine ⟨by rw [hz]; exact hP.1, fun b x hb => ?_⟩
  unfold zup at hb
  by_cases hab : b = a
  · subst hab
    rw [if_pos rfl] at hb
    cases hb
    exact ⟨(hP.2 _ _ ha).1, he⟩
  · rw [if_neg hab] at hb
    exact ⟨(hP.2 _ _ hb).1, (hP.2 _ _ hb).2.kept (oq b hab)⟩
theorem zRel.push {G : zG} {h : zHp} {H H1 : Heap} {e : va_E} (hP : zRel G h H) (he : va_at G.1 vwCl (H.size, e) H1) (hz : H1.size = H.size + 1) (oq : ∀ q : Nat, q < H.size → H1[q]? = H[q]?) : zRel G (zup h H.size (some e)) H1 := by
  refine ⟨by rw [hz]; exact Nat.le_succ_of_le hP.1, fun b x hb => ?_⟩
  unfold zup at hb
  by_cases hab : b = H.size
  · subst hab
    rw [if_pos rfl] at hb
    cases hb
    exact ⟨hP.1, he⟩
  · rw [if_neg hab] at hb
    exact ⟨(hP.2 _ _ hb).1, (hP.2 _ _ hb).2.kept (oq b (hP.lt hb))⟩
theorem zRel.keep {G : zG} {h : zHp} {H H1 : Heap} (hP : zRel G h H) (hz : H.size ≤ H1.size) (oq : ∀ q : Nat, q < H.size → H1[q]? = H[q]?) : zRel G h H1 :=
  ⟨Nat.le_trans hP.1 hz, fun b x hb => ⟨(hP.2 _ _ hb).1, (hP.2 _ _ hb).2.kept (oq b (hP.lt hb))⟩⟩
theorem va_S.push {G : zG} {H0 H H1 : Heap} {locs : List Loc} (hS : va_S (zA G) H0 H locs) (hz : H1.size = H.size + 1) (oq : ∀ q : Nat, q < H.size → H1[q]? = H[q]?) : va_S (zA G) H0 H1 locs :=
  ⟨Nat.le_trans hS.1 (by omega), fun q h1 h2 => (oq q (Nat.lt_of_lt_of_le h1 hS.1)).trans (hS.2.1 q h1 h2), hS.2.2⟩
/-- all that a class's field rows ask, decided by a program -/
def zFd (ci : Nat) (C : String) (T : u_T) (N : Nat) (ty : Nat → FieldType) : Prop := vwCl[ci]? = some (C, T, N) ∧ (∀ w ∈ u_ws C T N, w ∈ zWS) ∧ (∀ k, k < N → parseFieldDescriptor (T k).2.2.1 = some (ty k)) ∧ (∀ a, a < N → ∀ b, b < N → a ≠ b → (T a).2.1 ≠ (T b).2.1)
section ZC
variable {G : zG} {l : Launch} {J : zJ} {bc bs : Nat} {h : zHp} {pc : Nat} {ls : List (Option Value)} {st : List Value}
theorem z_get {ci : Nat} {C : String} {T : u_T} {N : Nat} {ty : Nat → FieldType} {i a : Nat} {fs : List Value} {v : Value} (k : Nat) (F : zFd ci C T N ty) (hk : k < N) (hw : Cond.fieldLink J.1.1 i (T k).1 (T k).2.1 (T k).2.2.1 ∈ zWS) (hd : decode J.1.2.1 pc = .ok (.getfield i, 3)) (hh : h a = some (.inr (ci, fs))) (hv : fs[k]? = some v)
    (kk : zR G l J bc bs h (pc + 3) ls (v :: st)) : zR G l J bc bs h pc ls (.ref a :: st) := by
  intro p e s m args below meth c H locs cells slots ls0 C0 hP hS hL h1 h2
  obtain ⟨f1, f2, f3, f4⟩ := F
  exact va_get (D := G.1) (ci := ci) (v := v) (C := C) (T := T) (N := N) C0.1 C0.2.1 C0.2.2.2.2.2.2.2.1 f2 C0.2.2.2.2.2.2.1 C0.2.2.2.2.2.2.2.2.2.1.1 (hP.ok hh) 0 rfl f1 k hk (C0.2.2.2.2.2.2.2.1 _ hw) (fun _ h9 => h9) hv hd (kk p e s m args below meth c H locs cells slots ls0 C0 hP hS hL h1 h2)
/-- of a nest mate -/
theorem z_getN {ci : Nat} {C host : String} {T : u_T} {N : Nat} {ty : Nat → FieldType} {i a : Nat} {fs : List Value} {v : Value} (k : Nat) (F : zFd ci C T N ty) (hk : k < N) (hw : Cond.fieldLinkNest J.1.1 i (T k).1 (T k).2.1 (T k).2.2.1 host ∈ zNW) (hd : decode J.1.2.1 pc = .ok (.getfield i, 3)) (hh : h a = some (.inr (ci, fs))) (hv : fs[k]? = some v)
    (kk : zR G l J bc bs h (pc + 3) ls (v :: st)) : zR G l J bc bs h pc ls (.ref a :: st) := by
  intro p e s m args below meth c H locs cells slots ls0 C0 hP hS hL h1 h2
  obtain ⟨f1, f2, f3, f4⟩ := F
  exact va_getN (D := G.1) (ci := ci) (v := v) (C := C) (T := T) (N := N) C0.1 C0.2.1 C0.2.2.2.2.2.2.2.1 f2 C0.2.2.2.2.2.2.1 C0.2.2.2.2.2.2.2.2.2.1.1 (hP.ok hh) 0 rfl f1 k hk (va_Nw.use rfl (C0.2.2.2.2.2.2.2.2.2.1.2.2.1 _ hw)) (fun _ h9 => h9) hv hd (kk p e s m args below meth c H locs cells slots ls0 C0 hP hS hL h1 h2)
/-- an inherited field, spelled by the subclass -/
theorem z_getS {ci : Nat} {C ref : String} {T : u_T} {N : Nat} {ty : Nat → FieldType} {i a : Nat} {fs : List Value} {v : Value} (k : Nat) (F : zFd ci C T N ty) (hk : k < N) (hw : Cond.fieldLink J.1.1 i ref (T k).2.1 (T k).2.2.1 ∈ zWS) (hsm : ref = (T k).1) (hd : decode J.1.2.1 pc = .ok (.getfield i, 3)) (hh : h a = some (.inr (ci, fs))) (hv : fs[k]? = some v)
    (kk : zR G l J bc bs h (pc + 3) ls (v :: st)) : zR G l J bc bs h pc ls (.ref a :: st) := z_get k F hk (by rw [← hsm]; exact hw) hd hh hv kk
theorem zcell_put {G : zG} {s : State} {args : Array Value} {ci : Nat} {C : String} {T : u_T} {N : Nat} {ty : Nat → FieldType} {a k : Nat} {fs : List Value} {v : Value} {H1 : Heap} {cell : Cell} (F : zFd ci C T N ty) (hts : ∀ w ∈ zWS, w.before args s = true) (hK : va_K G.1 vwCl (zTys G) s) (q2 : cell.cls = G.1.1 ci) (q3 : cell.vm = .none) (q4 : ∀ j, j < N → cell.slots[G.1.2 ci j]? = some (vp_V fs j)) (hk : k < N) (hl : k < fs.length) (e1 : H1[a]? = some (cell.setSlot (G.1.2 ci k) v)) (own : String) : va_at G.1 vwCl (a, .inr (ci, fs.set k v)) H1 :=
  ⟨_, F.1, t_OB.to (V := updV (vp_V fs) k v) ⟨_, e1, q2, q3, t_set q4 (va_apart (own := own) hts F.2.1 ty F.2.2.1 F.2.2.2 hK F.1) hk v⟩ (fun j _ => vp_updV_set hl v j)⟩
theorem z_put {ci : Nat} {C : String} {T : u_T} {N : Nat} {ty : Nat → FieldType} {i a : Nat} {fs : List Value} {v : Value} (k : Nat) (F : zFd ci C T N ty) (hk : k < N) (hw : Cond.fieldLink J.1.1 i (T k).1 (T k).2.1 (T k).2.2.1 ∈ zWS) (hfin : (T k).2.2.2 = false) (hd : decode J.1.2.1 pc = .ok (.putfield i, 3)) (hh : h a = some (.inr (ci, fs))) (hl : k < fs.length) (hn : narrow (ty k) v = v) (hf : fits (ty k) v = true)
    (kk : zR G l J bc bs (zup h a (some (.inr (ci, fs.set k v)))) (pc + 3) ls st) : zR G l J bc bs h pc ls (v :: .ref a :: st) := by
  intro p e s m args below meth c H locs cells slots ls0 C0 hP hS hL h1 h2
  have hts := C0.2.2.2.2.2.2.2.1
  have hK := C0.2.2.2.2.2.2.2.2.2.1.1
  have hown := C0.2.2.2.2.2.2.1
  obtain ⟨hba, r, hr1, cell, q1, q2, q3, q4⟩ := hP.2 a _ hh
  have hr : r = (C, T, N) := Option.some.inj (hr1.symm.trans F.1)
  subst hr
  obtain ⟨hS9, hfc, kC, hkC, hkind⟩ := hK.1 ci _ F.1
  obtain ⟨cf, kf, fi, f, hi, hsl⟩ := hS9 k hk
  have hlay := hts _ (F.2.1 _ (u_in_lay hk))
  unfold u_lay at hlay
  rw [if_neg (by rw [hfin]; decide)] at hlay
  have hst := (u_facts hfc hkC (u_lays hts F.2.1 hk) hi).1
  have h6 := u_store hfc hkC hkind hlay hi (F.2.2.1 k hk) hn hf
  refine W.putK C0.1 C0.2.1 (f := f) ⟨hown, hts _ hw, ⟨_, _, _, hi⟩, hst⟩ (by rw [q2]; exact h6) q1 q3 (by rw [hsl]; exact k2_hasslot (q4 k hk)) rfl rfl hd fun H' e1 e2 e3 => ?_
  rw [hsl] at e1 ⊢
  exact kk p e s m args below meth c H' _ cells slots ls0 C0 (hP.set hh (zcell_put F hts hK q2 q3 q4 hk hl e1 J.1.1) e2 e3) (hS.put e2 e3 hba) hL h1 h2
theorem z_putN {ci : Nat} {C host : String} {T : u_T} {N : Nat} {ty : Nat → FieldType} {i a : Nat} {fs : List Value} {v : Value} (k : Nat) (F : zFd ci C T N ty) (hk : k < N) (hw : Cond.fieldLinkNest J.1.1 i (T k).1 (T k).2.1 (T k).2.2.1 host ∈ zNW) (hfin : (T k).2.2.2 = false) (hd : decode J.1.2.1 pc = .ok (.putfield i, 3)) (hh : h a = some (.inr (ci, fs))) (hl : k < fs.length) (hn : narrow (ty k) v = v) (hf : fits (ty k) v = true)
    (kk : zR G l J bc bs (zup h a (some (.inr (ci, fs.set k v)))) (pc + 3) ls st) : zR G l J bc bs h pc ls (v :: .ref a :: st) := by
  intro p e s m args below meth c H locs cells slots ls0 C0 hP hS hL h1 h2
  have hts := C0.2.2.2.2.2.2.2.1
  have hK := C0.2.2.2.2.2.2.2.2.2.1.1
  have hown := C0.2.2.2.2.2.2.1
  obtain ⟨hba, r, hr1, cell, q1, q2, q3, q4⟩ := hP.2 a _ hh
  have hr : r = (C, T, N) := Option.some.inj (hr1.symm.trans F.1)
  subst hr
  obtain ⟨hS9, hfc, kC, hkC, hkind⟩ := hK.1 ci _ F.1
  obtain ⟨cf, kf, fi, f, hi, hsl⟩ := hS9 k hk
  have hlay := hts _ (F.2.1 _ (u_in_lay hk))
  unfold u_lay at hlay
  rw [if_neg (by rw [hfin]; decide)] at hlay
  have hst := (u_facts hfc hkC (u_lays hts F.2.1 hk) hi).1
  have h6 := u_store hfc hkC hkind hlay hi (F.2.2.1 k hk) hn hf
  refine va_WputK C0.1 C0.2.1 (f := f) hown (va_Nw.use rfl (C0.2.2.2.2.2.2.2.2.2.1.2.2.1 _ hw)) hi hst (by rw [q2]; exact h6) q1 q3 (by rw [hsl]; exact k2_hasslot (q4 k hk)) rfl rfl hd fun H' e1 e2 e3 => ?_
  rw [hsl] at e1 ⊢
  exact kk p e s m args below meth c H' _ cells slots ls0 C0 (hP.set hh (zcell_put F hts hK q2 q3 q4 hk hl e1 J.1.1) e2 e3) (hS.put e2 e3 hba) hL h1 h2
/-- a final field, in a constructor -/
theorem z_putF {ci : Nat} {C : String} {T : u_T} {N : Nat} {ty : Nat → FieldType} {i a : Nat} {fs : List Value} {v : Value} (k : Nat) (F : zFd ci C T N ty) (hk : k < N) (hw : Cond.fieldLink J.1.1 i (T k).1 (T k).2.1 (T k).2.2.1 ∈ zWS) (hfin : (T k).2.2.2 = true) (hini : J.1.2.2.2.2.2 = true) (hdecl : (T k).1 = J.1.1) (hd : decode J.1.2.1 pc = .ok (.putfield i, 3)) (hh : h a = some (.inr (ci, fs))) (hl : k < fs.length) (hn : narrow (ty k) v = v) (hf : fits (ty k) v = true)
    (kk : zR G l J bc bs (zup h a (some (.inr (ci, fs.set k v)))) (pc + 3) ls st) : zR G l J bc bs h pc ls (v :: .ref a :: st) := by
  intro p e s m args below meth c H locs cells slots ls0 C0 hP hS hL h1 h2
  have hts := C0.2.2.2.2.2.2.2.1
  have hK := C0.2.2.2.2.2.2.2.2.2.1.1
  have hown := C0.2.2.2.2.2.2.1
  obtain ⟨hba, r, hr1, cell, q1, q2, q3, q4⟩ := hP.2 a _ hh
  have hr : r = (C, T, N) := Option.some.inj (hr1.symm.trans F.1)
  subst hr
  obtain ⟨hS9, hfc, kC, hkC, hkind⟩ := hK.1 ci _ F.1
  obtain ⟨cf, kf, fi, f, hi, hsl⟩ := hS9 k hk
  have hlay := hts _ (F.2.1 _ (u_in_lay hk))
  unfold u_lay at hlay
  rw [if_pos hfin] at hlay
  have hst := (u_facts hfc hkC (u_lays hts F.2.1 hk) hi).1
  have hcf : m.cls = cf := by
    obtain ⟨_, _, c', _, _, _, -, -, hf', -, -, -, hown2, -⟩ := Cond.laysFinal_spec hlay
    have e1 : c' = cf := by have := hi.symm.trans hf'; simp at this; exact this.1.symm
    rw [hdecl] at hown2
    rw [← e1]; exact Option.some.inj (hown.symm.trans hown2)
  have h6 := u_fits hfc hkC hkind (Or.inr hlay) hi (F.2.2.1 k hk) hn hf
  refine W.putFinK C0.1 C0.2.1 hown (hts _ hw) hi hst hcf (C0.2.2.2.2.2.1 hini) (by rw [q2]; exact h6) q1 q3 (by rw [hsl]; exact k2_hasslot (q4 k hk)) rfl rfl hd fun H' e1 e2 e3 => ?_
  rw [hsl] at e1 ⊢
  exact kk p e s m args below meth c H' _ cells slots ls0 C0 (hP.set hh (zcell_put F hts hK q2 q3 q4 hk hl e1 J.1.1) e2 e3) (hS.put e2 e3 hba) hL h1 h2
theorem z_new {ci : Nat} {C : String} {T : u_T} {N : Nat} {ty : Nat → FieldType} {i : Nat} {fs : List Value} (F : zFd ci C T N ty) (hw : Cond.classLink J.1.1 i C ∈ zWS) (hins : Cond.instantiable C N ∈ zWS) (hini : Cond.initialized C ∈ zWS) (hfs : ∀ j, j < N → defaultValue (ty j) = vp_V fs j) (hd : decode J.1.2.1 pc = .ok (.new i, 3)) {bc' bs' : Nat} (hb1 : bc' + 1 ≤ bc) (hb2 : bs' + N ≤ bs)
    (kk : ∀ q : Nat, (∀ a e, h a = some e → a < q) → G.2.2 ≤ q → zR G l J bc' bs' (zup h q (some (.inr (ci, fs)))) (pc + 3) ls (.ref q :: st)) : zR G l J bc bs h pc ls st := by
  intro p e s m args below meth c H locs cells slots ls0 C0 hP hS hL h1 h2
  have hts := C0.2.2.2.2.2.2.2.1
  have hK := C0.2.2.2.2.2.2.2.2.2.1.1
  have hown := C0.2.2.2.2.2.2.1
  have hKn := hK.1 ci _ F.1
  refine W.newcK C0.1 C0.2.1 hown (hts _ hw) (hts _ hins) (hts _ hini) rfl hd (by omega) (by omega) hKn.2.1 rfl fun H1 kC hkC e1 z1 o1 => ?_
  exact kk H.size (fun a e ha => hP.lt ha) hP.1 p e s m args below meth c H1 locs (cells + 1) (slots + N) ls0 C0 (hP.push ⟨_, F.1, (u_born ty hts F.2.1 hKn hkC e1 F.2.2.1).to hfs⟩ z1 o1) (hS.push z1 o1) hL (by omega) (by omega)
theorem z_alen {i : Nat} {ty : FieldType} {n a : Nat} {x : ((Nat → Int32) ⊕ (Nat → Int64) ⊕ (Nat → UInt32) ⊕ (Nat → UInt64) ⊕ (Nat → Option Nat))} (ht : (zTys G)[i]? = some (G.2.1 i, ty)) (hd : decode J.1.2.1 pc = .ok (.arraylength, 1)) (hh : h a = some (.inl (G.2.1 i, n, x)))
    (kk : zR G l J bc bs h (pc + 1) ls (zi (n : Int) :: st)) : zR G l J bc bs h pc ls (.ref a :: st) := by
  intro p e s m args below meth c H locs cells slots ls0 C0 hP hS hL h1 h2
  exact va_alen (D := G.1) C0.1 C0.2.1 C0.2.2.2.2.2.2.2.2.2.1.1 (hP.ok hh) 0 i rfl ht (zI_nat n) hd (kk p e s m args below meth c H locs cells slots ls0 C0 hP hS hL h1 h2)
theorem z_iald {n a : Nat} {g : Nat → Int} {i : Int} (hd : decode J.1.2.1 pc = .ok (.iaload, 1)) (hh : h a = some (zInts G n g)) (hi : 0 ≤ i ∧ i < n ∧ i < 2147483648)
    (kk : zR G l J bc bs h (pc + 1) ls (zi (g i.toNat) :: st)) : zR G l J bc bs h pc ls (zi i :: .ref a :: st) := by
  intro p e s m args below meth c H locs cells slots ls0 C0 hP hS hL h1 h2
  refine va_iald (D := G.1) C0.1 C0.2.1 C0.2.2.2.2.2.2.2.2.2.1.1 (hP.ok hh) 0 0 rfl rfl (zI_in hi.1 hi.2.1 hi.2.2) hd ?_
  rw [zI_clamp hi.1 hi.2.2]
  exact kk p e s m args below meth c H locs cells slots ls0 C0 hP hS hL h1 h2
theorem z_zald {n a : Nat} {g : Nat → Int} {i : Int} (hd : decode J.1.2.1 pc = .ok (.baload, 1)) (hh : h a = some (zBools G n g)) (hi : 0 ≤ i ∧ i < n ∧ i < 2147483648)
    (kk : zR G l J bc bs h (pc + 1) ls (zi (g i.toNat) :: st)) : zR G l J bc bs h pc ls (zi i :: .ref a :: st) := by
  intro p e s m args below meth c H locs cells slots ls0 C0 hP hS hL h1 h2
  refine va_zald (D := G.1) C0.1 C0.2.1 C0.2.2.2.2.2.2.2.2.2.1.1 (hP.ok hh) 0 1 rfl rfl (zI_in hi.1 hi.2.1 hi.2.2) hd ?_
  rw [zI_clamp hi.1 hi.2.2]
  exact kk p e s m args below meth c H locs cells slots ls0 C0 hP hS hL h1 h2
theorem z_bald {n a : Nat} {g : Nat → Int} {i : Int} (hd : decode J.1.2.1 pc = .ok (.baload, 1)) (hh : h a = some (zBytes G n g)) (hi : 0 ≤ i ∧ i < n ∧ i < 2147483648)
    (kk : zR G l J bc bs h (pc + 1) ls (zi (g i.toNat) :: st)) : zR G l J bc bs h pc ls (zi i :: .ref a :: st) := by
  intro p e s m args below meth c H locs cells slots ls0 C0 hP hS hL h1 h2
  refine va_bald (D := G.1) C0.1 C0.2.1 C0.2.2.2.2.2.2.2.2.2.1.1 (hP.ok hh) 0 2 rfl rfl (zI_in hi.1 hi.2.1 hi.2.2) hd ?_
  rw [zI_clamp hi.1 hi.2.2]
  exact kk p e s m args below meth c H locs cells slots ls0 C0 hP hS hL h1 h2
theorem z_lald {n a : Nat} {g : Nat → Int} {i : Int} (hd : decode J.1.2.1 pc = .ok (.laload, 1)) (hh : h a = some (zLongs G n g)) (hi : 0 ≤ i ∧ i < n ∧ i < 2147483648)
    (kk : zR G l J bc bs h (pc + 1) ls (zl (g i.toNat) :: st)) : zR G l J bc bs h pc ls (zi i :: .ref a :: st) := by
  intro p e s m args below meth c H locs cells slots ls0 C0 hP hS hL h1 h2
  refine va_lald (D := G.1) C0.1 C0.2.1 C0.2.2.2.2.2.2.2.2.2.1.1 (hP.ok hh) 0 3 rfl rfl (zI_in hi.1 hi.2.1 hi.2.2) hd ?_
  rw [zI_clamp hi.1 hi.2.2]
  exact kk p e s m args below meth c H locs cells slots ls0 C0 hP hS hL h1 h2
/-- a reference out of an array of references -/
theorem z_aald {t n a : Nat} {ty : FieldType} {g : Nat → Option Nat} {i : Int} (ht : (zTys G)[t]? = some (G.2.1 t, ty)) (hty : ty.isReference = true) (hd : decode J.1.2.1 pc = .ok (.aaload, 1)) (hh : h a = some (zRefs G t n g)) (hi : 0 ≤ i ∧ i < n ∧ i < 2147483648)
    (kk : zR G l J bc bs h (pc + 1) ls (va_rf (g i.toNat) :: st)) : zR G l J bc bs h pc ls (zi i :: .ref a :: st) := by
  intro p e s m args below meth c H locs cells slots ls0 C0 hP hS hL h1 h2
  have hin := zI_in hi.1 hi.2.1 hi.2.2
  have hlt : (zI i).toNatClampNeg < n := Nat.not_le.mp fun q => hin (Or.inr q)
  have ha := (hP.2 a _ hh).2
  have hA := (C0.2.2.2.2.2.2.2.2.2.1.1.2 t _ ht).1
  refine W.aald (v := va_rf (g i.toNat)) (ty := ty) C0.1 C0.2.1 ha (hA n (fun j => va_rf (g j))) hty (fun q => by cases q) (by show ¬ (zI i < 0 ∨ (arrV _ _ _).slots.size ≤ _); rw [arrV_size]; exact hin) (by show (arrV _ _ _).slots[_]? = _; rw [arrV_read _ _ hlt, zI_clamp hi.1 hi.2.2]) rfl rfl hd ?_
  exact kk p e s m args below meth c H locs cells slots ls0 C0 hP hS hL h1 h2
theorem z_iast {n a : Nat} {g : Nat → Int} {i x : Int} (hd : decode J.1.2.1 pc = .ok (.iastore, 1)) (hh : h a = some (zInts G n g)) (hi : 0 ≤ i ∧ i < n ∧ i < 2147483648)
    (kk : zR G l J bc bs (zup h a (some (zInts G n (zup g i.toNat x)))) (pc + 1) ls st) : zR G l J bc bs h pc ls (zi x :: zi i :: .ref a :: st) := by
  intro p e s m args below meth c H locs cells slots ls0 C0 hP hS hL h1 h2
  have hin := zI_in hi.1 hi.2.1 hi.2.2
  obtain ⟨hba, ha⟩ := hP.2 a _ hh
  refine W.iast C0.1 C0.2.1 ha ((C0.2.2.2.2.2.2.2.2.2.1.1.2 0 _ rfl).1 n (fun j => .int (zI (g j)))) (fun q => by cases q) (by show ¬ (zI i < 0 ∨ (arrV _ _ _).slots.size ≤ _); rw [arrV_size]; exact hin) rfl rfl hd fun H1 e9 z oq => ?_
  refine kk p e s m args below meth c H1 _ cells slots ls0 C0 (hP.set hh ?_ z oq) (hS.put z oq hba) hL h1 h2
  show H1[a]? = some (vp_cell _ _)
  rw [e9]
  show some ((vp_cell _ _).setSlot _ _) = _
  rw [vp_cell_i, vp_cell_i, arrV_store, zI_clamp hi.1 hi.2.2]
  congr 2
  funext q
  by_cases hq : q = i.toNat
  · simp [updV, zup, hq]
  · simp [updV, zup, hq]
theorem z_zast {n a : Nat} {g : Nat → Int} {i x : Int} (hx : vp_nar .boolean (zI x) = zI x) (hd : decode J.1.2.1 pc = .ok (.bastore, 1)) (hh : h a = some (zBools G n g)) (hi : 0 ≤ i ∧ i < n ∧ i < 2147483648)
    (kk : zR G l J bc bs (zup h a (some (zBools G n (zup g i.toNat x)))) (pc + 1) ls st) : zR G l J bc bs h pc ls (zi x :: zi i :: .ref a :: st) := by
  intro p e s m args below meth c H locs cells slots ls0 C0 hP hS hL h1 h2
  have hin := zI_in hi.1 hi.2.1 hi.2.2
  obtain ⟨hba, ha⟩ := hP.2 a _ hh
  refine W.zast C0.1 C0.2.1 ha ((C0.2.2.2.2.2.2.2.2.2.1.1.2 1 _ rfl).1 n (fun j => .int (zI (g j)))) (fun q => by cases q) (by show ¬ (zI i < 0 ∨ (arrV _ _ _).slots.size ≤ _); rw [arrV_size]; exact hin) rfl rfl hd fun H1 e9 z oq => ?_
  refine kk p e s m args below meth c H1 _ cells slots ls0 C0 (hP.set hh ?_ z oq) (hS.put z oq hba) hL h1 h2
  show H1[a]? = some (vp_cell _ _)
  rw [e9]
  have hx2 : narrow .boolean (.int (zI x)) = .int (zI x) := by
    have h9 : narrow .boolean (.int (zI x)) = .int (vp_nar .boolean (zI x)) := rfl
    rw [h9, hx]
  show some ((vp_cell _ _).setSlot _ _) = _
  rw [hx2, vp_cell_i, vp_cell_i, arrV_store, zI_clamp hi.1 hi.2.2]
  congr 2
  funext q
  by_cases hq : q = i.toNat
  · simp [updV, zup, hq]
  · simp [updV, zup, hq]
theorem z_bast {n a : Nat} {g : Nat → Int} {i x : Int} (y : Int) (hx : (zI x).toInt8.toInt32 = zI y) (hd : decode J.1.2.1 pc = .ok (.bastore, 1)) (hh : h a = some (zBytes G n g)) (hi : 0 ≤ i ∧ i < n ∧ i < 2147483648)
    (kk : zR G l J bc bs (zup h a (some (zBytes G n (zup g i.toNat y)))) (pc + 1) ls st) : zR G l J bc bs h pc ls (zi x :: zi i :: .ref a :: st) := by
  intro p e s m args below meth c H locs cells slots ls0 C0 hP hS hL h1 h2
  have hin := zI_in hi.1 hi.2.1 hi.2.2
  obtain ⟨hba, ha⟩ := hP.2 a _ hh
  refine W.bast C0.1 C0.2.1 ha ((C0.2.2.2.2.2.2.2.2.2.1.1.2 2 _ rfl).1 n (fun j => .int (zI (g j)))) (fun q => by cases q) (by show ¬ (zI i < 0 ∨ (arrV _ _ _).slots.size ≤ _); rw [arrV_size]; exact hin) rfl rfl hd fun H1 e9 z oq => ?_
  refine kk p e s m args below meth c H1 _ cells slots ls0 C0 (hP.set hh ?_ z oq) (hS.put z oq hba) hL h1 h2
  show H1[a]? = some (vp_cell _ _)
  rw [e9]
  have hx2 : narrow .byte (.int (zI x)) = .int (zI y) := by rw [narrow_byte, hx]
  show some ((vp_cell _ _).setSlot _ _) = _
  rw [hx2, vp_cell_i, vp_cell_i, arrV_store, zI_clamp hi.1 hi.2.2]
  congr 2
  funext q
  by_cases hq : q = i.toNat
  · simp [updV, zup, hq]
  · simp [updV, zup, hq]
theorem z_last {n a : Nat} {g : Nat → Int} {i x : Int} (hd : decode J.1.2.1 pc = .ok (.lastore, 1)) (hh : h a = some (zLongs G n g)) (hi : 0 ≤ i ∧ i < n ∧ i < 2147483648)
    (kk : zR G l J bc bs (zup h a (some (zLongs G n (zup g i.toNat x)))) (pc + 1) ls st) : zR G l J bc bs h pc ls (zl x :: zi i :: .ref a :: st) := by
  intro p e s m args below meth c H locs cells slots ls0 C0 hP hS hL h1 h2
  have hin := zI_in hi.1 hi.2.1 hi.2.2
  obtain ⟨hba, ha⟩ := hP.2 a _ hh
  refine W.last C0.1 C0.2.1 ha ((C0.2.2.2.2.2.2.2.2.2.1.1.2 3 _ rfl).1 n (fun j => .long (zL (g j)))) (fun q => by cases q) (by show ¬ (zI i < 0 ∨ (arrV _ _ _).slots.size ≤ _); rw [arrV_size]; exact hin) rfl rfl hd fun H1 e9 z oq => ?_
  refine kk p e s m args below meth c H1 _ cells slots ls0 C0 (hP.set hh ?_ z oq) (hS.put z oq hba) hL h1 h2
  show H1[a]? = some (vp_cell _ _)
  rw [e9]
  show some ((vp_cell _ _).setSlot _ _) = _
  rw [vp_cell_l, vp_cell_l, arrV_store, zI_clamp hi.1 hi.2.2]
  congr 2
  funext q
  by_cases hq : q = i.toNat
  · simp [updV, zup, hq]
  · simp [updV, zup, hq]
/-- an array of ints into an array of such -/
theorem z_aastI {n a v n2 : Nat} {g : Nat → Option Nat} {g2 : Nat → Int} {i : Int} (hd : decode J.1.2.1 pc = .ok (.aastore, 1)) (hh : h a = some (zRefs G 4 n g)) (hv : h v = some (zInts G n2 g2)) (hi : 0 ≤ i ∧ i < n ∧ i < 2147483648)
    (kk : zR G l J bc bs (zup h a (some (zRefs G 4 n (zup g i.toNat (some v))))) (pc + 1) ls st) : zR G l J bc bs h pc ls (.ref v :: zi i :: .ref a :: st) := by
  intro p e s m args below meth c H locs cells slots ls0 C0 hP hS hL h1 h2
  have hin := zI_in hi.1 hi.2.1 hi.2.2
  have hlt : (zI i).toNatClampNeg < n := Nat.not_le.mp fun q => hin (Or.inr q)
  have h0 : ¬ zI i < 0 := fun q => hin (Or.inl q)
  obtain ⟨hba, ha⟩ := hP.2 a _ hh
  obtain ⟨-, hv9⟩ := hP.2 v _ hv
  obtain ⟨kA, kI, cI, k1, k2, k3, k4⟩ := C0.2.2.2.2.2.2.2.2.2.1.2.1
  refine W.aast C0.1 C0.2.1 ha (fun q h => by cases h) (fun h => by cases h) k1 k2 rfl k3 ⟨h0, by show _ < (arrV _ _ _).slots.size; rw [arrV_size]; exact hlt⟩ hv9 (fun q h => by cases h) k3 (va_asg _ _) rfl rfl hd fun H1 e9 z oq => ?_
  refine kk p e s m args below meth c H1 _ cells slots ls0 C0 (hP.set hh ?_ z oq) (hS.put z oq hba) hL h1 h2
  show H1[a]? = some (vp_cell _ _)
  rw [e9]
  show some ((vp_cell _ _).setSlot _ _) = _
  rw [vp_cell_q, vp_cell_q, arrV_store, zI_clamp hi.1 hi.2.2]
  congr 2
  funext q
  by_cases hq : q = i.toNat
  · simp [updV, zup, hq, va_rf]
  · simp [updV, zup, hq]
/-- an object into an array of its class -/
theorem z_aastO {t n a v ci : Nat} {C : String} {T : u_T} {N : Nat} {g : Nat → Option Nat} {vs : List Value} {i : Int} (ht : (zTys G)[t]? = some (G.2.1 t, .object C)) (hc : vwCl[ci]? = some (C, T, N)) (hd : decode J.1.2.1 pc = .ok (.aastore, 1)) (hh : h a = some (zRefs G t n g)) (hv : h v = some (.inr (ci, vs))) (hi : 0 ≤ i ∧ i < n ∧ i < 2147483648)
    (kk : zR G l J bc bs (zup h a (some (zRefs G t n (zup g i.toNat (some v))))) (pc + 1) ls st) : zR G l J bc bs h pc ls (.ref v :: zi i :: .ref a :: st) := by
  intro p e s m args below meth c H locs cells slots ls0 C0 hP hS hL h1 h2
  have hin := zI_in hi.1 hi.2.1 hi.2.2
  have hlt : (zI i).toNatClampNeg < n := Nat.not_le.mp fun q => hin (Or.inr q)
  have h0 : ¬ zI i < 0 := fun q => hin (Or.inl q)
  obtain ⟨hba, ha⟩ := hP.2 a _ hh
  obtain ⟨-, r', hr', cellV, g1, g2, g3, -⟩ := hP.2 v _ hv
  have hK := C0.2.2.2.2.2.2.2.2.2.1.1
  have hcls := (hK.1 ci _ hc).2
  obtain ⟨kA, comp, k1, k2, k3, -⟩ := (hK.2 t _ ht).2
  have hcomp : comp = G.1.1 ci := Option.some.inj (k3.symm.trans hcls.1)
  subst hcomp
  obtain ⟨kC, hkC, -⟩ := hcls.2
  refine W.aast C0.1 C0.2.1 ha (fun q h => by cases h) (fun h => by cases h) k1 k2 rfl hkC ⟨h0, by show _ < (arrV _ _ _).slots.size; rw [arrV_size]; exact hlt⟩ g1 (fun q h => by rw [g3] at h; cases h) (by rw [g2]; exact hkC) (by rw [g2]; exact va_asg _ _) rfl rfl hd fun H1 e9 z oq => ?_
  refine kk p e s m args below meth c H1 _ cells slots ls0 C0 (hP.set hh ?_ z oq) (hS.put z oq hba) hL h1 h2
  show H1[a]? = some (vp_cell _ _)
  rw [e9]
  show some ((vp_cell _ _).setSlot _ _) = _
  rw [vp_cell_q, vp_cell_q, arrV_store, zI_clamp hi.1 hi.2.2]
  congr 2
  funext q
  by_cases hq : q = i.toNat
  · simp [updV, zup, hq, va_rf]
  · simp [updV, zup, hq]
/-- a new array of numbers -/
theorem z_newa {at9 : ArrayType} {t : Nat} {ty : FieldType} {n : Int} {x : ((Nat → Int32) ⊕ (Nat → Int64) ⊕ (Nat → UInt32) ⊕ (Nat → UInt64) ⊕ (Nat → Option Nat))} (hty : newarray.typeOf at9 = ty) (hnr : match ty with | .object _ => False | _ => True) (ht : (zTys G)[t]? = some (G.2.1 t, ty)) (hw : Cond.arrayClass ty ∈ zWS) (hx : ∀ cA : ClassId, vp_cell cA (n.toNat, x) = arrV cA n.toNat (fun _ => defaultValue ty)) (hn : 0 ≤ n ∧ n.toNat * componentBytes ty ≤ 536870912 ∧ n < 2147483648) (hd : decode J.1.2.1 pc = .ok (.newarray at9, 2)) {bc' bs' : Nat} (hb1 : bc' + 1 ≤ bc) (hb2 : bs' + n.toNat ≤ bs)
    (kk : ∀ q : Nat, (∀ a e, h a = some e → a < q) → G.2.2 ≤ q → zR G l J bc' bs' (zup h q (some (.inl (G.2.1 t, n.toNat, x)))) (pc + 2) ls (.ref q :: st)) : zR G l J bc bs h pc ls (zi n :: st) := by
  subst hty
  intro p e s m args below meth c H locs cells slots ls0 C0 hP hS hL h1 h2
  have hn0 : ¬ zI n < 0 := by
    rw [Int32.lt_iff_toInt_lt, zI_toInt (by omega), Int32.toInt_zero]
    omega
  refine va_newaK C0.1 C0.2.1 (C0.2.2.2.2.2.2.2.1 _ hw) rfl hd rfl hn0 (zI_clamp hn.1 hn.2.2) hn.2.1 (by omega) (by omega) rfl fun H1 cA e1 z1 o1 hAr hNm => ?_
  have hR := (C0.2.2.2.2.2.2.2.2.2.1.1.2 t _ ht).2
  have hcA : cA = G.2.1 t := by
    have h9 : s.vm.findClass ("[" ++ (newarray.typeOf at9).toString) = some (G.2.1 t) := by
      cases at9 <;> exact hR
    exact Option.some.inj (hNm.symm.trans h9)
  subst hcA
  refine kk H.size (fun a e ha => hP.lt ha) hP.1 p e s m args below meth c H1 locs (cells + 1) (slots + n.toNat) ls0 C0 (hP.push ?_ z1 o1) (hS.push z1 o1) hL (by omega) (by omega)
  show H1[H.size]? = some (vp_cell _ _)
  rw [hx]
  exact e1
/-- a new array of references to objects -/
theorem z_newq {t i : Nat} {C : String} {n : Int} (ht : (zTys G)[t]? = some (G.2.1 t, .object C)) (hAO : ∀ U H, zS G U H → va_AO C U) (hw : Cond.classLink J.1.1 i C ∈ zWS) (hn : 0 ≤ n ∧ n.toNat * 4 ≤ 536870912 ∧ n < 2147483648) (hd : decode J.1.2.1 pc = .ok (.anewarray i, 3)) {bc' bs' : Nat} (hb1 : bc' + 1 ≤ bc) (hb2 : bs' + n.toNat ≤ bs)
    (kk : ∀ q : Nat, (∀ a e, h a = some e → a < q) → G.2.2 ≤ q → zR G l J bc' bs' (zup h q (some (zRefs G t n.toNat (fun _ => none)))) (pc + 3) ls (.ref q :: st)) : zR G l J bc bs h pc ls (zi n :: st) := by
  intro p e s m args below meth c H locs cells slots ls0 C0 hP hS hL h1 h2
  have hn0 : ¬ zI n < 0 := by
    rw [Int32.lt_iff_toInt_lt, zI_toInt (by omega), Int32.toInt_zero]
    omega
  have hc9 := zI_clamp hn.1 hn.2.2
  refine W.anew C0.1 C0.2.1 C0.2.2.2.2.2.2.1 (C0.2.2.2.2.2.2.2.1 _ hw) (va_AO.use (hAO _ _ C0.2.2.2.2.2.2.2.2.2.1)) rfl hd rfl hn0 (by rw [hc9]; exact hn.2.1) (by omega) (by rw [hc9]; omega) fun cA kA comp f1 f2 f3 f4 => ?_
  rw [hc9]
  generalize hH1 : H.push ({ cls := cA, slots := Array.replicate n.toNat .null, vm := .none } : Cell) = H1
  have z1 : H1.size = H.size + 1 := by rw [← hH1, Array.size_push]
  have e1 : H1[H.size]? = some (arrV cA n.toNat (fun _ => .null)) := by rw [← hH1, Array.getElem?_push_size, ← arrV_new]
  have o1 : ∀ q : Nat, q < H.size → H1[q]? = H[q]? := fun q hq => by rw [← hH1, Array.getElem?_push, if_neg (Nat.ne_of_lt hq)]
  obtain ⟨kA2, comp2, -, -, -, hR⟩ := (C0.2.2.2.2.2.2.2.2.2.1.1.2 t _ ht).2
  have hcA : cA = G.2.1 t := by first | exact Option.some.inj (f1.symm.trans hR) | exact Option.some.inj (f4.symm.trans hR)
  subst hcA
  refine kk H.size (fun a e ha => hP.lt ha) hP.1 p e s m args below meth c H1 locs (cells + 1) (slots + n.toNat) ls0 C0 (hP.push ?_ z1 o1) (hS.push z1 o1) hL (by omega) (by omega)
  show H1[H.size]? = some (vp_cell _ _)
  rw [vp_cell_q]
  exact e1
end ZC
