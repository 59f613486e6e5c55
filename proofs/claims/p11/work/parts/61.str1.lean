section STR1
variable {G : zG} {l : Launch} {h h' : zHp} {J : zJ} {bc bs pc : Nat} {ls : List (Option Value)} {st : List Value}
/-- System.arraycopy of bytes -/
theorem z_copyG {i a0 a n0 n1 : Nat} {f g : Nat → Int} {sp dp n : Nat} (hw : Cond.methodLink J.1.1 i arraycopyName ∈ zWS) (hd : decode J.1.2.1 pc = .ok (.invokestatic i, 3))
    (hsrc : ∀ (s : State) (H : Heap) (locs : List Loc), zS G s s.heap → zRel G h H → va_S (zA G) s.heap H locs → ∃ scr : Cell, H[a0]? = some scr ∧ s.isArrayOf scr .byte ∧ scr.vm ≠ .unknown ∧ n0 ≤ scr.slots.size ∧ ∀ j : Nat, j < n0 → scr.slots[j]? = some (zi (f j)))
    (ha : h a = some (zBytes G n1 g)) (hs : sp + n ≤ n0) (hdp : dp + n ≤ n1) (hlim : n0 < 2147483648 ∧ n1 < 2147483648) (hfit : ∀ j : Nat, j < n → fits .byte (zi (f (sp + j))) = true) (hfr : 1 ≤ J.2.1.frames) (hlo : (st.map fun v => v.category).sum + (nativeFrameWords "java/lang/System" "arraycopy" 5 + 11) ≤ J.2.1.locals)
    (kk : zR G l J bc bs (zup h a (some (zBytes G n1 (va_cpy f g sp dp n)))) (pc + 3) ls st) : zR G l J bc bs h pc ls (zi (n : Int) :: zi (dp : Int) :: .ref a :: zi (sp : Int) :: .ref a0 :: st) := by
  intro p e s m args below meth c H locs cells slots ls0 C0 hP hS hL g1 g2
  have hts := C0.2.2.2.2.2.2.2.1
  have hK := C0.2.2.2.2.2.2.2.2.2.1.1
  have hb := C0.2.1
  have hml : c.maxLocals = ls0.size := (hL.1.trans C0.2.2.1.symm).symm
  have cl : ∀ k : Nat, k < 2147483648 → (zI (k : Int)).toNatClampNeg = k := fun k hk => by rw [zI_clamp (by omega) (by omega), Int.toNat_natCast]
  have ng : ∀ k : Nat, k < 2147483648 → ¬ zI (k : Int) < 0 := fun k hk q => by
    rw [Int32.lt_iff_toInt_lt, zI_toInt (by omega), Int32.toInt_zero] at q
    omega
  have ti : ∀ k : Nat, k < 2147483648 → (zI (k : Int)).toInt = (k : Int) := fun k hk => zI_toInt (by omega)
  obtain ⟨hba, hc1⟩ := hP.2 a _ ha
  have hc1 : H[a]? = some (vp_cell (G.2.1 2) (n1, .inl (fun j => zI (g j)))) := hc1
  intro T hT X
  obtain ⟨scr, hc0, hs2, hs3, hs4, hs5⟩ := hsrc s H locs C0.2.2.2.2.2.2.2.2.2.1 hP hS
  obtain ⟨hs6, k0, hk0, cm0, hkk0⟩ := hs2
  obtain ⟨-, k1, hk1, cm1, hkk1⟩ := (hK.2 2 _ rfl).1 n1 (fun j => .int (zI (g j)))
  obtain ⟨vm', X', step⟩ := X.arraycopy C0.1 C0.2.2.2.2.2.2.1 (hts _ hw) (hts _ ws_acn) (hts _ ws_acs) (hts _ ws_sys) (src := a0) (dst := a) (cs := scr) (cd := vp_cell (G.2.1 2) (n1, .inl (fun j => zI (g j)))) (srcPos := zI sp) (destPos := zI dp) (n := zI n) (by rw [hT]; exact hc0) (by rw [hT]; exact hc1)
    hs6 (fun _ h => by cases h) hs3 (fun h => by cases h) hk0 hk1 hkk0 hkk1 (by simp [refKind]) (ng sp (by omega)) (ng dp (by omega)) (ng n (by omega))
    (by rw [ti sp (by omega), ti n (by omega)]; omega)
    (by rw [ti dp (by omega), ti n (by omega)]; show ¬ _ > ((arrV (G.2.1 2) n1 (fun j => .int (zI (g j)))).slots.size : Int); rw [arrV_size]; omega)
    (fun vm₁ _ i hi => by
      rw [cl n (by omega)] at hi
      rw [cl sp (by omega)]
      have e : scr.slots.getD (sp + i) .null = zi (f (sp + i)) := by
        rw [Array.getD_eq_getD_getElem?, hs5 _ (by omega)]
        rfl
      refine ⟨?_, ?_⟩
      · rw [e]
        exact hfit i hi
      · rw [e]
        exact trivial)
    (g := F0 m pc ls0 (zi (n : Int) :: zi (dp : Int) :: .ref a :: zi (sp : Int) :: .ref a0 :: st)) rfl (by rw [hml]) (rest := st) rfl (by rw [hb]; exact hd) hfr (by show 2 * 0 + _ + _ ≤ _; omega)
  have e1 : copied scr (vp_cell (G.2.1 2) (n1, .inl (fun j => zI (g j)))) (zI sp) (zI dp) (zI n) = vp_cell (G.2.1 2) (n1, .inl (fun j => zI (va_cpy f g sp dp n j))) := by
    have e2 := va_copiedX (fun z => .int z) scr (G.2.1 2) (n0 := n0) (n1 := n1) (sp := sp) (dp := dp) (n := n) (fun j => zI (f j)) (fun j => zI (g j)) hs5 hs
    have e3 : copied scr (vp_cell (G.2.1 2) (n1, .inl (fun j => zI (g j)))) (zI sp) (zI dp) (zI n) = vp_cell (G.2.1 2) (n1, .inl (va_cpy (fun j => zI (f j)) (fun j => zI (g j)) sp dp n)) := by
      unfold copied
      rw [cl sp (by omega), cl dp (by omega), cl n (by omega)]
      exact e2
    rw [e3]
    congr 3
    funext j
    unfold va_cpy
    split <;> rfl
  rw [e1] at X' step
  generalize hce : vp_cell (G.2.1 2) (n1, .inl (fun j => zI (va_cpy f g sp dp n j))) = ce at X' step
  have hl : a < H.size := (Array.getElem?_eq_some_iff.mp hc1).1
  have hheap : ((T.setVm vm').setCell a ce).heap = H.setIfInBounds a ce := by rw [← hT]; rfl
  have oq : ∀ q : Nat, q ≠ a → (H.setIfInBounds a ce)[q]? = H[q]? := fun q hq => by simp [Array.getElem?_setIfInBounds, Ne.symm hq]
  obtain ⟨t, a1, b1⟩ := kk p e s m args below meth c (H.setIfInBounds a ce) _ cells slots ls0 C0 (hP.set ha (show (H.setIfInBounds a ce)[a]? = some _ by rw [← hce]; simp [Array.getElem?_setIfInBounds, hl]) (by simp) oq) ⟨by simp; exact hS.1, fun q x1 x2 => by
      rw [oq q (fun e => x2 (by rw [e]; exact hba))]
      exact hS.2.1 q x1 x2, fun q hq => by
      rcases List.mem_append.mp hq with h | h
      · exact hS.2.2 q h
      · obtain ⟨z, -, hz⟩ := List.mem_map.mp h
        rw [← hz]
        exact hba⟩ hL g1 g2 _ hheap X'
  exact ⟨t, step t a1, b1⟩
theorem z_copyb {i a0 a n0 n1 : Nat} {f g : Nat → Int} {sp dp n : Nat} (hw : Cond.methodLink J.1.1 i arraycopyName ∈ zWS) (hd : decode J.1.2.1 pc = .ok (.invokestatic i, 3))
    (h0 : h a0 = some (zBytes G n0 f)) (ha : h a = some (zBytes G n1 g)) (hs : sp + n ≤ n0) (hdp : dp + n ≤ n1) (hlim : n0 < 2147483648 ∧ n1 < 2147483648) (hfit : zFit f) (hfr : 1 ≤ J.2.1.frames) (hlo : (st.map fun v => v.category).sum + (nativeFrameWords "java/lang/System" "arraycopy" 5 + 11) ≤ J.2.1.locals)
    (kk : zR G l J bc bs (zup h a (some (zBytes G n1 (va_cpy f g sp dp n)))) (pc + 3) ls st) : zR G l J bc bs h pc ls (zi (n : Int) :: zi (dp : Int) :: .ref a :: zi (sp : Int) :: .ref a0 :: st) := by
  refine z_copyG hw hd (fun s H locs hZ hP hS => ?_) ha hs hdp hlim (fun j _ => hfit _) hfr hlo kk
  have hc0 : H[a0]? = some (vp_cell (G.2.1 2) (n0, .inl (fun j => zI (f j)))) := (hP.2 a0 _ h0).2
  refine ⟨_, hc0, (hZ.1.2 2 _ rfl).1 n0 (fun j => .int (zI (f j))), (fun h => by cases h), ?_, fun j hj => ?_⟩
  · show n0 ≤ (arrV (G.2.1 2) n0 (fun j => .int (zI (f j)))).slots.size
    rw [arrV_size]
    exact Nat.le_refl _
  · exact arrV_read _ _ hj
theorem z_copyO {b : Bool} {i a n1 : Nat} {g : Nat → Int} {dp : Nat} (hw : Cond.methodLink J.1.1 i arraycopyName ∈ zWS) (hd : decode J.1.2.1 pc = .ok (.invokestatic i, 3))
    (ha : h a = some (zBytes G n1 g)) (hdp : dp + (if b then 0 else 1) ≤ n1) (hlim : n1 < 2147483648) (hg : zFit g) (hfr : 1 ≤ J.2.1.frames) (hlo : (st.map fun v => v.category).sum + (nativeFrameWords "java/lang/System" "arraycopy" 5 + 11) ≤ J.2.1.locals)
    (kk : ∀ g', zFit g' → zR G l J bc bs (zup h a (some (zBytes G n1 g'))) (pc + 3) ls st) : zR G l J bc bs h pc ls (zi (((if b then 0 else 1) : Nat) : Int) :: zi (dp : Int) :: .ref a :: zi (0 : Int) :: .ref (G.2.1 (if b then 8 else 10)) :: st) := by
  have k9 := kk (va_cpy (fun _ => 32) g 0 dp (if b then 0 else 1)) (zFit_cpy (fun _ => rfl) hg)
  refine z_copyG (n0 := if b then 0 else 1) (f := fun _ => 32) (sp := 0) hw hd (fun s H locs hZ hP hS => ?_) ha (by omega) hdp ⟨by split <;> omega, hlim⟩ (fun j _ => rfl) hfr hlo k9
  obtain ⟨f, ⟨scr, hs1, hs2, hs3, hs4, -, hs5, hs7⟩, hf⟩ := zOt b _ _ hZ
  refine ⟨scr, by rw [hS.2.1 _ (Array.getElem?_eq_some_iff.mp hs1).1 hs7]; exact hs1, hs2, hs3, hs4, fun j hj => ?_⟩
  rw [hs5 j hj]
  show some (Value.int (f j)) = _
  rw [hf j hj]
  rfl
/-- a call on a receiver of another class than the method's -/
theorem z_callC {d mc ms i b n : Nat} {y : MethodName} {hd' : zHd} {As rest : List Value} {Qn : Option Value → zHp → Prop} {Qx : String → zHp → Prop} {ci N : Nat} {C : String} {T : u_T} {fs : List Value} {bc' bs' : Nat} (M : zMe y hd' n) (hin : Cond.instanceMethod y ∈ zWS) (hse : ∀ (args : Array Value) (s : State), zS G s s.heap → (∀ w ∈ zWS, w.before args s = true) → (Cond.selects C y y).before args s = true) (hw : Cond.methodLink J.1.1 i y ∈ zWS) (hd : decode J.1.2.1 pc = .ok (.invokevirtual i, 3)) (hM : zM G l hd' y d (.ref b :: As) h Qn Qx mc ms) (hst : st = As.reverse ++ .ref b :: rest)
    (hn : As.length = n) (hcat : (rest.map fun v => v.category).sum ≤ 8) (hc : vwCl[ci]? = some (C, T, N)) (hb : h b = some (.inr (ci, fs))) (hfr : d + 1 ≤ J.2.1.frames) (hlo : d * 64 + 64 ≤ J.2.1.locals) (hb1 : mc + bc' ≤ bc) (hb2 : ms + bs' ≤ bs)
    (kx : ∀ E h', Qx E h' → zT G l J bc' bs' h' E pc ls) (kk : ∀ v h', Qn v h' → zR G l J bc' bs' h' (pc + 3) ls (v.toList ++ rest)) : zR G l J bc bs h pc ls st := by
  intro p e s m args below meth c H locs cells slots ls0 C0 hP hS hL h1 h2
  have hts := C0.2.2.2.2.2.2.2.1
  have hK := C0.2.2.2.2.2.2.2.2.2.1.1
  refine z_after C0 hP hS hL h1 h2 hb1 hb2 (vx_runV (C := C) (As := As) (rest := rest) (Ts := zWS) ⟨C0.1, C0.2.1, rfl, C0.2.2.2.2.2.2.1, hts⟩ (hM C0.2.2.2.2.2.2.2.2.2.2.1) ⟨callB_of n hts (zgoodIn (ws := [] ++ _) (fun _ h => h) (zw M (fun w hw9 => nomatch hw9))) rfl rfl rfl (hts _ M.1) (hts _ hw) M.2.2.1 ⟨hfr, by have := M.2.2.2; show 8 + (_ + 11) + d * 64 ≤ _; omega⟩, hts _ hin, hse args s C0.2.2.2.2.2.2.2.2.2.1 hts⟩ ⟨zPc_blind, va_recv hK (hP.ok hb) hc (q0 := 0) rfl, fun U hU hW => zPc_pre C0.2.2.2.2.2.2.2.2.2.1 hP hS U hU hW⟩ rfl hn (hL.1.trans C0.2.2.1.symm) hst (lv_room hcat) hd ⟨by show cells + mc ≤ _; omega, by show slots + ms ≤ _; omega⟩) kx kk
end STR1
