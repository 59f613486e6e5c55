section
theorem wl_zE1 : Cond.classLink RLaw 19 zE1 ∈ zWS := (zin_of zc3 (i := 220) rfl rfl)
theorem wk_zE1 : Cond.castable zE1 zE1 ∈ zNW := (zinN_of zc3 (i := 166) rfl rfl)
theorem wl_zE2 : Cond.classLink RLaw 21 zE2 ∈ zWS := (zin_of zc3 (i := 221) rfl rfl)
theorem wk_zE2 : Cond.castable zE2 zE2 ∈ zNW := (zinN_of zc2 (i := 115) rfl rfl)
theorem wl_zE3 : Cond.classLink RLaw 115 zE3 ∈ zWS := (zin_of zc4 (i := 234) rfl rfl)
theorem wk_zE3 : Cond.castable zE3 zE3 ∈ zNW := (zinN_of zc5 (i := 4) rfl rfl)
section LAW0
variable {G : zG} {l : Launch} {h h' h0 : zHp} {ad ma : Nat → Nat} {S : zSt} {th : Int}
variable {J : zJ} {bc bs pc : Nat} {ls : List (Option Value)} {st : List Value}
/-- a call of a static method with handlers -/
theorem z_callSX {d mc ms i n : Nat} {y : MethodName} {hd' : zHd} {As rest : List Value} {Qn : Option Value → zHp → Prop} {Qx : String → zHp → Prop} {bc' bs' : Nat} (M : zMSW y hd' n) (hw : Cond.methodLink J.1.1 i y ∈ zWS) (hd : decode J.1.2.1 pc = .ok (.invokestatic i, 3)) (hM : zMW G l hd' y d As h Qn Qx mc ms) (hst : st = As.reverse ++ rest)
    (hn : As.length = n) (hcat : (rest.map fun v => v.category).sum ≤ 8) (hfr : d + 1 ≤ J.2.1.frames) (hlo : d * 64 + 64 ≤ J.2.1.locals) (hb1 : mc + bc' ≤ bc) (hb2 : ms + bs' ≤ bs)
    (kx : ∀ E h', Qx E h' → zT G l J bc' bs' h' E pc ls) (kk : ∀ v h', Qn v h' → zR G l J bc' bs' h' (pc + 3) ls (v.toList ++ rest)) : zR G l J bc bs h pc ls st := by
  intro p e s m args below meth c H locs cells slots ls0 C0 hP hS hL h1 h2
  have hts := C0.2.2.2.2.2.2.2.1
  refine z_after C0 hP hS hL h1 h2 hb1 hb2 (vx_runSX (As := As) (rest := rest) (Ts := zWS) ⟨C0.1, C0.2.1, rfl, C0.2.2.2.2.2.2.1, hts⟩ (hM C0.2.2.2.2.2.2.2.2.2.2.1) (vx_cwSW n hts (zgoodIn (fun _ h => h) (by
    intro w hw9
    unfold va_wsS at hw9
    rcases List.mem_append.mp hw9 with q | q
    · simp only [List.mem_cons, List.not_mem_nil, or_false] at q
      rcases q with q | q | q <;> rw [q]
      · exact hw
      · exact M.2.2.2.2
      · exact M.1
    · rcases List.mem_cons.mp q with q | q
      · rw [q]; exact M.2.1
      · exact q)) rfl rfl rfl M.2.2.1 ⟨hfr, by have := M.2.2.2.1; show 8 + (_ + 11) + d * 64 ≤ _; omega⟩) ⟨zPc_blind, fun U hU hW => zPc_pre C0.2.2.2.2.2.2.2.2.2.1 hP hS U hU hW⟩ rfl hn (hL.1.trans C0.2.2.1.symm) hst (lv_room hcat) hd ⟨by show cells + mc ≤ _; omega, by show slots + ms ≤ _; omega⟩) kx kk
/-- caught: the handlers ahead don't take it -/
theorem z_catch {E name : String} {a b hp ct : Nat} (pre suf : List (Nat × Nat × Nat × Nat)) (ht : J.1.2.2.2.2.1 = pre ++ (a, b, hp, ct) :: suf) (hpre : ∀ z ∈ pre, z.2.2.2 ≠ 0 ∧ ∃ nm, Cond.classLink J.1.1 z.2.2.2 nm ∈ zWS ∧ (E, nm) ∈ zNcs) (hx : a ≤ pc ∧ pc < b) (h0 : ct ≠ 0) (hlink : Cond.classLink J.1.1 ct name ∈ zWS) (hcast : Cond.castable E name ∈ zNW)
    (kk : ∀ q, zR G l J bc bs h hp ls [.ref q]) : zT G l J bc bs h E pc ls := by
  intro p e s m args below meth c H locs cells slots ls0 q ce rest C0 hP hS hL h1 h2 hq9 hv hcl
  have hts := C0.2.2.2.2.2.2.2.1
  have hZ := C0.2.2.2.2.2.2.2.2.2.1
  refine vx_catch C0.2.2.2.2.2.2.1 (tableOf pre) ⟨a, b, hp, ct⟩ (tableOf suf) (by rw [C0.2.2.2.2.1, ht]; unfold tableOf; simp) (fun z hz => Or.inr ?_) (by unfold covers; simp; omega) h0 (hts _ hlink) ((hZ.2.2.1 _ hcast).use rfl) hq9 hv hcl (kk q p e s m args below meth c H locs cells slots ls0 C0 hP hS hL h1 h2)
  unfold tableOf at hz
  obtain ⟨y, hy, rfl⟩ := List.mem_map.mp hz
  obtain ⟨g1, nm, g2, g3⟩ := hpre y hy
  exact ⟨g1, nm, hts _ g2, hZ.2.2.2.2.1 _ g3⟩
/-- what a wrapper answers: its code, and the number in out -/
def zQw (G : zG) (ad : Nat → Nat) (o : Nat) (h : zHp) (k1 k2 k3 : Int) (r : zRes) : Option Value → zHp → Prop := fun v h' => ∃ (k z : Int) (sv : Value), v = some (zi k) ∧ zCls G h' ad r.2 ∧ (∀ q, q ≠ o → (∀ i, i < 20 → q ≠ ad i) → h' q = h q) ∧ h' o = some (.inr (zkOut, [zl (zwd z), sv])) ∧
  ((r.1 = .inl z ∧ k = 0) ∨ (r.1 = .inr zE1 ∧ k = k1) ∨ (r.1 = .inr zE2 ∧ k = k2) ∨ (r.1 = .inr zE3 ∧ k = k3))
theorem zwd_64 (z : Int) : -9223372036854775808 ≤ zwd z ∧ zwd z ≤ 9223372036854775807 := by have := zwd_r z; omega
theorem zRow.at {r a : Nat} {L : List Int} (H : zRow G h r a L) (h1 : h' r = h r) (h2 : h' a = h a) : zRow G h' r a L := by
  obtain ⟨f, e1, e2, e3⟩ := H
  exact ⟨f, h1.trans e1, h2.trans e2, e3⟩
theorem zCls.at (H : zCls G h ad S) (hf : ∀ i, i < 20 → h' (ad i) = h (ad i)) : zCls G h' ad S := by
  obtain ⟨c1, c2, ⟨g3, c3, d3⟩, ⟨g4, c4, d4⟩, c5, ⟨T6, c6, d6⟩, c7, c8, ⟨R9, c9⟩, c10⟩ := H
  refine ⟨c1, (hf 0 (by omega)).trans c2, ⟨g3, (hf 1 (by omega)).trans c3, d3⟩, ⟨g4, (hf 2 (by omega)).trans c4, d4⟩, (hf 3 (by omega)).trans c5, ⟨T6, (hf 4 (by omega)).trans c6, d6⟩, fun c hc => ?_, fun k hk => (c8 k hk).at (hf _ (by omega)) (hf _ (by omega)), ⟨R9, c9.at (hf _ (by omega)) (hf _ (by omega))⟩, c10.at (hf _ (by omega)) (hf _ (by omega))⟩
  have := c7 c hc
  unfold zCurAt at this ⊢
  rw [hf _ (by omega)]
  exact this
theorem zAr.at {a : Nat} {L : List Int} (H : zAr G h a L) (h1 : h' a = h a) : zAr G h' a L := H.kept h1
theorem zMod.at (H : zMod G h ma S th) (hf : ∀ i, i < 13 → h' (ma i) = h (ma i)) : zMod G h' ma S th := by
  obtain ⟨m1, m2, ⟨g, m3, m3'⟩, ⟨⟨f1, a1, b1⟩, ⟨f2, a2, b2⟩, ⟨f3, a3, b3⟩, ⟨f4, a4, b4⟩, ⟨f5, a5, b5⟩⟩, ⟨f6, m5, m5'⟩, m6, m7⟩ := H
  exact ⟨m1, (hf 0 (by omega)).trans m2, ⟨g, (hf 1 (by omega)).trans m3, m3'⟩, ⟨⟨f1, (hf 2 (by omega)).trans a1, b1⟩, ⟨f2, (hf 3 (by omega)).trans a2, b2⟩, ⟨f3, (hf 4 (by omega)).trans a3, b3⟩, ⟨f4, (hf 5 (by omega)).trans a4, b4⟩, ⟨f5, (hf 6 (by omega)).trans a5, b5⟩⟩, ⟨f6, (hf 7 (by omega)).trans m5, m5'⟩, fun k hk => (m6 k hk).kept (hf _ (by omega)), m7.kept (hf _ (by omega))⟩
/-- out is told the number -/
theorem zCls.out {o : Nat} (H : zCls G h ad S) (hn : ∀ i, i < 20 → o ≠ ad i) (hf : ∀ q, q ≠ o → h' q = h q) : zCls G h' ad S := H.at (fun i hi => hf _ (Ne.symm (hn i hi)))
theorem zQw.ok {o : Nat} {k1 k2 k3 z : Int} {sv : Value} {S' : zSt} {r : zRes} {h1 : zHp} (e : r = (.inl z, S')) (H : zCls G h1 ad S') (hF : zFrm ad h h1) (hn : ∀ i, i < 20 → o ≠ ad i) (p : h' o = some (.inr (zkOut, [zl (zwd z), sv]))) (g : ∀ q, q ≠ o → h' q = h1 q) : zQw G ad o h k1 k2 k3 r (some (zi 0)) h' := by
  subst e
  exact ⟨0, z, sv, rfl, H.out hn g, fun q q1 q2 => (g q q1).trans (hF q q2), p, Or.inl ⟨rfl, rfl⟩⟩
theorem zQw.tw {o : Nat} {k1 k2 k3 k : Int} {z0 : Int} {sv : Value} {S' : zSt} {r : zRes} {E : String} (e : r = (.inr E, S')) (H : zCls G h' ad S') (hF : zFrm ad h h') (p : h o = some (.inr (zkOut, [zl (zwd z0), sv]))) (hn : ∀ i, i < 20 → o ≠ ad i) (hk : (E = zE1 ∧ k = k1) ∨ (E = zE2 ∧ k = k2) ∨ (E = zE3 ∧ k = k3)) : zQw G ad o h k1 k2 k3 r (some (zi k)) h' := by
  subst e
  refine ⟨k, z0, sv, rfl, H, fun q q1 q2 => hF q q2, (hF o hn).trans p, Or.inr ?_⟩
  rcases hk with ⟨rfl, h⟩ | ⟨rfl, h⟩ | ⟨rfl, h⟩
  · exact Or.inl ⟨rfl, h⟩
  · exact Or.inr (Or.inl ⟨rfl, h⟩)
  · exact Or.inr (Or.inr ⟨rfl, h⟩)
end LAW0
end
section
section LAW1
variable {G : zG} {l : Launch} {h h' h0 : zHp} {ad ma : Nat → Nat} {S S' : zSt} {th : Int}
/-- text: the number in out stays -/
def sp_text (S : zSt) (p n : Int) : zRes := if 0 ≤ p ∧ p < 4 then (.inl n, S) else (.inr zE1, S)
theorem xE_put {p w x : Int} {E : String} (h : sp_put S p w x = (.inr E, S')) : E = zE1 ∨ E = zE2 := by
  unfold sp_put at h
  (try simp only [spPut, spTake, spBec, spRef] at h)
  (repeat' split at h)
  all_goals first
    | exact Or.inl (Sum.inr.inj (Prod.mk.inj h).1).symm
    | exact Or.inr ((Sum.inr.inj (Prod.mk.inj h).1).symm)
    | exact absurd (Prod.mk.inj h).1 (by simp)
theorem k_Law_put {p w x : Int}  (hC : zCls G h ad S) (z_p : zI32 p) (z_w : zI32 w) (z_x : zI32 x) {ou : Nat} {n0 : Int} {sv : Value} (eo : h ou = some (.inr (zkOut, [zl (zwd n0), sv]))) (hn : ∀ i, i < 20 → ou ≠ ad i) : zMW G l hLaw_put yLaw_put 10 [.ref (ad 0), zi p, zi w, zi x, .ref ou] h (zQw G ad ou h (1) (2) (9) (sp_put S p w x)) zNo 6 36 := by
  refine zMW.of [some (.ref (ad 0)), some (zi p), some (zi w), some (zi x), some (.ref ou), none] (by decide +kernel) rfl (by decide) (Nat.le_of_ble_eq_true rfl) rfl ?_
  refine z_aload dLaw_put_0 rfl ?_
  refine z_aload_n dLaw_put_2 rfl ?_
  refine z_iload_n dLaw_put_3 rfl ?_
  refine z_iload_n dLaw_put_4 rfl ?_
  refine z_iload_n dLaw_put_5 rfl ?_
  refine z_callV (bc' := 0) (bs' := 0) MV_Cls_put lk_Law_7 dLaw_put_6 (k_Cls_put hC z_p z_w z_x) rfl rfl (Nat.le_of_ble_eq_true rfl) rfl hC.2.1 (Nat.le_of_ble_eq_true rfl) (Nat.le_of_ble_eq_true rfl) (by decide) (by decide) (fun E h1 q9 => ?_) ?_
  · obtain ⟨S9, e9, H9, F9⟩ := q9
    rcases xE_put e9 with rfl | rfl
    · refine z_catch (a := 0) (b := 13) (hp := 16) (ct := 19) [] [(0, 13, 20, 21)] rfl (fun z hz => nomatch hz) (by decide) (by decide) wl_zE1 wk_zE1 (fun qx => ?_)
      refine z_astore dLaw_put_16 (Nat.le_of_ble_eq_true rfl) ?_
      refine z_iconst dLaw_put_18 ?_
      refine z_iret rfl rfl dLaw_put_19 ?_
      exact zQw.tw e9 H9 F9 eo hn (Or.inl ⟨rfl, rfl⟩)
    · refine z_catch (a := 0) (b := 13) (hp := 20) (ct := 21) [(0, 13, 16, 19)] [] rfl (by intro z hz; simp only [List.mem_cons, List.not_mem_nil, or_false] at hz; rcases hz with rfl <;> first | exact ⟨by decide, _, wl_zE1, by decide⟩) (by decide) (by decide) wl_zE2 wk_zE2 (fun qx => ?_)
      refine z_astore dLaw_put_20 (Nat.le_of_ble_eq_true rfl) ?_
      refine z_iconst dLaw_put_22 ?_
      refine z_iret rfl rfl dLaw_put_23 ?_
      exact zQw.tw e9 H9 F9 eo hn (Or.inr (Or.inl ⟨rfl, rfl⟩))
  · rintro _ h1 ⟨z, S9, e9, rfl, H9, F9⟩
    have eo1 := (F9 ou hn).trans eo
    rw [zwd_i z]
    refine z_i2l (zwd_r z) dLaw_put_9 ?_
    refine z_putN (k := 0) fd_Out (by decide) fl_Law_13 rfl dLaw_put_10 (by assumption) (by simp) rfl rfl ?_
    refine z_hx (fun h2 p2 g2 => ?_)
    refine z_goto (tgt := 24) dLaw_put_13 (by decide) ?_
    refine z_iconst dLaw_put_24 ?_
    refine z_iret rfl rfl dLaw_put_25 ?_
    exact zQw.ok e9 H9 F9 hn p2 g2
theorem xE_take {p w : Int} {E : String} (h : sp_take S p w = (.inr E, S')) : E = zE1 ∨ E = zE2 := by
  unfold sp_take at h
  (try simp only [spPut, spTake, spBec, spRef] at h)
  (repeat' split at h)
  all_goals first
    | exact Or.inl (Sum.inr.inj (Prod.mk.inj h).1).symm
    | exact Or.inr ((Sum.inr.inj (Prod.mk.inj h).1).symm)
    | exact absurd (Prod.mk.inj h).1 (by simp)
theorem k_Law_take {p w : Int}  (hC : zCls G h ad S) (z_p : zI32 p) (z_w : zI32 w) {ou : Nat} {n0 : Int} {sv : Value} (eo : h ou = some (.inr (zkOut, [zl (zwd n0), sv]))) (hn : ∀ i, i < 20 → ou ≠ ad i) : zMW G l hLaw_take yLaw_take 10 [.ref (ad 0), zi p, zi w, .ref ou] h (zQw G ad ou h (1) (2) (9) (sp_take S p w)) zNo 6 36 := by
  refine zMW.of [some (.ref (ad 0)), some (zi p), some (zi w), some (.ref ou), none] (by decide +kernel) rfl (by decide) (Nat.le_of_ble_eq_true rfl) rfl ?_
  refine z_aload_n dLaw_take_0 rfl ?_
  refine z_aload_n dLaw_take_1 rfl ?_
  refine z_iload_n dLaw_take_2 rfl ?_
  refine z_iload_n dLaw_take_3 rfl ?_
  refine z_callV (bc' := 0) (bs' := 0) MV_Cls_take lk_Law_23 dLaw_take_4 (k_Cls_take hC z_p z_w) rfl rfl (Nat.le_of_ble_eq_true rfl) rfl hC.2.1 (Nat.le_of_ble_eq_true rfl) (Nat.le_of_ble_eq_true rfl) (by decide) (by decide) (fun E h1 q9 => ?_) ?_
  · obtain ⟨S9, e9, H9, F9⟩ := q9
    rcases xE_take e9 with rfl | rfl
    · refine z_catch (a := 0) (b := 11) (hp := 14) (ct := 19) [] [(0, 11, 18, 21)] rfl (fun z hz => nomatch hz) (by decide) (by decide) wl_zE1 wk_zE1 (fun qx => ?_)
      refine z_astore dLaw_take_14 (Nat.le_of_ble_eq_true rfl) ?_
      refine z_iconst dLaw_take_16 ?_
      refine z_iret rfl rfl dLaw_take_17 ?_
      exact zQw.tw e9 H9 F9 eo hn (Or.inl ⟨rfl, rfl⟩)
    · refine z_catch (a := 0) (b := 11) (hp := 18) (ct := 21) [(0, 11, 14, 19)] [] rfl (by intro z hz; simp only [List.mem_cons, List.not_mem_nil, or_false] at hz; rcases hz with rfl <;> first | exact ⟨by decide, _, wl_zE1, by decide⟩) (by decide) (by decide) wl_zE2 wk_zE2 (fun qx => ?_)
      refine z_astore dLaw_take_18 (Nat.le_of_ble_eq_true rfl) ?_
      refine z_iconst dLaw_take_20 ?_
      refine z_iret rfl rfl dLaw_take_21 ?_
      exact zQw.tw e9 H9 F9 eo hn (Or.inr (Or.inl ⟨rfl, rfl⟩))
  · rintro _ h1 ⟨z, S9, e9, rfl, H9, F9⟩
    have eo1 := (F9 ou hn).trans eo
    rw [zwd_i z]
    refine z_i2l (zwd_r z) dLaw_take_7 ?_
    refine z_putN (k := 0) fd_Out (by decide) fl_Law_13 rfl dLaw_take_8 (by assumption) (by simp) rfl rfl ?_
    refine z_hx (fun h2 p2 g2 => ?_)
    refine z_goto (tgt := 22) dLaw_take_11 (by decide) ?_
    refine z_iconst dLaw_take_22 ?_
    refine z_iret rfl rfl dLaw_take_23 ?_
    exact zQw.ok e9 H9 F9 hn p2 g2
theorem xE_look {p w : Int} {E : String} (h : sp_look S p w = (.inr E, S')) : E = zE1 ∨ E = zE2 := by
  unfold sp_look at h
  (try simp only [spPut, spTake, spBec, spRef] at h)
  (repeat' split at h)
  all_goals first
    | exact Or.inl (Sum.inr.inj (Prod.mk.inj h).1).symm
    | exact Or.inr ((Sum.inr.inj (Prod.mk.inj h).1).symm)
    | exact absurd (Prod.mk.inj h).1 (by simp)
theorem k_Law_look {p w : Int}  (hC : zCls G h ad S) (z_p : zI32 p) (z_w : zI32 w) {ou : Nat} {n0 : Int} {sv : Value} (eo : h ou = some (.inr (zkOut, [zl (zwd n0), sv]))) (hn : ∀ i, i < 20 → ou ≠ ad i) : zMW G l hLaw_look yLaw_look 10 [.ref (ad 0), zi p, zi w, .ref ou] h (zQw G ad ou h (1) (2) (9) (sp_look S p w)) zNo 6 36 := by
  refine zMW.of [some (.ref (ad 0)), some (zi p), some (zi w), some (.ref ou), none] (by decide +kernel) rfl (by decide) (Nat.le_of_ble_eq_true rfl) rfl ?_
  refine z_aload_n dLaw_look_0 rfl ?_
  refine z_aload_n dLaw_look_1 rfl ?_
  refine z_iload_n dLaw_look_2 rfl ?_
  refine z_iload_n dLaw_look_3 rfl ?_
  refine z_callV (bc' := 0) (bs' := 0) MV_Cls_look lk_Law_27 dLaw_look_4 (k_Cls_look hC z_p z_w) rfl rfl (Nat.le_of_ble_eq_true rfl) rfl hC.2.1 (Nat.le_of_ble_eq_true rfl) (Nat.le_of_ble_eq_true rfl) (by decide) (by decide) (fun E h1 q9 => ?_) ?_
  · obtain ⟨S9, e9, H9, F9⟩ := q9
    rcases xE_look e9 with rfl | rfl
    · refine z_catch (a := 0) (b := 11) (hp := 14) (ct := 19) [] [(0, 11, 18, 21)] rfl (fun z hz => nomatch hz) (by decide) (by decide) wl_zE1 wk_zE1 (fun qx => ?_)
      refine z_astore dLaw_look_14 (Nat.le_of_ble_eq_true rfl) ?_
      refine z_iconst dLaw_look_16 ?_
      refine z_iret rfl rfl dLaw_look_17 ?_
      exact zQw.tw e9 H9 F9 eo hn (Or.inl ⟨rfl, rfl⟩)
    · refine z_catch (a := 0) (b := 11) (hp := 18) (ct := 21) [(0, 11, 14, 19)] [] rfl (by intro z hz; simp only [List.mem_cons, List.not_mem_nil, or_false] at hz; rcases hz with rfl <;> first | exact ⟨by decide, _, wl_zE1, by decide⟩) (by decide) (by decide) wl_zE2 wk_zE2 (fun qx => ?_)
      refine z_astore dLaw_look_18 (Nat.le_of_ble_eq_true rfl) ?_
      refine z_iconst dLaw_look_20 ?_
      refine z_iret rfl rfl dLaw_look_21 ?_
      exact zQw.tw e9 H9 F9 eo hn (Or.inr (Or.inl ⟨rfl, rfl⟩))
  · rintro _ h1 ⟨z, S9, e9, rfl, H9, F9⟩
    have eo1 := (F9 ou hn).trans eo
    rw [zwd_i z]
    refine z_i2l (zwd_r z) dLaw_look_7 ?_
    refine z_putN (k := 0) fd_Out (by decide) fl_Law_13 rfl dLaw_look_8 (by assumption) (by simp) rfl rfl ?_
    refine z_hx (fun h2 p2 g2 => ?_)
    refine z_goto (tgt := 22) dLaw_look_11 (by decide) ?_
    refine z_iconst dLaw_look_22 ?_
    refine z_iret rfl rfl dLaw_look_23 ?_
    exact zQw.ok e9 H9 F9 hn p2 g2
theorem xE_get {p q : Int} {E : String} (h : sp_get S p q = (.inr E, S')) : E = zE1 := by
  unfold sp_get at h
  (try simp only [spPut, spTake, spBec, spRef] at h)
  (repeat' split at h)
  all_goals first
    | exact (Sum.inr.inj (Prod.mk.inj h).1).symm
    | exact absurd (Prod.mk.inj h).1 (by simp)
theorem k_Law_get {p q : Int}  (hC : zCls G h ad S) (z_p : zI32 p) (z_q : zI32 q) {ou : Nat} {n0 : Int} {sv : Value} (eo : h ou = some (.inr (zkOut, [zl (zwd n0), sv]))) (hn : ∀ i, i < 20 → ou ≠ ad i) : zMW G l hLaw_get yLaw_get 10 [.ref (ad 0), zi p, zi q, .ref ou] h (zQw G ad ou h (1) (9) (9) (sp_get S p q)) zNo 6 36 := by
  refine zMW.of [some (.ref (ad 0)), some (zi p), some (zi q), some (.ref ou), none] (by decide +kernel) rfl (by decide) (Nat.le_of_ble_eq_true rfl) rfl ?_
  refine z_aload_n dLaw_get_0 rfl ?_
  refine z_aload_n dLaw_get_1 rfl ?_
  refine z_iload_n dLaw_get_2 rfl ?_
  refine z_iload_n dLaw_get_3 rfl ?_
  refine z_callV (bc' := 0) (bs' := 0) MV_Cls_get lk_Law_30 dLaw_get_4 (k_Cls_get hC z_p z_q) rfl rfl (Nat.le_of_ble_eq_true rfl) rfl hC.2.1 (Nat.le_of_ble_eq_true rfl) (Nat.le_of_ble_eq_true rfl) (by decide) (by decide) (fun E h1 q9 => ?_) ?_
  · obtain ⟨S9, e9, H9, F9⟩ := q9
    obtain rfl := xE_get e9
    refine z_catch (a := 0) (b := 11) (hp := 14) (ct := 19) [] [] rfl (fun z hz => nomatch hz) (by decide) (by decide) wl_zE1 wk_zE1 (fun qx => ?_)
    refine z_astore dLaw_get_14 (Nat.le_of_ble_eq_true rfl) ?_
    refine z_iconst dLaw_get_16 ?_
    refine z_iret rfl rfl dLaw_get_17 ?_
    exact zQw.tw e9 H9 F9 eo hn (Or.inl ⟨rfl, rfl⟩)
  · rintro _ h1 ⟨z, S9, e9, rfl, H9, F9⟩
    have eo1 := (F9 ou hn).trans eo
    rw [zwd_i z]
    refine z_i2l (zwd_r z) dLaw_get_7 ?_
    refine z_putN (k := 0) fd_Out (by decide) fl_Law_13 rfl dLaw_get_8 (by assumption) (by simp) rfl rfl ?_
    refine z_hx (fun h2 p2 g2 => ?_)
    refine z_goto (tgt := 18) dLaw_get_11 (by decide) ?_
    refine z_iconst dLaw_get_18 ?_
    refine z_iret rfl rfl dLaw_get_19 ?_
    exact zQw.ok e9 H9 F9 hn p2 g2
theorem xE_set {p q x : Int} {E : String} (h : sp_set S p q x = (.inr E, S')) : E = zE1 ∨ E = zE2 := by
  unfold sp_set at h
  (try simp only [spPut, spTake, spBec, spRef] at h)
  (repeat' split at h)
  all_goals first
    | exact Or.inl (Sum.inr.inj (Prod.mk.inj h).1).symm
    | exact Or.inr ((Sum.inr.inj (Prod.mk.inj h).1).symm)
    | exact absurd (Prod.mk.inj h).1 (by simp)
theorem k_Law_set {p q x : Int}  (hC : zCls G h ad S) (z_p : zI32 p) (z_q : zI32 q) (z_x : zI32 x) {ou : Nat} {n0 : Int} {sv : Value} (eo : h ou = some (.inr (zkOut, [zl (zwd n0), sv]))) (hn : ∀ i, i < 20 → ou ≠ ad i) : zMW G l hLaw_set yLaw_set 10 [.ref (ad 0), zi p, zi q, zi x, .ref ou] h (zQw G ad ou h (1) (2) (9) (sp_set S p q x)) zNo 6 36 := by
  refine zMW.of [some (.ref (ad 0)), some (zi p), some (zi q), some (zi x), some (.ref ou), none] (by decide +kernel) rfl (by decide) (Nat.le_of_ble_eq_true rfl) rfl ?_
  refine z_aload dLaw_set_0 rfl ?_
  refine z_aload_n dLaw_set_2 rfl ?_
  refine z_iload_n dLaw_set_3 rfl ?_
  refine z_iload_n dLaw_set_4 rfl ?_
  refine z_iload_n dLaw_set_5 rfl ?_
  refine z_callV (bc' := 0) (bs' := 0) MV_Cls_set lk_Law_33 dLaw_set_6 (k_Cls_set hC z_p z_q z_x) rfl rfl (Nat.le_of_ble_eq_true rfl) rfl hC.2.1 (Nat.le_of_ble_eq_true rfl) (Nat.le_of_ble_eq_true rfl) (by decide) (by decide) (fun E h1 q9 => ?_) ?_
  · obtain ⟨S9, e9, H9, F9⟩ := q9
    rcases xE_set e9 with rfl | rfl
    · refine z_catch (a := 0) (b := 13) (hp := 16) (ct := 19) [] [(0, 13, 20, 21)] rfl (fun z hz => nomatch hz) (by decide) (by decide) wl_zE1 wk_zE1 (fun qx => ?_)
      refine z_astore dLaw_set_16 (Nat.le_of_ble_eq_true rfl) ?_
      refine z_iconst dLaw_set_18 ?_
      refine z_iret rfl rfl dLaw_set_19 ?_
      exact zQw.tw e9 H9 F9 eo hn (Or.inl ⟨rfl, rfl⟩)
    · refine z_catch (a := 0) (b := 13) (hp := 20) (ct := 21) [(0, 13, 16, 19)] [] rfl (by intro z hz; simp only [List.mem_cons, List.not_mem_nil, or_false] at hz; rcases hz with rfl <;> first | exact ⟨by decide, _, wl_zE1, by decide⟩) (by decide) (by decide) wl_zE2 wk_zE2 (fun qx => ?_)
      refine z_astore dLaw_set_20 (Nat.le_of_ble_eq_true rfl) ?_
      refine z_iconst dLaw_set_22 ?_
      refine z_iret rfl rfl dLaw_set_23 ?_
      exact zQw.tw e9 H9 F9 eo hn (Or.inr (Or.inl ⟨rfl, rfl⟩))
  · rintro _ h1 ⟨z, S9, e9, rfl, H9, F9⟩
    have eo1 := (F9 ou hn).trans eo
    rw [zwd_i z]
    refine z_i2l (zwd_r z) dLaw_set_9 ?_
    refine z_putN (k := 0) fd_Out (by decide) fl_Law_13 rfl dLaw_set_10 (by assumption) (by simp) rfl rfl ?_
    refine z_hx (fun h2 p2 g2 => ?_)
    refine z_goto (tgt := 24) dLaw_set_13 (by decide) ?_
    refine z_iconst dLaw_set_24 ?_
    refine z_iret rfl rfl dLaw_set_25 ?_
    exact zQw.ok e9 H9 F9 hn p2 g2
theorem xE_insert {p q x : Int} {E : String} (h : sp_insert S p q x = (.inr E, S')) : E = zE1 ∨ E = zE2 := by
  unfold sp_insert at h
  (try simp only [spPut, spTake, spBec, spRef] at h)
  (repeat' split at h)
  all_goals first
    | exact Or.inl (Sum.inr.inj (Prod.mk.inj h).1).symm
    | exact Or.inr ((Sum.inr.inj (Prod.mk.inj h).1).symm)
    | exact absurd (Prod.mk.inj h).1 (by simp)
theorem k_Law_insert {p q x : Int}  (hC : zCls G h ad S) (z_p : zI32 p) (z_q : zI32 q) (z_x : zI32 x) {ou : Nat} {n0 : Int} {sv : Value} (eo : h ou = some (.inr (zkOut, [zl (zwd n0), sv]))) (hn : ∀ i, i < 20 → ou ≠ ad i) : zMW G l hLaw_insert yLaw_insert 10 [.ref (ad 0), zi p, zi q, zi x, .ref ou] h (zQw G ad ou h (1) (2) (9) (sp_insert S p q x)) zNo 6 36 := by
  refine zMW.of [some (.ref (ad 0)), some (zi p), some (zi q), some (zi x), some (.ref ou), none] (by decide +kernel) rfl (by decide) (Nat.le_of_ble_eq_true rfl) rfl ?_
  refine z_aload dLaw_insert_0 rfl ?_
  refine z_aload_n dLaw_insert_2 rfl ?_
  refine z_iload_n dLaw_insert_3 rfl ?_
  refine z_iload_n dLaw_insert_4 rfl ?_
  refine z_iload_n dLaw_insert_5 rfl ?_
  refine z_callV (bc' := 0) (bs' := 0) MV_Cls_insert lk_Law_36 dLaw_insert_6 (k_Cls_insert hC z_p z_q z_x) rfl rfl (Nat.le_of_ble_eq_true rfl) rfl hC.2.1 (Nat.le_of_ble_eq_true rfl) (Nat.le_of_ble_eq_true rfl) (by decide) (by decide) (fun E h1 q9 => ?_) ?_
  · obtain ⟨S9, e9, H9, F9⟩ := q9
    rcases xE_insert e9 with rfl | rfl
    · refine z_catch (a := 0) (b := 13) (hp := 16) (ct := 19) [] [(0, 13, 20, 21)] rfl (fun z hz => nomatch hz) (by decide) (by decide) wl_zE1 wk_zE1 (fun qx => ?_)
      refine z_astore dLaw_insert_16 (Nat.le_of_ble_eq_true rfl) ?_
      refine z_iconst dLaw_insert_18 ?_
      refine z_iret rfl rfl dLaw_insert_19 ?_
      exact zQw.tw e9 H9 F9 eo hn (Or.inl ⟨rfl, rfl⟩)
    · refine z_catch (a := 0) (b := 13) (hp := 20) (ct := 21) [(0, 13, 16, 19)] [] rfl (by intro z hz; simp only [List.mem_cons, List.not_mem_nil, or_false] at hz; rcases hz with rfl <;> first | exact ⟨by decide, _, wl_zE1, by decide⟩) (by decide) (by decide) wl_zE2 wk_zE2 (fun qx => ?_)
      refine z_astore dLaw_insert_20 (Nat.le_of_ble_eq_true rfl) ?_
      refine z_iconst dLaw_insert_22 ?_
      refine z_iret rfl rfl dLaw_insert_23 ?_
      exact zQw.tw e9 H9 F9 eo hn (Or.inr (Or.inl ⟨rfl, rfl⟩))
  · rintro _ h1 ⟨z, S9, e9, rfl, H9, F9⟩
    have eo1 := (F9 ou hn).trans eo
    rw [zwd_i z]
    refine z_i2l (zwd_r z) dLaw_insert_9 ?_
    refine z_putN (k := 0) fd_Out (by decide) fl_Law_13 rfl dLaw_insert_10 (by assumption) (by simp) rfl rfl ?_
    refine z_hx (fun h2 p2 g2 => ?_)
    refine z_goto (tgt := 24) dLaw_insert_13 (by decide) ?_
    refine z_iconst dLaw_insert_24 ?_
    refine z_iret rfl rfl dLaw_insert_25 ?_
    exact zQw.ok e9 H9 F9 hn p2 g2
theorem xE_removeAt {p q : Int} {E : String} (h : sp_removeAt S p q = (.inr E, S')) : E = zE1 := by
  unfold sp_removeAt at h
  (try simp only [spPut, spTake, spBec, spRef] at h)
  (repeat' split at h)
  all_goals first
    | exact (Sum.inr.inj (Prod.mk.inj h).1).symm
    | exact absurd (Prod.mk.inj h).1 (by simp)
theorem k_Law_removeAt {p q : Int}  (hC : zCls G h ad S) (z_p : zI32 p) (z_q : zI32 q) {ou : Nat} {n0 : Int} {sv : Value} (eo : h ou = some (.inr (zkOut, [zl (zwd n0), sv]))) (hn : ∀ i, i < 20 → ou ≠ ad i) : zMW G l hLaw_removeAt yLaw_removeAt 10 [.ref (ad 0), zi p, zi q, .ref ou] h (zQw G ad ou h (1) (9) (9) (sp_removeAt S p q)) zNo 6 36 := by
  refine zMW.of [some (.ref (ad 0)), some (zi p), some (zi q), some (.ref ou), none] (by decide +kernel) rfl (by decide) (Nat.le_of_ble_eq_true rfl) rfl ?_
  refine z_aload_n dLaw_removeAt_0 rfl ?_
  refine z_aload_n dLaw_removeAt_1 rfl ?_
  refine z_iload_n dLaw_removeAt_2 rfl ?_
  refine z_iload_n dLaw_removeAt_3 rfl ?_
  refine z_callV (bc' := 0) (bs' := 0) MV_Cls_removeAt lk_Law_39 dLaw_removeAt_4 (k_Cls_removeAt hC z_p z_q) rfl rfl (Nat.le_of_ble_eq_true rfl) rfl hC.2.1 (Nat.le_of_ble_eq_true rfl) (Nat.le_of_ble_eq_true rfl) (by decide) (by decide) (fun E h1 q9 => ?_) ?_
  · obtain ⟨S9, e9, H9, F9⟩ := q9
    obtain rfl := xE_removeAt e9
    refine z_catch (a := 0) (b := 11) (hp := 14) (ct := 19) [] [] rfl (fun z hz => nomatch hz) (by decide) (by decide) wl_zE1 wk_zE1 (fun qx => ?_)
    refine z_astore dLaw_removeAt_14 (Nat.le_of_ble_eq_true rfl) ?_
    refine z_iconst dLaw_removeAt_16 ?_
    refine z_iret rfl rfl dLaw_removeAt_17 ?_
    exact zQw.tw e9 H9 F9 eo hn (Or.inl ⟨rfl, rfl⟩)
  · rintro _ h1 ⟨z, S9, e9, rfl, H9, F9⟩
    have eo1 := (F9 ou hn).trans eo
    rw [zwd_i z]
    refine z_i2l (zwd_r z) dLaw_removeAt_7 ?_
    refine z_putN (k := 0) fd_Out (by decide) fl_Law_13 rfl dLaw_removeAt_8 (by assumption) (by simp) rfl rfl ?_
    refine z_hx (fun h2 p2 g2 => ?_)
    refine z_goto (tgt := 18) dLaw_removeAt_11 (by decide) ?_
    refine z_iconst dLaw_removeAt_18 ?_
    refine z_iret rfl rfl dLaw_removeAt_19 ?_
    exact zQw.ok e9 H9 F9 hn p2 g2
theorem xE_drop {p x b : Int} {E : String} (h : sp_drop S p x b = (.inr E, S')) : E = zE1 := by
  unfold sp_drop at h
  (try simp only [spPut, spTake, spBec, spRef] at h)
  (repeat' split at h)
  all_goals first
    | exact (Sum.inr.inj (Prod.mk.inj h).1).symm
    | exact absurd (Prod.mk.inj h).1 (by simp)
theorem xB_drop {p x b : Int} {z : Int} (h : sp_drop S p x b = (.inl z, S')) : z = 0 ∨ z = 1 := by
  unfold sp_drop at h
  (try simp only [spPut, spTake, spBec, spRef] at h)
  (repeat' split at h)
  all_goals first
    | exact Or.inl (Sum.inl.inj (Prod.mk.inj h).1).symm
    | exact Or.inr (Sum.inl.inj (Prod.mk.inj h).1).symm
    | exact absurd (Prod.mk.inj h).1 (by simp)
theorem k_Law_drop {p x b : Int} (hb : b = 0 ∨ b = 1) (hC : zCls G h ad S) (z_p : zI32 p) (z_x : zI32 x) (z_b : zI32 b) {ou : Nat} {n0 : Int} {sv : Value} (eo : h ou = some (.inr (zkOut, [zl (zwd n0), sv]))) (hn : ∀ i, i < 20 → ou ≠ ad i) : zMW G l hLaw_drop yLaw_drop 10 [.ref (ad 0), zi p, zi x, zi b, .ref ou] h (zQw G ad ou h (1) (9) (9) (sp_drop S p x b)) zNo 6 36 := by
  refine zMW.of [some (.ref (ad 0)), some (zi p), some (zi x), some (zi b), some (.ref ou), none] (by decide +kernel) rfl (by decide) (Nat.le_of_ble_eq_true rfl) rfl ?_
  refine z_aload dLaw_drop_0 rfl ?_
  refine z_aload_n dLaw_drop_2 rfl ?_
  refine z_iload_n dLaw_drop_3 rfl ?_
  refine z_iload_n dLaw_drop_4 rfl ?_
  refine z_iload_n dLaw_drop_5 rfl ?_
  refine z_callV (bc' := 0) (bs' := 0) MV_Cls_drop lk_Law_42 dLaw_drop_6 (k_Cls_drop hb hC z_p z_x z_b) rfl rfl (Nat.le_of_ble_eq_true rfl) rfl hC.2.1 (Nat.le_of_ble_eq_true rfl) (Nat.le_of_ble_eq_true rfl) (by decide) (by decide) (fun E h1 q9 => ?_) ?_
  · obtain ⟨S9, e9, H9, F9⟩ := q9
    obtain rfl := xE_drop e9
    refine z_catch (a := 0) (b := 20) (hp := 23) (ct := 19) [] [] rfl (fun z hz => nomatch hz) (by decide) (by decide) wl_zE1 wk_zE1 (fun qx => ?_)
    refine z_astore dLaw_drop_23 (Nat.le_of_ble_eq_true rfl) ?_
    refine z_iconst dLaw_drop_25 ?_
    refine z_iret rfl rfl dLaw_drop_26 ?_
    exact zQw.tw e9 H9 F9 eo hn (Or.inl ⟨rfl, rfl⟩)
  · rintro _ h1 ⟨z, S9, e9, rfl, H9, F9⟩
    have eo1 := (F9 ou hn).trans eo
    have hz := xB_drop e9
    refine z_if_eq (tgt := 16) dLaw_drop_9 (by decide) (by omega) (fun c9 => ?_) (fun c9 => ?_)
    · refine z_lconst dLaw_drop_16 0 rfl ?_
      refine z_putN (k := 0) fd_Out (by decide) fl_Law_13 rfl dLaw_drop_17 (by assumption) (by simp) rfl rfl ?_
      refine z_hx (fun h2 p2 g2 => ?_)
      refine z_goto (tgt := 27) dLaw_drop_20 (by decide) ?_
      refine z_iconst dLaw_drop_27 ?_
      refine z_iret rfl rfl dLaw_drop_28 ?_
      first
        | exact zQw.ok e9 H9 F9 hn (by rw [show zwd z = 0 by (rw [show z = 0 by omega]; decide)]; exact p2) g2
        | exact zQw.ok e9 H9 F9 hn (by rw [show zwd z = 1 by (rw [show z = 1 by omega]; decide)]; exact p2) g2
    · refine z_lconst dLaw_drop_12 1 rfl ?_
      refine z_goto (tgt := 17) dLaw_drop_13 (by decide) ?_
      refine z_putN (k := 0) fd_Out (by decide) fl_Law_13 rfl dLaw_drop_17 (by assumption) (by simp) rfl rfl ?_
      refine z_hx (fun h2 p2 g2 => ?_)
      refine z_goto (tgt := 27) dLaw_drop_20 (by decide) ?_
      refine z_iconst dLaw_drop_27 ?_
      refine z_iret rfl rfl dLaw_drop_28 ?_
      first
        | exact zQw.ok e9 H9 F9 hn (by rw [show zwd z = 0 by (rw [show z = 0 by omega]; decide)]; exact p2) g2
        | exact zQw.ok e9 H9 F9 hn (by rw [show zwd z = 1 by (rw [show z = 1 by omega]; decide)]; exact p2) g2
theorem xE_thin {p x : Int} {E : String} (h : sp_thin S p x = (.inr E, S')) : E = zE1 := by
  unfold sp_thin at h
  (try simp only [spPut, spTake, spBec, spRef] at h)
  (repeat' split at h)
  all_goals first
    | exact (Sum.inr.inj (Prod.mk.inj h).1).symm
    | exact absurd (Prod.mk.inj h).1 (by simp)
theorem k_Law_thin {p x : Int}  (hC : zCls G h ad S) (z_p : zI32 p) (z_x : zI32 x) {ou : Nat} {n0 : Int} {sv : Value} (eo : h ou = some (.inr (zkOut, [zl (zwd n0), sv]))) (hn : ∀ i, i < 20 → ou ≠ ad i) : zMW G l hLaw_thin yLaw_thin 10 [.ref (ad 0), zi p, zi x, .ref ou] h (zQw G ad ou h (1) (9) (9) (sp_thin S p x)) zNo 6 36 := by
  refine zMW.of [some (.ref (ad 0)), some (zi p), some (zi x), some (.ref ou), none] (by decide +kernel) rfl (by decide) (Nat.le_of_ble_eq_true rfl) rfl ?_
  refine z_aload_n dLaw_thin_0 rfl ?_
  refine z_aload_n dLaw_thin_1 rfl ?_
  refine z_iload_n dLaw_thin_2 rfl ?_
  refine z_iload_n dLaw_thin_3 rfl ?_
  refine z_callV (bc' := 0) (bs' := 0) MV_Cls_thin lk_Law_46 dLaw_thin_4 (k_Cls_thin hC z_p z_x) rfl rfl (Nat.le_of_ble_eq_true rfl) rfl hC.2.1 (Nat.le_of_ble_eq_true rfl) (Nat.le_of_ble_eq_true rfl) (by decide) (by decide) (fun E h1 q9 => ?_) ?_
  · obtain ⟨S9, e9, H9, F9⟩ := q9
    obtain rfl := xE_thin e9
    refine z_catch (a := 0) (b := 11) (hp := 14) (ct := 19) [] [] rfl (fun z hz => nomatch hz) (by decide) (by decide) wl_zE1 wk_zE1 (fun qx => ?_)
    refine z_astore dLaw_thin_14 (Nat.le_of_ble_eq_true rfl) ?_
    refine z_iconst dLaw_thin_16 ?_
    refine z_iret rfl rfl dLaw_thin_17 ?_
    exact zQw.tw e9 H9 F9 eo hn (Or.inl ⟨rfl, rfl⟩)
  · rintro _ h1 ⟨z, S9, e9, rfl, H9, F9⟩
    have eo1 := (F9 ou hn).trans eo
    rw [zwd_i z]
    refine z_i2l (zwd_r z) dLaw_thin_7 ?_
    refine z_putN (k := 0) fd_Out (by decide) fl_Law_13 rfl dLaw_thin_8 (by assumption) (by simp) rfl rfl ?_
    refine z_hx (fun h2 p2 g2 => ?_)
    refine z_goto (tgt := 18) dLaw_thin_11 (by decide) ?_
    refine z_iconst dLaw_thin_18 ?_
    refine z_iret rfl rfl dLaw_thin_19 ?_
    exact zQw.ok e9 H9 F9 hn p2 g2
theorem xE_indexOf {p x b : Int} {E : String} (h : sp_indexOf S p x b = (.inr E, S')) : E = zE1 := by
  unfold sp_indexOf at h
  (try simp only [spPut, spTake, spBec, spRef] at h)
  (repeat' split at h)
  all_goals first
    | exact (Sum.inr.inj (Prod.mk.inj h).1).symm
    | exact absurd (Prod.mk.inj h).1 (by simp)
theorem k_Law_indexOf {p x b : Int} (hb : b = 0 ∨ b = 1) (hC : zCls G h ad S) (z_p : zI32 p) (z_x : zI32 x) (z_b : zI32 b) {ou : Nat} {n0 : Int} {sv : Value} (eo : h ou = some (.inr (zkOut, [zl (zwd n0), sv]))) (hn : ∀ i, i < 20 → ou ≠ ad i) : zMW G l hLaw_indexOf yLaw_indexOf 10 [.ref (ad 0), zi p, zi x, zi b, .ref ou] h (zQw G ad ou h (1) (9) (9) (sp_indexOf S p x b)) zNo 6 36 := by
  refine zMW.of [some (.ref (ad 0)), some (zi p), some (zi x), some (zi b), some (.ref ou), none] (by decide +kernel) rfl (by decide) (Nat.le_of_ble_eq_true rfl) rfl ?_
  refine z_aload dLaw_indexOf_0 rfl ?_
  refine z_aload_n dLaw_indexOf_2 rfl ?_
  refine z_iload_n dLaw_indexOf_3 rfl ?_
  refine z_iload_n dLaw_indexOf_4 rfl ?_
  refine z_iload_n dLaw_indexOf_5 rfl ?_
  refine z_callV (bc' := 0) (bs' := 0) MV_Cls_indexOf lk_Law_49 dLaw_indexOf_6 (k_Cls_indexOf hb hC z_p z_x z_b) rfl rfl (Nat.le_of_ble_eq_true rfl) rfl hC.2.1 (Nat.le_of_ble_eq_true rfl) (Nat.le_of_ble_eq_true rfl) (by decide) (by decide) (fun E h1 q9 => ?_) ?_
  · obtain ⟨S9, e9, H9, F9⟩ := q9
    obtain rfl := xE_indexOf e9
    refine z_catch (a := 0) (b := 13) (hp := 16) (ct := 19) [] [] rfl (fun z hz => nomatch hz) (by decide) (by decide) wl_zE1 wk_zE1 (fun qx => ?_)
    refine z_astore dLaw_indexOf_16 (Nat.le_of_ble_eq_true rfl) ?_
    refine z_iconst dLaw_indexOf_18 ?_
    refine z_iret rfl rfl dLaw_indexOf_19 ?_
    exact zQw.tw e9 H9 F9 eo hn (Or.inl ⟨rfl, rfl⟩)
  · rintro _ h1 ⟨z, S9, e9, rfl, H9, F9⟩
    have eo1 := (F9 ou hn).trans eo
    rw [zwd_i z]
    refine z_i2l (zwd_r z) dLaw_indexOf_9 ?_
    refine z_putN (k := 0) fd_Out (by decide) fl_Law_13 rfl dLaw_indexOf_10 (by assumption) (by simp) rfl rfl ?_
    refine z_hx (fun h2 p2 g2 => ?_)
    refine z_goto (tgt := 20) dLaw_indexOf_13 (by decide) ?_
    refine z_iconst dLaw_indexOf_20 ?_
    refine z_iret rfl rfl dLaw_indexOf_21 ?_
    exact zQw.ok e9 H9 F9 hn p2 g2
theorem xE_has {p x : Int} {E : String} (h : sp_has S p x = (.inr E, S')) : E = zE1 := by
  unfold sp_has at h
  (try simp only [spPut, spTake, spBec, spRef] at h)
  (repeat' split at h)
  all_goals first
    | exact (Sum.inr.inj (Prod.mk.inj h).1).symm
    | exact absurd (Prod.mk.inj h).1 (by simp)
theorem xB_has {p x : Int} {z : Int} (h : sp_has S p x = (.inl z, S')) : z = 0 ∨ z = 1 := by
  unfold sp_has at h
  (try simp only [spPut, spTake, spBec, spRef] at h)
  (repeat' split at h)
  all_goals first
    | exact Or.inl (Sum.inl.inj (Prod.mk.inj h).1).symm
    | exact Or.inr (Sum.inl.inj (Prod.mk.inj h).1).symm
    | exact absurd (Prod.mk.inj h).1 (by simp)
theorem k_Law_has {p x : Int}  (hC : zCls G h ad S) (z_p : zI32 p) (z_x : zI32 x) {ou : Nat} {n0 : Int} {sv : Value} (eo : h ou = some (.inr (zkOut, [zl (zwd n0), sv]))) (hn : ∀ i, i < 20 → ou ≠ ad i) : zMW G l hLaw_has yLaw_has 10 [.ref (ad 0), zi p, zi x, .ref ou] h (zQw G ad ou h (1) (9) (9) (sp_has S p x)) zNo 6 36 := by
  refine zMW.of [some (.ref (ad 0)), some (zi p), some (zi x), some (.ref ou), none] (by decide +kernel) rfl (by decide) (Nat.le_of_ble_eq_true rfl) rfl ?_
  refine z_aload_n dLaw_has_0 rfl ?_
  refine z_aload_n dLaw_has_1 rfl ?_
  refine z_iload_n dLaw_has_2 rfl ?_
  refine z_iload_n dLaw_has_3 rfl ?_
  refine z_callV (bc' := 0) (bs' := 0) MV_Cls_has lk_Law_53 dLaw_has_4 (k_Cls_has hC z_p z_x) rfl rfl (Nat.le_of_ble_eq_true rfl) rfl hC.2.1 (Nat.le_of_ble_eq_true rfl) (Nat.le_of_ble_eq_true rfl) (by decide) (by decide) (fun E h1 q9 => ?_) ?_
  · obtain ⟨S9, e9, H9, F9⟩ := q9
    obtain rfl := xE_has e9
    refine z_catch (a := 0) (b := 18) (hp := 21) (ct := 19) [] [] rfl (fun z hz => nomatch hz) (by decide) (by decide) wl_zE1 wk_zE1 (fun qx => ?_)
    refine z_astore dLaw_has_21 (Nat.le_of_ble_eq_true rfl) ?_
    refine z_iconst dLaw_has_23 ?_
    refine z_iret rfl rfl dLaw_has_24 ?_
    exact zQw.tw e9 H9 F9 eo hn (Or.inl ⟨rfl, rfl⟩)
  · rintro _ h1 ⟨z, S9, e9, rfl, H9, F9⟩
    have eo1 := (F9 ou hn).trans eo
    have hz := xB_has e9
    refine z_if_eq (tgt := 14) dLaw_has_7 (by decide) (by omega) (fun c7 => ?_) (fun c7 => ?_)
    · refine z_lconst dLaw_has_14 0 rfl ?_
      refine z_putN (k := 0) fd_Out (by decide) fl_Law_13 rfl dLaw_has_15 (by assumption) (by simp) rfl rfl ?_
      refine z_hx (fun h2 p2 g2 => ?_)
      refine z_goto (tgt := 25) dLaw_has_18 (by decide) ?_
      refine z_iconst dLaw_has_25 ?_
      refine z_iret rfl rfl dLaw_has_26 ?_
      first
        | exact zQw.ok e9 H9 F9 hn (by rw [show zwd z = 0 by (rw [show z = 0 by omega]; decide)]; exact p2) g2
        | exact zQw.ok e9 H9 F9 hn (by rw [show zwd z = 1 by (rw [show z = 1 by omega]; decide)]; exact p2) g2
    · refine z_lconst dLaw_has_10 1 rfl ?_
      refine z_goto (tgt := 15) dLaw_has_11 (by decide) ?_
      refine z_putN (k := 0) fd_Out (by decide) fl_Law_13 rfl dLaw_has_15 (by assumption) (by simp) rfl rfl ?_
      refine z_hx (fun h2 p2 g2 => ?_)
      refine z_goto (tgt := 25) dLaw_has_18 (by decide) ?_
      refine z_iconst dLaw_has_25 ?_
      refine z_iret rfl rfl dLaw_has_26 ?_
      first
        | exact zQw.ok e9 H9 F9 hn (by rw [show zwd z = 0 by (rw [show z = 0 by omega]; decide)]; exact p2) g2
        | exact zQw.ok e9 H9 F9 hn (by rw [show zwd z = 1 by (rw [show z = 1 by omega]; decide)]; exact p2) g2
theorem xE_size {p : Int} {E : String} (h : sp_size S p = (.inr E, S')) : E = zE1 := by
  unfold sp_size at h
  (try simp only [spPut, spTake, spBec, spRef] at h)
  (repeat' split at h)
  all_goals first
    | exact (Sum.inr.inj (Prod.mk.inj h).1).symm
    | exact absurd (Prod.mk.inj h).1 (by simp)
theorem k_Law_size {p : Int}  (hC : zCls G h ad S) (z_p : zI32 p) {ou : Nat} {n0 : Int} {sv : Value} (eo : h ou = some (.inr (zkOut, [zl (zwd n0), sv]))) (hn : ∀ i, i < 20 → ou ≠ ad i) : zMW G l hLaw_size yLaw_size 10 [.ref (ad 0), zi p, .ref ou] h (zQw G ad ou h (1) (9) (9) (sp_size S p)) zNo 6 36 := by
  refine zMW.of [some (.ref (ad 0)), some (zi p), some (.ref ou), none] (by decide +kernel) rfl (by decide) (Nat.le_of_ble_eq_true rfl) rfl ?_
  refine z_aload_n dLaw_size_0 rfl ?_
  refine z_aload_n dLaw_size_1 rfl ?_
  refine z_iload_n dLaw_size_2 rfl ?_
  refine z_callV (bc' := 0) (bs' := 0) MV_Cls_size lk_Law_57 dLaw_size_3 (k_Cls_size hC z_p) rfl rfl (Nat.le_of_ble_eq_true rfl) rfl hC.2.1 (Nat.le_of_ble_eq_true rfl) (Nat.le_of_ble_eq_true rfl) (by decide) (by decide) (fun E h1 q9 => ?_) ?_
  · obtain ⟨S9, e9, H9, F9⟩ := q9
    obtain rfl := xE_size e9
    refine z_catch (a := 0) (b := 10) (hp := 13) (ct := 19) [] [] rfl (fun z hz => nomatch hz) (by decide) (by decide) wl_zE1 wk_zE1 (fun qx => ?_)
    refine z_astore_n dLaw_size_13 (Nat.le_of_ble_eq_true rfl) ?_
    refine z_iconst dLaw_size_14 ?_
    refine z_iret rfl rfl dLaw_size_15 ?_
    exact zQw.tw e9 H9 F9 eo hn (Or.inl ⟨rfl, rfl⟩)
  · rintro _ h1 ⟨z, S9, e9, rfl, H9, F9⟩
    have eo1 := (F9 ou hn).trans eo
    rw [zwd_i z]
    refine z_i2l (zwd_r z) dLaw_size_6 ?_
    refine z_putN (k := 0) fd_Out (by decide) fl_Law_13 rfl dLaw_size_7 (by assumption) (by simp) rfl rfl ?_
    refine z_hx (fun h2 p2 g2 => ?_)
    refine z_goto (tgt := 16) dLaw_size_10 (by decide) ?_
    refine z_iconst dLaw_size_16 ?_
    refine z_iret rfl rfl dLaw_size_17 ?_
    exact zQw.ok e9 H9 F9 hn p2 g2
theorem k_Law_text {p d : Int} (hC : zCls G h ad S) (hp : zI32 p) (hd : d = 0 ∨ d = 1) {ou : Nat} {n0 : Int} {sv : Value} (eo : h ou = some (.inr (zkOut, [zl (zwd n0), sv]))) (hn : ∀ i, i < 20 → ou ≠ ad i) : zMW G l hLaw_text yLaw_text 9 [.ref (ad 0), zi p, zi d, .ref ou] h (zQw G ad ou h (1) (9) (9) (sp_text S p n0)) zNo 37 606 := by
  refine zMW.of [some (.ref (ad 0)), some (zi p), some (zi d), some (.ref ou), none] (by decide +kernel) rfl (by decide) (Nat.le_of_ble_eq_true rfl) rfl ?_
  refine z_aload_n dLaw_text_0 rfl ?_
  refine z_aload_n dLaw_text_1 rfl ?_
  refine z_iload_n dLaw_text_2 rfl ?_
  refine z_iload_n dLaw_text_3 rfl ?_
  refine z_callV (bc' := 0) (bs' := 0) MV_Cls_text lk_Law_61 dLaw_text_4 (k_Cls_text hC hp hd) rfl rfl (Nat.le_of_ble_eq_true rfl) rfl hC.2.1 (Nat.le_of_ble_eq_true rfl) (Nat.le_of_ble_eq_true rfl) (by decide) (by decide) (fun E h1 q9 => ?_) ?_
  · obtain ⟨q1, q2, rfl⟩ := q9
    subst q1
    have e9 : sp_text S p n0 = (.inr zE1, S) := by unfold sp_text; rw [if_neg q2]
    have H9 := hC
    have F9 : zFrm ad h h := zFrm.rf
    refine z_catch (a := 0) (b := 10) (hp := 13) (ct := 19) [] [] rfl (fun z hz => nomatch hz) (by decide) (by decide) wl_zE1 wk_zE1 (fun qx => ?_)
    refine z_astore dLaw_text_13 (Nat.le_of_ble_eq_true rfl) ?_
    refine z_iconst dLaw_text_15 ?_
    refine z_iret rfl rfl dLaw_text_16 ?_
    exact zQw.tw e9 H9 F9 eo hn (Or.inl ⟨rfl, rfl⟩)
  · rintro _ _ ⟨⟨s9, rfl⟩, q2, rfl⟩
    have e9 : sp_text S p n0 = (.inl n0, S) := by unfold sp_text; rw [if_pos q2]
    have H9 := hC
    have F9 : zFrm ad h h := zFrm.rf
    refine z_putN (k := 1) fd_Out (by decide) fl_Law_65 rfl dLaw_text_7 (by assumption) (by simp) rfl rfl ?_
    refine z_hx (fun h2 p2 g2 => ?_)
    refine z_goto (tgt := 17) dLaw_text_10 (by decide) ?_
    refine z_iconst dLaw_text_17 ?_
    refine z_iret rfl rfl dLaw_text_18 ?_
    exact zQw.ok e9 H9 F9 hn p2 g2
theorem xE_clear {p : Int} {E : String} (h : sp_clear S p = (.inr E, S')) : E = zE1 := by
  unfold sp_clear at h
  (try simp only [spPut, spTake, spBec, spRef] at h)
  (repeat' split at h)
  all_goals first
    | exact (Sum.inr.inj (Prod.mk.inj h).1).symm
    | exact absurd (Prod.mk.inj h).1 (by simp)
theorem k_Law_clear {p : Int}  (hC : zCls G h ad S) (z_p : zI32 p) {ou : Nat} {n0 : Int} {sv : Value} (eo : h ou = some (.inr (zkOut, [zl (zwd n0), sv]))) (hn : ∀ i, i < 20 → ou ≠ ad i) : zMW G l hLaw_clear yLaw_clear 10 [.ref (ad 0), zi p, .ref ou] h (zQw G ad ou h (1) (9) (9) (sp_clear S p)) zNo 6 36 := by
  refine zMW.of [some (.ref (ad 0)), some (zi p), some (.ref ou), none] (by decide +kernel) rfl (by decide) (Nat.le_of_ble_eq_true rfl) rfl ?_
  refine z_aload_n dLaw_clear_0 rfl ?_
  refine z_aload_n dLaw_clear_1 rfl ?_
  refine z_iload_n dLaw_clear_2 rfl ?_
  refine z_callV (bc' := 0) (bs' := 0) MV_Cls_clear lk_Law_69 dLaw_clear_3 (k_Cls_clear hC z_p) rfl rfl (Nat.le_of_ble_eq_true rfl) rfl hC.2.1 (Nat.le_of_ble_eq_true rfl) (Nat.le_of_ble_eq_true rfl) (by decide) (by decide) (fun E h1 q9 => ?_) ?_
  · obtain ⟨S9, e9, H9, F9⟩ := q9
    obtain rfl := xE_clear e9
    refine z_catch (a := 0) (b := 10) (hp := 13) (ct := 19) [] [] rfl (fun z hz => nomatch hz) (by decide) (by decide) wl_zE1 wk_zE1 (fun qx => ?_)
    refine z_astore_n dLaw_clear_13 (Nat.le_of_ble_eq_true rfl) ?_
    refine z_iconst dLaw_clear_14 ?_
    refine z_iret rfl rfl dLaw_clear_15 ?_
    exact zQw.tw e9 H9 F9 eo hn (Or.inl ⟨rfl, rfl⟩)
  · rintro _ h1 ⟨z, S9, e9, rfl, H9, F9⟩
    have eo1 := (F9 ou hn).trans eo
    rw [zwd_i z]
    refine z_i2l (zwd_r z) dLaw_clear_6 ?_
    refine z_putN (k := 0) fd_Out (by decide) fl_Law_13 rfl dLaw_clear_7 (by assumption) (by simp) rfl rfl ?_
    refine z_hx (fun h2 p2 g2 => ?_)
    refine z_goto (tgt := 16) dLaw_clear_10 (by decide) ?_
    refine z_iconst dLaw_clear_16 ?_
    refine z_iret rfl rfl dLaw_clear_17 ?_
    exact zQw.ok e9 H9 F9 hn p2 g2
theorem xE_append {p f : Int} {E : String} (h : sp_append S p f = (.inr E, S')) : E = zE1 := by
  unfold sp_append at h
  (try simp only [spPut, spTake, spBec, spRef] at h)
  (repeat' split at h)
  all_goals first
    | exact (Sum.inr.inj (Prod.mk.inj h).1).symm
    | exact absurd (Prod.mk.inj h).1 (by simp)
theorem k_Law_append {p f : Int}  (hC : zCls G h ad S) (z_p : zI32 p) (z_f : zI32 f) {ou : Nat} {n0 : Int} {sv : Value} (eo : h ou = some (.inr (zkOut, [zl (zwd n0), sv]))) (hn : ∀ i, i < 20 → ou ≠ ad i) : zMW G l hLaw_append yLaw_append 10 [.ref (ad 0), zi p, zi f, .ref ou] h (zQw G ad ou h (1) (9) (9) (sp_append S p f)) zNo 6 36 := by
  refine zMW.of [some (.ref (ad 0)), some (zi p), some (zi f), some (.ref ou), none] (by decide +kernel) rfl (by decide) (Nat.le_of_ble_eq_true rfl) rfl ?_
  refine z_aload_n dLaw_append_0 rfl ?_
  refine z_aload_n dLaw_append_1 rfl ?_
  refine z_iload_n dLaw_append_2 rfl ?_
  refine z_iload_n dLaw_append_3 rfl ?_
  refine z_callV (bc' := 0) (bs' := 0) MV_Cls_append lk_Law_72 dLaw_append_4 (k_Cls_append hC z_p z_f) rfl rfl (Nat.le_of_ble_eq_true rfl) rfl hC.2.1 (Nat.le_of_ble_eq_true rfl) (Nat.le_of_ble_eq_true rfl) (by decide) (by decide) (fun E h1 q9 => ?_) ?_
  · obtain ⟨S9, e9, H9, F9⟩ := q9
    obtain rfl := xE_append e9
    refine z_catch (a := 0) (b := 11) (hp := 14) (ct := 19) [] [] rfl (fun z hz => nomatch hz) (by decide) (by decide) wl_zE1 wk_zE1 (fun qx => ?_)
    refine z_astore dLaw_append_14 (Nat.le_of_ble_eq_true rfl) ?_
    refine z_iconst dLaw_append_16 ?_
    refine z_iret rfl rfl dLaw_append_17 ?_
    exact zQw.tw e9 H9 F9 eo hn (Or.inl ⟨rfl, rfl⟩)
  · rintro _ h1 ⟨z, S9, e9, rfl, H9, F9⟩
    have eo1 := (F9 ou hn).trans eo
    rw [zwd_i z]
    refine z_i2l (zwd_r z) dLaw_append_7 ?_
    refine z_putN (k := 0) fd_Out (by decide) fl_Law_13 rfl dLaw_append_8 (by assumption) (by simp) rfl rfl ?_
    refine z_hx (fun h2 p2 g2 => ?_)
    refine z_goto (tgt := 18) dLaw_append_11 (by decide) ?_
    refine z_iconst dLaw_append_18 ?_
    refine z_iret rfl rfl dLaw_append_19 ?_
    exact zQw.ok e9 H9 F9 hn p2 g2
theorem xE_appendAt {p q f : Int} {E : String} (h : sp_appendAt S p q f = (.inr E, S')) : E = zE1 := by
  unfold sp_appendAt at h
  (try simp only [spPut, spTake, spBec, spRef] at h)
  (repeat' split at h)
  all_goals first
    | exact (Sum.inr.inj (Prod.mk.inj h).1).symm
    | exact absurd (Prod.mk.inj h).1 (by simp)
theorem k_Law_appendAt {p q f : Int}  (hC : zCls G h ad S) (z_p : zI32 p) (z_q : zI32 q) (z_f : zI32 f) {ou : Nat} {n0 : Int} {sv : Value} (eo : h ou = some (.inr (zkOut, [zl (zwd n0), sv]))) (hn : ∀ i, i < 20 → ou ≠ ad i) : zMW G l hLaw_appendAt yLaw_appendAt 10 [.ref (ad 0), zi p, zi q, zi f, .ref ou] h (zQw G ad ou h (1) (9) (9) (sp_appendAt S p q f)) zNo 6 36 := by
  refine zMW.of [some (.ref (ad 0)), some (zi p), some (zi q), some (zi f), some (.ref ou), none] (by decide +kernel) rfl (by decide) (Nat.le_of_ble_eq_true rfl) rfl ?_
  refine z_aload dLaw_appendAt_0 rfl ?_
  refine z_aload_n dLaw_appendAt_2 rfl ?_
  refine z_iload_n dLaw_appendAt_3 rfl ?_
  refine z_iload_n dLaw_appendAt_4 rfl ?_
  refine z_iload_n dLaw_appendAt_5 rfl ?_
  refine z_callV (bc' := 0) (bs' := 0) MV_Cls_appendAt lk_Law_75 dLaw_appendAt_6 (k_Cls_appendAt hC z_p z_q z_f) rfl rfl (Nat.le_of_ble_eq_true rfl) rfl hC.2.1 (Nat.le_of_ble_eq_true rfl) (Nat.le_of_ble_eq_true rfl) (by decide) (by decide) (fun E h1 q9 => ?_) ?_
  · obtain ⟨S9, e9, H9, F9⟩ := q9
    obtain rfl := xE_appendAt e9
    refine z_catch (a := 0) (b := 13) (hp := 16) (ct := 19) [] [] rfl (fun z hz => nomatch hz) (by decide) (by decide) wl_zE1 wk_zE1 (fun qx => ?_)
    refine z_astore dLaw_appendAt_16 (Nat.le_of_ble_eq_true rfl) ?_
    refine z_iconst dLaw_appendAt_18 ?_
    refine z_iret rfl rfl dLaw_appendAt_19 ?_
    exact zQw.tw e9 H9 F9 eo hn (Or.inl ⟨rfl, rfl⟩)
  · rintro _ h1 ⟨z, S9, e9, rfl, H9, F9⟩
    have eo1 := (F9 ou hn).trans eo
    rw [zwd_i z]
    refine z_i2l (zwd_r z) dLaw_appendAt_9 ?_
    refine z_putN (k := 0) fd_Out (by decide) fl_Law_13 rfl dLaw_appendAt_10 (by assumption) (by simp) rfl rfl ?_
    refine z_hx (fun h2 p2 g2 => ?_)
    refine z_goto (tgt := 20) dLaw_appendAt_13 (by decide) ?_
    refine z_iconst dLaw_appendAt_20 ?_
    refine z_iret rfl rfl dLaw_appendAt_21 ?_
    exact zQw.ok e9 H9 F9 hn p2 g2
theorem xE_copy {p i : Int} {E : String} (h : sp_copy S p i = (.inr E, S')) : E = zE1 := by
  unfold sp_copy at h
  (try simp only [spPut, spTake, spBec, spRef] at h)
  (repeat' split at h)
  all_goals first
    | exact (Sum.inr.inj (Prod.mk.inj h).1).symm
    | exact absurd (Prod.mk.inj h).1 (by simp)
theorem k_Law_copy {p i : Int}  (hC : zCls G h ad S) (z_p : zI32 p) (z_i : zI32 i) {ou : Nat} {n0 : Int} {sv : Value} (eo : h ou = some (.inr (zkOut, [zl (zwd n0), sv]))) (hn : ∀ i, i < 20 → ou ≠ ad i) : zMW G l hLaw_copy yLaw_copy 10 [.ref (ad 0), zi p, zi i, .ref ou] h (zQw G ad ou h (1) (9) (9) (sp_copy S p i)) zNo 6 36 := by
  refine zMW.of [some (.ref (ad 0)), some (zi p), some (zi i), some (.ref ou), none] (by decide +kernel) rfl (by decide) (Nat.le_of_ble_eq_true rfl) rfl ?_
  refine z_aload_n dLaw_copy_0 rfl ?_
  refine z_aload_n dLaw_copy_1 rfl ?_
  refine z_iload_n dLaw_copy_2 rfl ?_
  refine z_iload_n dLaw_copy_3 rfl ?_
  refine z_callV (bc' := 0) (bs' := 0) MV_Cls_copy lk_Law_78 dLaw_copy_4 (k_Cls_copy hC z_p z_i) rfl rfl (Nat.le_of_ble_eq_true rfl) rfl hC.2.1 (Nat.le_of_ble_eq_true rfl) (Nat.le_of_ble_eq_true rfl) (by decide) (by decide) (fun E h1 q9 => ?_) ?_
  · obtain ⟨S9, e9, H9, F9⟩ := q9
    obtain rfl := xE_copy e9
    refine z_catch (a := 0) (b := 11) (hp := 14) (ct := 19) [] [] rfl (fun z hz => nomatch hz) (by decide) (by decide) wl_zE1 wk_zE1 (fun qx => ?_)
    refine z_astore dLaw_copy_14 (Nat.le_of_ble_eq_true rfl) ?_
    refine z_iconst dLaw_copy_16 ?_
    refine z_iret rfl rfl dLaw_copy_17 ?_
    exact zQw.tw e9 H9 F9 eo hn (Or.inl ⟨rfl, rfl⟩)
  · rintro _ h1 ⟨z, S9, e9, rfl, H9, F9⟩
    have eo1 := (F9 ou hn).trans eo
    rw [zwd_i z]
    refine z_i2l (zwd_r z) dLaw_copy_7 ?_
    refine z_putN (k := 0) fd_Out (by decide) fl_Law_13 rfl dLaw_copy_8 (by assumption) (by simp) rfl rfl ?_
    refine z_hx (fun h2 p2 g2 => ?_)
    refine z_goto (tgt := 18) dLaw_copy_11 (by decide) ?_
    refine z_iconst dLaw_copy_18 ?_
    refine z_iret rfl rfl dLaw_copy_19 ?_
    exact zQw.ok e9 H9 F9 hn p2 g2
theorem xE_places {p m : Int} {E : String} (h : sp_places S p m = (.inr E, S')) : E = zE1 ∨ E = zE2 := by
  unfold sp_places at h
  (try simp only [spPut, spTake, spBec, spRef] at h)
  (repeat' split at h)
  all_goals first
    | exact Or.inl (Sum.inr.inj (Prod.mk.inj h).1).symm
    | exact Or.inr ((Sum.inr.inj (Prod.mk.inj h).1).symm)
    | exact absurd (Prod.mk.inj h).1 (by simp)
theorem k_Law_places {p m : Int}  (hC : zCls G h ad S) (z_p : zI32 p) (z_m : zI32 m) {ou : Nat} {n0 : Int} {sv : Value} (eo : h ou = some (.inr (zkOut, [zl (zwd n0), sv]))) (hn : ∀ i, i < 20 → ou ≠ ad i) : zMW G l hLaw_places yLaw_places 10 [.ref (ad 0), zi p, zi m, .ref ou] h (zQw G ad ou h (1) (2) (9) (sp_places S p m)) zNo 6 36 := by
  refine zMW.of [some (.ref (ad 0)), some (zi p), some (zi m), some (.ref ou), none] (by decide +kernel) rfl (by decide) (Nat.le_of_ble_eq_true rfl) rfl ?_
  refine z_aload_n dLaw_places_0 rfl ?_
  refine z_aload_n dLaw_places_1 rfl ?_
  refine z_iload_n dLaw_places_2 rfl ?_
  refine z_iload_n dLaw_places_3 rfl ?_
  refine z_callV (bc' := 0) (bs' := 0) MV_Cls_places lk_Law_81 dLaw_places_4 (k_Cls_places hC z_p z_m) rfl rfl (Nat.le_of_ble_eq_true rfl) rfl hC.2.1 (Nat.le_of_ble_eq_true rfl) (Nat.le_of_ble_eq_true rfl) (by decide) (by decide) (fun E h1 q9 => ?_) ?_
  · obtain ⟨S9, e9, H9, F9⟩ := q9
    rcases xE_places e9 with rfl | rfl
    · refine z_catch (a := 0) (b := 11) (hp := 14) (ct := 19) [] [(0, 11, 18, 21)] rfl (fun z hz => nomatch hz) (by decide) (by decide) wl_zE1 wk_zE1 (fun qx => ?_)
      refine z_astore dLaw_places_14 (Nat.le_of_ble_eq_true rfl) ?_
      refine z_iconst dLaw_places_16 ?_
      refine z_iret rfl rfl dLaw_places_17 ?_
      exact zQw.tw e9 H9 F9 eo hn (Or.inl ⟨rfl, rfl⟩)
    · refine z_catch (a := 0) (b := 11) (hp := 18) (ct := 21) [(0, 11, 14, 19)] [] rfl (by intro z hz; simp only [List.mem_cons, List.not_mem_nil, or_false] at hz; rcases hz with rfl <;> first | exact ⟨by decide, _, wl_zE1, by decide⟩) (by decide) (by decide) wl_zE2 wk_zE2 (fun qx => ?_)
      refine z_astore dLaw_places_18 (Nat.le_of_ble_eq_true rfl) ?_
      refine z_iconst dLaw_places_20 ?_
      refine z_iret rfl rfl dLaw_places_21 ?_
      exact zQw.tw e9 H9 F9 eo hn (Or.inr (Or.inl ⟨rfl, rfl⟩))
  · rintro _ h1 ⟨z, S9, e9, rfl, H9, F9⟩
    have eo1 := (F9 ou hn).trans eo
    rw [zwd_i z]
    refine z_i2l (zwd_r z) dLaw_places_7 ?_
    refine z_putN (k := 0) fd_Out (by decide) fl_Law_13 rfl dLaw_places_8 (by assumption) (by simp) rfl rfl ?_
    refine z_hx (fun h2 p2 g2 => ?_)
    refine z_goto (tgt := 22) dLaw_places_11 (by decide) ?_
    refine z_iconst dLaw_places_22 ?_
    refine z_iret rfl rfl dLaw_places_23 ?_
    exact zQw.ok e9 H9 F9 hn p2 g2
theorem xE_rotate {p b : Int} {E : String} (h : sp_rotate S p b = (.inr E, S')) : E = zE1 ∨ E = zE2 := by
  unfold sp_rotate at h
  (try simp only [spPut, spTake, spBec, spRef] at h)
  (repeat' split at h)
  all_goals first
    | exact Or.inl (Sum.inr.inj (Prod.mk.inj h).1).symm
    | exact Or.inr ((Sum.inr.inj (Prod.mk.inj h).1).symm)
    | exact absurd (Prod.mk.inj h).1 (by simp)
theorem k_Law_rotate {p b : Int}  (hC : zCls G h ad S) (z_p : zI32 p) (z_b : zI32 b) {ou : Nat} {n0 : Int} {sv : Value} (eo : h ou = some (.inr (zkOut, [zl (zwd n0), sv]))) (hn : ∀ i, i < 20 → ou ≠ ad i) : zMW G l hLaw_rotate yLaw_rotate 10 [.ref (ad 0), zi p, zi b, .ref ou] h (zQw G ad ou h (1) (2) (9) (sp_rotate S p b)) zNo 6 36 := by
  refine zMW.of [some (.ref (ad 0)), some (zi p), some (zi b), some (.ref ou), none] (by decide +kernel) rfl (by decide) (Nat.le_of_ble_eq_true rfl) rfl ?_
  refine z_aload_n dLaw_rotate_0 rfl ?_
  refine z_aload_n dLaw_rotate_1 rfl ?_
  refine z_iload_n dLaw_rotate_2 rfl ?_
  refine z_iload_n dLaw_rotate_3 rfl ?_
  refine z_callV (bc' := 0) (bs' := 0) MV_Cls_rotate lk_Law_84 dLaw_rotate_4 (k_Cls_rotate hC z_p z_b) rfl rfl (Nat.le_of_ble_eq_true rfl) rfl hC.2.1 (Nat.le_of_ble_eq_true rfl) (Nat.le_of_ble_eq_true rfl) (by decide) (by decide) (fun E h1 q9 => ?_) ?_
  · obtain ⟨S9, e9, H9, F9⟩ := q9
    rcases xE_rotate e9 with rfl | rfl
    · refine z_catch (a := 0) (b := 11) (hp := 14) (ct := 19) [] [(0, 11, 18, 21)] rfl (fun z hz => nomatch hz) (by decide) (by decide) wl_zE1 wk_zE1 (fun qx => ?_)
      refine z_astore dLaw_rotate_14 (Nat.le_of_ble_eq_true rfl) ?_
      refine z_iconst dLaw_rotate_16 ?_
      refine z_iret rfl rfl dLaw_rotate_17 ?_
      exact zQw.tw e9 H9 F9 eo hn (Or.inl ⟨rfl, rfl⟩)
    · refine z_catch (a := 0) (b := 11) (hp := 18) (ct := 21) [(0, 11, 14, 19)] [] rfl (by intro z hz; simp only [List.mem_cons, List.not_mem_nil, or_false] at hz; rcases hz with rfl <;> first | exact ⟨by decide, _, wl_zE1, by decide⟩) (by decide) (by decide) wl_zE2 wk_zE2 (fun qx => ?_)
      refine z_astore dLaw_rotate_18 (Nat.le_of_ble_eq_true rfl) ?_
      refine z_iconst dLaw_rotate_20 ?_
      refine z_iret rfl rfl dLaw_rotate_21 ?_
      exact zQw.tw e9 H9 F9 eo hn (Or.inr (Or.inl ⟨rfl, rfl⟩))
  · rintro _ h1 ⟨z, S9, e9, rfl, H9, F9⟩
    have eo1 := (F9 ou hn).trans eo
    rw [zwd_i z]
    refine z_i2l (zwd_r z) dLaw_rotate_7 ?_
    refine z_putN (k := 0) fd_Out (by decide) fl_Law_13 rfl dLaw_rotate_8 (by assumption) (by simp) rfl rfl ?_
    refine z_hx (fun h2 p2 g2 => ?_)
    refine z_goto (tgt := 22) dLaw_rotate_11 (by decide) ?_
    refine z_iconst dLaw_rotate_22 ?_
    refine z_iret rfl rfl dLaw_rotate_23 ?_
    exact zQw.ok e9 H9 F9 hn p2 g2
theorem xE_move {p f t : Int} {E : String} (h : sp_move S p f t = (.inr E, S')) : E = zE1 := by
  unfold sp_move at h
  (try simp only [spPut, spTake, spBec, spRef] at h)
  (repeat' split at h)
  all_goals first
    | exact (Sum.inr.inj (Prod.mk.inj h).1).symm
    | exact absurd (Prod.mk.inj h).1 (by simp)
theorem k_Law_move {p f t : Int}  (hC : zCls G h ad S) (z_p : zI32 p) (z_f : zI32 f) (z_t : zI32 t) {ou : Nat} {n0 : Int} {sv : Value} (eo : h ou = some (.inr (zkOut, [zl (zwd n0), sv]))) (hn : ∀ i, i < 20 → ou ≠ ad i) : zMW G l hLaw_move yLaw_move 10 [.ref (ad 0), zi p, zi f, zi t, .ref ou] h (zQw G ad ou h (1) (9) (9) (sp_move S p f t)) zNo 6 36 := by
  refine zMW.of [some (.ref (ad 0)), some (zi p), some (zi f), some (zi t), some (.ref ou), none] (by decide +kernel) rfl (by decide) (Nat.le_of_ble_eq_true rfl) rfl ?_
  refine z_aload dLaw_move_0 rfl ?_
  refine z_aload_n dLaw_move_2 rfl ?_
  refine z_iload_n dLaw_move_3 rfl ?_
  refine z_iload_n dLaw_move_4 rfl ?_
  refine z_iload_n dLaw_move_5 rfl ?_
  refine z_callV (bc' := 0) (bs' := 0) MV_Cls_move lk_Law_87 dLaw_move_6 (k_Cls_move hC z_p z_f z_t) rfl rfl (Nat.le_of_ble_eq_true rfl) rfl hC.2.1 (Nat.le_of_ble_eq_true rfl) (Nat.le_of_ble_eq_true rfl) (by decide) (by decide) (fun E h1 q9 => ?_) ?_
  · obtain ⟨S9, e9, H9, F9⟩ := q9
    obtain rfl := xE_move e9
    refine z_catch (a := 0) (b := 13) (hp := 16) (ct := 19) [] [] rfl (fun z hz => nomatch hz) (by decide) (by decide) wl_zE1 wk_zE1 (fun qx => ?_)
    refine z_astore dLaw_move_16 (Nat.le_of_ble_eq_true rfl) ?_
    refine z_iconst dLaw_move_18 ?_
    refine z_iret rfl rfl dLaw_move_19 ?_
    exact zQw.tw e9 H9 F9 eo hn (Or.inl ⟨rfl, rfl⟩)
  · rintro _ h1 ⟨z, S9, e9, rfl, H9, F9⟩
    have eo1 := (F9 ou hn).trans eo
    rw [zwd_i z]
    refine z_i2l (zwd_r z) dLaw_move_9 ?_
    refine z_putN (k := 0) fd_Out (by decide) fl_Law_13 rfl dLaw_move_10 (by assumption) (by simp) rfl rfl ?_
    refine z_hx (fun h2 p2 g2 => ?_)
    refine z_goto (tgt := 20) dLaw_move_13 (by decide) ?_
    refine z_iconst dLaw_move_20 ?_
    refine z_iret rfl rfl dLaw_move_21 ?_
    exact zQw.ok e9 H9 F9 hn p2 g2
theorem xE_swap {p i j : Int} {E : String} (h : sp_swap S p i j = (.inr E, S')) : E = zE1 := by
  unfold sp_swap at h
  (try simp only [spPut, spTake, spBec, spRef] at h)
  (repeat' split at h)
  all_goals first
    | exact (Sum.inr.inj (Prod.mk.inj h).1).symm
    | exact absurd (Prod.mk.inj h).1 (by simp)
theorem k_Law_swap {p i j : Int}  (hC : zCls G h ad S) (z_p : zI32 p) (z_i : zI32 i) (z_j : zI32 j) {ou : Nat} {n0 : Int} {sv : Value} (eo : h ou = some (.inr (zkOut, [zl (zwd n0), sv]))) (hn : ∀ i, i < 20 → ou ≠ ad i) : zMW G l hLaw_swap yLaw_swap 10 [.ref (ad 0), zi p, zi i, zi j, .ref ou] h (zQw G ad ou h (1) (9) (9) (sp_swap S p i j)) zNo 6 36 := by
  refine zMW.of [some (.ref (ad 0)), some (zi p), some (zi i), some (zi j), some (.ref ou), none] (by decide +kernel) rfl (by decide) (Nat.le_of_ble_eq_true rfl) rfl ?_
  refine z_aload dLaw_swap_0 rfl ?_
  refine z_aload_n dLaw_swap_2 rfl ?_
  refine z_iload_n dLaw_swap_3 rfl ?_
  refine z_iload_n dLaw_swap_4 rfl ?_
  refine z_iload_n dLaw_swap_5 rfl ?_
  refine z_callV (bc' := 0) (bs' := 0) MV_Cls_swap lk_Law_90 dLaw_swap_6 (k_Cls_swap hC z_p z_i z_j) rfl rfl (Nat.le_of_ble_eq_true rfl) rfl hC.2.1 (Nat.le_of_ble_eq_true rfl) (Nat.le_of_ble_eq_true rfl) (by decide) (by decide) (fun E h1 q9 => ?_) ?_
  · obtain ⟨S9, e9, H9, F9⟩ := q9
    obtain rfl := xE_swap e9
    refine z_catch (a := 0) (b := 13) (hp := 16) (ct := 19) [] [] rfl (fun z hz => nomatch hz) (by decide) (by decide) wl_zE1 wk_zE1 (fun qx => ?_)
    refine z_astore dLaw_swap_16 (Nat.le_of_ble_eq_true rfl) ?_
    refine z_iconst dLaw_swap_18 ?_
    refine z_iret rfl rfl dLaw_swap_19 ?_
    exact zQw.tw e9 H9 F9 eo hn (Or.inl ⟨rfl, rfl⟩)
  · rintro _ h1 ⟨z, S9, e9, rfl, H9, F9⟩
    have eo1 := (F9 ou hn).trans eo
    rw [zwd_i z]
    refine z_i2l (zwd_r z) dLaw_swap_9 ?_
    refine z_putN (k := 0) fd_Out (by decide) fl_Law_13 rfl dLaw_swap_10 (by assumption) (by simp) rfl rfl ?_
    refine z_hx (fun h2 p2 g2 => ?_)
    refine z_goto (tgt := 20) dLaw_swap_13 (by decide) ?_
    refine z_iconst dLaw_swap_20 ?_
    refine z_iret rfl rfl dLaw_swap_21 ?_
    exact zQw.ok e9 H9 F9 hn p2 g2
theorem xE_reverse {p : Int} {E : String} (h : sp_reverse S p = (.inr E, S')) : E = zE1 := by
  unfold sp_reverse at h
  (try simp only [spPut, spTake, spBec, spRef] at h)
  (repeat' split at h)
  all_goals first
    | exact (Sum.inr.inj (Prod.mk.inj h).1).symm
    | exact absurd (Prod.mk.inj h).1 (by simp)
theorem k_Law_reverse {p : Int}  (hC : zCls G h ad S) (z_p : zI32 p) {ou : Nat} {n0 : Int} {sv : Value} (eo : h ou = some (.inr (zkOut, [zl (zwd n0), sv]))) (hn : ∀ i, i < 20 → ou ≠ ad i) : zMW G l hLaw_reverse yLaw_reverse 10 [.ref (ad 0), zi p, .ref ou] h (zQw G ad ou h (1) (9) (9) (sp_reverse S p)) zNo 6 36 := by
  refine zMW.of [some (.ref (ad 0)), some (zi p), some (.ref ou), none] (by decide +kernel) rfl (by decide) (Nat.le_of_ble_eq_true rfl) rfl ?_
  refine z_aload_n dLaw_reverse_0 rfl ?_
  refine z_aload_n dLaw_reverse_1 rfl ?_
  refine z_iload_n dLaw_reverse_2 rfl ?_
  refine z_callV (bc' := 0) (bs' := 0) MV_Cls_reverse lk_Law_93 dLaw_reverse_3 (k_Cls_reverse hC z_p) rfl rfl (Nat.le_of_ble_eq_true rfl) rfl hC.2.1 (Nat.le_of_ble_eq_true rfl) (Nat.le_of_ble_eq_true rfl) (by decide) (by decide) (fun E h1 q9 => ?_) ?_
  · obtain ⟨S9, e9, H9, F9⟩ := q9
    obtain rfl := xE_reverse e9
    refine z_catch (a := 0) (b := 10) (hp := 13) (ct := 19) [] [] rfl (fun z hz => nomatch hz) (by decide) (by decide) wl_zE1 wk_zE1 (fun qx => ?_)
    refine z_astore_n dLaw_reverse_13 (Nat.le_of_ble_eq_true rfl) ?_
    refine z_iconst dLaw_reverse_14 ?_
    refine z_iret rfl rfl dLaw_reverse_15 ?_
    exact zQw.tw e9 H9 F9 eo hn (Or.inl ⟨rfl, rfl⟩)
  · rintro _ h1 ⟨z, S9, e9, rfl, H9, F9⟩
    have eo1 := (F9 ou hn).trans eo
    rw [zwd_i z]
    refine z_i2l (zwd_r z) dLaw_reverse_6 ?_
    refine z_putN (k := 0) fd_Out (by decide) fl_Law_13 rfl dLaw_reverse_7 (by assumption) (by simp) rfl rfl ?_
    refine z_hx (fun h2 p2 g2 => ?_)
    refine z_goto (tgt := 16) dLaw_reverse_10 (by decide) ?_
    refine z_iconst dLaw_reverse_16 ?_
    refine z_iret rfl rfl dLaw_reverse_17 ?_
    exact zQw.ok e9 H9 F9 hn p2 g2
theorem xE_through {p m i : Int} {E : String} (h : sp_through S p m i = (.inr E, S')) : E = zE1 := by
  unfold sp_through at h
  (try simp only [spPut, spTake, spBec, spRef] at h)
  (repeat' split at h)
  all_goals first
    | exact (Sum.inr.inj (Prod.mk.inj h).1).symm
    | exact absurd (Prod.mk.inj h).1 (by simp)
theorem k_Law_through {p m i : Int}  (hC : zCls G h ad S) (z_p : zI32 p) (z_m : zI32 m) (z_i : zI32 i) {ou : Nat} {n0 : Int} {sv : Value} (eo : h ou = some (.inr (zkOut, [zl (zwd n0), sv]))) (hn : ∀ i, i < 20 → ou ≠ ad i) : zMW G l hLaw_through yLaw_through 10 [.ref (ad 0), zi p, zi m, zi i, .ref ou] h (zQw G ad ou h (1) (9) (9) (sp_through S p m i)) zNo 6 36 := by
  refine zMW.of [some (.ref (ad 0)), some (zi p), some (zi m), some (zi i), some (.ref ou), none] (by decide +kernel) rfl (by decide) (Nat.le_of_ble_eq_true rfl) rfl ?_
  refine z_aload dLaw_through_0 rfl ?_
  refine z_aload_n dLaw_through_2 rfl ?_
  refine z_iload_n dLaw_through_3 rfl ?_
  refine z_iload_n dLaw_through_4 rfl ?_
  refine z_iload_n dLaw_through_5 rfl ?_
  refine z_callV (bc' := 0) (bs' := 0) MV_Cls_through lk_Law_96 dLaw_through_6 (k_Cls_through hC z_p z_m z_i) rfl rfl (Nat.le_of_ble_eq_true rfl) rfl hC.2.1 (Nat.le_of_ble_eq_true rfl) (Nat.le_of_ble_eq_true rfl) (by decide) (by decide) (fun E h1 q9 => ?_) ?_
  · obtain ⟨S9, e9, H9, F9⟩ := q9
    obtain rfl := xE_through e9
    refine z_catch (a := 0) (b := 13) (hp := 16) (ct := 19) [] [] rfl (fun z hz => nomatch hz) (by decide) (by decide) wl_zE1 wk_zE1 (fun qx => ?_)
    refine z_astore dLaw_through_16 (Nat.le_of_ble_eq_true rfl) ?_
    refine z_iconst dLaw_through_18 ?_
    refine z_iret rfl rfl dLaw_through_19 ?_
    exact zQw.tw e9 H9 F9 eo hn (Or.inl ⟨rfl, rfl⟩)
  · rintro _ h1 ⟨z, S9, e9, rfl, H9, F9⟩
    have eo1 := (F9 ou hn).trans eo
    rw [zwd_i z]
    refine z_i2l (zwd_r z) dLaw_through_9 ?_
    refine z_putN (k := 0) fd_Out (by decide) fl_Law_13 rfl dLaw_through_10 (by assumption) (by simp) rfl rfl ?_
    refine z_hx (fun h2 p2 g2 => ?_)
    refine z_goto (tgt := 20) dLaw_through_13 (by decide) ?_
    refine z_iconst dLaw_through_20 ?_
    refine z_iret rfl rfl dLaw_through_21 ?_
    exact zQw.ok e9 H9 F9 hn p2 g2
theorem xE_areSame {p o : Int} {E : String} (h : sp_areSame S p o = (.inr E, S')) : E = zE1 := by
  unfold sp_areSame at h
  (try simp only [spPut, spTake, spBec, spRef] at h)
  (repeat' split at h)
  all_goals first
    | exact (Sum.inr.inj (Prod.mk.inj h).1).symm
    | exact absurd (Prod.mk.inj h).1 (by simp)
theorem xB_areSame {p o : Int} {z : Int} (h : sp_areSame S p o = (.inl z, S')) : z = 0 ∨ z = 1 := by
  unfold sp_areSame at h
  (try simp only [spPut, spTake, spBec, spRef] at h)
  (repeat' split at h)
  all_goals first
    | exact Or.inl (Sum.inl.inj (Prod.mk.inj h).1).symm
    | exact Or.inr (Sum.inl.inj (Prod.mk.inj h).1).symm
    | exact absurd (Prod.mk.inj h).1 (by simp)
theorem k_Law_areSame {p o : Int}  (hC : zCls G h ad S) (z_p : zI32 p) (z_o : zI32 o) {ou : Nat} {n0 : Int} {sv : Value} (eo : h ou = some (.inr (zkOut, [zl (zwd n0), sv]))) (hn : ∀ i, i < 20 → ou ≠ ad i) : zMW G l hLaw_areSame yLaw_areSame 10 [.ref (ad 0), zi p, zi o, .ref ou] h (zQw G ad ou h (1) (9) (9) (sp_areSame S p o)) zNo 6 36 := by
  refine zMW.of [some (.ref (ad 0)), some (zi p), some (zi o), some (.ref ou), none] (by decide +kernel) rfl (by decide) (Nat.le_of_ble_eq_true rfl) rfl ?_
  refine z_aload_n dLaw_areSame_0 rfl ?_
  refine z_aload_n dLaw_areSame_1 rfl ?_
  refine z_iload_n dLaw_areSame_2 rfl ?_
  refine z_iload_n dLaw_areSame_3 rfl ?_
  refine z_callV (bc' := 0) (bs' := 0) MV_Cls_areSame lk_Law_99 dLaw_areSame_4 (k_Cls_areSame hC z_p z_o) rfl rfl (Nat.le_of_ble_eq_true rfl) rfl hC.2.1 (Nat.le_of_ble_eq_true rfl) (Nat.le_of_ble_eq_true rfl) (by decide) (by decide) (fun E h1 q9 => ?_) ?_
  · obtain ⟨S9, e9, H9, F9⟩ := q9
    obtain rfl := xE_areSame e9
    refine z_catch (a := 0) (b := 18) (hp := 21) (ct := 19) [] [] rfl (fun z hz => nomatch hz) (by decide) (by decide) wl_zE1 wk_zE1 (fun qx => ?_)
    refine z_astore dLaw_areSame_21 (Nat.le_of_ble_eq_true rfl) ?_
    refine z_iconst dLaw_areSame_23 ?_
    refine z_iret rfl rfl dLaw_areSame_24 ?_
    exact zQw.tw e9 H9 F9 eo hn (Or.inl ⟨rfl, rfl⟩)
  · rintro _ h1 ⟨z, S9, e9, rfl, H9, F9⟩
    have eo1 := (F9 ou hn).trans eo
    have hz := xB_areSame e9
    refine z_if_eq (tgt := 14) dLaw_areSame_7 (by decide) (by omega) (fun c7 => ?_) (fun c7 => ?_)
    · refine z_lconst dLaw_areSame_14 0 rfl ?_
      refine z_putN (k := 0) fd_Out (by decide) fl_Law_13 rfl dLaw_areSame_15 (by assumption) (by simp) rfl rfl ?_
      refine z_hx (fun h2 p2 g2 => ?_)
      refine z_goto (tgt := 25) dLaw_areSame_18 (by decide) ?_
      refine z_iconst dLaw_areSame_25 ?_
      refine z_iret rfl rfl dLaw_areSame_26 ?_
      first
        | exact zQw.ok e9 H9 F9 hn (by rw [show zwd z = 0 by (rw [show z = 0 by omega]; decide)]; exact p2) g2
        | exact zQw.ok e9 H9 F9 hn (by rw [show zwd z = 1 by (rw [show z = 1 by omega]; decide)]; exact p2) g2
    · refine z_lconst dLaw_areSame_10 1 rfl ?_
      refine z_goto (tgt := 15) dLaw_areSame_11 (by decide) ?_
      refine z_putN (k := 0) fd_Out (by decide) fl_Law_13 rfl dLaw_areSame_15 (by assumption) (by simp) rfl rfl ?_
      refine z_hx (fun h2 p2 g2 => ?_)
      refine z_goto (tgt := 25) dLaw_areSame_18 (by decide) ?_
      refine z_iconst dLaw_areSame_25 ?_
      refine z_iret rfl rfl dLaw_areSame_26 ?_
      first
        | exact zQw.ok e9 H9 F9 hn (by rw [show zwd z = 0 by (rw [show z = 0 by omega]; decide)]; exact p2) g2
        | exact zQw.ok e9 H9 F9 hn (by rw [show zwd z = 1 by (rw [show z = 1 by omega]; decide)]; exact p2) g2
theorem xE_isMirror {p : Int} {E : String} (h : sp_isMirror S p = (.inr E, S')) : E = zE1 := by
  unfold sp_isMirror at h
  (try simp only [spPut, spTake, spBec, spRef] at h)
  (repeat' split at h)
  all_goals first
    | exact (Sum.inr.inj (Prod.mk.inj h).1).symm
    | exact absurd (Prod.mk.inj h).1 (by simp)
theorem xB_isMirror {p : Int} {z : Int} (h : sp_isMirror S p = (.inl z, S')) : z = 0 ∨ z = 1 := by
  unfold sp_isMirror at h
  (try simp only [spPut, spTake, spBec, spRef] at h)
  (repeat' split at h)
  all_goals first
    | exact Or.inl (Sum.inl.inj (Prod.mk.inj h).1).symm
    | exact Or.inr (Sum.inl.inj (Prod.mk.inj h).1).symm
    | exact absurd (Prod.mk.inj h).1 (by simp)
theorem k_Law_isMirror {p : Int}  (hC : zCls G h ad S) (z_p : zI32 p) {ou : Nat} {n0 : Int} {sv : Value} (eo : h ou = some (.inr (zkOut, [zl (zwd n0), sv]))) (hn : ∀ i, i < 20 → ou ≠ ad i) : zMW G l hLaw_isMirror yLaw_isMirror 10 [.ref (ad 0), zi p, .ref ou] h (zQw G ad ou h (1) (9) (9) (sp_isMirror S p)) zNo 6 36 := by
  refine zMW.of [some (.ref (ad 0)), some (zi p), some (.ref ou), none] (by decide +kernel) rfl (by decide) (Nat.le_of_ble_eq_true rfl) rfl ?_
  refine z_aload_n dLaw_isMirror_0 rfl ?_
  refine z_aload_n dLaw_isMirror_1 rfl ?_
  refine z_iload_n dLaw_isMirror_2 rfl ?_
  refine z_callV (bc' := 0) (bs' := 0) MV_Cls_isMirror lk_Law_102 dLaw_isMirror_3 (k_Cls_isMirror hC z_p) rfl rfl (Nat.le_of_ble_eq_true rfl) rfl hC.2.1 (Nat.le_of_ble_eq_true rfl) (Nat.le_of_ble_eq_true rfl) (by decide) (by decide) (fun E h1 q9 => ?_) ?_
  · obtain ⟨S9, e9, H9, F9⟩ := q9
    obtain rfl := xE_isMirror e9
    refine z_catch (a := 0) (b := 17) (hp := 20) (ct := 19) [] [] rfl (fun z hz => nomatch hz) (by decide) (by decide) wl_zE1 wk_zE1 (fun qx => ?_)
    refine z_astore_n dLaw_isMirror_20 (Nat.le_of_ble_eq_true rfl) ?_
    refine z_iconst dLaw_isMirror_21 ?_
    refine z_iret rfl rfl dLaw_isMirror_22 ?_
    exact zQw.tw e9 H9 F9 eo hn (Or.inl ⟨rfl, rfl⟩)
  · rintro _ h1 ⟨z, S9, e9, rfl, H9, F9⟩
    have eo1 := (F9 ou hn).trans eo
    have hz := xB_isMirror e9
    refine z_if_eq (tgt := 13) dLaw_isMirror_6 (by decide) (by omega) (fun c6 => ?_) (fun c6 => ?_)
    · refine z_lconst dLaw_isMirror_13 0 rfl ?_
      refine z_putN (k := 0) fd_Out (by decide) fl_Law_13 rfl dLaw_isMirror_14 (by assumption) (by simp) rfl rfl ?_
      refine z_hx (fun h2 p2 g2 => ?_)
      refine z_goto (tgt := 23) dLaw_isMirror_17 (by decide) ?_
      refine z_iconst dLaw_isMirror_23 ?_
      refine z_iret rfl rfl dLaw_isMirror_24 ?_
      first
        | exact zQw.ok e9 H9 F9 hn (by rw [show zwd z = 0 by (rw [show z = 0 by omega]; decide)]; exact p2) g2
        | exact zQw.ok e9 H9 F9 hn (by rw [show zwd z = 1 by (rw [show z = 1 by omega]; decide)]; exact p2) g2
    · refine z_lconst dLaw_isMirror_9 1 rfl ?_
      refine z_goto (tgt := 14) dLaw_isMirror_10 (by decide) ?_
      refine z_putN (k := 0) fd_Out (by decide) fl_Law_13 rfl dLaw_isMirror_14 (by assumption) (by simp) rfl rfl ?_
      refine z_hx (fun h2 p2 g2 => ?_)
      refine z_goto (tgt := 23) dLaw_isMirror_17 (by decide) ?_
      refine z_iconst dLaw_isMirror_23 ?_
      refine z_iret rfl rfl dLaw_isMirror_24 ?_
      first
        | exact zQw.ok e9 H9 F9 hn (by rw [show zwd z = 0 by (rw [show z = 0 by omega]; decide)]; exact p2) g2
        | exact zQw.ok e9 H9 F9 hn (by rw [show zwd z = 1 by (rw [show z = 1 by omega]; decide)]; exact p2) g2
theorem xE_open {c p q : Int} {E : String} (h : sp_open S c p q = (.inr E, S')) : E = zE1 := by
  unfold sp_open at h
  (try simp only [spPut, spTake, spBec, spRef] at h)
  (repeat' split at h)
  all_goals first
    | exact (Sum.inr.inj (Prod.mk.inj h).1).symm
    | exact absurd (Prod.mk.inj h).1 (by simp)
theorem k_Law_open {c p q : Int}  (hC : zCls G h ad S) (z_c : zI32 c) (z_p : zI32 p) (z_q : zI32 q) {ou : Nat} {n0 : Int} {sv : Value} (eo : h ou = some (.inr (zkOut, [zl (zwd n0), sv]))) (hn : ∀ i, i < 20 → ou ≠ ad i) : zMW G l hLaw_open yLaw_open 10 [.ref (ad 0), zi c, zi p, zi q, .ref ou] h (zQw G ad ou h (1) (9) (9) (sp_open S c p q)) zNo 6 36 := by
  refine zMW.of [some (.ref (ad 0)), some (zi c), some (zi p), some (zi q), some (.ref ou), none] (by decide +kernel) rfl (by decide) (Nat.le_of_ble_eq_true rfl) rfl ?_
  refine z_aload dLaw_open_0 rfl ?_
  refine z_aload_n dLaw_open_2 rfl ?_
  refine z_iload_n dLaw_open_3 rfl ?_
  refine z_iload_n dLaw_open_4 rfl ?_
  refine z_iload_n dLaw_open_5 rfl ?_
  refine z_callV (bc' := 0) (bs' := 0) MV_Cls_open lk_Law_106 dLaw_open_6 (k_Cls_open hC z_c z_p z_q) rfl rfl (Nat.le_of_ble_eq_true rfl) rfl hC.2.1 (Nat.le_of_ble_eq_true rfl) (Nat.le_of_ble_eq_true rfl) (by decide) (by decide) (fun E h1 q9 => ?_) ?_
  · obtain ⟨S9, e9, H9, F9⟩ := q9
    obtain rfl := xE_open e9
    refine z_catch (a := 0) (b := 13) (hp := 16) (ct := 19) [] [] rfl (fun z hz => nomatch hz) (by decide) (by decide) wl_zE1 wk_zE1 (fun qx => ?_)
    refine z_astore dLaw_open_16 (Nat.le_of_ble_eq_true rfl) ?_
    refine z_iconst dLaw_open_18 ?_
    refine z_iret rfl rfl dLaw_open_19 ?_
    exact zQw.tw e9 H9 F9 eo hn (Or.inl ⟨rfl, rfl⟩)
  · rintro _ h1 ⟨z, S9, e9, rfl, H9, F9⟩
    have eo1 := (F9 ou hn).trans eo
    rw [zwd_i z]
    refine z_i2l (zwd_r z) dLaw_open_9 ?_
    refine z_putN (k := 0) fd_Out (by decide) fl_Law_13 rfl dLaw_open_10 (by assumption) (by simp) rfl rfl ?_
    refine z_hx (fun h2 p2 g2 => ?_)
    refine z_goto (tgt := 20) dLaw_open_13 (by decide) ?_
    refine z_iconst dLaw_open_20 ?_
    refine z_iret rfl rfl dLaw_open_21 ?_
    exact zQw.ok e9 H9 F9 hn p2 g2
theorem xE_shut {c : Int} {E : String} (h : sp_shut S c = (.inr E, S')) : E = zE1 := by
  unfold sp_shut at h
  (try simp only [spPut, spTake, spBec, spRef] at h)
  (repeat' split at h)
  all_goals first
    | exact (Sum.inr.inj (Prod.mk.inj h).1).symm
    | exact absurd (Prod.mk.inj h).1 (by simp)
theorem xB_shut {c : Int} {z : Int} (hC : zCls G h ad S) (h : sp_shut S c = (.inl z, S')) : z = 0 ∨ z = 1 := by
  unfold sp_shut at h
  by_cases q : 0 ≤ c ∧ c < 3
  · rw [if_pos q] at h
    obtain ⟨st, li, ix, la, e1, e2, -⟩ := hC.cs (show c.toNat < 3 by omega)
    rw [← Sum.inl.inj (Prod.mk.inj h).1]
    exact e2
  · rw [if_neg q] at h
    exact absurd (Prod.mk.inj h).1 (by simp)
theorem k_Law_shut {c : Int}  (hC : zCls G h ad S) (z_c : zI32 c) {ou : Nat} {n0 : Int} {sv : Value} (eo : h ou = some (.inr (zkOut, [zl (zwd n0), sv]))) (hn : ∀ i, i < 20 → ou ≠ ad i) : zMW G l hLaw_shut yLaw_shut 10 [.ref (ad 0), zi c, .ref ou] h (zQw G ad ou h (1) (9) (9) (sp_shut S c)) zNo 6 36 := by
  refine zMW.of [some (.ref (ad 0)), some (zi c), some (.ref ou), none] (by decide +kernel) rfl (by decide) (Nat.le_of_ble_eq_true rfl) rfl ?_
  refine z_aload_n dLaw_shut_0 rfl ?_
  refine z_aload_n dLaw_shut_1 rfl ?_
  refine z_iload_n dLaw_shut_2 rfl ?_
  refine z_callV (bc' := 0) (bs' := 0) MV_Cls_shut lk_Law_109 dLaw_shut_3 (k_Cls_shut hC z_c) rfl rfl (Nat.le_of_ble_eq_true rfl) rfl hC.2.1 (Nat.le_of_ble_eq_true rfl) (Nat.le_of_ble_eq_true rfl) (by decide) (by decide) (fun E h1 q9 => ?_) ?_
  · obtain ⟨S9, e9, H9, F9⟩ := q9
    obtain rfl := xE_shut e9
    refine z_catch (a := 0) (b := 17) (hp := 20) (ct := 19) [] [] rfl (fun z hz => nomatch hz) (by decide) (by decide) wl_zE1 wk_zE1 (fun qx => ?_)
    refine z_astore_n dLaw_shut_20 (Nat.le_of_ble_eq_true rfl) ?_
    refine z_iconst dLaw_shut_21 ?_
    refine z_iret rfl rfl dLaw_shut_22 ?_
    exact zQw.tw e9 H9 F9 eo hn (Or.inl ⟨rfl, rfl⟩)
  · rintro _ h1 ⟨z, S9, e9, rfl, H9, F9⟩
    have eo1 := (F9 ou hn).trans eo
    have hz := xB_shut hC e9
    refine z_if_eq (tgt := 13) dLaw_shut_6 (by decide) (by omega) (fun c6 => ?_) (fun c6 => ?_)
    · refine z_lconst dLaw_shut_13 0 rfl ?_
      refine z_putN (k := 0) fd_Out (by decide) fl_Law_13 rfl dLaw_shut_14 (by assumption) (by simp) rfl rfl ?_
      refine z_hx (fun h2 p2 g2 => ?_)
      refine z_goto (tgt := 23) dLaw_shut_17 (by decide) ?_
      refine z_iconst dLaw_shut_23 ?_
      refine z_iret rfl rfl dLaw_shut_24 ?_
      first
        | exact zQw.ok e9 H9 F9 hn (by rw [show zwd z = 0 by (rw [show z = 0 by omega]; decide)]; exact p2) g2
        | exact zQw.ok e9 H9 F9 hn (by rw [show zwd z = 1 by (rw [show z = 1 by omega]; decide)]; exact p2) g2
    · refine z_lconst dLaw_shut_9 1 rfl ?_
      refine z_goto (tgt := 14) dLaw_shut_10 (by decide) ?_
      refine z_putN (k := 0) fd_Out (by decide) fl_Law_13 rfl dLaw_shut_14 (by assumption) (by simp) rfl rfl ?_
      refine z_hx (fun h2 p2 g2 => ?_)
      refine z_goto (tgt := 23) dLaw_shut_17 (by decide) ?_
      refine z_iconst dLaw_shut_23 ?_
      refine z_iret rfl rfl dLaw_shut_24 ?_
      first
        | exact zQw.ok e9 H9 F9 hn (by rw [show zwd z = 0 by (rw [show z = 0 by omega]; decide)]; exact p2) g2
        | exact zQw.ok e9 H9 F9 hn (by rw [show zwd z = 1 by (rw [show z = 1 by omega]; decide)]; exact p2) g2
theorem xE_forth {c : Int} {E : String} (h : sp_forth S c = (.inr E, S')) : E = zE1 ∨ E = zE3 := by
  unfold sp_forth at h
  (try simp only [spPut, spTake, spBec, spRef] at h)
  (repeat' split at h)
  all_goals first
    | exact Or.inl (Sum.inr.inj (Prod.mk.inj h).1).symm
    | exact Or.inr ((Sum.inr.inj (Prod.mk.inj h).1).symm)
    | exact absurd (Prod.mk.inj h).1 (by simp)
theorem k_Law_forth {c : Int} (hO : zOk S) (hC : zCls G h ad S) (z_c : zI32 c) {ou : Nat} {n0 : Int} {sv : Value} (eo : h ou = some (.inr (zkOut, [zl (zwd n0), sv]))) (hn : ∀ i, i < 20 → ou ≠ ad i) : zMW G l hLaw_forth yLaw_forth 10 [.ref (ad 0), zi c, .ref ou] h (zQw G ad ou h (1) (9) (2) (sp_forth S c)) zNo 6 36 := by
  refine zMW.of [some (.ref (ad 0)), some (zi c), some (.ref ou), none] (by decide +kernel) rfl (by decide) (Nat.le_of_ble_eq_true rfl) rfl ?_
  refine z_aload_n dLaw_forth_0 rfl ?_
  refine z_aload_n dLaw_forth_1 rfl ?_
  refine z_iload_n dLaw_forth_2 rfl ?_
  refine z_callV (bc' := 0) (bs' := 0) MV_Cls_forth lk_Law_112 dLaw_forth_3 (k_Cls_forth hO hC z_c) rfl rfl (Nat.le_of_ble_eq_true rfl) rfl hC.2.1 (Nat.le_of_ble_eq_true rfl) (Nat.le_of_ble_eq_true rfl) (by decide) (by decide) (fun E h1 q9 => ?_) ?_
  · obtain ⟨S9, e9, H9, F9⟩ := q9
    rcases xE_forth e9 with rfl | rfl
    · refine z_catch (a := 0) (b := 10) (hp := 13) (ct := 19) [] [(0, 10, 16, 115)] rfl (fun z hz => nomatch hz) (by decide) (by decide) wl_zE1 wk_zE1 (fun qx => ?_)
      refine z_astore_n dLaw_forth_13 (Nat.le_of_ble_eq_true rfl) ?_
      refine z_iconst dLaw_forth_14 ?_
      refine z_iret rfl rfl dLaw_forth_15 ?_
      exact zQw.tw e9 H9 F9 eo hn (Or.inl ⟨rfl, rfl⟩)
    · refine z_catch (a := 0) (b := 10) (hp := 16) (ct := 115) [(0, 10, 13, 19)] [] rfl (by intro z hz; simp only [List.mem_cons, List.not_mem_nil, or_false] at hz; rcases hz with rfl <;> first | exact ⟨by decide, _, wl_zE1, by decide⟩) (by decide) (by decide) wl_zE3 wk_zE3 (fun qx => ?_)
      refine z_astore_n dLaw_forth_16 (Nat.le_of_ble_eq_true rfl) ?_
      refine z_iconst dLaw_forth_17 ?_
      refine z_iret rfl rfl dLaw_forth_18 ?_
      exact zQw.tw e9 H9 F9 eo hn (Or.inr (Or.inr ⟨rfl, rfl⟩))
  · rintro _ h1 ⟨z, S9, e9, rfl, H9, F9⟩
    have eo1 := (F9 ou hn).trans eo
    rw [zwd_i z]
    refine z_i2l (zwd_r z) dLaw_forth_6 ?_
    refine z_putN (k := 0) fd_Out (by decide) fl_Law_13 rfl dLaw_forth_7 (by assumption) (by simp) rfl rfl ?_
    refine z_hx (fun h2 p2 g2 => ?_)
    refine z_goto (tgt := 19) dLaw_forth_10 (by decide) ?_
    refine z_iconst dLaw_forth_19 ?_
    refine z_iret rfl rfl dLaw_forth_20 ?_
    exact zQw.ok e9 H9 F9 hn p2 g2
theorem xE_back {c : Int} {E : String} (h : sp_back S c = (.inr E, S')) : E = zE1 ∨ E = zE3 := by
  unfold sp_back at h
  (try simp only [spPut, spTake, spBec, spRef] at h)
  (repeat' split at h)
  all_goals first
    | exact Or.inl (Sum.inr.inj (Prod.mk.inj h).1).symm
    | exact Or.inr ((Sum.inr.inj (Prod.mk.inj h).1).symm)
    | exact absurd (Prod.mk.inj h).1 (by simp)
theorem k_Law_back {c : Int} (hO : zOk S) (hC : zCls G h ad S) (z_c : zI32 c) {ou : Nat} {n0 : Int} {sv : Value} (eo : h ou = some (.inr (zkOut, [zl (zwd n0), sv]))) (hn : ∀ i, i < 20 → ou ≠ ad i) : zMW G l hLaw_back yLaw_back 10 [.ref (ad 0), zi c, .ref ou] h (zQw G ad ou h (1) (9) (2) (sp_back S c)) zNo 6 36 := by
  refine zMW.of [some (.ref (ad 0)), some (zi c), some (.ref ou), none] (by decide +kernel) rfl (by decide) (Nat.le_of_ble_eq_true rfl) rfl ?_
  refine z_aload_n dLaw_back_0 rfl ?_
  refine z_aload_n dLaw_back_1 rfl ?_
  refine z_iload_n dLaw_back_2 rfl ?_
  refine z_callV (bc' := 0) (bs' := 0) MV_Cls_back lk_Law_117 dLaw_back_3 (k_Cls_back hO hC z_c) rfl rfl (Nat.le_of_ble_eq_true rfl) rfl hC.2.1 (Nat.le_of_ble_eq_true rfl) (Nat.le_of_ble_eq_true rfl) (by decide) (by decide) (fun E h1 q9 => ?_) ?_
  · obtain ⟨S9, e9, H9, F9⟩ := q9
    rcases xE_back e9 with rfl | rfl
    · refine z_catch (a := 0) (b := 10) (hp := 13) (ct := 19) [] [(0, 10, 16, 115)] rfl (fun z hz => nomatch hz) (by decide) (by decide) wl_zE1 wk_zE1 (fun qx => ?_)
      refine z_astore_n dLaw_back_13 (Nat.le_of_ble_eq_true rfl) ?_
      refine z_iconst dLaw_back_14 ?_
      refine z_iret rfl rfl dLaw_back_15 ?_
      exact zQw.tw e9 H9 F9 eo hn (Or.inl ⟨rfl, rfl⟩)
    · refine z_catch (a := 0) (b := 10) (hp := 16) (ct := 115) [(0, 10, 13, 19)] [] rfl (by intro z hz; simp only [List.mem_cons, List.not_mem_nil, or_false] at hz; rcases hz with rfl <;> first | exact ⟨by decide, _, wl_zE1, by decide⟩) (by decide) (by decide) wl_zE3 wk_zE3 (fun qx => ?_)
      refine z_astore_n dLaw_back_16 (Nat.le_of_ble_eq_true rfl) ?_
      refine z_iconst dLaw_back_17 ?_
      refine z_iret rfl rfl dLaw_back_18 ?_
      exact zQw.tw e9 H9 F9 eo hn (Or.inr (Or.inr ⟨rfl, rfl⟩))
  · rintro _ h1 ⟨z, S9, e9, rfl, H9, F9⟩
    have eo1 := (F9 ou hn).trans eo
    rw [zwd_i z]
    refine z_i2l (zwd_r z) dLaw_back_6 ?_
    refine z_putN (k := 0) fd_Out (by decide) fl_Law_13 rfl dLaw_back_7 (by assumption) (by simp) rfl rfl ?_
    refine z_hx (fun h2 p2 g2 => ?_)
    refine z_goto (tgt := 19) dLaw_back_10 (by decide) ?_
    refine z_iconst dLaw_back_19 ?_
    refine z_iret rfl rfl dLaw_back_20 ?_
    exact zQw.ok e9 H9 F9 hn p2 g2
theorem xE_puts {c x : Int} {E : String} (h : sp_puts S c x = (.inr E, S')) : E = zE1 ∨ E = zE2 ∨ E = zE3 := by
  unfold sp_puts at h
  (try simp only [spPut, spTake, spBec, spRef] at h)
  (repeat' split at h)
  all_goals first
    | exact Or.inl (Sum.inr.inj (Prod.mk.inj h).1).symm
    | exact Or.inr (Or.inl (Sum.inr.inj (Prod.mk.inj h).1).symm)
    | exact Or.inr (Or.inr ((Sum.inr.inj (Prod.mk.inj h).1).symm))
    | exact absurd (Prod.mk.inj h).1 (by simp)
theorem k_Law_puts {c x : Int} (hO : zOk S) (hC : zCls G h ad S) (z_c : zI32 c) (z_x : zI32 x) {ou : Nat} {n0 : Int} {sv : Value} (eo : h ou = some (.inr (zkOut, [zl (zwd n0), sv]))) (hn : ∀ i, i < 20 → ou ≠ ad i) : zMW G l hLaw_puts yLaw_puts 10 [.ref (ad 0), zi c, zi x, .ref ou] h (zQw G ad ou h (1) (2) (3) (sp_puts S c x)) zNo 6 36 := by
  refine zMW.of [some (.ref (ad 0)), some (zi c), some (zi x), some (.ref ou), none] (by decide +kernel) rfl (by decide) (Nat.le_of_ble_eq_true rfl) rfl ?_
  refine z_aload_n dLaw_puts_0 rfl ?_
  refine z_aload_n dLaw_puts_1 rfl ?_
  refine z_iload_n dLaw_puts_2 rfl ?_
  refine z_iload_n dLaw_puts_3 rfl ?_
  refine z_callV (bc' := 0) (bs' := 0) MV_Cls_puts lk_Law_120 dLaw_puts_4 (k_Cls_puts hO hC z_c z_x) rfl rfl (Nat.le_of_ble_eq_true rfl) rfl hC.2.1 (Nat.le_of_ble_eq_true rfl) (Nat.le_of_ble_eq_true rfl) (by decide) (by decide) (fun E h1 q9 => ?_) ?_
  · obtain ⟨S9, e9, H9, F9⟩ := q9
    rcases xE_puts e9 with rfl | rfl | rfl
    · refine z_catch (a := 0) (b := 11) (hp := 14) (ct := 19) [] [(0, 11, 18, 21), (0, 11, 22, 115)] rfl (fun z hz => nomatch hz) (by decide) (by decide) wl_zE1 wk_zE1 (fun qx => ?_)
      refine z_astore dLaw_puts_14 (Nat.le_of_ble_eq_true rfl) ?_
      refine z_iconst dLaw_puts_16 ?_
      refine z_iret rfl rfl dLaw_puts_17 ?_
      exact zQw.tw e9 H9 F9 eo hn (Or.inl ⟨rfl, rfl⟩)
    · refine z_catch (a := 0) (b := 11) (hp := 18) (ct := 21) [(0, 11, 14, 19)] [(0, 11, 22, 115)] rfl (by intro z hz; simp only [List.mem_cons, List.not_mem_nil, or_false] at hz; rcases hz with rfl <;> first | exact ⟨by decide, _, wl_zE1, by decide⟩) (by decide) (by decide) wl_zE2 wk_zE2 (fun qx => ?_)
      refine z_astore dLaw_puts_18 (Nat.le_of_ble_eq_true rfl) ?_
      refine z_iconst dLaw_puts_20 ?_
      refine z_iret rfl rfl dLaw_puts_21 ?_
      exact zQw.tw e9 H9 F9 eo hn (Or.inr (Or.inl ⟨rfl, rfl⟩))
    · refine z_catch (a := 0) (b := 11) (hp := 22) (ct := 115) [(0, 11, 14, 19), (0, 11, 18, 21)] [] rfl (by intro z hz; simp only [List.mem_cons, List.not_mem_nil, or_false] at hz; rcases hz with rfl | rfl <;> first | exact ⟨by decide, _, wl_zE1, by decide⟩ | exact ⟨by decide, _, wl_zE2, by decide⟩) (by decide) (by decide) wl_zE3 wk_zE3 (fun qx => ?_)
      refine z_astore dLaw_puts_22 (Nat.le_of_ble_eq_true rfl) ?_
      refine z_iconst dLaw_puts_24 ?_
      refine z_iret rfl rfl dLaw_puts_25 ?_
      exact zQw.tw e9 H9 F9 eo hn (Or.inr (Or.inr ⟨rfl, rfl⟩))
  · rintro _ h1 ⟨z, S9, e9, rfl, H9, F9⟩
    have eo1 := (F9 ou hn).trans eo
    rw [zwd_i z]
    refine z_i2l (zwd_r z) dLaw_puts_7 ?_
    refine z_putN (k := 0) fd_Out (by decide) fl_Law_13 rfl dLaw_puts_8 (by assumption) (by simp) rfl rfl ?_
    refine z_hx (fun h2 p2 g2 => ?_)
    refine z_goto (tgt := 26) dLaw_puts_11 (by decide) ?_
    refine z_iconst dLaw_puts_26 ?_
    refine z_iret rfl rfl dLaw_puts_27 ?_
    exact zQw.ok e9 H9 F9 hn p2 g2
theorem xE_cuts {c : Int} {E : String} (h : sp_cuts S c = (.inr E, S')) : E = zE1 ∨ E = zE3 := by
  unfold sp_cuts at h
  (try simp only [spPut, spTake, spBec, spRef] at h)
  (repeat' split at h)
  all_goals first
    | exact Or.inl (Sum.inr.inj (Prod.mk.inj h).1).symm
    | exact Or.inr ((Sum.inr.inj (Prod.mk.inj h).1).symm)
    | exact absurd (Prod.mk.inj h).1 (by simp)
theorem k_Law_cuts {c : Int} (hO : zOk S) (hC : zCls G h ad S) (z_c : zI32 c) {ou : Nat} {n0 : Int} {sv : Value} (eo : h ou = some (.inr (zkOut, [zl (zwd n0), sv]))) (hn : ∀ i, i < 20 → ou ≠ ad i) : zMW G l hLaw_cuts yLaw_cuts 10 [.ref (ad 0), zi c, .ref ou] h (zQw G ad ou h (1) (9) (2) (sp_cuts S c)) zNo 6 36 := by
  refine zMW.of [some (.ref (ad 0)), some (zi c), some (.ref ou), none] (by decide +kernel) rfl (by decide) (Nat.le_of_ble_eq_true rfl) rfl ?_
  refine z_aload_n dLaw_cuts_0 rfl ?_
  refine z_aload_n dLaw_cuts_1 rfl ?_
  refine z_iload_n dLaw_cuts_2 rfl ?_
  refine z_callV (bc' := 0) (bs' := 0) MV_Cls_cuts lk_Law_123 dLaw_cuts_3 (k_Cls_cuts hO hC z_c) rfl rfl (Nat.le_of_ble_eq_true rfl) rfl hC.2.1 (Nat.le_of_ble_eq_true rfl) (Nat.le_of_ble_eq_true rfl) (by decide) (by decide) (fun E h1 q9 => ?_) ?_
  · obtain ⟨S9, e9, H9, F9⟩ := q9
    rcases xE_cuts e9 with rfl | rfl
    · refine z_catch (a := 0) (b := 10) (hp := 13) (ct := 19) [] [(0, 10, 16, 115)] rfl (fun z hz => nomatch hz) (by decide) (by decide) wl_zE1 wk_zE1 (fun qx => ?_)
      refine z_astore_n dLaw_cuts_13 (Nat.le_of_ble_eq_true rfl) ?_
      refine z_iconst dLaw_cuts_14 ?_
      refine z_iret rfl rfl dLaw_cuts_15 ?_
      exact zQw.tw e9 H9 F9 eo hn (Or.inl ⟨rfl, rfl⟩)
    · refine z_catch (a := 0) (b := 10) (hp := 16) (ct := 115) [(0, 10, 13, 19)] [] rfl (by intro z hz; simp only [List.mem_cons, List.not_mem_nil, or_false] at hz; rcases hz with rfl <;> first | exact ⟨by decide, _, wl_zE1, by decide⟩) (by decide) (by decide) wl_zE3 wk_zE3 (fun qx => ?_)
      refine z_astore_n dLaw_cuts_16 (Nat.le_of_ble_eq_true rfl) ?_
      refine z_iconst dLaw_cuts_17 ?_
      refine z_iret rfl rfl dLaw_cuts_18 ?_
      exact zQw.tw e9 H9 F9 eo hn (Or.inr (Or.inr ⟨rfl, rfl⟩))
  · rintro _ h1 ⟨z, S9, e9, rfl, H9, F9⟩
    have eo1 := (F9 ou hn).trans eo
    rw [zwd_i z]
    refine z_i2l (zwd_r z) dLaw_cuts_6 ?_
    refine z_putN (k := 0) fd_Out (by decide) fl_Law_13 rfl dLaw_cuts_7 (by assumption) (by simp) rfl rfl ?_
    refine z_hx (fun h2 p2 g2 => ?_)
    refine z_goto (tgt := 19) dLaw_cuts_10 (by decide) ?_
    refine z_iconst dLaw_cuts_19 ?_
    refine z_iret rfl rfl dLaw_cuts_20 ?_
    exact zQw.ok e9 H9 F9 hn p2 g2
theorem xE_changes {c x : Int} {E : String} (h : sp_changes S c x = (.inr E, S')) : E = zE1 ∨ E = zE2 ∨ E = zE3 := by
  unfold sp_changes at h
  (try simp only [spPut, spTake, spBec, spRef] at h)
  (repeat' split at h)
  all_goals first
    | exact Or.inl (Sum.inr.inj (Prod.mk.inj h).1).symm
    | exact Or.inr (Or.inl (Sum.inr.inj (Prod.mk.inj h).1).symm)
    | exact Or.inr (Or.inr ((Sum.inr.inj (Prod.mk.inj h).1).symm))
    | exact absurd (Prod.mk.inj h).1 (by simp)
theorem k_Law_changes {c x : Int} (hO : zOk S) (hC : zCls G h ad S) (z_c : zI32 c) (z_x : zI32 x) {ou : Nat} {n0 : Int} {sv : Value} (eo : h ou = some (.inr (zkOut, [zl (zwd n0), sv]))) (hn : ∀ i, i < 20 → ou ≠ ad i) : zMW G l hLaw_changes yLaw_changes 10 [.ref (ad 0), zi c, zi x, .ref ou] h (zQw G ad ou h (1) (2) (3) (sp_changes S c x)) zNo 6 36 := by
  refine zMW.of [some (.ref (ad 0)), some (zi c), some (zi x), some (.ref ou), none] (by decide +kernel) rfl (by decide) (Nat.le_of_ble_eq_true rfl) rfl ?_
  refine z_aload_n dLaw_changes_0 rfl ?_
  refine z_aload_n dLaw_changes_1 rfl ?_
  refine z_iload_n dLaw_changes_2 rfl ?_
  refine z_iload_n dLaw_changes_3 rfl ?_
  refine z_callV (bc' := 0) (bs' := 0) MV_Cls_changes lk_Law_126 dLaw_changes_4 (k_Cls_changes hO hC z_c z_x) rfl rfl (Nat.le_of_ble_eq_true rfl) rfl hC.2.1 (Nat.le_of_ble_eq_true rfl) (Nat.le_of_ble_eq_true rfl) (by decide) (by decide) (fun E h1 q9 => ?_) ?_
  · obtain ⟨S9, e9, H9, F9⟩ := q9
    rcases xE_changes e9 with rfl | rfl | rfl
    · refine z_catch (a := 0) (b := 11) (hp := 14) (ct := 19) [] [(0, 11, 18, 21), (0, 11, 22, 115)] rfl (fun z hz => nomatch hz) (by decide) (by decide) wl_zE1 wk_zE1 (fun qx => ?_)
      refine z_astore dLaw_changes_14 (Nat.le_of_ble_eq_true rfl) ?_
      refine z_iconst dLaw_changes_16 ?_
      refine z_iret rfl rfl dLaw_changes_17 ?_
      exact zQw.tw e9 H9 F9 eo hn (Or.inl ⟨rfl, rfl⟩)
    · refine z_catch (a := 0) (b := 11) (hp := 18) (ct := 21) [(0, 11, 14, 19)] [(0, 11, 22, 115)] rfl (by intro z hz; simp only [List.mem_cons, List.not_mem_nil, or_false] at hz; rcases hz with rfl <;> first | exact ⟨by decide, _, wl_zE1, by decide⟩) (by decide) (by decide) wl_zE2 wk_zE2 (fun qx => ?_)
      refine z_astore dLaw_changes_18 (Nat.le_of_ble_eq_true rfl) ?_
      refine z_iconst dLaw_changes_20 ?_
      refine z_iret rfl rfl dLaw_changes_21 ?_
      exact zQw.tw e9 H9 F9 eo hn (Or.inr (Or.inl ⟨rfl, rfl⟩))
    · refine z_catch (a := 0) (b := 11) (hp := 22) (ct := 115) [(0, 11, 14, 19), (0, 11, 18, 21)] [] rfl (by intro z hz; simp only [List.mem_cons, List.not_mem_nil, or_false] at hz; rcases hz with rfl | rfl <;> first | exact ⟨by decide, _, wl_zE1, by decide⟩ | exact ⟨by decide, _, wl_zE2, by decide⟩) (by decide) (by decide) wl_zE3 wk_zE3 (fun qx => ?_)
      refine z_astore dLaw_changes_22 (Nat.le_of_ble_eq_true rfl) ?_
      refine z_iconst dLaw_changes_24 ?_
      refine z_iret rfl rfl dLaw_changes_25 ?_
      exact zQw.tw e9 H9 F9 eo hn (Or.inr (Or.inr ⟨rfl, rfl⟩))
  · rintro _ h1 ⟨z, S9, e9, rfl, H9, F9⟩
    have eo1 := (F9 ou hn).trans eo
    rw [zwd_i z]
    refine z_i2l (zwd_r z) dLaw_changes_7 ?_
    refine z_putN (k := 0) fd_Out (by decide) fl_Law_13 rfl dLaw_changes_8 (by assumption) (by simp) rfl rfl ?_
    refine z_hx (fun h2 p2 g2 => ?_)
    refine z_goto (tgt := 26) dLaw_changes_11 (by decide) ?_
    refine z_iconst dLaw_changes_26 ?_
    refine z_iret rfl rfl dLaw_changes_27 ?_
    exact zQw.ok e9 H9 F9 hn p2 g2
theorem xE_meet {c o : Int} {E : String} (h : sp_meet S c o = (.inr E, S')) : E = zE1 ∨ E = zE2 ∨ E = zE3 := by
  unfold sp_meet at h
  (try simp only [spPut, spTake, spBec, spRef] at h)
  (repeat' split at h)
  all_goals first
    | exact Or.inl (Sum.inr.inj (Prod.mk.inj h).1).symm
    | exact Or.inr (Or.inl (Sum.inr.inj (Prod.mk.inj h).1).symm)
    | exact Or.inr (Or.inr ((Sum.inr.inj (Prod.mk.inj h).1).symm))
    | exact absurd (Prod.mk.inj h).1 (by simp)
theorem k_Law_meet {c o : Int} (hO : zOk S) (hC : zCls G h ad S) (z_c : zI32 c) (z_o : zI32 o) {ou : Nat} {n0 : Int} {sv : Value} (eo : h ou = some (.inr (zkOut, [zl (zwd n0), sv]))) (hn : ∀ i, i < 20 → ou ≠ ad i) : zMW G l hLaw_meet yLaw_meet 10 [.ref (ad 0), zi c, zi o, .ref ou] h (zQw G ad ou h (1) (2) (3) (sp_meet S c o)) zNo 6 36 := by
  refine zMW.of [some (.ref (ad 0)), some (zi c), some (zi o), some (.ref ou), none] (by decide +kernel) rfl (by decide) (Nat.le_of_ble_eq_true rfl) rfl ?_
  refine z_aload_n dLaw_meet_0 rfl ?_
  refine z_aload_n dLaw_meet_1 rfl ?_
  refine z_iload_n dLaw_meet_2 rfl ?_
  refine z_iload_n dLaw_meet_3 rfl ?_
  refine z_callV (bc' := 0) (bs' := 0) MV_Cls_meet lk_Law_129 dLaw_meet_4 (k_Cls_meet hO hC z_c z_o) rfl rfl (Nat.le_of_ble_eq_true rfl) rfl hC.2.1 (Nat.le_of_ble_eq_true rfl) (Nat.le_of_ble_eq_true rfl) (by decide) (by decide) (fun E h1 q9 => ?_) ?_
  · obtain ⟨S9, e9, H9, F9⟩ := q9
    rcases xE_meet e9 with rfl | rfl | rfl
    · refine z_catch (a := 0) (b := 11) (hp := 14) (ct := 19) [] [(0, 11, 18, 21), (0, 11, 22, 115)] rfl (fun z hz => nomatch hz) (by decide) (by decide) wl_zE1 wk_zE1 (fun qx => ?_)
      refine z_astore dLaw_meet_14 (Nat.le_of_ble_eq_true rfl) ?_
      refine z_iconst dLaw_meet_16 ?_
      refine z_iret rfl rfl dLaw_meet_17 ?_
      exact zQw.tw e9 H9 F9 eo hn (Or.inl ⟨rfl, rfl⟩)
    · refine z_catch (a := 0) (b := 11) (hp := 18) (ct := 21) [(0, 11, 14, 19)] [(0, 11, 22, 115)] rfl (by intro z hz; simp only [List.mem_cons, List.not_mem_nil, or_false] at hz; rcases hz with rfl <;> first | exact ⟨by decide, _, wl_zE1, by decide⟩) (by decide) (by decide) wl_zE2 wk_zE2 (fun qx => ?_)
      refine z_astore dLaw_meet_18 (Nat.le_of_ble_eq_true rfl) ?_
      refine z_iconst dLaw_meet_20 ?_
      refine z_iret rfl rfl dLaw_meet_21 ?_
      exact zQw.tw e9 H9 F9 eo hn (Or.inr (Or.inl ⟨rfl, rfl⟩))
    · refine z_catch (a := 0) (b := 11) (hp := 22) (ct := 115) [(0, 11, 14, 19), (0, 11, 18, 21)] [] rfl (by intro z hz; simp only [List.mem_cons, List.not_mem_nil, or_false] at hz; rcases hz with rfl | rfl <;> first | exact ⟨by decide, _, wl_zE1, by decide⟩ | exact ⟨by decide, _, wl_zE2, by decide⟩) (by decide) (by decide) wl_zE3 wk_zE3 (fun qx => ?_)
      refine z_astore dLaw_meet_22 (Nat.le_of_ble_eq_true rfl) ?_
      refine z_iconst dLaw_meet_24 ?_
      refine z_iret rfl rfl dLaw_meet_25 ?_
      exact zQw.tw e9 H9 F9 eo hn (Or.inr (Or.inr ⟨rfl, rfl⟩))
  · rintro _ h1 ⟨z, S9, e9, rfl, H9, F9⟩
    have eo1 := (F9 ou hn).trans eo
    rw [zwd_i z]
    refine z_i2l (zwd_r z) dLaw_meet_7 ?_
    refine z_putN (k := 0) fd_Out (by decide) fl_Law_13 rfl dLaw_meet_8 (by assumption) (by simp) rfl rfl ?_
    refine z_hx (fun h2 p2 g2 => ?_)
    refine z_goto (tgt := 26) dLaw_meet_11 (by decide) ?_
    refine z_iconst dLaw_meet_26 ?_
    refine z_iret rfl rfl dLaw_meet_27 ?_
    exact zQw.ok e9 H9 F9 hn p2 g2
theorem xE_ofCursor {c w : Int} {E : String} (h : sp_ofCursor S c w = (.inr E, S')) : E = zE1 ∨ E = zE2 := by
  unfold sp_ofCursor at h
  (try simp only [spPut, spTake, spBec, spRef] at h)
  (repeat' split at h)
  all_goals first
    | exact Or.inl (Sum.inr.inj (Prod.mk.inj h).1).symm
    | exact Or.inr ((Sum.inr.inj (Prod.mk.inj h).1).symm)
    | exact absurd (Prod.mk.inj h).1 (by simp)
theorem k_Law_ofCursor {c w : Int} (hO : zOk S) (hC : zCls G h ad S) (z_c : zI32 c) (z_w : zI32 w) {ou : Nat} {n0 : Int} {sv : Value} (eo : h ou = some (.inr (zkOut, [zl (zwd n0), sv]))) (hn : ∀ i, i < 20 → ou ≠ ad i) : zMW G l hLaw_ofCursor yLaw_ofCursor 11 [.ref (ad 0), zi c, zi w, .ref ou] h (zQw G ad ou h (1) (2) (9) (sp_ofCursor S c w)) zNo 6 36 := by
  refine zMW.of [some (.ref (ad 0)), some (zi c), some (zi w), some (.ref ou), none] (by decide +kernel) rfl (by decide) (Nat.le_of_ble_eq_true rfl) rfl ?_
  refine z_aload_n dLaw_ofCursor_0 rfl ?_
  refine z_aload_n dLaw_ofCursor_1 rfl ?_
  refine z_iload_n dLaw_ofCursor_2 rfl ?_
  refine z_iload_n dLaw_ofCursor_3 rfl ?_
  refine z_callV (bc' := 0) (bs' := 0) MV_Cls_ofCursor lk_Law_132 dLaw_ofCursor_4 (k_Cls_ofCursor hO hC z_c z_w) rfl rfl (Nat.le_of_ble_eq_true rfl) rfl hC.2.1 (Nat.le_of_ble_eq_true rfl) (Nat.le_of_ble_eq_true rfl) (by decide) (by decide) (fun E h1 q9 => ?_) ?_
  · obtain ⟨S9, e9, H9, F9⟩ := q9
    rcases xE_ofCursor e9 with rfl | rfl
    · refine z_catch (a := 0) (b := 11) (hp := 14) (ct := 19) [] [(0, 11, 18, 21)] rfl (fun z hz => nomatch hz) (by decide) (by decide) wl_zE1 wk_zE1 (fun qx => ?_)
      refine z_astore dLaw_ofCursor_14 (Nat.le_of_ble_eq_true rfl) ?_
      refine z_iconst dLaw_ofCursor_16 ?_
      refine z_iret rfl rfl dLaw_ofCursor_17 ?_
      exact zQw.tw e9 H9 F9 eo hn (Or.inl ⟨rfl, rfl⟩)
    · refine z_catch (a := 0) (b := 11) (hp := 18) (ct := 21) [(0, 11, 14, 19)] [] rfl (by intro z hz; simp only [List.mem_cons, List.not_mem_nil, or_false] at hz; rcases hz with rfl <;> first | exact ⟨by decide, _, wl_zE1, by decide⟩) (by decide) (by decide) wl_zE2 wk_zE2 (fun qx => ?_)
      refine z_astore dLaw_ofCursor_18 (Nat.le_of_ble_eq_true rfl) ?_
      refine z_iconst dLaw_ofCursor_20 ?_
      refine z_iret rfl rfl dLaw_ofCursor_21 ?_
      exact zQw.tw e9 H9 F9 eo hn (Or.inr (Or.inl ⟨rfl, rfl⟩))
  · rintro _ h1 ⟨z, S9, e9, rfl, H9, F9⟩
    have eo1 := (F9 ou hn).trans eo
    rw [zwd_i z]
    refine z_i2l (zwd_r z) dLaw_ofCursor_7 ?_
    refine z_putN (k := 0) fd_Out (by decide) fl_Law_13 rfl dLaw_ofCursor_8 (by assumption) (by simp) rfl rfl ?_
    refine z_hx (fun h2 p2 g2 => ?_)
    refine z_goto (tgt := 22) dLaw_ofCursor_11 (by decide) ?_
    refine z_iconst dLaw_ofCursor_22 ?_
    refine z_iret rfl rfl dLaw_ofCursor_23 ?_
    exact zQw.ok e9 H9 F9 hn p2 g2
theorem xE_plus {p o : Int} {E : String} (h : sp_plus S p o = (.inr E, S')) : E = zE1 := by
  unfold sp_plus at h
  (try simp only [spPut, spTake, spBec, spRef] at h)
  (repeat' split at h)
  all_goals first
    | exact (Sum.inr.inj (Prod.mk.inj h).1).symm
    | exact absurd (Prod.mk.inj h).1 (by simp)
theorem k_Law_plus {p o : Int}  (hC : zCls G h ad S) (z_p : zI32 p) (z_o : zI32 o) {ou : Nat} {n0 : Int} {sv : Value} (eo : h ou = some (.inr (zkOut, [zl (zwd n0), sv]))) (hn : ∀ i, i < 20 → ou ≠ ad i) : zMW G l hLaw_plus yLaw_plus 10 [.ref (ad 0), zi p, zi o, .ref ou] h (zQw G ad ou h (1) (9) (9) (sp_plus S p o)) zNo 6 36 := by
  refine zMW.of [some (.ref (ad 0)), some (zi p), some (zi o), some (.ref ou), none] (by decide +kernel) rfl (by decide) (Nat.le_of_ble_eq_true rfl) rfl ?_
  refine z_aload_n dLaw_plus_0 rfl ?_
  refine z_aload_n dLaw_plus_1 rfl ?_
  refine z_iload_n dLaw_plus_2 rfl ?_
  refine z_iload_n dLaw_plus_3 rfl ?_
  refine z_callV (bc' := 0) (bs' := 0) MV_Cls_plus lk_Law_135 dLaw_plus_4 (k_Cls_plus hC z_p z_o) rfl rfl (Nat.le_of_ble_eq_true rfl) rfl hC.2.1 (Nat.le_of_ble_eq_true rfl) (Nat.le_of_ble_eq_true rfl) (by decide) (by decide) (fun E h1 q9 => ?_) ?_
  · obtain ⟨S9, e9, H9, F9⟩ := q9
    obtain rfl := xE_plus e9
    refine z_catch (a := 0) (b := 11) (hp := 14) (ct := 19) [] [] rfl (fun z hz => nomatch hz) (by decide) (by decide) wl_zE1 wk_zE1 (fun qx => ?_)
    refine z_astore dLaw_plus_14 (Nat.le_of_ble_eq_true rfl) ?_
    refine z_iconst dLaw_plus_16 ?_
    refine z_iret rfl rfl dLaw_plus_17 ?_
    exact zQw.tw e9 H9 F9 eo hn (Or.inl ⟨rfl, rfl⟩)
  · rintro _ h1 ⟨z, S9, e9, rfl, H9, F9⟩
    have eo1 := (F9 ou hn).trans eo
    rw [zwd_i z]
    refine z_i2l (zwd_r z) dLaw_plus_7 ?_
    refine z_putN (k := 0) fd_Out (by decide) fl_Law_13 rfl dLaw_plus_8 (by assumption) (by simp) rfl rfl ?_
    refine z_hx (fun h2 p2 g2 => ?_)
    refine z_goto (tgt := 18) dLaw_plus_11 (by decide) ?_
    refine z_iconst dLaw_plus_18 ?_
    refine z_iret rfl rfl dLaw_plus_19 ?_
    exact zQw.ok e9 H9 F9 hn p2 g2
theorem xE_times {p o : Int} {E : String} (h : sp_times S p o = (.inr E, S')) : E = zE1 := by
  unfold sp_times at h
  (try simp only [spPut, spTake, spBec, spRef] at h)
  (repeat' split at h)
  all_goals first
    | exact (Sum.inr.inj (Prod.mk.inj h).1).symm
    | exact absurd (Prod.mk.inj h).1 (by simp)
theorem k_Law_times {p o : Int}  (hC : zCls G h ad S) (z_p : zI32 p) (z_o : zI32 o) {ou : Nat} {n0 : Int} {sv : Value} (eo : h ou = some (.inr (zkOut, [zl (zwd n0), sv]))) (hn : ∀ i, i < 20 → ou ≠ ad i) : zMW G l hLaw_times yLaw_times 10 [.ref (ad 0), zi p, zi o, .ref ou] h (zQw G ad ou h (1) (9) (9) (sp_times S p o)) zNo 6 36 := by
  refine zMW.of [some (.ref (ad 0)), some (zi p), some (zi o), some (.ref ou), none] (by decide +kernel) rfl (by decide) (Nat.le_of_ble_eq_true rfl) rfl ?_
  refine z_aload_n dLaw_times_0 rfl ?_
  refine z_aload_n dLaw_times_1 rfl ?_
  refine z_iload_n dLaw_times_2 rfl ?_
  refine z_iload_n dLaw_times_3 rfl ?_
  refine z_callV (bc' := 0) (bs' := 0) MV_Cls_times lk_Law_138 dLaw_times_4 (k_Cls_times hC z_p z_o) rfl rfl (Nat.le_of_ble_eq_true rfl) rfl hC.2.1 (Nat.le_of_ble_eq_true rfl) (Nat.le_of_ble_eq_true rfl) (by decide) (by decide) (fun E h1 q9 => ?_) ?_
  · obtain ⟨S9, e9, H9, F9⟩ := q9
    obtain rfl := xE_times e9
    refine z_catch (a := 0) (b := 11) (hp := 14) (ct := 19) [] [] rfl (fun z hz => nomatch hz) (by decide) (by decide) wl_zE1 wk_zE1 (fun qx => ?_)
    refine z_astore dLaw_times_14 (Nat.le_of_ble_eq_true rfl) ?_
    refine z_iconst dLaw_times_16 ?_
    refine z_iret rfl rfl dLaw_times_17 ?_
    exact zQw.tw e9 H9 F9 eo hn (Or.inl ⟨rfl, rfl⟩)
  · rintro _ h1 ⟨z, S9, e9, rfl, H9, F9⟩
    have eo1 := (F9 ou hn).trans eo
    rw [zwd_i z]
    refine z_i2l (zwd_r z) dLaw_times_7 ?_
    refine z_putN (k := 0) fd_Out (by decide) fl_Law_13 rfl dLaw_times_8 (by assumption) (by simp) rfl rfl ?_
    refine z_hx (fun h2 p2 g2 => ?_)
    refine z_goto (tgt := 18) dLaw_times_11 (by decide) ?_
    refine z_iconst dLaw_times_18 ?_
    refine z_iret rfl rfl dLaw_times_19 ?_
    exact zQw.ok e9 H9 F9 hn p2 g2
theorem xE_shift {p : Int} {E : String} (h : sp_shift S p = (.inr E, S')) : E = zE1 := by
  unfold sp_shift at h
  (try simp only [spPut, spTake, spBec, spRef] at h)
  (repeat' split at h)
  all_goals first
    | exact (Sum.inr.inj (Prod.mk.inj h).1).symm
    | exact absurd (Prod.mk.inj h).1 (by simp)
theorem k_Law_shift {p : Int}  (hC : zCls G h ad S) (z_p : zI32 p) {ou : Nat} {n0 : Int} {sv : Value} (eo : h ou = some (.inr (zkOut, [zl (zwd n0), sv]))) (hn : ∀ i, i < 20 → ou ≠ ad i) : zMW G l hLaw_shift yLaw_shift 10 [.ref (ad 0), zi p, .ref ou] h (zQw G ad ou h (1) (9) (9) (sp_shift S p)) zNo 6 36 := by
  refine zMW.of [some (.ref (ad 0)), some (zi p), some (.ref ou), none] (by decide +kernel) rfl (by decide) (Nat.le_of_ble_eq_true rfl) rfl ?_
  refine z_aload_n dLaw_shift_0 rfl ?_
  refine z_aload_n dLaw_shift_1 rfl ?_
  refine z_iload_n dLaw_shift_2 rfl ?_
  refine z_callV (bc' := 0) (bs' := 0) MV_Cls_shift lk_Law_141 dLaw_shift_3 (k_Cls_shift hC z_p) rfl rfl (Nat.le_of_ble_eq_true rfl) rfl hC.2.1 (Nat.le_of_ble_eq_true rfl) (Nat.le_of_ble_eq_true rfl) (by decide) (by decide) (fun E h1 q9 => ?_) ?_
  · obtain ⟨S9, e9, H9, F9⟩ := q9
    obtain rfl := xE_shift e9
    refine z_catch (a := 0) (b := 10) (hp := 13) (ct := 19) [] [] rfl (fun z hz => nomatch hz) (by decide) (by decide) wl_zE1 wk_zE1 (fun qx => ?_)
    refine z_astore_n dLaw_shift_13 (Nat.le_of_ble_eq_true rfl) ?_
    refine z_iconst dLaw_shift_14 ?_
    refine z_iret rfl rfl dLaw_shift_15 ?_
    exact zQw.tw e9 H9 F9 eo hn (Or.inl ⟨rfl, rfl⟩)
  · rintro _ h1 ⟨z, S9, e9, rfl, H9, F9⟩
    have eo1 := (F9 ou hn).trans eo
    rw [zwd_i z]
    refine z_i2l (zwd_r z) dLaw_shift_6 ?_
    refine z_putN (k := 0) fd_Out (by decide) fl_Law_13 rfl dLaw_shift_7 (by assumption) (by simp) rfl rfl ?_
    refine z_hx (fun h2 p2 g2 => ?_)
    refine z_goto (tgt := 16) dLaw_shift_10 (by decide) ?_
    refine z_iconst dLaw_shift_16 ?_
    refine z_iret rfl rfl dLaw_shift_17 ?_
    exact zQw.ok e9 H9 F9 hn p2 g2
theorem xE_trim {p : Int} {E : String} (h : sp_trim S p = (.inr E, S')) : E = zE1 := by
  unfold sp_trim at h
  (try simp only [spPut, spTake, spBec, spRef] at h)
  (repeat' split at h)
  all_goals first
    | exact (Sum.inr.inj (Prod.mk.inj h).1).symm
    | exact absurd (Prod.mk.inj h).1 (by simp)
theorem k_Law_trim {p : Int}  (hC : zCls G h ad S) (z_p : zI32 p) {ou : Nat} {n0 : Int} {sv : Value} (eo : h ou = some (.inr (zkOut, [zl (zwd n0), sv]))) (hn : ∀ i, i < 20 → ou ≠ ad i) : zMW G l hLaw_trim yLaw_trim 10 [.ref (ad 0), zi p, .ref ou] h (zQw G ad ou h (1) (9) (9) (sp_trim S p)) zNo 6 36 := by
  refine zMW.of [some (.ref (ad 0)), some (zi p), some (.ref ou), none] (by decide +kernel) rfl (by decide) (Nat.le_of_ble_eq_true rfl) rfl ?_
  refine z_aload_n dLaw_trim_0 rfl ?_
  refine z_aload_n dLaw_trim_1 rfl ?_
  refine z_iload_n dLaw_trim_2 rfl ?_
  refine z_callV (bc' := 0) (bs' := 0) MV_Cls_trim lk_Law_144 dLaw_trim_3 (k_Cls_trim hC z_p) rfl rfl (Nat.le_of_ble_eq_true rfl) rfl hC.2.1 (Nat.le_of_ble_eq_true rfl) (Nat.le_of_ble_eq_true rfl) (by decide) (by decide) (fun E h1 q9 => ?_) ?_
  · obtain ⟨S9, e9, H9, F9⟩ := q9
    obtain rfl := xE_trim e9
    refine z_catch (a := 0) (b := 10) (hp := 13) (ct := 19) [] [] rfl (fun z hz => nomatch hz) (by decide) (by decide) wl_zE1 wk_zE1 (fun qx => ?_)
    refine z_astore_n dLaw_trim_13 (Nat.le_of_ble_eq_true rfl) ?_
    refine z_iconst dLaw_trim_14 ?_
    refine z_iret rfl rfl dLaw_trim_15 ?_
    exact zQw.tw e9 H9 F9 eo hn (Or.inl ⟨rfl, rfl⟩)
  · rintro _ h1 ⟨z, S9, e9, rfl, H9, F9⟩
    have eo1 := (F9 ou hn).trans eo
    rw [zwd_i z]
    refine z_i2l (zwd_r z) dLaw_trim_6 ?_
    refine z_putN (k := 0) fd_Out (by decide) fl_Law_13 rfl dLaw_trim_7 (by assumption) (by simp) rfl rfl ?_
    refine z_hx (fun h2 p2 g2 => ?_)
    refine z_goto (tgt := 16) dLaw_trim_10 (by decide) ?_
    refine z_iconst dLaw_trim_16 ?_
    refine z_iret rfl rfl dLaw_trim_17 ?_
    exact zQw.ok e9 H9 F9 hn p2 g2
theorem xE_derive {p : Int} {E : String} (h : sp_derive S p = (.inr E, S')) : E = zE1 := by
  unfold sp_derive at h
  (try simp only [spPut, spTake, spBec, spRef] at h)
  (repeat' split at h)
  all_goals first
    | exact (Sum.inr.inj (Prod.mk.inj h).1).symm
    | exact absurd (Prod.mk.inj h).1 (by simp)
theorem k_Law_derive {p : Int}  (hC : zCls G h ad S) (z_p : zI32 p) {ou : Nat} {n0 : Int} {sv : Value} (eo : h ou = some (.inr (zkOut, [zl (zwd n0), sv]))) (hn : ∀ i, i < 20 → ou ≠ ad i) : zMW G l hLaw_derive yLaw_derive 10 [.ref (ad 0), zi p, .ref ou] h (zQw G ad ou h (1) (9) (9) (sp_derive S p)) zNo 6 36 := by
  refine zMW.of [some (.ref (ad 0)), some (zi p), some (.ref ou), none] (by decide +kernel) rfl (by decide) (Nat.le_of_ble_eq_true rfl) rfl ?_
  refine z_aload_n dLaw_derive_0 rfl ?_
  refine z_aload_n dLaw_derive_1 rfl ?_
  refine z_iload_n dLaw_derive_2 rfl ?_
  refine z_callV (bc' := 0) (bs' := 0) MV_Cls_derive lk_Law_147 dLaw_derive_3 (k_Cls_derive hC z_p) rfl rfl (Nat.le_of_ble_eq_true rfl) rfl hC.2.1 (Nat.le_of_ble_eq_true rfl) (Nat.le_of_ble_eq_true rfl) (by decide) (by decide) (fun E h1 q9 => ?_) ?_
  · obtain ⟨S9, e9, H9, F9⟩ := q9
    obtain rfl := xE_derive e9
    refine z_catch (a := 0) (b := 10) (hp := 13) (ct := 19) [] [] rfl (fun z hz => nomatch hz) (by decide) (by decide) wl_zE1 wk_zE1 (fun qx => ?_)
    refine z_astore_n dLaw_derive_13 (Nat.le_of_ble_eq_true rfl) ?_
    refine z_iconst dLaw_derive_14 ?_
    refine z_iret rfl rfl dLaw_derive_15 ?_
    exact zQw.tw e9 H9 F9 eo hn (Or.inl ⟨rfl, rfl⟩)
  · rintro _ h1 ⟨z, S9, e9, rfl, H9, F9⟩
    have eo1 := (F9 ou hn).trans eo
    rw [zwd_i z]
    refine z_i2l (zwd_r z) dLaw_derive_6 ?_
    refine z_putN (k := 0) fd_Out (by decide) fl_Law_13 rfl dLaw_derive_7 (by assumption) (by simp) rfl rfl ?_
    refine z_hx (fun h2 p2 g2 => ?_)
    refine z_goto (tgt := 16) dLaw_derive_10 (by decide) ?_
    refine z_iconst dLaw_derive_16 ?_
    refine z_iret rfl rfl dLaw_derive_17 ?_
    exact zQw.ok e9 H9 F9 hn p2 g2
theorem xE_value {p x : Int} {E : String} (h : sp_value S p x = (.inr E, S')) : E = zE1 ∨ E = zE2 := by
  unfold sp_value at h
  (try simp only [spPut, spTake, spBec, spRef] at h)
  (repeat' split at h)
  all_goals first
    | exact Or.inl (Sum.inr.inj (Prod.mk.inj h).1).symm
    | exact Or.inr ((Sum.inr.inj (Prod.mk.inj h).1).symm)
    | exact absurd (Prod.mk.inj h).1 (by simp)
theorem k_Law_value {p x : Int}  (hC : zCls G h ad S) (z_p : zI32 p) (z_x : zI32 x) {ou : Nat} {n0 : Int} {sv : Value} (eo : h ou = some (.inr (zkOut, [zl (zwd n0), sv]))) (hn : ∀ i, i < 20 → ou ≠ ad i) : zMW G l hLaw_value yLaw_value 10 [.ref (ad 0), zi p, zi x, .ref ou] h (zQw G ad ou h (1) (2) (9) (sp_value S p x)) zNo 6 36 := by
  refine zMW.of [some (.ref (ad 0)), some (zi p), some (zi x), some (.ref ou), none] (by decide +kernel) rfl (by decide) (Nat.le_of_ble_eq_true rfl) rfl ?_
  refine z_aload_n dLaw_value_0 rfl ?_
  refine z_aload_n dLaw_value_1 rfl ?_
  refine z_iload_n dLaw_value_2 rfl ?_
  refine z_iload_n dLaw_value_3 rfl ?_
  refine z_callV (bc' := 0) (bs' := 0) MV_Cls_value lk_Law_150 dLaw_value_4 (k_Cls_value hC z_p z_x) rfl rfl (Nat.le_of_ble_eq_true rfl) rfl hC.2.1 (Nat.le_of_ble_eq_true rfl) (Nat.le_of_ble_eq_true rfl) (by decide) (by decide) (fun E h1 q9 => ?_) ?_
  · obtain ⟨S9, e9, H9, F9⟩ := q9
    rcases xE_value e9 with rfl | rfl
    · refine z_catch (a := 0) (b := 11) (hp := 14) (ct := 19) [] [(0, 11, 18, 21)] rfl (fun z hz => nomatch hz) (by decide) (by decide) wl_zE1 wk_zE1 (fun qx => ?_)
      refine z_astore dLaw_value_14 (Nat.le_of_ble_eq_true rfl) ?_
      refine z_iconst dLaw_value_16 ?_
      refine z_iret rfl rfl dLaw_value_17 ?_
      exact zQw.tw e9 H9 F9 eo hn (Or.inl ⟨rfl, rfl⟩)
    · refine z_catch (a := 0) (b := 11) (hp := 18) (ct := 21) [(0, 11, 14, 19)] [] rfl (by intro z hz; simp only [List.mem_cons, List.not_mem_nil, or_false] at hz; rcases hz with rfl <;> first | exact ⟨by decide, _, wl_zE1, by decide⟩) (by decide) (by decide) wl_zE2 wk_zE2 (fun qx => ?_)
      refine z_astore dLaw_value_18 (Nat.le_of_ble_eq_true rfl) ?_
      refine z_iconst dLaw_value_20 ?_
      refine z_iret rfl rfl dLaw_value_21 ?_
      exact zQw.tw e9 H9 F9 eo hn (Or.inr (Or.inl ⟨rfl, rfl⟩))
  · rintro _ h1 ⟨z, S9, e9, rfl, H9, F9⟩
    have eo1 := (F9 ou hn).trans eo
    rw [zwd_i z]
    refine z_i2l (zwd_r z) dLaw_value_7 ?_
    refine z_putN (k := 0) fd_Out (by decide) fl_Law_13 rfl dLaw_value_8 (by assumption) (by simp) rfl rfl ?_
    refine z_hx (fun h2 p2 g2 => ?_)
    refine z_goto (tgt := 22) dLaw_value_11 (by decide) ?_
    refine z_iconst dLaw_value_22 ?_
    refine z_iret rfl rfl dLaw_value_23 ?_
    exact zQw.ok e9 H9 F9 hn p2 g2
theorem xE_degree {p : Int} {E : String} (h : sp_degree S p = (.inr E, S')) : E = zE1 := by
  unfold sp_degree at h
  (try simp only [spPut, spTake, spBec, spRef] at h)
  (repeat' split at h)
  all_goals first
    | exact (Sum.inr.inj (Prod.mk.inj h).1).symm
    | exact absurd (Prod.mk.inj h).1 (by simp)
theorem k_Law_degree {p : Int}  (hC : zCls G h ad S) (z_p : zI32 p) {ou : Nat} {n0 : Int} {sv : Value} (eo : h ou = some (.inr (zkOut, [zl (zwd n0), sv]))) (hn : ∀ i, i < 20 → ou ≠ ad i) : zMW G l hLaw_degree yLaw_degree 10 [.ref (ad 0), zi p, .ref ou] h (zQw G ad ou h (1) (9) (9) (sp_degree S p)) zNo 6 36 := by
  refine zMW.of [some (.ref (ad 0)), some (zi p), some (.ref ou), none] (by decide +kernel) rfl (by decide) (Nat.le_of_ble_eq_true rfl) rfl ?_
  refine z_aload_n dLaw_degree_0 rfl ?_
  refine z_aload_n dLaw_degree_1 rfl ?_
  refine z_iload_n dLaw_degree_2 rfl ?_
  refine z_callV (bc' := 0) (bs' := 0) MV_Cls_degree lk_Law_153 dLaw_degree_3 (k_Cls_degree hC z_p) rfl rfl (Nat.le_of_ble_eq_true rfl) rfl hC.2.1 (Nat.le_of_ble_eq_true rfl) (Nat.le_of_ble_eq_true rfl) (by decide) (by decide) (fun E h1 q9 => ?_) ?_
  · obtain ⟨S9, e9, H9, F9⟩ := q9
    obtain rfl := xE_degree e9
    refine z_catch (a := 0) (b := 10) (hp := 13) (ct := 19) [] [] rfl (fun z hz => nomatch hz) (by decide) (by decide) wl_zE1 wk_zE1 (fun qx => ?_)
    refine z_astore_n dLaw_degree_13 (Nat.le_of_ble_eq_true rfl) ?_
    refine z_iconst dLaw_degree_14 ?_
    refine z_iret rfl rfl dLaw_degree_15 ?_
    exact zQw.tw e9 H9 F9 eo hn (Or.inl ⟨rfl, rfl⟩)
  · rintro _ h1 ⟨z, S9, e9, rfl, H9, F9⟩
    have eo1 := (F9 ou hn).trans eo
    rw [zwd_i z]
    refine z_i2l (zwd_r z) dLaw_degree_6 ?_
    refine z_putN (k := 0) fd_Out (by decide) fl_Law_13 rfl dLaw_degree_7 (by assumption) (by simp) rfl rfl ?_
    refine z_hx (fun h2 p2 g2 => ?_)
    refine z_goto (tgt := 16) dLaw_degree_10 (by decide) ?_
    refine z_iconst dLaw_degree_16 ?_
    refine z_iret rfl rfl dLaw_degree_17 ?_
    exact zQw.ok e9 H9 F9 hn p2 g2
theorem xE_ask {key : Int} {E : String} (h : sp_ask S key = (.inr E, S')) : E = zE2 ∨ E = zE3 := by
  unfold sp_ask at h
  (try simp only [spPut, spTake, spBec, spRef] at h)
  (repeat' split at h)
  all_goals first
    | exact Or.inl (Sum.inr.inj (Prod.mk.inj h).1).symm
    | exact Or.inr ((Sum.inr.inj (Prod.mk.inj h).1).symm)
    | exact absurd (Prod.mk.inj h).1 (by simp)
theorem k_Law_ask {key : Int} (hO : zOk S) (hC : zCls G h ad S) (z_key : zI32 key) {ou : Nat} {n0 : Int} {sv : Value} (eo : h ou = some (.inr (zkOut, [zl (zwd n0), sv]))) (hn : ∀ i, i < 20 → ou ≠ ad i) : zMW G l hLaw_ask yLaw_ask 10 [.ref (ad 0), zi key, .ref ou] h (zQw G ad ou h (9) (1) (2) (sp_ask S key)) zNo 6 36 := by
  refine zMW.of [some (.ref (ad 0)), some (zi key), some (.ref ou), none] (by decide +kernel) rfl (by decide) (Nat.le_of_ble_eq_true rfl) rfl ?_
  refine z_aload_n dLaw_ask_0 rfl ?_
  refine z_aload_n dLaw_ask_1 rfl ?_
  refine z_iload_n dLaw_ask_2 rfl ?_
  refine z_callV (bc' := 0) (bs' := 0) MV_Cls_ask lk_Law_156 dLaw_ask_3 (k_Cls_ask hO hC z_key) rfl rfl (Nat.le_of_ble_eq_true rfl) rfl hC.2.1 (Nat.le_of_ble_eq_true rfl) (Nat.le_of_ble_eq_true rfl) (by decide) (by decide) (fun E h1 q9 => ?_) ?_
  · obtain ⟨S9, e9, H9, F9⟩ := q9
    rcases xE_ask e9 with rfl | rfl
    · refine z_catch (a := 0) (b := 10) (hp := 13) (ct := 21) [] [(0, 10, 16, 115)] rfl (fun z hz => nomatch hz) (by decide) (by decide) wl_zE2 wk_zE2 (fun qx => ?_)
      refine z_astore_n dLaw_ask_13 (Nat.le_of_ble_eq_true rfl) ?_
      refine z_iconst dLaw_ask_14 ?_
      refine z_iret rfl rfl dLaw_ask_15 ?_
      exact zQw.tw e9 H9 F9 eo hn (Or.inr (Or.inl ⟨rfl, rfl⟩))
    · refine z_catch (a := 0) (b := 10) (hp := 16) (ct := 115) [(0, 10, 13, 21)] [] rfl (by intro z hz; simp only [List.mem_cons, List.not_mem_nil, or_false] at hz; rcases hz with rfl <;> first | exact ⟨by decide, _, wl_zE2, by decide⟩) (by decide) (by decide) wl_zE3 wk_zE3 (fun qx => ?_)
      refine z_astore_n dLaw_ask_16 (Nat.le_of_ble_eq_true rfl) ?_
      refine z_iconst dLaw_ask_17 ?_
      refine z_iret rfl rfl dLaw_ask_18 ?_
      exact zQw.tw e9 H9 F9 eo hn (Or.inr (Or.inr ⟨rfl, rfl⟩))
  · rintro _ h1 ⟨z, S9, e9, rfl, H9, F9⟩
    have eo1 := (F9 ou hn).trans eo
    rw [zwd_i z]
    refine z_i2l (zwd_r z) dLaw_ask_6 ?_
    refine z_putN (k := 0) fd_Out (by decide) fl_Law_13 rfl dLaw_ask_7 (by assumption) (by simp) rfl rfl ?_
    refine z_hx (fun h2 p2 g2 => ?_)
    refine z_goto (tgt := 19) dLaw_ask_10 (by decide) ?_
    refine z_iconst dLaw_ask_19 ?_
    refine z_iret rfl rfl dLaw_ask_20 ?_
    exact zQw.ok e9 H9 F9 hn p2 g2
theorem xE_asked {w : Int} {E : String} (h : sp_asked S w = (.inr E, S')) : E = zE2 := by
  unfold sp_asked at h
  (try simp only [spPut, spTake, spBec, spRef] at h)
  (repeat' split at h)
  all_goals first
    | exact (Sum.inr.inj (Prod.mk.inj h).1).symm
    | exact absurd (Prod.mk.inj h).1 (by simp)
theorem k_Law_asked {w : Int}  (hC : zCls G h ad S) (z_w : zI32 w) {ou : Nat} {n0 : Int} {sv : Value} (eo : h ou = some (.inr (zkOut, [zl (zwd n0), sv]))) (hn : ∀ i, i < 20 → ou ≠ ad i) : zMW G l hLaw_asked yLaw_asked 10 [.ref (ad 0), zi w, .ref ou] h (zQw G ad ou h (9) (1) (9) (sp_asked S w)) zNo 6 36 := by
  refine zMW.of [some (.ref (ad 0)), some (zi w), some (.ref ou), none] (by decide +kernel) rfl (by decide) (Nat.le_of_ble_eq_true rfl) rfl ?_
  refine z_aload_n dLaw_asked_0 rfl ?_
  refine z_aload_n dLaw_asked_1 rfl ?_
  refine z_iload_n dLaw_asked_2 rfl ?_
  refine z_callV (bc' := 0) (bs' := 0) MV_Cls_asked lk_Law_159 dLaw_asked_3 (k_Cls_asked hC z_w) rfl rfl (Nat.le_of_ble_eq_true rfl) rfl hC.2.1 (Nat.le_of_ble_eq_true rfl) (Nat.le_of_ble_eq_true rfl) (by decide) (by decide) (fun E h1 q9 => ?_) ?_
  · obtain ⟨S9, e9, H9, F9⟩ := q9
    obtain rfl := xE_asked e9
    refine z_catch (a := 0) (b := 10) (hp := 13) (ct := 21) [] [] rfl (fun z hz => nomatch hz) (by decide) (by decide) wl_zE2 wk_zE2 (fun qx => ?_)
    refine z_astore_n dLaw_asked_13 (Nat.le_of_ble_eq_true rfl) ?_
    refine z_iconst dLaw_asked_14 ?_
    refine z_iret rfl rfl dLaw_asked_15 ?_
    exact zQw.tw e9 H9 F9 eo hn (Or.inr (Or.inl ⟨rfl, rfl⟩))
  · rintro _ h1 ⟨z, S9, e9, rfl, H9, F9⟩
    have eo1 := (F9 ou hn).trans eo
    rw [zwd_i z]
    refine z_i2l (zwd_r z) dLaw_asked_6 ?_
    refine z_putN (k := 0) fd_Out (by decide) fl_Law_13 rfl dLaw_asked_7 (by assumption) (by simp) rfl rfl ?_
    refine z_hx (fun h2 p2 g2 => ?_)
    refine z_goto (tgt := 16) dLaw_asked_10 (by decide) ?_
    refine z_iconst dLaw_asked_16 ?_
    refine z_iret rfl rfl dLaw_asked_17 ?_
    exact zQw.ok e9 H9 F9 hn p2 g2
theorem xE_byOrder {p w : Int} {E : String} (h : sp_byOrder S p w = (.inr E, S')) : E = zE1 ∨ E = zE2 := by
  unfold sp_byOrder at h
  (try simp only [spPut, spTake, spBec, spRef] at h)
  (repeat' split at h)
  all_goals first
    | exact Or.inl (Sum.inr.inj (Prod.mk.inj h).1).symm
    | exact Or.inr ((Sum.inr.inj (Prod.mk.inj h).1).symm)
    | exact absurd (Prod.mk.inj h).1 (by simp)
theorem k_Law_byOrder {p w : Int}  (hC : zCls G h ad S) (z_p : zI32 p) (z_w : zI32 w) {ou : Nat} {n0 : Int} {sv : Value} (eo : h ou = some (.inr (zkOut, [zl (zwd n0), sv]))) (hn : ∀ i, i < 20 → ou ≠ ad i) : zMW G l hLaw_byOrder yLaw_byOrder 10 [.ref (ad 0), zi p, zi w, .ref ou] h (zQw G ad ou h (1) (2) (9) (sp_byOrder S p w)) zNo 6 36 := by
  refine zMW.of [some (.ref (ad 0)), some (zi p), some (zi w), some (.ref ou), none] (by decide +kernel) rfl (by decide) (Nat.le_of_ble_eq_true rfl) rfl ?_
  refine z_aload_n dLaw_byOrder_0 rfl ?_
  refine z_aload_n dLaw_byOrder_1 rfl ?_
  refine z_iload_n dLaw_byOrder_2 rfl ?_
  refine z_iload_n dLaw_byOrder_3 rfl ?_
  refine z_callV (bc' := 0) (bs' := 0) MV_Cls_byOrder lk_Law_162 dLaw_byOrder_4 (k_Cls_byOrder hC z_p z_w) rfl rfl (Nat.le_of_ble_eq_true rfl) rfl hC.2.1 (Nat.le_of_ble_eq_true rfl) (Nat.le_of_ble_eq_true rfl) (by decide) (by decide) (fun E h1 q9 => ?_) ?_
  · obtain ⟨S9, e9, H9, F9⟩ := q9
    rcases xE_byOrder e9 with rfl | rfl
    · refine z_catch (a := 0) (b := 11) (hp := 14) (ct := 19) [] [(0, 11, 18, 21)] rfl (fun z hz => nomatch hz) (by decide) (by decide) wl_zE1 wk_zE1 (fun qx => ?_)
      refine z_astore dLaw_byOrder_14 (Nat.le_of_ble_eq_true rfl) ?_
      refine z_iconst dLaw_byOrder_16 ?_
      refine z_iret rfl rfl dLaw_byOrder_17 ?_
      exact zQw.tw e9 H9 F9 eo hn (Or.inl ⟨rfl, rfl⟩)
    · refine z_catch (a := 0) (b := 11) (hp := 18) (ct := 21) [(0, 11, 14, 19)] [] rfl (by intro z hz; simp only [List.mem_cons, List.not_mem_nil, or_false] at hz; rcases hz with rfl <;> first | exact ⟨by decide, _, wl_zE1, by decide⟩) (by decide) (by decide) wl_zE2 wk_zE2 (fun qx => ?_)
      refine z_astore dLaw_byOrder_18 (Nat.le_of_ble_eq_true rfl) ?_
      refine z_iconst dLaw_byOrder_20 ?_
      refine z_iret rfl rfl dLaw_byOrder_21 ?_
      exact zQw.tw e9 H9 F9 eo hn (Or.inr (Or.inl ⟨rfl, rfl⟩))
  · rintro _ h1 ⟨z, S9, e9, rfl, H9, F9⟩
    have eo1 := (F9 ou hn).trans eo
    rw [zwd_i z]
    refine z_i2l (zwd_r z) dLaw_byOrder_7 ?_
    refine z_putN (k := 0) fd_Out (by decide) fl_Law_13 rfl dLaw_byOrder_8 (by assumption) (by simp) rfl rfl ?_
    refine z_hx (fun h2 p2 g2 => ?_)
    refine z_goto (tgt := 22) dLaw_byOrder_11 (by decide) ?_
    refine z_iconst dLaw_byOrder_22 ?_
    refine z_iret rfl rfl dLaw_byOrder_23 ?_
    exact zQw.ok e9 H9 F9 hn p2 g2
theorem xE_house {w : Int} {E : String} (h : sp_house S w = (.inr E, S')) : E = zE2 := by
  unfold sp_house at h
  (try simp only [spPut, spTake, spBec, spRef] at h)
  (repeat' split at h)
  all_goals first
    | exact (Sum.inr.inj (Prod.mk.inj h).1).symm
    | exact absurd (Prod.mk.inj h).1 (by simp)
theorem k_Law_house {w : Int}  (hC : zCls G h ad S) (z_w : zI32 w) {ou : Nat} {n0 : Int} {sv : Value} (eo : h ou = some (.inr (zkOut, [zl (zwd n0), sv]))) (hn : ∀ i, i < 20 → ou ≠ ad i) : zMW G l hLaw_house yLaw_house 10 [.ref (ad 0), zi w, .ref ou] h (zQw G ad ou h (9) (1) (9) (sp_house S w)) zNo 6 36 := by
  refine zMW.of [some (.ref (ad 0)), some (zi w), some (.ref ou), none] (by decide +kernel) rfl (by decide) (Nat.le_of_ble_eq_true rfl) rfl ?_
  refine z_aload_n dLaw_house_0 rfl ?_
  refine z_aload_n dLaw_house_1 rfl ?_
  refine z_iload_n dLaw_house_2 rfl ?_
  refine z_callV (bc' := 0) (bs' := 0) MV_Cls_house lk_Law_165 dLaw_house_3 (k_Cls_house hC z_w) rfl rfl (Nat.le_of_ble_eq_true rfl) rfl hC.2.1 (Nat.le_of_ble_eq_true rfl) (Nat.le_of_ble_eq_true rfl) (by decide) (by decide) (fun E h1 q9 => ?_) ?_
  · obtain ⟨S9, e9, H9, F9⟩ := q9
    obtain rfl := xE_house e9
    refine z_catch (a := 0) (b := 10) (hp := 13) (ct := 21) [] [] rfl (fun z hz => nomatch hz) (by decide) (by decide) wl_zE2 wk_zE2 (fun qx => ?_)
    refine z_astore_n dLaw_house_13 (Nat.le_of_ble_eq_true rfl) ?_
    refine z_iconst dLaw_house_14 ?_
    refine z_iret rfl rfl dLaw_house_15 ?_
    exact zQw.tw e9 H9 F9 eo hn (Or.inr (Or.inl ⟨rfl, rfl⟩))
  · rintro _ h1 ⟨z, S9, e9, rfl, H9, F9⟩
    have eo1 := (F9 ou hn).trans eo
    rw [zwd_i z]
    refine z_i2l (zwd_r z) dLaw_house_6 ?_
    refine z_putN (k := 0) fd_Out (by decide) fl_Law_13 rfl dLaw_house_7 (by assumption) (by simp) rfl rfl ?_
    refine z_hx (fun h2 p2 g2 => ?_)
    refine z_goto (tgt := 16) dLaw_house_10 (by decide) ?_
    refine z_iconst dLaw_house_16 ?_
    refine z_iret rfl rfl dLaw_house_17 ?_
    exact zQw.ok e9 H9 F9 hn p2 g2
end LAW1
end
section
/-! ===== the law: its end, its script ===== -/
def R_law : String := "CursorlistLaw"
def lw_P (b : Addr) (xs : List Int32) (args : Array Value) (s : State) : Prop := args = #[.ref b] ∧ s.IntsAt b xs ∧ xs.length ≤ 2048 ∧ (Jvm.Cond.and given_1 narrow_1).before args s = true
def lw_Q (_ : Array Value) (s : State) (o : Outcome) (t : State) : Prop := o = .returned (some (.int 1)) ∧ Framed s o t [] 745109 6860778
def lw_Z (below : List Frame) (a : Array Value) (s : State) : State → Prop := fun t => ∃ o, t.status = .running ∧ Ended t below o ∧ lw_Q a s o t
/-- the law's own end, with 1 on the stack, nothing written that was there before, its room as the claim has it -/
theorem lw_ret {p : Program} {l : Launch} {e : Env} {s : State} {m : MethodId} {below : List Frame} {meth : Method} {c : Code} {b : Nat} (hx : p.tables.exec = Jvm.exec) (hb : c.code = code) (hr : meth.sig.returnType = ret) (hlocks : meth.locks = false) {pc : Nat} {H : Heap} {ls : Array Slot} (hdg : decode code pc = .ok (.ireturn, 1)) : W p l e room_1 s m #[Value.ref b] below meth c H [] 745109 6860778 (lw_Z below #[Value.ref b] s) (F0 m pc ls [.int 1]) := by
  intro T hT X
  obtain ⟨fs, hret, hrun, hended, hW, hframe⟩ := X.leave (v := some (.int 1)) (hlocks := hlocks) (fun h => by rw [hr] at h; cases h)
  have hmeth' : T.vm.method? m = some meth := X.method'
  refine ⟨T.setFrames fs, ?_, .returned (some (.int 1)), hrun, hended, rfl, ⟨_, rfl⟩, hW, hframe⟩
  jvm_step X.here [X.here.top, hx, hb, hdg, hmeth', hr, ret, narrow_b1]
  (try refine ⟨rfl, ?_⟩); (try refine ⟨rfl, ?_⟩)
  first | (intro acts; rw [hret _ acts rfl rfl rfl]) | rw [hret _ _ rfl rfl rfl]
  exact Steps.refl _
/-- what holds at the law's entry: the machine, the code, the tables' words (any of lw_tbl by 'hts w (by decide +kernel)'), the script of L ints xs at the cell b, what the Statement gives of the start (any of its parts by flat_of_before) -/
def lw_At (p : Program) (s : State) (m : MethodId) (meth : Method) (c : Code) (b L : Nat) (xs : Nat → Int32) : Prop :=
  p.tables.exec = Jvm.exec ∧ c.code = code ∧ meth.sig.returnType = ret ∧ c.maxLocals = 7 ∧ s.vm.findClass R_law = some m.cls ∧ (∀ w ∈ lw_tbl, w.before #[Value.ref b] s = true) ∧ va_X b L xs s s.heap ∧ b < s.heap.size ∧ meth.locks = false ∧ (Jvm.Cond.and given_1 narrow_1).before #[Value.ref b] s = true
section LAW2
variable {G : zG} {l : Launch} {h h' h0 h1 h2 : zHp} {ad ma ma2 : Nat → Nat} {S S' : zSt} {th : Int}
abbrev hLaw_law : zHd := (RLaw, cLaw_law, 7, ret, [], false)
abbrev zLJ (G : zG) (b L : Nat) (xs : Nat → Int32) : zJ := (hLaw_law, room_1, fun below args s => lw_Z below args s, fun args s => args = #[Value.ref b] ∧ G.2.2 = s.heap.size ∧ va_X b L xs s s.heap ∧ b < s.heap.size ∧ L ≤ 2048)
variable {b L : Nat} {xs : Nat → Int32} {bc bs pc : Nat} {ls : List (Option Value)} {st : List Value}
/-- the law ends with true -/
theorem z_lawret (hd : decode cLaw_law pc = .ok (.ireturn, 1)) : zR G l (zLJ G b L xs) bc bs h pc ls [zi 1] := by
  intro p e s m args below meth c H locs cells slots ls0 C0 hP hS hL h1 h2
  obtain ⟨rfl, hG, hX, hb, -⟩ := C0.2.2.2.2.2.2.2.2.2.2.2.1
  have e1 : cells ≤ 745109 := by have : cells + bc ≤ 745109 := h1; omega
  have e2 : slots ≤ 6860778 := by have : slots + bs ≤ 6860778 := h2; omega
  refine va_forget (fun q hq => ?_) (W.widen (k := 745109) (n := 6860778) e1 e2 (lw_ret C0.1 C0.2.1 C0.2.2.2.1 C0.2.2.2.2.2.2.2.2.1 hd))
  have : G.2.2 ≤ q.base := hS.2.2 q hq
  rw [hG] at this
  exact this
/-- a number of the script -/
def zX9 (xs : Nat → Int32) (k : Int) : Int := (xs k.toNat).toInt
theorem zX9_r (k : Int) : zI32 (zX9 xs k) := by
  unfold zI32 zX9
  have h1 := Int32.le_toInt (xs k.toNat)
  have h2 := Int32.toInt_lt (xs k.toNat)
  omega
theorem z_sld {k : Int} (hk : 0 ≤ k ∧ k < L) (hd : decode cLaw_law pc = .ok (.iaload, 1)) (kk : zR G l (zLJ G b L xs) bc bs h (pc + 1) ls (zi (zX9 xs k) :: st)) : zR G l (zLJ G b L xs) bc bs h pc ls (zi k :: .ref b :: st) := by
  intro p e9 s m args below meth c H locs cells slots ls0 C0 hP hS hL h1 h2
  obtain ⟨ha, hG, hX, hb, hL2⟩ := C0.2.2.2.2.2.2.2.2.2.2.2.1
  refine va_sld C0.1 C0.2.1 hX hb (fun q : G.2.2 ≤ b => by rw [hG] at q; omega) hS (zI_in hk.1 hk.2 (by omega)) hd ?_
  rw [zI_clamp hk.1 (by omega)]
  have e : zI (zX9 xs k) = xs k.toNat := zI_of _
  rw [← e]
  exact kk p e9 s m args below meth c H locs cells slots ls0 C0 hP hS hL h1 h2
theorem z_slen (hd : decode cLaw_law pc = .ok (.arraylength, 1)) (kk : L ≤ 2048 → zR G l (zLJ G b L xs) bc bs h (pc + 1) ls (zi (L : Int) :: st)) : zR G l (zLJ G b L xs) bc bs h pc ls (.ref b :: st) := by
  intro p e s m args below meth c H locs cells slots ls0 C0 hP hS hL h1 h2
  obtain ⟨ha, hG, hX, hb, hL2⟩ := C0.2.2.2.2.2.2.2.2.2.2.2.1
  refine va_slen C0.1 C0.2.1 hX hb (fun q : G.2.2 ≤ b => by rw [hG] at q; omega) hS hd ?_
  rw [zI_nat]
  exact kk hL2 p e s m args below meth c H locs cells slots ls0 C0 hP hS hL h1 h2
variable {J : zJ}
/-- the low six bits -/
theorem zand63 (y : Int32) : ∃ k : Int, (0 ≤ k ∧ k < 64) ∧ y &&& zI 63 = zI k := by
  refine ⟨((y.toBitVec.toNat % 64 : Nat) : Int), ⟨by omega, by omega⟩, ?_⟩
  apply Int32.toBitVec_inj.mp
  apply BitVec.eq_of_toNat_eq
  have e63 : (zI 63).toBitVec = 63#32 := by decide
  have e1 : (y &&& zI 63).toBitVec = y.toBitVec &&& 63#32 := by rw [Int32.toBitVec_and, e63]
  rw [e1, BitVec.toNat_and]
  have e2 : y.toBitVec.toNat &&& (63#32).toNat = y.toBitVec.toNat % 64 := Nat.and_two_pow_sub_one_eq_mod _ 6
  rw [e2]
  show _ = (Int32.ofInt ((y.toBitVec.toNat % 64 : Nat) : Int)).toBitVec.toNat
  have e3 : (Int32.ofInt ((y.toBitVec.toNat % 64 : Nat) : Int)).toBitVec = BitVec.ofInt 32 ((y.toBitVec.toNat % 64 : Nat) : Int) := rfl
  rw [e3, BitVec.ofInt_natCast, BitVec.toNat_ofNat]
  have := Nat.mod_lt y.toBitVec.toNat (show 64 > 0 by decide)
  omega
/-! the state of both objects and of out -/
def zLi (G : zG) (h : zHp) (ad ma : Nat → Nat) (ou : Nat) (S : zSt) : Prop := ∃ (th n0 : Int) (sv : Value), zCls G h ad S ∧ zMod G h ma S th ∧ zOk S ∧ zOkA S ∧ h ou = some (.inr (zkOut, [zl (zwd n0), sv])) ∧ (∀ i, i < 20 → ou ≠ ad i) ∧ (∀ j, j < 13 → ou ≠ ma j) ∧ (∀ i j, i < 20 → j < 13 → ad i ≠ ma j)
theorem zCls.dom (H : zCls G h ad S) {i : Nat} (hi : i < 20) : ∃ e, h (ad i) = some e := by
  obtain ⟨c1, c2, ⟨g3, c3, d3⟩, ⟨g4, c4, d4⟩, c5, ⟨T6, c6, d6⟩, c7, c8, ⟨R9, ⟨f9, e9, e9a, -⟩⟩, ⟨f10, e10, e10a, -⟩⟩ := H
  have cu : ∀ c, c < 3 → ∃ e, h (ad (5 + c)) = some e := fun c hc => by
    obtain ⟨st, li, ix, la, e, -⟩ := c7 c hc
    exact ⟨_, e⟩
  have ro : ∀ k, k < 4 → (∃ e, h (ad (8 + 2 * k)) = some e) ∧ ∃ e, h (ad (9 + 2 * k)) = some e := fun k hk => by
    obtain ⟨f, e1, e2, -⟩ := c8 k hk
    exact ⟨⟨_, e1⟩, ⟨_, e2⟩⟩
  match i, hi with
  | 0, _ => exact ⟨_, c2⟩
  | 1, _ => exact ⟨_, c3⟩
  | 2, _ => exact ⟨_, c4⟩
  | 3, _ => exact ⟨_, c5⟩
  | 4, _ => exact ⟨_, c6⟩
  | 5, _ => exact cu 0 (by omega)
  | 6, _ => exact cu 1 (by omega)
  | 7, _ => exact cu 2 (by omega)
  | 8, _ => exact (ro 0 (by omega)).1
  | 9, _ => exact (ro 0 (by omega)).2
  | 10, _ => exact (ro 1 (by omega)).1
  | 11, _ => exact (ro 1 (by omega)).2
  | 12, _ => exact (ro 2 (by omega)).1
  | 13, _ => exact (ro 2 (by omega)).2
  | 14, _ => exact (ro 3 (by omega)).1
  | 15, _ => exact (ro 3 (by omega)).2
  | 16, _ => exact ⟨_, e9⟩
  | 17, _ => exact ⟨_, e9a⟩
  | 18, _ => exact ⟨_, e10⟩
  | 19, _ => exact ⟨_, e10a⟩
  | n + 20, h9 => exact absurd h9 (by omega)
theorem zLi.fin {ou : Nat} {th2 n0 : Int} {sv : Value} (C : zCls G h1 ad S') (eo : h1 ou = some (.inr (zkOut, [zl (zwd n0), sv]))) (n1 : ∀ i, i < 20 → ou ≠ ad i) (n2 : ∀ j, j < 13 → ou ≠ ma j) (n3 : ∀ i j, i < 20 → j < 13 → ad i ≠ ma j)
    (M : zMod G h2 ma2 S' th2) (F : zMfr ma h1 h2) (A : ∀ i, i < 13 → ma2 i = ma i ∨ (zDm h1 (ma2 i) ∧ G.2.2 ≤ ma2 i)) (ok : zOk S') (oka : zOkA S') : zLi G h2 ad ma2 ou S' := by
  refine ⟨th2, n0, sv, C.at (fun i hi => ?_), M, ok, oka, F ou _ eo n2, n1, fun j hj => ?_, fun i j hi hj => ?_⟩
  · obtain ⟨e, he⟩ := C.dom hi
    rw [he]
    exact F _ _ he (fun j hj => n3 i j hi hj)
  · rcases A j hj with q | ⟨q, -⟩
    · rw [q]; exact n2 j hj
    · exact Nat.ne_of_lt (q _ _ eo)
  · obtain ⟨e, he⟩ := C.dom hi
    rcases A j hj with q | ⟨q, -⟩
    · rw [q]; exact n3 i j hi hj
    · exact Nat.ne_of_lt (q _ _ he)
theorem zMod.mid {ou : Nat} (M : zMod G h ma S th) (n2 : ∀ j, j < 13 → ou ≠ ma j) (n3 : ∀ i j, i < 20 → j < 13 → ad i ≠ ma j) (f1 : ∀ q, q ≠ ou → (∀ i, i < 20 → q ≠ ad i) → h1 q = h q) : zMod G h1 ma S th := M.at (fun j hj => f1 _ (Ne.symm (n2 j hj)) (fun i hi => Ne.symm (n3 i j hi hj)))
theorem ok_zS0 : zOk zS0 := by
  refine ⟨fun c _ q => absurd (show (0 : Int) = 1 from q) (by decide), fun k k1 k2 => ?_, rfl, Nat.zero_le _, Int.le_refl _, Int.le_refl _⟩
  show 0 ≤ zFind (zPl9 8) k 0
  rcases (show k = 0 ∨ k = 1 ∨ k = 2 ∨ k = 3 ∨ k = 4 ∨ k = 5 ∨ k = 6 ∨ k = 7 by omega) with rfl | rfl | rfl | rfl | rfl | rfl | rfl | rfl <;> decide
theorem oka_zS0 : zOkA zS0 := fun j hj => absurd hj (Nat.not_lt_zero j)
theorem oka_put {p w x : Int} (hA : zOkA S) : zOkA (sp_put S p w x).2 := by
  refine hA.of ?_
  unfold sp_put
  (try simp only [spPut, spTake, spBec, spRef])
  (repeat' split) <;> rfl
theorem oka_take {p w : Int} (hA : zOkA S) : zOkA (sp_take S p w).2 := by
  refine hA.of ?_
  unfold sp_take
  (try simp only [spPut, spTake, spBec, spRef])
  (repeat' split) <;> rfl
theorem oka_look {p w : Int} (hA : zOkA S) : zOkA (sp_look S p w).2 := by
  refine hA.of ?_
  unfold sp_look
  (try simp only [spPut, spTake, spBec, spRef])
  (repeat' split) <;> rfl
theorem oka_get {p q : Int} (hA : zOkA S) : zOkA (sp_get S p q).2 := by
  refine hA.of ?_
  unfold sp_get
  (try simp only [spPut, spTake, spBec, spRef])
  (repeat' split) <;> rfl
theorem oka_set {p q x : Int} (hA : zOkA S) : zOkA (sp_set S p q x).2 := by
  refine hA.of ?_
  unfold sp_set
  (try simp only [spPut, spTake, spBec, spRef])
  (repeat' split) <;> rfl
theorem oka_insert {p q x : Int} (hA : zOkA S) : zOkA (sp_insert S p q x).2 := by
  refine hA.of ?_
  unfold sp_insert
  (try simp only [spPut, spTake, spBec, spRef])
  (repeat' split) <;> rfl
theorem oka_removeAt {p q : Int} (hA : zOkA S) : zOkA (sp_removeAt S p q).2 := by
  refine hA.of ?_
  unfold sp_removeAt
  (try simp only [spPut, spTake, spBec, spRef])
  (repeat' split) <;> rfl
theorem oka_drop {p x b : Int} (hA : zOkA S) : zOkA (sp_drop S p x b).2 := by
  refine hA.of ?_
  unfold sp_drop
  (try simp only [spPut, spTake, spBec, spRef])
  (repeat' split) <;> rfl
theorem oka_thin {p x : Int} (hA : zOkA S) : zOkA (sp_thin S p x).2 := by
  refine hA.of ?_
  unfold sp_thin
  (try simp only [spPut, spTake, spBec, spRef])
  (repeat' split) <;> rfl
theorem oka_indexOf {p x b : Int} (hA : zOkA S) : zOkA (sp_indexOf S p x b).2 := by
  refine hA.of ?_
  unfold sp_indexOf
  (try simp only [spPut, spTake, spBec, spRef])
  (repeat' split) <;> rfl
theorem oka_has {p x : Int} (hA : zOkA S) : zOkA (sp_has S p x).2 := by
  refine hA.of ?_
  unfold sp_has
  (try simp only [spPut, spTake, spBec, spRef])
  (repeat' split) <;> rfl
theorem oka_size {p : Int} (hA : zOkA S) : zOkA (sp_size S p).2 := by
  refine hA.of ?_
  unfold sp_size
  (try simp only [spPut, spTake, spBec, spRef])
  (repeat' split) <;> rfl
theorem oka_clear {p : Int} (hA : zOkA S) : zOkA (sp_clear S p).2 := by
  refine hA.of ?_
  unfold sp_clear
  (try simp only [spPut, spTake, spBec, spRef])
  (repeat' split) <;> rfl
theorem oka_append {p f : Int} (hA : zOkA S) : zOkA (sp_append S p f).2 := by
  refine hA.of ?_
  unfold sp_append
  (try simp only [spPut, spTake, spBec, spRef])
  (repeat' split) <;> rfl
theorem oka_appendAt {p q f : Int} (hA : zOkA S) : zOkA (sp_appendAt S p q f).2 := by
  refine hA.of ?_
  unfold sp_appendAt
  (try simp only [spPut, spTake, spBec, spRef])
  (repeat' split) <;> rfl
theorem oka_copy {p i : Int} (hA : zOkA S) : zOkA (sp_copy S p i).2 := by
  refine hA.of ?_
  unfold sp_copy
  (try simp only [spPut, spTake, spBec, spRef])
  (repeat' split) <;> rfl
theorem oka_places {p m : Int} (hA : zOkA S) : zOkA (sp_places S p m).2 := by
  refine hA.of ?_
  unfold sp_places
  (try simp only [spPut, spTake, spBec, spRef])
  (repeat' split) <;> rfl
theorem oka_rotate {p b : Int} (hA : zOkA S) : zOkA (sp_rotate S p b).2 := by
  refine hA.of ?_
  unfold sp_rotate
  (try simp only [spPut, spTake, spBec, spRef])
  (repeat' split) <;> rfl
theorem oka_move {p f t : Int} (hA : zOkA S) : zOkA (sp_move S p f t).2 := by
  refine hA.of ?_
  unfold sp_move
  (try simp only [spPut, spTake, spBec, spRef])
  (repeat' split) <;> rfl
theorem oka_swap {p i j : Int} (hA : zOkA S) : zOkA (sp_swap S p i j).2 := by
  refine hA.of ?_
  unfold sp_swap
  (try simp only [spPut, spTake, spBec, spRef])
  (repeat' split) <;> rfl
theorem oka_reverse {p : Int} (hA : zOkA S) : zOkA (sp_reverse S p).2 := by
  refine hA.of ?_
  unfold sp_reverse
  (try simp only [spPut, spTake, spBec, spRef])
  (repeat' split) <;> rfl
theorem oka_through {p m i : Int} (hA : zOkA S) : zOkA (sp_through S p m i).2 := by
  refine hA.of ?_
  unfold sp_through
  (try simp only [spPut, spTake, spBec, spRef])
  (repeat' split) <;> rfl
theorem oka_areSame {p o : Int} (hA : zOkA S) : zOkA (sp_areSame S p o).2 := by
  refine hA.of ?_
  unfold sp_areSame
  (try simp only [spPut, spTake, spBec, spRef])
  (repeat' split) <;> rfl
theorem oka_isMirror {p : Int} (hA : zOkA S) : zOkA (sp_isMirror S p).2 := by
  refine hA.of ?_
  unfold sp_isMirror
  (try simp only [spPut, spTake, spBec, spRef])
  (repeat' split) <;> rfl
theorem oka_open {c p q : Int} (hA : zOkA S) : zOkA (sp_open S c p q).2 := by
  refine hA.of ?_
  unfold sp_open
  (try simp only [spPut, spTake, spBec, spRef])
  (repeat' split) <;> rfl
theorem oka_shut {c : Int} (hA : zOkA S) : zOkA (sp_shut S c).2 := by
  refine hA.of ?_
  unfold sp_shut
  (try simp only [spPut, spTake, spBec, spRef])
  (repeat' split) <;> rfl
theorem oka_forth {c : Int} (hA : zOkA S) : zOkA (sp_forth S c).2 := by
  refine hA.of ?_
  unfold sp_forth
  (try simp only [spPut, spTake, spBec, spRef])
  (repeat' split) <;> rfl
theorem oka_back {c : Int} (hA : zOkA S) : zOkA (sp_back S c).2 := by
  refine hA.of ?_
  unfold sp_back
  (try simp only [spPut, spTake, spBec, spRef])
  (repeat' split) <;> rfl
theorem oka_puts {c x : Int} (hA : zOkA S) : zOkA (sp_puts S c x).2 := by
  refine hA.of ?_
  unfold sp_puts
  (try simp only [spPut, spTake, spBec, spRef])
  (repeat' split) <;> rfl
theorem oka_cuts {c : Int} (hA : zOkA S) : zOkA (sp_cuts S c).2 := by
  refine hA.of ?_
  unfold sp_cuts
  (try simp only [spPut, spTake, spBec, spRef])
  (repeat' split) <;> rfl
theorem oka_changes {c x : Int} (hA : zOkA S) : zOkA (sp_changes S c x).2 := by
  refine hA.of ?_
  unfold sp_changes
  (try simp only [spPut, spTake, spBec, spRef])
  (repeat' split) <;> rfl
theorem oka_meet {c o : Int} (hA : zOkA S) : zOkA (sp_meet S c o).2 := by
  refine hA.of ?_
  unfold sp_meet
  (try simp only [spPut, spTake, spBec, spRef])
  (repeat' split) <;> rfl
theorem oka_ofCursor {c w : Int} (hA : zOkA S) : zOkA (sp_ofCursor S c w).2 := by
  refine hA.of ?_
  unfold sp_ofCursor
  (try simp only [spPut, spTake, spBec, spRef])
  (repeat' split) <;> rfl
theorem oka_plus {p o : Int} (hA : zOkA S) : zOkA (sp_plus S p o).2 := by
  refine hA.of ?_
  unfold sp_plus
  (try simp only [spPut, spTake, spBec, spRef])
  (repeat' split) <;> rfl
theorem oka_times {p o : Int} (hA : zOkA S) : zOkA (sp_times S p o).2 := by
  refine hA.of ?_
  unfold sp_times
  (try simp only [spPut, spTake, spBec, spRef])
  (repeat' split) <;> rfl
theorem oka_shift {p : Int} (hA : zOkA S) : zOkA (sp_shift S p).2 := by
  refine hA.of ?_
  unfold sp_shift
  (try simp only [spPut, spTake, spBec, spRef])
  (repeat' split) <;> rfl
theorem oka_trim {p : Int} (hA : zOkA S) : zOkA (sp_trim S p).2 := by
  refine hA.of ?_
  unfold sp_trim
  (try simp only [spPut, spTake, spBec, spRef])
  (repeat' split) <;> rfl
theorem oka_derive {p : Int} (hA : zOkA S) : zOkA (sp_derive S p).2 := by
  refine hA.of ?_
  unfold sp_derive
  (try simp only [spPut, spTake, spBec, spRef])
  (repeat' split) <;> rfl
theorem oka_value {p x : Int} (hA : zOkA S) : zOkA (sp_value S p x).2 := by
  refine hA.of ?_
  unfold sp_value
  (try simp only [spPut, spTake, spBec, spRef])
  (repeat' split) <;> rfl
theorem oka_degree {p : Int} (hA : zOkA S) : zOkA (sp_degree S p).2 := by
  refine hA.of ?_
  unfold sp_degree
  (try simp only [spPut, spTake, spBec, spRef])
  (repeat' split) <;> rfl
theorem oka_ask {key : Int} (hA : zOkA S) : zOkA (sp_ask S key).2 := by
  unfold sp_ask
  (repeat' split)
  · rename_i q1 q2
    intro j hj
    have e : (zsAsk S key).2.2.2.1 = S.2.2.2.1 ++ [key] := rfl
    show 0 ≤ (zsAsk S key).2.2.2.1.getD j 0 ∧ (zsAsk S key).2.2.2.1.getD j 0 ≤ 7
    have hj2 : j < (S.2.2.2.1 ++ [key]).length := hj
    rw [List.length_append, List.length_singleton] at hj2
    rw [e]
    by_cases c : j < S.2.2.2.1.length
    · have := hA j c
      rw [List.getD_eq_getElem?_getD, List.getElem?_append_left c, ← List.getD_eq_getElem?_getD]
      exact this
    · rw [List.getD_eq_getElem?_getD, List.getElem?_append_right (by omega), show j - S.2.2.2.1.length = 0 by omega]
      exact q1
  · exact hA
  · exact hA
theorem oka_asked {w : Int} (hA : zOkA S) : zOkA (sp_asked S w).2 := by
  refine hA.of ?_
  unfold sp_asked
  (try simp only [spPut, spTake, spBec, spRef])
  (repeat' split) <;> rfl
theorem oka_byOrder {p w : Int} (hA : zOkA S) : zOkA (sp_byOrder S p w).2 := by
  refine hA.of ?_
  unfold sp_byOrder
  (try simp only [spPut, spTake, spBec, spRef])
  (repeat' split) <;> rfl
theorem oka_house {w : Int} (hA : zOkA S) : zOkA (sp_house S w).2 := by
  refine hA.of ?_
  unfold sp_house
  (try simp only [spPut, spTake, spBec, spRef])
  (repeat' split) <;> rfl
theorem oka_forget (hA : zOkA S) : zOkA (sp_forget S).2 := fun j hj => absurd hj (Nat.not_lt_zero j)
theorem oka_knock (hA : zOkA S) : zOkA (sp_knock S).2 := by
  refine hA.of ?_
  unfold sp_knock
  (try simp only [spPut, spTake, spBec, spRef])
  (repeat' split) <;> rfl
end LAW2
end
