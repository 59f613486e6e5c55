section
theorem wl_zE1 : Cond.classLink RLaw 19 zE1 ∈ zWS := (zin_of zc3 (i := 220) rfl rfl)
theorem wk_zE1 : Cond.castable zE1 zE1 ∈ zNW := (zinN_of zc3 (i := 166) rfl rfl)
theorem wl_zE2 : Cond.classLink RLaw 21 zE2 ∈ zWS := (zin_of zc3 (i := 221) rfl rfl)
theorem wk_zE2 : Cond.castable zE2 zE2 ∈ zNW := (zinN_of zc2 (i := 115) rfl rfl)
theorem wl_zE3 : Cond.classLink RLaw 115 zE3 ∈ zWS := (zin_of zc4 (i := 234) rfl rfl)
theorem wk_zE3 : Cond.castable zE3 zE3 ∈ zNW := (zinN_of zc5 (i := 4) rfl rfl)
section LAW0
variable {G : zG} {l : Launch} {h h' h0 : zHp} {ad ma : Nat → Nat} {S : zSt} {th : Int}
variable {J : zJ} {bc bs pc : Nat} {ls : List (Option Value)} {st : List Value}
/-- a call of a static method with handlers -/
theorem z_callSX {d mc ms i n : Nat} {y : MethodName} {hd' : zHd} {As rest : List Value} {Qn : Option Value → zHp → Prop} {Qx : String → zHp → Prop} {bc' bs' : Nat} (M : zMSW y hd' n) (hw : Cond.methodLink J.1.1 i y ∈ zWS) (hd : decode J.1.2.1 pc = .ok (.invokestatic i, 3)) (hM : zMW G l hd' y d As h Qn Qx mc ms) (hst : st = As.reverse ++ rest)
    (hn : As.length = n) (hcat : (rest.map fun v => v.category).sum ≤ 8) (hfr : d + 1 ≤ J.2.1.frames) (hlo : d * 64 + 64 ≤ J.2.1.locals) (hb1 : mc + bc' ≤ bc) (hb2 : ms + bs' ≤ bs)
    (kx : ∀ E h', Qx E h' → zT G l J bc' bs' h' E pc ls) (kk : ∀ v h', Qn v h' → zR G l J bc' bs' h' (pc + 3) ls (v.toList ++ rest)) : zR G l J bc bs h pc ls st := by
  intro p e s m args below meth c H locs cells slots ls0 C0 hP hS hL h1 h2
  have hts := C0.2.2.2.2.2.2.2.1
  refine z_after C0 hP hS hL h1 h2 hb1 hb2 (vx_runSX (As := As) (rest := rest) (Ts := zWS) ⟨C0.1, C0.2.1, rfl, C0.2.2.2.2.2.2.1, hts⟩ (hM C0.2.2.2.2.2.2.2.2.2.2.1) (vx_cwSW n hts (zgoodIn (fun _ h => h) (by
    intro w hw9
    unfold va_wsS at hw9
    rcases List.mem_append.mp hw9 with q | q
    · simp only [List.mem_cons, List.not_mem_nil, or_false] at q
      rcases q with q | q | q <;> rw [q]
      · exact hw
      · exact M.2.2.2.2
      · exact M.1
    · rcases List.mem_cons.mp q with q | q
      · rw [q]; exact M.2.1
      · exact q)) rfl rfl rfl M.2.2.1 ⟨hfr, by have := M.2.2.2.1; show 8 + (_ + 11) + d * 64 ≤ _; omega⟩) ⟨zPc_blind, fun U hU hW => zPc_pre C0.2.2.2.2.2.2.2.2.2.1 hP hS U hU hW⟩ rfl hn (hL.1.trans C0.2.2.1.symm) hst (lv_room hcat) hd ⟨by show cells + mc ≤ _; omega, by show slots + ms ≤ _; omega⟩) kx kk
/-- caught: the handlers ahead don't take it -/
theorem z_catch {E name : String} {a b hp ct : Nat} (pre suf : List (Nat × Nat × Nat × Nat)) (ht : J.1.2.2.2.2.1 = pre ++ (a, b, hp, ct) :: suf) (hpre : ∀ z ∈ pre, z.2.2.2 ≠ 0 ∧ ∃ nm, Cond.classLink J.1.1 z.2.2.2 nm ∈ zWS ∧ (E, nm) ∈ zNcs) (hx : a ≤ pc ∧ pc < b) (h0 : ct ≠ 0) (hlink : Cond.classLink J.1.1 ct name ∈ zWS) (hcast : Cond.castable E name ∈ zNW)
    (kk : ∀ q, zR G l J bc bs h hp ls [.ref q]) : zT G l J bc bs h E pc ls := by
  intro p e s m args below meth c H locs cells slots ls0 q ce rest C0 hP hS hL h1 h2 hq9 hv hcl
  have hts := C0.2.2.2.2.2.2.2.1
  have hZ := C0.2.2.2.2.2.2.2.2.2.1
  refine vx_catch C0.2.2.2.2.2.2.1 (tableOf pre) ⟨a, b, hp, ct⟩ (tableOf suf) (by rw [C0.2.2.2.2.1, ht]; unfold tableOf; simp) (fun z hz => Or.inr ?_) (by unfold covers; simp; omega) h0 (hts _ hlink) ((hZ.2.2.1 _ hcast).use rfl) hq9 hv hcl (kk q p e s m args below meth c H locs cells slots ls0 C0 hP hS hL h1 h2)
  unfold tableOf at hz
  obtain ⟨y, hy, rfl⟩ := List.mem_map.mp hz
  obtain ⟨g1, nm, g2, g3⟩ := hpre y hy
  exact ⟨g1, nm, hts _ g2, hZ.2.2.2.2.1 _ g3⟩
/-- what a wrapper answers: its code, and the number in out -/
def zQw (G : zG) (ad : Nat → Nat) (o : Nat) (h : zHp) (k1 k2 k3 : Int) (r : zRes) : Option Value → zHp → Prop := fun v h' => ∃ (k z : Int) (sv : Value), v = some (zi k) ∧ zCls G h' ad r.2 ∧ (∀ q, q ≠ o → (∀ i, i < 20 → q ≠ ad i) → h' q = h q) ∧ h' o = some (.inr (zkOut, [zl (zwd z), sv])) ∧
  ((r.1 = .inl z ∧ k = 0) ∨ (r.1 = .inr zE1 ∧ k = k1) ∨ (r.1 = .inr zE2 ∧ k = k2) ∨ (r.1 = .inr zE3 ∧ k = k3))
theorem zwd_64 (z : Int) : -9223372036854775808 ≤ zwd z ∧ zwd z ≤ 9223372036854775807 := by have := zwd_r z; omega
theorem zRow.at {r a : Nat} {L : List Int} (H : zRow G h r a L) (h1 : h' r = h r) (h2 : h' a = h a) : zRow G h' r a L := by
  obtain ⟨f, e1, e2, e3⟩ := H
  exact ⟨f, h1.trans e1, h2.trans e2, e3⟩
theorem zCls.at (H : zCls G h ad S) (hf : ∀ i, i < 20 → h' (ad i) = h (ad i)) : zCls G h' ad S := by
  obtain ⟨c1, c2, ⟨g3, c3, d3⟩, ⟨g4, c4, d4⟩, c5, ⟨T6, c6, d6⟩, c7, c8, ⟨R9, c9⟩, c10⟩ := H
  refine ⟨c1, (hf 0 (by omega)).trans c2, ⟨g3, (hf 1 (by omega)).trans c3, d3⟩, ⟨g4, (hf 2 (by omega)).trans c4, d4⟩, (hf 3 (by omega)).trans c5, ⟨T6, (hf 4 (by omega)).trans c6, d6⟩, fun c hc => ?_, fun k hk => (c8 k hk).at (hf _ (by omega)) (hf _ (by omega)), ⟨R9, c9.at (hf _ (by omega)) (hf _ (by omega))⟩, c10.at (hf _ (by omega)) (hf _ (by omega))⟩
  have := c7 c hc
  unfold zCurAt at this ⊢
  rw [hf _ (by omega)]
  exact this
theorem zAr.at {a : Nat} {L : List Int} (H : zAr G h a L) (h1 : h' a = h a) : zAr G h' a L := H.kept h1
theorem zMod.at (H : zMod G h ma S th) (hf : ∀ i, i < 13 → h' (ma i) = h (ma i)) : zMod G h' ma S th := by
  obtain ⟨m1, m2, ⟨g, m3, m3'⟩, ⟨⟨f1, a1, b1⟩, ⟨f2, a2, b2⟩, ⟨f3, a3, b3⟩, ⟨f4, a4, b4⟩, ⟨f5, a5, b5⟩⟩, ⟨f6, m5, m5'⟩, m6, m7⟩ := H
  exact ⟨m1, (hf 0 (by omega)).trans m2, ⟨g, (hf 1 (by omega)).trans m3, m3'⟩, ⟨⟨f1, (hf 2 (by omega)).trans a1, b1⟩, ⟨f2, (hf 3 (by omega)).trans a2, b2⟩, ⟨f3, (hf 4 (by omega)).trans a3, b3⟩, ⟨f4, (hf 5 (by omega)).trans a4, b4⟩, ⟨f5, (hf 6 (by omega)).trans a5, b5⟩⟩, ⟨f6, (hf 7 (by omega)).trans m5, m5'⟩, fun k hk => (m6 k hk).kept (hf _ (by omega)), m7.kept (hf _ (by omega))⟩
/-- out is told the number -/
theorem zCls.out {o : Nat} (H : zCls G h ad S) (hn : ∀ i, i < 20 → o ≠ ad i) (hf : ∀ q, q ≠ o → h' q = h q) : zCls G h' ad S := H.at (fun i hi => hf _ (Ne.symm (hn i hi)))
theorem zQw.ok {o : Nat} {k1 k2 k3 z : Int} {sv : Value} {S' : zSt} {r : zRes} {h1 : zHp} (e : r = (.inl z, S')) (H : zCls G h1 ad S') (hF : zFrm ad h h1) (hn : ∀ i, i < 20 → o ≠ ad i) (p : h' o = some (.inr (zkOut, [zl (zwd z), sv]))) (g : ∀ q, q ≠ o → h' q = h1 q) : zQw G ad o h k1 k2 k3 r (some (zi 0)) h' := by
  subst e
  exact ⟨0, z, sv, rfl, H.out hn g, fun q q1 q2 => (g q q1).trans (hF q q2), p, Or.inl ⟨rfl, rfl⟩⟩
theorem zQw.tw {o : Nat} {k1 k2 k3 k : Int} {z0 : Int} {sv : Value} {S' : zSt} {r : zRes} {E : String} (e : r = (.inr E, S')) (H : zCls G h' ad S') (hF : zFrm ad h h') (p : h o = some (.inr (zkOut, [zl (zwd z0), sv]))) (hn : ∀ i, i < 20 → o ≠ ad i) (hk : (E = zE1 ∧ k = k1) ∨ (E = zE2 ∧ k = k2) ∨ (E = zE3 ∧ k = k3)) : zQw G ad o h k1 k2 k3 r (some (zi k)) h' := by
  subst e
  refine ⟨k, z0, sv, rfl, H, fun q q1 q2 => hF q q2, (hF o hn).trans p, Or.inr ?_⟩
  rcases hk with ⟨rfl, h⟩ | ⟨rfl, h⟩ | ⟨rfl, h⟩
  · exact Or.inl ⟨rfl, h⟩
  · exact Or.inr (Or.inl ⟨rfl, h⟩)
  · exact Or.inr (Or.inr ⟨rfl, h⟩)
end LAW0
end
section
section LAW1
variable {G : zG} {l : Launch} {h h' h0 : zHp} {ad ma : Nat → Nat} {S S' : zSt} {th : Int}
/-- text: the number in out stays -/
def sp_text (S : zSt) (p n : Int) : zRes := if 0 ≤ p ∧ p < 4 then (.inl n, S) else (.inr zE1, S)
theorem xE_put {p w x : Int} {E : String} (h : sp_put S p w x = (.inr E, S')) : E = zE1 ∨ E = zE2 := by
  unfold sp_put at h
  (try simp only [spPut, spTake, spBec, spRef] at h)
  (repeat' split at h)
  all_goals first
    | exact Or.inl (Sum.inr.inj (Prod.mk.inj h).1).symm
    | exact Or.inr ((Sum.inr.inj (Prod.mk.inj h).1).symm)
    | exact absurd (Prod.mk.inj h).1 (by simp)
theorem k_Law_put {p w x : Int}  (hC : zCls G h ad S) (z_p : zI32 p) (z_w : zI32 w) (z_x : zI32 x) {ou : Nat} {n0 : Int} {sv : Value} (eo : h ou = some (.inr (zkOut, [zl (zwd n0), sv]))) (hn : ∀ i, i < 20 → ou ≠ ad i) : zMW G l hLaw_put yLaw_put 10 [.ref (ad 0), zi p, zi w, zi x, .ref ou] h (zQw G ad ou h (1) (2) (9) (sp_put S p w x)) zNo 6 36 := by
  refine zMW.of [some (.ref (ad 0)), some (zi p), some (zi w), some (zi x), some (.ref ou), none] (by decide +kernel) rfl (by decide) (Nat.le_of_ble_eq_true rfl) rfl ?_
  refine z_aload dLaw_put_0 rfl ?_
  refine z_aload_n dLaw_put_2 rfl ?_
  refine z_iload_n dLaw_put_3 rfl ?_
  refine z_iload_n dLaw_put_4 rfl ?_
  refine z_iload_n dLaw_put_5 rfl ?_
  refine z_callV (bc' := 0) (bs' := 0) MV_Cls_put lk_Law_7 dLaw_put_6 (k_Cls_put hC z_p z_w z_x) rfl rfl (Nat.le_of_ble_eq_true rfl) rfl hC.2.1 (Nat.le_of_ble_eq_true rfl) (Nat.le_of_ble_eq_true rfl) (by decide) (by decide) (fun E h1 q9 => ?_) ?_
  · obtain ⟨S9, e9, H9, F9⟩ := q9
    rcases xE_put e9 with rfl | rfl
    · refine z_catch (a := 0) (b := 13) (hp := 16) (ct := 19) [] [(0, 13, 20, 21)] rfl (fun z hz => nomatch hz) (by decide) (by decide) wl_zE1 wk_zE1 (fun qx => ?_)
      refine z_astore dLaw_put_16 (Nat.le_of_ble_eq_true rfl) ?_
      refine z_iconst dLaw_put_18 ?_
      refine z_iret rfl rfl dLaw_put_19 ?_
      exact zQw.tw e9 H9 F9 eo hn (Or.inl ⟨rfl, rfl⟩)
    · refine z_catch (a := 0) (b := 13) (hp := 20) (ct := 21) [(0, 13, 16, 19)] [] rfl (by intro z hz; simp only [List.mem_cons, List.not_mem_nil, or_false] at hz; rcases hz with rfl <;> first | exact ⟨by decide, _, wl_zE1, by decide⟩) (by decide) (by decide) wl_zE2 wk_zE2 (fun qx => ?_)
      refine z_astore dLaw_put_20 (Nat.le_of_ble_eq_true rfl) ?_
      refine z_iconst dLaw_put_22 ?_
      refine z_iret rfl rfl dLaw_put_23 ?_
      exact zQw.tw e9 H9 F9 eo hn (Or.inr (Or.inl ⟨rfl, rfl⟩))
  · rintro _ h1 ⟨z, S9, e9, rfl, H9, F9⟩
    have eo1 := (F9 ou hn).trans eo
    rw [zwd_i z]
    refine z_i2l (zwd_r z) dLaw_put_9 ?_
    refine z_putN (k := 0) fd_Out (by decide) fl_Law_13 rfl dLaw_put_10 (by assumption) (by simp) rfl rfl ?_
    refine z_hx (fun h2 p2 g2 => ?_)
    refine z_goto (tgt := 24) dLaw_put_13 (by decide) ?_
    refine z_iconst dLaw_put_24 ?_
    refine z_iret rfl rfl dLaw_put_25 ?_
    exact zQw.ok e9 H9 F9 hn p2 g2
theorem xE_take {p w : Int} {E : String} (h : sp_take S p w = (.inr E, S')) : E = zE1 ∨ E = zE2 := by
  unfold sp_take at h
  (try simp only [spPut, spTake, spBec, spRef] at h)
  (repeat' split at h)
  all_goals first
    | exact Or.inl (Sum.inr.inj (Prod.mk.inj h).1).symm
    | exact Or.inr ((Sum.inr.inj (Prod.mk.inj h).1).symm)
    | exact absurd (Prod.mk.inj h).1 (by simp)
theorem k_Law_take {p w : Int}  (hC : zCls G h ad S) (z_p : zI32 p) (z_w : zI32 w) {ou : Nat} {n0 : Int} {sv : Value} (eo : h ou = some (.inr (zkOut, [zl (zwd n0), sv]))) (hn : ∀ i, i < 20 → ou ≠ ad i) : zMW G l hLaw_take yLaw_take 10 [.ref (ad 0), zi p, zi w, .ref ou] h (zQw G ad ou h (1) (2) (9) (sp_take S p w)) zNo 6 36 := by
  refine zMW.of [some (.ref (ad 0)), some (zi p), some (zi w), some (.ref ou), none] (by decide +kernel) rfl (by decide) (Nat.le_of_ble_eq_true rfl) rfl ?_
  refine z_aload_n dLaw_take_0 rfl ?_
  refine z_aload_n dLaw_take_1 rfl ?_
  refine z_iload_n dLaw_take_2 rfl ?_
  refine z_iload_n dLaw_take_3 rfl ?_
  refine z_callV (bc' := 0) (bs' := 0) MV_Cls_take lk_Law_23 dLaw_take_4 (k_Cls_take hC z_p z_w) rfl rfl (Nat.le_of_ble_eq_true rfl) rfl hC.2.1 (Nat.le_of_ble_eq_true rfl) (Nat.le_of_ble_eq_true rfl) (by decide) (by decide) (fun E h1 q9 => ?_) ?_
  · obtain ⟨S9, e9, H9, F9⟩ := q9
    rcases xE_take e9 with rfl | rfl
    · refine z_catch (a := 0) (b := 11) (hp := 14) (ct := 19) [] [(0, 11, 18, 21)] rfl (fun z hz => nomatch hz) (by decide) (by decide) wl_zE1 wk_zE1 (fun qx => ?_)
      refine z_astore dLaw_take_14 (Nat.le_of_ble_eq_true rfl) ?_
      refine z_iconst dLaw_take_16 ?_
      refine z_iret rfl rfl dLaw_take_17 ?_
      exact zQw.tw e9 H9 F9 eo hn (Or.inl ⟨rfl, rfl⟩)
    · refine z_catch (a := 0) (b := 11) (hp := 18) (ct := 21) [(0, 11, 14, 19)] [] rfl (by intro z hz; simp only [List.mem_cons, List.not_mem_nil, or_false] at hz; rcases hz with rfl <;> first | exact ⟨by decide, _, wl_zE1, by decide⟩) (by decide) (by decide) wl_zE2 wk_zE2 (fun qx => ?_)
      refine z_astore dLaw_take_18 (Nat.le_of_ble_eq_true rfl) ?_
      refine z_iconst dLaw_take_20 ?_
      refine z_iret rfl rfl dLaw_take_21 ?_
      exact zQw.tw e9 H9 F9 eo hn (Or.inr (Or.inl ⟨rfl, rfl⟩))
  · rintro _ h1 ⟨z, S9, e9, rfl, H9, F9⟩
    have eo1 := (F9 ou hn).trans eo
    rw [zwd_i z]
    refine z_i2l (zwd_r z) dLaw_take_7 ?_
    refine z_putN (k := 0) fd_Out (by decide) fl_Law_13 rfl dLaw_take_8 (by assumption) (by simp) rfl rfl ?_
    refine z_hx (fun h2 p2 g2 => ?_)
    refine z_goto (tgt := 22) dLaw_take_11 (by decide) ?_
    refine z_iconst dLaw_take_22 ?_
    refine z_iret rfl rfl dLaw_take_23 ?_
    exact zQw.ok e9 H9 F9 hn p2 g2
theorem xE_look {p w : Int} {E : String} (h : sp_look S p w = (.inr E, S')) : E = zE1 ∨ E = zE2 := by
  unfold sp_look at h
  (try simp only [spPut, spTake, spBec, spRef] at h)
  (repeat' split at h)
  all_goals first
    | exact Or.inl (Sum.inr.inj (Prod.mk.inj h).1).symm
    | exact Or.inr ((Sum.inr.inj (Prod.mk.inj h).1).symm)
    | exact absurd (Prod.mk.inj h).1 (by simp)
theorem k_Law_look {p w : Int}  (hC : zCls G h ad S) (z_p : zI32 p) (z_w : zI32 w) {ou : Nat} {n0 : Int} {sv : Value} (eo : h ou = some (.inr (zkOut, [zl (zwd n0), sv]))) (hn : ∀ i, i < 20 → ou ≠ ad i) : zMW G l hLaw_look yLaw_look 10 [.ref (ad 0), zi p, zi w, .ref ou] h (zQw G ad ou h (1) (2) (9) (sp_look S p w)) zNo 6 36 := by
  refine zMW.of [some (.ref (ad 0)), some (zi p), some (zi w), some (.ref ou), none] (by decide +kernel) rfl (by decide) (Nat.le_of_ble_eq_true rfl) rfl ?_
  refine z_aload_n dLaw_look_0 rfl ?_
  refine z_aload_n dLaw_look_1 rfl ?_
  refine z_iload_n dLaw_look_2 rfl ?_
  refine z_iload_n dLaw_look_3 rfl ?_
  refine z_callV (bc' := 0) (bs' := 0) MV_Cls_look lk_Law_27 dLaw_look_4 (k_Cls_look hC z_p z_w) rfl rfl (Nat.le_of_ble_eq_true rfl) rfl hC.2.1 (Nat.le_of_ble_eq_true rfl) (Nat.le_of_ble_eq_true rfl) (by decide) (by decide) (fun E h1 q9 => ?_) ?_
  · obtain ⟨S9, e9, H9, F9⟩ := q9
    rcases xE_look e9 with rfl | rfl
    · refine z_catch (a := 0) (b := 11) (hp := 14) (ct := 19) [] [(0, 11, 18, 21)] rfl (fun z hz => nomatch hz) (by decide) (by decide) wl_zE1 wk_zE1 (fun qx => ?_)
      refine z_astore dLaw_look_14 (Nat.le_of_ble_eq_true rfl) ?_
      refine z_iconst dLaw_look_16 ?_
      refine z_iret rfl rfl dLaw_look_17 ?_
      exact zQw.tw e9 H9 F9 eo hn (Or.inl ⟨rfl, rfl⟩)
    · refine z_catch (a := 0) (b := 11) (hp := 18) (ct := 21) [(0, 11, 14, 19)] [] rfl (by intro z hz; simp only [List.mem_cons, List.not_mem_nil, or_false] at hz; rcases hz with rfl <;> first | exact ⟨by decide, _, wl_zE1, by decide⟩) (by decide) (by decide) wl_zE2 wk_zE2 (fun qx => ?_)
      refine z_astore dLaw_look_18 (Nat.le_of_ble_eq_true rfl) ?_
      refine z_iconst dLaw_look_20 ?_
      refine z_iret rfl rfl dLaw_look_21 ?_
      exact zQw.tw e9 H9 F9 eo hn (Or.inr (Or.inl ⟨rfl, rfl⟩))
  · rintro _ h1 ⟨z, S9, e9, rfl, H9, F9⟩
    have eo1 := (F9 ou hn).trans eo
    rw [zwd_i z]
    refine z_i2l (zwd_r z) dLaw_look_7 ?_
    refine z_putN (k := 0) fd_Out (by decide) fl_Law_13 rfl dLaw_look_8 (by assumption) (by simp) rfl rfl ?_
    refine z_hx (fun h2 p2 g2 => ?_)
    refine z_goto (tgt := 22) dLaw_look_11 (by decide) ?_
    refine z_iconst dLaw_look_22 ?_
    refine z_iret rfl rfl dLaw_look_23 ?_
    exact zQw.ok e9 H9 F9 hn p2 g2
theorem xE_get {p q : Int} {E : String} (h : sp_get S p q = (.inr E, S')) : E = zE1 := by
  unfold sp_get at h
  (try simp only [spPut, spTake, spBec, spRef] at h)
  (repeat' split at h)
  all_goals first
    | exact (Sum.inr.inj (Prod.mk.inj h).1).symm
    | exact absurd (Prod.mk.inj h).1 (by simp)
theorem k_Law_get {p q : Int}  (hC : zCls G h ad S) (z_p : zI32 p) (z_q : zI32 q) {ou : Nat} {n0 : Int} {sv : Value} (eo : h ou = some (.inr (zkOut, [zl (zwd n0), sv]))) (hn : ∀ i, i < 20 → ou ≠ ad i) : zMW G l hLaw_get yLaw_get 10 [.ref (ad 0), zi p, zi q, .ref ou] h (zQw G ad ou h (1) (9) (9) (sp_get S p q)) zNo 6 36 := by
  refine zMW.of [some (.ref (ad 0)), some (zi p), some (zi q), some (.ref ou), none] (by decide +kernel) rfl (by decide) (Nat.le_of_ble_eq_true rfl) rfl ?_
  refine z_aload_n dLaw_get_0 rfl ?_
  refine z_aload_n dLaw_get_1 rfl ?_
  refine z_iload_n dLaw_get_2 rfl ?_
  refine z_iload_n dLaw_get_3 rfl ?_
  refine z_callV (bc' := 0) (bs' := 0) MV_Cls_get lk_Law_30 dLaw_get_4 (k_Cls_get hC z_p z_q) rfl rfl (Nat.le_of_ble_eq_true rfl) rfl hC.2.1 (Nat.le_of_ble_eq_true rfl) (Nat.le_of_ble_eq_true rfl) (by decide) (by decide) (fun E h1 q9 => ?_) ?_
  · obtain ⟨S9, e9, H9, F9⟩ := q9
    obtain rfl := xE_get e9
    refine z_catch (a := 0) (b := 11) (hp := 14) (ct := 19) [] [] rfl (fun z hz => nomatch hz) (by decide) (by decide) wl_zE1 wk_zE1 (fun qx => ?_)
    refine z_astore dLaw_get_14 (Nat.le_of_ble_eq_true rfl) ?_
    refine z_iconst dLaw_get_16 ?_
    refine z_iret rfl rfl dLaw_get_17 ?_
    exact zQw.tw e9 H9 F9 eo hn (Or.inl ⟨rfl, rfl⟩)
  · rintro _ h1 ⟨z, S9, e9, rfl, H9, F9⟩
    have eo1 := (F9 ou hn).trans eo
    rw [zwd_i z]
    refine z_i2l (zwd_r z) dLaw_get_7 ?_
    refine z_putN (k := 0) fd_Out (by decide) fl_Law_13 rfl dLaw_get_8 (by assumption) (by simp) rfl rfl ?_
    refine z_hx (fun h2 p2 g2 => ?_)
    refine z_goto (tgt := 18) dLaw_get_11 (by decide) ?_
    refine z_iconst dLaw_get_18 ?_
    refine z_iret rfl rfl dLaw_get_19 ?_
    exact zQw.ok e9 H9 F9 hn p2 g2
theorem xE_set {p q x : Int} {E : String} (h : sp_set S p q x = (.inr E, S')) : E = zE1 ∨ E = zE2 := by
  unfold sp_set at h
  (try simp only [spPut, spTake, spBec, spRef] at h)
  (repeat' split at h)
  all_goals first
    | exact Or.inl (Sum.inr.inj (Prod.mk.inj h).1).symm
    | exact Or.inr ((Sum.inr.inj (Prod.mk.inj h).1).symm)
    | exact absurd (Prod.mk.inj h).1 (by simp)
theorem k_Law_set {p q x : Int}  (hC : zCls G h ad S) (z_p : zI32 p) (z_q : zI32 q) (z_x : zI32 x) {ou : Nat} {n0 : Int} {sv : Value} (eo : h ou = some (.inr (zkOut, [zl (zwd n0), sv]))) (hn : ∀ i, i < 20 → ou ≠ ad i) : zMW G l hLaw_set yLaw_set 10 [.ref (ad 0), zi p, zi q, zi x, .ref ou] h (zQw G ad ou h (1) (2) (9) (sp_set S p q x)) zNo 6 36 := by
  refine zMW.of [some (.ref (ad 0)), some (zi p), some (zi q), some (zi x), some (.ref ou), none] (by decide +kernel) rfl (by decide) (Nat.le_of_ble_eq_true rfl) rfl ?_
  refine z_aload dLaw_set_0 rfl ?_
  refine z_aload_n dLaw_set_2 rfl ?_
  refine z_iload_n dLaw_set_3 rfl ?_
  refine z_iload_n dLaw_set_4 rfl ?_
  refine z_iload_n dLaw_set_5 rfl ?_
  refine z_callV (bc' := 0) (bs' := 0) MV_Cls_set lk_Law_33 dLaw_set_6 (k_Cls_set hC z_p z_q z_x) rfl rfl (Nat.le_of_ble_eq_true rfl) rfl hC.2.1 (Nat.le_of_ble_eq_true rfl) (Nat.le_of_ble_eq_true rfl) (by decide) (by decide) (fun E h1 q9 => ?_) ?_
  · obtain ⟨S9, e9, H9, F9⟩ := q9
    rcases xE_set e9 with rfl | rfl
    · refine z_catch (a := 0) (b := 13) (hp := 16) (ct := 19) [] [(0, 13, 20, 21)] rfl (fun z hz => nomatch hz) (by decide) (by decide) wl_zE1 wk_zE1 (fun qx => ?_)
      refine z_astore dLaw_set_16 (Nat.le_of_ble_eq_true rfl) ?_
      refine z_iconst dLaw_set_18 ?_
      refine z_iret rfl rfl dLaw_set_19 ?_
      exact zQw.tw e9 H9 F9 eo hn (Or.inl ⟨rfl, rfl⟩)
    · refine z_catch (a := 0) (b := 13) (hp := 20) (ct := 21) [(0, 13, 16, 19)] [] rfl (by intro z hz; simp only [List.mem_cons, List.not_mem_nil, or_false] at hz; rcases hz with rfl <;> first | exact ⟨by decide, _, wl_zE1, by decide⟩) (by decide) (by decide) wl_zE2 wk_zE2 (fun qx => ?_)
      refine z_astore dLaw_set_20 (Nat.le_of_ble_eq_true rfl) ?_
      refine z_iconst dLaw_set_22 ?_
      refine z_iret rfl rfl dLaw_set_23 ?_
      exact zQw.tw e9 H9 F9 eo hn (Or.inr (Or.inl ⟨rfl, rfl⟩))
  · rintro _ h1 ⟨z, S9, e9, rfl, H9, F9⟩
    have eo1 := (F9 ou hn).trans eo
    rw [zwd_i z]
    refine z_i2l (zwd_r z) dLaw_set_9 ?_
    refine z_putN (k := 0) fd_Out (by decide) fl_Law_13 rfl dLaw_set_10 (by assumption) (by simp) rfl rfl ?_
    refine z_hx (fun h2 p2 g2 => ?_)
    refine z_goto (tgt := 24) dLaw_set_13 (by decide) ?_
    refine z_iconst dLaw_set_24 ?_
    refine z_iret rfl rfl dLaw_set_25 ?_
    exact zQw.ok e9 H9 F9 hn p2 g2
theorem xE_insert {p q x : Int} {E : String} (h : sp_insert S p q x = (.inr E, S')) : E = zE1 ∨ E = zE2 := by
  unfold sp_insert at h
  (try simp only [spPut, spTake, spBec, spRef] at h)
  (repeat' split at h)
  all_goals first
    | exact Or.inl (Sum.inr.inj (Prod.mk.inj h).1).symm
    | exact Or.inr ((Sum.inr.inj (Prod.mk.inj h).1).symm)
    | exact absurd (Prod.mk.inj h).1 (by simp)
theorem k_Law_insert {p q x : Int}  (hC : zCls G h ad S) (z_p : zI32 p) (z_q : zI32 q) (z_x : zI32 x) {ou : Nat} {n0 : Int} {sv : Value} (eo : h ou = some (.inr (zkOut, [zl (zwd n0), sv]))) (hn : ∀ i, i < 20 → ou ≠ ad i) : zMW G l hLaw_insert yLaw_insert 10 [.ref (ad 0), zi p, zi q, zi x, .ref ou] h (zQw G ad ou h (1) (2) (9) (sp_insert S p q x)) zNo 6 36 := by
  refine zMW.of [some (.ref (ad 0)), some (zi p), some (zi q), some (zi x), some (.ref ou), none] (by decide +kernel) rfl (by decide) (Nat.le_of_ble_eq_true rfl) rfl ?_
  refine z_aload dLaw_insert_0 rfl ?_
  refine z_aload_n dLaw_insert_2 rfl ?_
  refine z_iload_n dLaw_insert_3 rfl ?_
  refine z_iload_n dLaw_insert_4 rfl ?_
  refine z_iload_n dLaw_insert_5 rfl ?_
  refine z_callV (bc' := 0) (bs' := 0) MV_Cls_insert lk_Law_36 dLaw_insert_6 (k_Cls_insert hC z_p z_q z_x) rfl rfl (Nat.le_of_ble_eq_true rfl) rfl hC.2.1 (Nat.le_of_ble_eq_true rfl) (Nat.le_of_ble_eq_true rfl) (by decide) (by decide) (fun E h1 q9 => ?_) ?_
  · obtain ⟨S9, e9, H9, F9⟩ := q9
    rcases xE_insert e9 with rfl | rfl
    · refine z_catch (a := 0) (b := 13) (hp := 16) (ct := 19) [] [(0, 13, 20, 21)] rfl (fun z hz => nomatch hz) (by decide) (by decide) wl_zE1 wk_zE1 (fun qx => ?_)
      refine z_astore dLaw_insert_16 (Nat.le_of_ble_eq_true rfl) ?_
      refine z_iconst dLaw_insert_18 ?_
      refine z_iret rfl rfl dLaw_insert_19 ?_
      exact zQw.tw e9 H9 F9 eo hn (Or.inl ⟨rfl, rfl⟩)
    · refine z_catch (a := 0) (b := 13) (hp := 20) (ct := 21) [(0, 13, 16, 19)] [] rfl (by intro z hz; simp only [List.mem_cons, List.not_mem_nil, or_false] at hz; rcases hz with rfl <;> first | exact ⟨by decide, _, wl_zE1, by decide⟩) (by decide) (by decide) wl_zE2 wk_zE2 (fun qx => ?_)
      refine z_astore dLaw_insert_20 (Nat.le_of_ble_eq_true rfl) ?_
      refine z_iconst dLaw_insert_22 ?_
      refine z_iret rfl rfl dLaw_insert_23 ?_
      exact zQw.tw e9 H9 F9 eo hn (Or.inr (Or.inl ⟨rfl, rfl⟩))
  · rintro _ h1 ⟨z, S9, e9, rfl, H9, F9⟩
    have eo1 := (F9 ou hn).trans eo
    rw [zwd_i z]
    refine z_i2l (zwd_r z) dLaw_insert_9 ?_
    refine z_putN (k := 0) fd_Out (by decide) fl_Law_13 rfl dLaw_insert_10 (by assumption) (by simp) rfl rfl ?_
    refine z_hx (fun h2 p2 g2 => ?_)
    refine z_goto (tgt := 24) dLaw_insert_13 (by decide) ?_
    refine z_iconst dLaw_insert_24 ?_
    refine z_iret rfl rfl dLaw_insert_25 ?_
    exact zQw.ok e9 H9 F9 hn p2 g2
theorem xE_removeAt {p q : Int} {E : String} (h : sp_removeAt S p q = (.inr E, S')) : E = zE1 := by
  unfold sp_removeAt at h
  (try simp only [spPut, spTake, spBec, spRef] at h)
  (repeat' split at h)
  all_goals first
    | exact (Sum.inr.inj (Prod.mk.inj h).1).symm
    | exact absurd (Prod.mk.inj h).1 (by simp)
theorem k_Law_removeAt {p q : Int}  (hC : zCls G h ad S) (z_p : zI32 p) (z_q : zI32 q) {ou : Nat} {n0 : Int} {sv : Value} (eo : h ou = some (.inr (zkOut, [zl (zwd n0), sv]))) (hn : ∀ i, i < 20 → ou ≠ ad i) : zMW G l hLaw_removeAt yLaw_removeAt 10 [.ref (ad 0), zi p, zi q, .ref ou] h (zQw G ad ou h (1) (9) (9) (sp_removeAt S p q)) zNo 6 36 := by
  refine zMW.of [some (.ref (ad 0)), some (zi p), some (zi q), some (.ref ou), none] (by decide +kernel) rfl (by decide) (Nat.le_of_ble_eq_true rfl) rfl ?_
  refine z_aload_n dLaw_removeAt_0 rfl ?_
  refine z_aload_n dLaw_removeAt_1 rfl ?_
  refine z_iload_n dLaw_removeAt_2 rfl ?_
  refine z_iload_n dLaw_removeAt_3 rfl ?_
  refine z_callV (bc' := 0) (bs' := 0) MV_Cls_removeAt lk_Law_39 dLaw_removeAt_4 (k_Cls_removeAt hC z_p z_q) rfl rfl (Nat.le_of_ble_eq_true rfl) rfl hC.2.1 (Nat.le_of_ble_eq_true rfl) (Nat.le_of_ble_eq_true rfl) (by decide) (by decide) (fun E h1 q9 => ?_) ?_
  · obtain ⟨S9, e9, H9, F9⟩ := q9
    obtain rfl := xE_removeAt e9
    refine z_catch (a := 0) (b := 11) (hp := 14) (ct := 19) [] [] rfl (fun z hz => nomatch hz) (by decide) (by decide) wl_zE1 wk_zE1 (fun qx => ?_)
    refine z_astore dLaw_removeAt_14 (Nat.le_of_ble_eq_true rfl) ?_
    refine z_iconst dLaw_removeAt_16 ?_
    refine z_iret rfl rfl dLaw_removeAt_17 ?_
    exact zQw.tw e9 H9 F9 eo hn (Or.inl ⟨rfl, rfl⟩)
  · rintro _ h1 ⟨z, S9, e9, rfl, H9, F9⟩
    have eo1 := (F9 ou hn).trans eo
    rw [zwd_i z]
    refine z_i2l (zwd_r z) dLaw_removeAt_7 ?_
    refine z_putN (k := 0) fd_Out (by decide) fl_Law_13 rfl dLaw_removeAt_8 (by assumption) (by simp) rfl rfl ?_
    refine z_hx (fun h2 p2 g2 => ?_)
    refine z_goto (tgt := 18) dLaw_removeAt_11 (by decide) ?_
    refine z_iconst dLaw_removeAt_18 ?_
    refine z_iret rfl rfl dLaw_removeAt_19 ?_
    exact zQw.ok e9 H9 F9 hn p2 g2
theorem xE_drop {p x b : Int} {E : String} (h : sp_drop S p x b = (.inr E, S')) : E = zE1 := by
  unfold sp_drop at h
  (try simp only [spPut, spTake, spBec, spRef] at h)
  (repeat' split at h)
  all_goals first
    | exact (Sum.inr.inj (Prod.mk.inj h).1).symm
    | exact absurd (Prod.mk.inj h).1 (by simp)
theorem xB_drop {p x b : Int} {z : Int} (h : sp_drop S p x b = (.inl z, S')) : z = 0 ∨ z = 1 := by
  unfold sp_drop at h
  (try simp only [spPut, spTake, spBec, spRef] at h)
  (repeat' split at h)
  all_goals first
    | exact Or.inl (Sum.inl.inj (Prod.mk.inj h).1).symm
    | exact Or.inr (Sum.inl.inj (Prod.mk.inj h).1).symm
    | exact absurd (Prod.mk.inj h).1 (by simp)
theorem k_Law_drop {p x b : Int} (hb : b = 0 ∨ b = 1) (hC : zCls G h ad S) (z_p : zI32 p) (z_x : zI32 x) (z_b : zI32 b) {ou : Nat} {n0 : Int} {sv : Value} (eo : h ou = some (.inr (zkOut, [zl (zwd n0), sv]))) (hn : ∀ i, i < 20 → ou ≠ ad i) : zMW G l hLaw_drop yLaw_drop 10 [.ref (ad 0), zi p, zi x, zi b, .ref ou] h (zQw G ad ou h (1) (9) (9) (sp_drop S p x b)) zNo 6 36 := by
  refine zMW.of [some (.ref (ad 0)), some (zi p), some (zi x), some (zi b), some (.ref ou), none] (by decide +kernel) rfl (by decide) (Nat.le_of_ble_eq_true rfl) rfl ?_
  refine z_aload dLaw_drop_0 rfl ?_
  refine z_aload_n dLaw_drop_2 rfl ?_
  refine z_iload_n dLaw_drop_3 rfl ?_
  refine z_iload_n dLaw_drop_4 rfl ?_
  refine z_iload_n dLaw_drop_5 rfl ?_
  refine z_callV (bc' := 0) (bs' := 0) MV_Cls_drop lk_Law_42 dLaw_drop_6 (k_Cls_drop hb hC z_p z_x z_b) rfl rfl (Nat.le_of_ble_eq_true rfl) rfl hC.2.1 (Nat.le_of_ble_eq_true rfl) (Nat.le_of_ble_eq_true rfl) (by decide) (by decide) (fun E h1 q9 => ?_) ?_
  · obtain ⟨S9, e9, H9, F9⟩ := q9
    obtain rfl := xE_drop e9
    refine z_catch (a := 0) (b := 20) (hp := 23) (ct := 19) [] [] rfl (fun z hz => nomatch hz) (by decide) (by decide) wl_zE1 wk_zE1 (fun qx => ?_)
    refine z_astore dLaw_drop_23 (Nat.le_of_ble_eq_true rfl) ?_
    refine z_iconst dLaw_drop_25 ?_
    refine z_iret rfl rfl dLaw_drop_26 ?_
    exact zQw.tw e9 H9 F9 eo hn (Or.inl ⟨rfl, rfl⟩)
  · rintro _ h1 ⟨z, S9, e9, rfl, H9, F9⟩
    have eo1 := (F9 ou hn).trans eo
    have hz := xB_drop e9
    refine z_if_eq (tgt := 16) dLaw_drop_9 (by decide) (by omega) (fun c9 => ?_) (fun c9 => ?_)
    · refine z_lconst dLaw_drop_16 0 rfl ?_
      refine z_putN (k := 0) fd_Out (by decide) fl_Law_13 rfl dLaw_drop_17 (by assumption) (by simp) rfl rfl ?_
      refine z_hx (fun h2 p2 g2 => ?_)
      refine z_goto (tgt := 27) dLaw_drop_20 (by decide) ?_
      refine z_iconst dLaw_drop_27 ?_
      refine z_iret rfl rfl dLaw_drop_28 ?_
      first
        | exact zQw.ok e9 H9 F9 hn (by rw [show zwd z = 0 by (rw [show z = 0 by omega]; decide)]; exact p2) g2
        | exact zQw.ok e9 H9 F9 hn (by rw [show zwd z = 1 by (rw [show z = 1 by omega]; decide)]; exact p2) g2
    · refine z_lconst dLaw_drop_12 1 rfl ?_
      refine z_goto (tgt := 17) dLaw_drop_13 (by decide) ?_
      refine z_putN (k := 0) fd_Out (by decide) fl_Law_13 rfl dLaw_drop_17 (by assumption) (by simp) rfl rfl ?_
      refine z_hx (fun h2 p2 g2 => ?_)
      refine z_goto (tgt := 27) dLaw_drop_20 (by decide) ?_
      refine z_iconst dLaw_drop_27 ?_
      refine z_iret rfl rfl dLaw_drop_28 ?_
      first
        | exact zQw.ok e9 H9 F9 hn (by rw [show zwd z = 0 by (rw [show z = 0 by omega]; decide)]; exact p2) g2
        | exact zQw.ok e9 H9 F9 hn (by rw [show zwd z = 1 by (rw [show z = 1 by omega]; decide)]; exact p2) g2
theorem xE_thin {p x : Int} {E : String} (h : sp_thin S p x = (.inr E, S')) : E = zE1 := by
  unfold sp_thin at h
  (try simp only [spPut, spTake, spBec, spRef] at h)
  (repeat' split at h)
  all_goals first
    | exact (Sum.inr.inj (Prod.mk.inj h).1).symm
    | exact absurd (Prod.mk.inj h).1 (by simp)
theorem k_Law_thin {p x : Int}  (hC : zCls G h ad S) (z_p : zI32 p) (z_x : zI32 x) {ou : Nat} {n0 : Int} {sv : Value} (eo : h ou = some (.inr (zkOut, [zl (zwd n0), sv]))) (hn : ∀ i, i < 20 → ou ≠ ad i) : zMW G l hLaw_thin yLaw_thin 10 [.ref (ad 0), zi p, zi x, .ref ou] h (zQw G ad ou h (1) (9) (9) (sp_thin S p x)) zNo 6 36 := by
  refine zMW.of [some (.ref (ad 0)), some (zi p), some (zi x), some (.ref ou), none] (by decide +kernel) rfl (by decide) (Nat.le_of_ble_eq_true rfl) rfl ?_
  refine z_aload_n dLaw_thin_0 rfl ?_
  refine z_aload_n dLaw_thin_1 rfl ?_
  refine z_iload_n dLaw_thin_2 rfl ?_
  refine z_iload_n dLaw_thin_3 rfl ?_
  refine z_callV (bc' := 0) (bs' := 0) MV_Cls_thin lk_Law_46 dLaw_thin_4 (k_Cls_thin hC z_p z_x) rfl rfl (Nat.le_of_ble_eq_true rfl) rfl hC.2.1 (Nat.le_of_ble_eq_true rfl) (Nat.le_of_ble_eq_true rfl) (by decide) (by decide) (fun E h1 q9 => ?_) ?_
  · obtain ⟨S9, e9, H9, F9⟩ := q9
    obtain rfl := xE_thin e9
    refine z_catch (a := 0) (b := 11) (hp := 14) (ct := 19) [] [] rfl (fun z hz => nomatch hz) (by decide) (by decide) wl_zE1 wk_zE1 (fun qx => ?_)
    refine z_astore dLaw_thin_14 (Nat.le_of_ble_eq_true rfl) ?_
    refine z_iconst dLaw_thin_16 ?_
    refine z_iret rfl rfl dLaw_thin_17 ?_
    exact zQw.tw e9 H9 F9 eo hn (Or.inl ⟨rfl, rfl⟩)
  · rintro _ h1 ⟨z, S9, e9, rfl, H9, F9⟩
    have eo1 := (F9 ou hn).trans eo
    rw [zwd_i z]
    refine z_i2l (zwd_r z) dLaw_thin_7 ?_
    refine z_putN (k := 0) fd_Out (by decide) fl_Law_13 rfl dLaw_thin_8 (by assumption) (by simp) rfl rfl ?_
    refine z_hx (fun h2 p2 g2 => ?_)
    refine z_goto (tgt := 18) dLaw_thin_11 (by decide) ?_
    refine z_iconst dLaw_thin_18 ?_
    refine z_iret rfl rfl dLaw_thin_19 ?_
    exact zQw.ok e9 H9 F9 hn p2 g2
theorem xE_indexOf {p x b : Int} {E : String} (h : sp_indexOf S p x b = (.inr E, S')) : E = zE1 := by
  unfold sp_indexOf at h
  (try simp only [spPut, spTake, spBec, spRef] at h)
  (repeat' split at h)
  all_goals first
    | exact (Sum.inr.inj (Prod.mk.inj h).1).symm
    | exact absurd (Prod.mk.inj h).1 (by simp)
theorem k_Law_indexOf {p x b : Int} (hb : b = 0 ∨ b = 1) (hC : zCls G h ad S) (z_p : zI32 p) (z_x : zI32 x) (z_b : zI32 b) {ou : Nat} {n0 : Int} {sv : Value} (eo : h ou = some (.inr (zkOut, [zl (zwd n0), sv]))) (hn : ∀ i, i < 20 → ou ≠ ad i) : zMW G l hLaw_indexOf yLaw_indexOf 10 [.ref (ad 0), zi p, zi x, zi b, .ref ou] h (zQw G ad ou h (1) (9) (9) (sp_indexOf S p x b)) zNo 6 36 := by
  refine zMW.of [some (.ref (ad 0)), some (zi p), some (zi x), some (zi b), some (.ref ou), none] (by decide +kernel) rfl (by decide) (Nat.le_of_ble_eq_true rfl) rfl ?_
  refine z_aload dLaw_indexOf_0 rfl ?_
  refine z_aload_n dLaw_indexOf_2 rfl ?_
  refine z_iload_n dLaw_indexOf_3 rfl ?_
  refine z_iload_n dLaw_indexOf_4 rfl ?_
  refine z_iload_n dLaw_indexOf_5 rfl ?_
  refine z_callV (bc' := 0) (bs' := 0) MV_Cls_indexOf lk_Law_49 dLaw_indexOf_6 (k_Cls_indexOf hb hC z_p z_x z_b) rfl rfl (Nat.le_of_ble_eq_true rfl) rfl hC.2.1 (Nat.le_of_ble_eq_true rfl) (Nat.le_of_ble_eq_true rfl) (by decide) (by decide) (fun E h1 q9 => ?_) ?_
  · obtain ⟨S9, e9, H9, F9⟩ := q9
    obtain rfl := xE_indexOf e9
    refine z_catch (a := 0) (b := 13) (hp := 16) (ct := 19) [] [] rfl (fun z hz => nomatch hz) (by decide) (by decide) wl_zE1 wk_zE1 (fun qx => ?_)
    refine z_astore dLaw_indexOf_16 (Nat.le_of_ble_eq_true rfl) ?_
    refine z_iconst dLaw_indexOf_18 ?_
    refine z_iret rfl rfl dLaw_indexOf_19 ?_
    exact zQw.tw e9 H9 F9 eo hn (Or.inl ⟨rfl, rfl⟩)
  · rintro _ h1 ⟨z, S9, e9, rfl, H9, F9⟩
    have eo1 := (F9 ou hn).trans eo
    rw [zwd_i z]
    refine z_i2l (zwd_r z) dLaw_indexOf_9 ?_
    refine z_putN (k := 0) fd_Out (by decide) fl_Law_13 rfl dLaw_indexOf_10 (by assumption) (by simp) rfl rfl ?_
    refine z_hx (fun h2 p2 g2 => ?_)
    refine z_goto (tgt := 20) dLaw_indexOf_13 (by decide) ?_
    refine z_iconst dLaw_indexOf_20 ?_
    refine z_iret rfl rfl dLaw_indexOf_21 ?_
    exact zQw.ok e9 H9 F9 hn p2 g2
theorem xE_has {p x : Int} {E : String} (h : sp_has S p x = (.inr E, S')) : E = zE1 := by
  unfold sp_has at h
  (try simp only [spPut, spTake, spBec, spRef] at h)
  (repeat' split at h)
  all_goals first
    | exact (Sum.inr.inj (Prod.mk.inj h).1).symm
    | exact absurd (Prod.mk.inj h).1 (by simp)
theorem xB_has {p x : Int} {z : Int} (h : sp_has S p x = (.inl z, S')) : z = 0 ∨ z = 1 := by
  unfold sp_has at h
  (try simp only [spPut, spTake, spBec, spRef] at h)
  (repeat' split at h)
  all_goals first
    | exact Or.inl (Sum.inl.inj (Prod.mk.inj h).1).symm
    | exact Or.inr (Sum.inl.inj (Prod.mk.inj h).1).symm
    | exact absurd (Prod.mk.inj h).1 (by simp)
theorem k_Law_has {p x : Int}  (hC : zCls G h ad S) (z_p : zI32 p) (z_x : zI32 x) {ou : Nat} {n0 : Int} {sv : Value} (eo : h ou = some (.inr (zkOut, [zl (zwd n0), sv]))) (hn : ∀ i, i < 20 → ou ≠ ad i) : zMW G l hLaw_has yLaw_has 10 [.ref (ad 0), zi p, zi x, .ref ou] h (zQw G ad ou h (1) (9) (9) (sp_has S p x)) zNo 6 36 := by
  refine zMW.of [some (.ref (ad 0)), some (zi p), some (zi x), some (.ref ou), none] (by decide +kernel) rfl (by decide) (Nat.le_of_ble_eq_true rfl) rfl ?_
  refine z_aload_n dLaw_has_0 rfl ?_
  refine z_aload_n dLaw_has_1 rfl ?_
  refine z_iload_n dLaw_has_2 rfl ?_
  refine z_iload_n dLaw_has_3 rfl ?_
  refine z_callV (bc' := 0) (bs' := 0) MV_Cls_has lk_Law_53 dLaw_has_4 (k_Cls_has hC z_p z_x) rfl rfl (Nat.le_of_ble_eq_true rfl) rfl hC.2.1 (Nat.le_of_ble_eq_true rfl) (Nat.le_of_ble_eq_true rfl) (by decide) (by decide) (fun E h1 q9 => ?_) ?_
  · obtain ⟨S9, e9, H9, F9⟩ := q9
    obtain rfl := xE_has e9
    refine z_catch (a := 0) (b := 18) (hp := 21) (ct := 19) [] [] rfl (fun z hz => nomatch hz) (by decide) (by decide) wl_zE1 wk_zE1 (fun qx => ?_)
    refine z_astore dLaw_has_21 (Nat.le_of_ble_eq_true rfl) ?_
    refine z_iconst dLaw_has_23 ?_
    refine z_iret rfl rfl dLaw_has_24 ?_
    exact zQw.tw e9 H9 F9 eo hn (Or.inl ⟨rfl, rfl⟩)
  · rintro _ h1 ⟨z, S9, e9, rfl, H9, F9⟩
    have eo1 := (F9 ou hn).trans eo
    have hz := xB_has e9
    refine z_if_eq (tgt := 14) dLaw_has_7 (by decide) (by omega) (fun c7 => ?_) (fun c7 => ?_)
    · refine z_lconst dLaw_has_14 0 rfl ?_
      refine z_putN (k := 0) fd_Out (by decide) fl_Law_13 rfl dLaw_has_15 (by assumption) (by simp) rfl rfl ?_
      refine z_hx (fun h2 p2 g2 => ?_)
      refine z_goto (tgt := 25) dLaw_has_18 (by decide) ?_
      refine z_iconst dLaw_has_25 ?_
      refine z_iret rfl rfl dLaw_has_26 ?_
      first
        | exact zQw.ok e9 H9 F9 hn (by rw [show zwd z = 0 by (rw [show z = 0 by omega]; decide)]; exact p2) g2
        | exact zQw.ok e9 H9 F9 hn (by rw [show zwd z = 1 by (rw [show z = 1 by omega]; decide)]; exact p2) g2
    · refine z_lconst dLaw_has_10 1 rfl ?_
      refine z_goto (tgt := 15) dLaw_has_11 (by decide) ?_
      refine z_putN (k := 0) fd_Out (by decide) fl_Law_13 rfl dLaw_has_15 (by assumption) (by simp) rfl rfl ?_
      refine z_hx (fun h2 p2 g2 => ?_)
      refine z_goto (tgt := 25) dLaw_has_18 (by decide) ?_
      refine z_iconst dLaw_has_25 ?_
      refine z_iret rfl rfl dLaw_has_26 ?_
      first
        | exact zQw.ok e9 H9 F9 hn (by rw [show zwd z = 0 by (rw [show z = 0 by omega]; decide)]; exact p2) g2
        | exact zQw.ok e9 H9 F9 hn (by rw [show zwd z = 1 by (rw [show z = 1 by omega]; decide)]; exact p2) g2
theorem xE_size {p : Int} {E : String} (h : sp_size S p = (.inr E, S')) : E = zE1 := by
  unfold sp_size at h
  (try simp only [spPut, spTake, spBec, spRef] at h)
  (repeat' split at h)
  all_goals first
    | exact (Sum.inr.inj (Prod.mk.inj h).1).symm
    | exact absurd (Prod.mk.inj h).1 (by simp)
theorem k_Law_size {p : Int}  (hC : zCls G h ad S) (z_p : zI32 p) {ou : Nat} {n0 : Int} {sv : Value} (eo : h ou = some (.inr (zkOut, [zl (zwd n0), sv]))) (hn : ∀ i, i < 20 → ou ≠ ad i) : zMW G l hLaw_size yLaw_size 10 [.ref (ad 0), zi p, .ref ou] h (zQw G ad ou h (1) (9) (9) (sp_size S p)) zNo 6 36 := by
  refine zMW.of [some (.ref (ad 0)), some (zi p), some (.ref ou), none] (by decide +kernel) rfl (by decide) (Nat.le_of_ble_eq_true rfl) rfl ?_
  refine z_aload_n dLaw_size_0 rfl ?_
  refine z_aload_n dLaw_size_1 rfl ?_
  refine z_iload_n dLaw_size_2 rfl ?_
  refine z_callV (bc' := 0) (bs' := 0) MV_Cls_size lk_Law_57 dLaw_size_3 (k_Cls_size hC z_p) rfl rfl (Nat.le_of_ble_eq_true rfl) rfl hC.2.1 (Nat.le_of_ble_eq_true rfl) (Nat.le_of_ble_eq_true rfl) (by decide) (by decide) (fun E h1 q9 => ?_) ?_
  · obtain ⟨S9, e9, H9, F9⟩ := q9
    obtain rfl := xE_size e9
    refine z_catch (a := 0) (b := 10) (hp := 13) (ct := 19) [] [] rfl (fun z hz => nomatch hz) (by decide) (by decide) wl_zE1 wk_zE1 (fun qx => ?_)
    refine z_astore_n dLaw_size_13 (Nat.le_of_ble_eq_true rfl) ?_
    refine z_iconst dLaw_size_14 ?_
    refine z_iret rfl rfl dLaw_size_15 ?_
    exact zQw.tw e9 H9 F9 eo hn (Or.inl ⟨rfl, rfl⟩)
  · rintro _ h1 ⟨z, S9, e9, rfl, H9, F9⟩
    have eo1 := (F9 ou hn).trans eo
    rw [zwd_i z]
    refine z_i2l (zwd_r z) dLaw_size_6 ?_
    refine z_putN (k := 0) fd_Out (by decide) fl_Law_13 rfl dLaw_size_7 (by assumption) (by simp) rfl rfl ?_
    refine z_hx (fun h2 p2 g2 => ?_)
    refine z_goto (tgt := 16) dLaw_size_10 (by decide) ?_
    refine z_iconst dLaw_size_16 ?_
    refine z_iret rfl rfl dLaw_size_17 ?_
    exact zQw.ok e9 H9 F9 hn p2 g2
theorem k_Law_text {p d : Int} (hC : zCls G h ad S) (hp : zI32 p) (hd : d = 0 ∨ d = 1) {ou : Nat} {n0 : Int} {sv : Value} (eo : h ou = some (.inr (zkOut, [zl (zwd n0), sv]))) (hn : ∀ i, i < 20 → ou ≠ ad i) : zMW G l hLaw_text yLaw_text 9 [.ref (ad 0), zi p, zi d, .ref ou] h (fun v h' => ∃ (k : Int) (s5 : Value), v = some (zi k) ∧ (∀ q e, q ≠ ou → h q = some e → h' q = some e) ∧ h' ou = some (.inr (zkOut, [zl (zwd n0), s5])) ∧ ((k = 0 ∧ (0 ≤ p ∧ p < 4) ∧ ∃ s n9, s5 = .ref s ∧ zSr G h' s n9 (zTe S p d)) ∨ (k = 1 ∧ ¬ (0 ≤ p ∧ p < 4)))) zNo 37 606 := by
  refine zMW.of [some (.ref (ad 0)), some (zi p), some (zi d), some (.ref ou), none] (by decide +kernel) rfl (by decide) (Nat.le_of_ble_eq_true rfl) rfl ?_
  refine z_aload_n dLaw_text_0 rfl ?_
  refine z_aload_n dLaw_text_1 rfl ?_
  refine z_iload_n dLaw_text_2 rfl ?_
  refine z_iload_n dLaw_text_3 rfl ?_
  refine z_callV (bc' := 0) (bs' := 0) MV_Cls_text lk_Law_61 dLaw_text_4 (k_Cls_text hC hp hd) rfl rfl (Nat.le_of_ble_eq_true rfl) rfl hC.2.1 (Nat.le_of_ble_eq_true rfl) (Nat.le_of_ble_eq_true rfl) (by decide) (by decide) (fun E h1 q9 => ?_) ?_
  · obtain ⟨q1, q2, rfl⟩ := q9
    subst q1
    refine z_catch (a := 0) (b := 10) (hp := 13) (ct := 19) [] [] rfl (fun z hz => nomatch hz) (by decide) (by decide) wl_zE1 wk_zE1 (fun qx => ?_)
    refine z_astore dLaw_text_13 (Nat.le_of_ble_eq_true rfl) ?_
    refine z_iconst dLaw_text_15 ?_
    refine z_iret rfl rfl dLaw_text_16 ?_
    exact ⟨1, sv, rfl, fun _ _ _ he => he, eo, Or.inr ⟨rfl, q2⟩⟩
  · rintro _ h1 ⟨s9, n9, rfl, S4, q2, x4⟩
    have eo1 := x4 _ _ eo
    refine z_putN (k := 1) fd_Out (by decide) fl_Law_65 rfl dLaw_text_7 (by assumption) (by simp) rfl rfl ?_
    refine z_hx (fun h2 p2 g2 => ?_)
    refine z_goto (tgt := 17) dLaw_text_10 (by decide) ?_
    refine z_iconst dLaw_text_17 ?_
    refine z_iret rfl rfl dLaw_text_18 ?_
    exact ⟨0, .ref s9, rfl, fun q e hq he => (g2 q hq).trans (x4 _ _ he), p2, Or.inl ⟨rfl, q2, s9, n9, rfl, S4.put eo1 (by decide) (fun z e hz he => (g2 z hz).trans he)⟩⟩
theorem xE_clear {p : Int} {E : String} (h : sp_clear S p = (.inr E, S')) : E = zE1 := by
  unfold sp_clear at h
  (try simp only [spPut, spTake, spBec, spRef] at h)
  (repeat' split at h)
  all_goals first
    | exact (Sum.inr.inj (Prod.mk.inj h).1).symm
    | exact absurd (Prod.mk.inj h).1 (by simp)
theorem k_Law_clear {p : Int}  (hC : zCls G h ad S) (z_p : zI32 p) {ou : Nat} {n0 : Int} {sv : Value} (eo : h ou = some (.inr (zkOut, [zl (zwd n0), sv]))) (hn : ∀ i, i < 20 → ou ≠ ad i) : zMW G l hLaw_clear yLaw_clear 10 [.ref (ad 0), zi p, .ref ou] h (zQw G ad ou h (1) (9) (9) (sp_clear S p)) zNo 6 36 := by
  refine zMW.of [some (.ref (ad 0)), some (zi p), some (.ref ou), none] (by decide +kernel) rfl (by decide) (Nat.le_of_ble_eq_true rfl) rfl ?_
  refine z_aload_n dLaw_clear_0 rfl ?_
  refine z_aload_n dLaw_clear_1 rfl ?_
  refine z_iload_n dLaw_clear_2 rfl ?_
  refine z_callV (bc' := 0) (bs' := 0) MV_Cls_clear lk_Law_69 dLaw_clear_3 (k_Cls_clear hC z_p) rfl rfl (Nat.le_of_ble_eq_true rfl) rfl hC.2.1 (Nat.le_of_ble_eq_true rfl) (Nat.le_of_ble_eq_true rfl) (by decide) (by decide) (fun E h1 q9 => ?_) ?_
  · obtain ⟨S9, e9, H9, F9⟩ := q9
    obtain rfl := xE_clear e9
    refine z_catch (a := 0) (b := 10) (hp := 13) (ct := 19) [] [] rfl (fun z hz => nomatch hz) (by decide) (by decide) wl_zE1 wk_zE1 (fun qx => ?_)
    refine z_astore_n dLaw_clear_13 (Nat.le_of_ble_eq_true rfl) ?_
    refine z_iconst dLaw_clear_14 ?_
    refine z_iret rfl rfl dLaw_clear_15 ?_
    exact zQw.tw e9 H9 F9 eo hn (Or.inl ⟨rfl, rfl⟩)
  · rintro _ h1 ⟨z, S9, e9, rfl, H9, F9⟩
    have eo1 := (F9 ou hn).trans eo
    rw [zwd_i z]
    refine z_i2l (zwd_r z) dLaw_clear_6 ?_
    refine z_putN (k := 0) fd_Out (by decide) fl_Law_13 rfl dLaw_clear_7 (by assumption) (by simp) rfl rfl ?_
    refine z_hx (fun h2 p2 g2 => ?_)
    refine z_goto (tgt := 16) dLaw_clear_10 (by decide) ?_
    refine z_iconst dLaw_clear_16 ?_
    refine z_iret rfl rfl dLaw_clear_17 ?_
    exact zQw.ok e9 H9 F9 hn p2 g2
theorem xE_append {p f : Int} {E : String} (h : sp_append S p f = (.inr E, S')) : E = zE1 := by
  unfold sp_append at h
  (try simp only [spPut, spTake, spBec, spRef] at h)
  (repeat' split at h)
  all_goals first
    | exact (Sum.inr.inj (Prod.mk.inj h).1).symm
    | exact absurd (Prod.mk.inj h).1 (by simp)
theorem k_Law_append {p f : Int}  (hC : zCls G h ad S) (z_p : zI32 p) (z_f : zI32 f) {ou : Nat} {n0 : Int} {sv : Value} (eo : h ou = some (.inr (zkOut, [zl (zwd n0), sv]))) (hn : ∀ i, i < 20 → ou ≠ ad i) : zMW G l hLaw_append yLaw_append 10 [.ref (ad 0), zi p, zi f, .ref ou] h (zQw G ad ou h (1) (9) (9) (sp_append S p f)) zNo 6 36 := by
  refine zMW.of [some (.ref (ad 0)), some (zi p), some (zi f), some (.ref ou), none] (by decide +kernel) rfl (by decide) (Nat.le_of_ble_eq_true rfl) rfl ?_
  refine z_aload_n dLaw_append_0 rfl ?_
  refine z_aload_n dLaw_append_1 rfl ?_
  refine z_iload_n dLaw_append_2 rfl ?_
  refine z_iload_n dLaw_append_3 rfl ?_
  refine z_callV (bc' := 0) (bs' := 0) MV_Cls_append lk_Law_72 dLaw_append_4 (k_Cls_append hC z_p z_f) rfl rfl (Nat.le_of_ble_eq_true rfl) rfl hC.2.1 (Nat.le_of_ble_eq_true rfl) (Nat.le_of_ble_eq_true rfl) (by decide) (by decide) (fun E h1 q9 => ?_) ?_
  · obtain ⟨S9, e9, H9, F9⟩ := q9
    obtain rfl := xE_append e9
    refine z_catch (a := 0) (b := 11) (hp := 14) (ct := 19) [] [] rfl (fun z hz => nomatch hz) (by decide) (by decide) wl_zE1 wk_zE1 (fun qx => ?_)
    refine z_astore dLaw_append_14 (Nat.le_of_ble_eq_true rfl) ?_
    refine z_iconst dLaw_append_16 ?_
    refine z_iret rfl rfl dLaw_append_17 ?_
    exact zQw.tw e9 H9 F9 eo hn (Or.inl ⟨rfl, rfl⟩)
  · rintro _ h1 ⟨z, S9, e9, rfl, H9, F9⟩
    have eo1 := (F9 ou hn).trans eo
    rw [zwd_i z]
    refine z_i2l (zwd_r z) dLaw_append_7 ?_
    refine z_putN (k := 0) fd_Out (by decide) fl_Law_13 rfl dLaw_append_8 (by assumption) (by simp) rfl rfl ?_
    refine z_hx (fun h2 p2 g2 => ?_)
    refine z_goto (tgt := 18) dLaw_append_11 (by decide) ?_
    refine z_iconst dLaw_append_18 ?_
    refine z_iret rfl rfl dLaw_append_19 ?_
    exact zQw.ok e9 H9 F9 hn p2 g2
theorem xE_appendAt {p q f : Int} {E : String} (h : sp_appendAt S p q f = (.inr E, S')) : E = zE1 := by
  unfold sp_appendAt at h
  (try simp only [spPut, spTake, spBec, spRef] at h)
  (repeat' split at h)
  all_goals first
    | exact (Sum.inr.inj (Prod.mk.inj h).1).symm
    | exact absurd (Prod.mk.inj h).1 (by simp)
theorem k_Law_appendAt {p q f : Int}  (hC : zCls G h ad S) (z_p : zI32 p) (z_q : zI32 q) (z_f : zI32 f) {ou : Nat} {n0 : Int} {sv : Value} (eo : h ou = some (.inr (zkOut, [zl (zwd n0), sv]))) (hn : ∀ i, i < 20 → ou ≠ ad i) : zMW G l hLaw_appendAt yLaw_appendAt 10 [.ref (ad 0), zi p, zi q, zi f, .ref ou] h (zQw G ad ou h (1) (9) (9) (sp_appendAt S p q f)) zNo 6 36 := by
  refine zMW.of [some (.ref (ad 0)), some (zi p), some (zi q), some (zi f), some (.ref ou), none] (by decide +kernel) rfl (by decide) (Nat.le_of_ble_eq_true rfl) rfl ?_
  refine z_aload dLaw_appendAt_0 rfl ?_
  refine z_aload_n dLaw_appendAt_2 rfl ?_
  refine z_iload_n dLaw_appendAt_3 rfl ?_
  refine z_iload_n dLaw_appendAt_4 rfl ?_
  refine z_iload_n dLaw_appendAt_5 rfl ?_
  refine z_callV (bc' := 0) (bs' := 0) MV_Cls_appendAt lk_Law_75 dLaw_appendAt_6 (k_Cls_appendAt hC z_p z_q z_f) rfl rfl (Nat.le_of_ble_eq_true rfl) rfl hC.2.1 (Nat.le_of_ble_eq_true rfl) (Nat.le_of_ble_eq_true rfl) (by decide) (by decide) (fun E h1 q9 => ?_) ?_
  · obtain ⟨S9, e9, H9, F9⟩ := q9
    obtain rfl := xE_appendAt e9
    refine z_catch (a := 0) (b := 13) (hp := 16) (ct := 19) [] [] rfl (fun z hz => nomatch hz) (by decide) (by decide) wl_zE1 wk_zE1 (fun qx => ?_)
    refine z_astore dLaw_appendAt_16 (Nat.le_of_ble_eq_true rfl) ?_
    refine z_iconst dLaw_appendAt_18 ?_
    refine z_iret rfl rfl dLaw_appendAt_19 ?_
    exact zQw.tw e9 H9 F9 eo hn (Or.inl ⟨rfl, rfl⟩)
  · rintro _ h1 ⟨z, S9, e9, rfl, H9, F9⟩
    have eo1 := (F9 ou hn).trans eo
    rw [zwd_i z]
    refine z_i2l (zwd_r z) dLaw_appendAt_9 ?_
    refine z_putN (k := 0) fd_Out (by decide) fl_Law_13 rfl dLaw_appendAt_10 (by assumption) (by simp) rfl rfl ?_
    refine z_hx (fun h2 p2 g2 => ?_)
    refine z_goto (tgt := 20) dLaw_appendAt_13 (by decide) ?_
    refine z_iconst dLaw_appendAt_20 ?_
    refine z_iret rfl rfl dLaw_appendAt_21 ?_
    exact zQw.ok e9 H9 F9 hn p2 g2
theorem xE_copy {p i : Int} {E : String} (h : sp_copy S p i = (.inr E, S')) : E = zE1 := by
  unfold sp_copy at h
  (try simp only [spPut, spTake, spBec, spRef] at h)
  (repeat' split at h)
  all_goals first
    | exact (Sum.inr.inj (Prod.mk.inj h).1).symm
    | exact absurd (Prod.mk.inj h).1 (by simp)
theorem k_Law_copy {p i : Int}  (hC : zCls G h ad S) (z_p : zI32 p) (z_i : zI32 i) {ou : Nat} {n0 : Int} {sv : Value} (eo : h ou = some (.inr (zkOut, [zl (zwd n0), sv]))) (hn : ∀ i, i < 20 → ou ≠ ad i) : zMW G l hLaw_copy yLaw_copy 10 [.ref (ad 0), zi p, zi i, .ref ou] h (zQw G ad ou h (1) (9) (9) (sp_copy S p i)) zNo 6 36 := by
  refine zMW.of [some (.ref (ad 0)), some (zi p), some (zi i), some (.ref ou), none] (by decide +kernel) rfl (by decide) (Nat.le_of_ble_eq_true rfl) rfl ?_
  refine z_aload_n dLaw_copy_0 rfl ?_
  refine z_aload_n dLaw_copy_1 rfl ?_
  refine z_iload_n dLaw_copy_2 rfl ?_
  refine z_iload_n dLaw_copy_3 rfl ?_
  refine z_callV (bc' := 0) (bs' := 0) MV_Cls_copy lk_Law_78 dLaw_copy_4 (k_Cls_copy hC z_p z_i) rfl rfl (Nat.le_of_ble_eq_true rfl) rfl hC.2.1 (Nat.le_of_ble_eq_true rfl) (Nat.le_of_ble_eq_true rfl) (by decide) (by decide) (fun E h1 q9 => ?_) ?_
  · obtain ⟨S9, e9, H9, F9⟩ := q9
    obtain rfl := xE_copy e9
    refine z_catch (a := 0) (b := 11) (hp := 14) (ct := 19) [] [] rfl (fun z hz => nomatch hz) (by decide) (by decide) wl_zE1 wk_zE1 (fun qx => ?_)
    refine z_astore dLaw_copy_14 (Nat.le_of_ble_eq_true rfl) ?_
    refine z_iconst dLaw_copy_16 ?_
    refine z_iret rfl rfl dLaw_copy_17 ?_
    exact zQw.tw e9 H9 F9 eo hn (Or.inl ⟨rfl, rfl⟩)
  · rintro _ h1 ⟨z, S9, e9, rfl, H9, F9⟩
    have eo1 := (F9 ou hn).trans eo
    rw [zwd_i z]
    refine z_i2l (zwd_r z) dLaw_copy_7 ?_
    refine z_putN (k := 0) fd_Out (by decide) fl_Law_13 rfl dLaw_copy_8 (by assumption) (by simp) rfl rfl ?_
    refine z_hx (fun h2 p2 g2 => ?_)
    refine z_goto (tgt := 18) dLaw_copy_11 (by decide) ?_
    refine z_iconst dLaw_copy_18 ?_
    refine z_iret rfl rfl dLaw_copy_19 ?_
    exact zQw.ok e9 H9 F9 hn p2 g2
theorem xE_places {p m : Int} {E : String} (h : sp_places S p m = (.inr E, S')) : E = zE1 ∨ E = zE2 := by
  unfold sp_places at h
  (try simp only [spPut, spTake, spBec, spRef] at h)
  (repeat' split at h)
  all_goals first
    | exact Or.inl (Sum.inr.inj (Prod.mk.inj h).1).symm
    | exact Or.inr ((Sum.inr.inj (Prod.mk.inj h).1).symm)
    | exact absurd (Prod.mk.inj h).1 (by simp)
theorem k_Law_places {p m : Int}  (hC : zCls G h ad S) (z_p : zI32 p) (z_m : zI32 m) {ou : Nat} {n0 : Int} {sv : Value} (eo : h ou = some (.inr (zkOut, [zl (zwd n0), sv]))) (hn : ∀ i, i < 20 → ou ≠ ad i) : zMW G l hLaw_places yLaw_places 10 [.ref (ad 0), zi p, zi m, .ref ou] h (zQw G ad ou h (1) (2) (9) (sp_places S p m)) zNo 6 36 := by
  refine zMW.of [some (.ref (ad 0)), some (zi p), some (zi m), some (.ref ou), none] (by decide +kernel) rfl (by decide) (Nat.le_of_ble_eq_true rfl) rfl ?_
  refine z_aload_n dLaw_places_0 rfl ?_
  refine z_aload_n dLaw_places_1 rfl ?_
  refine z_iload_n dLaw_places_2 rfl ?_
  refine z_iload_n dLaw_places_3 rfl ?_
  refine z_callV (bc' := 0) (bs' := 0) MV_Cls_places lk_Law_81 dLaw_places_4 (k_Cls_places hC z_p z_m) rfl rfl (Nat.le_of_ble_eq_true rfl) rfl hC.2.1 (Nat.le_of_ble_eq_true rfl) (Nat.le_of_ble_eq_true rfl) (by decide) (by decide) (fun E h1 q9 => ?_) ?_
  · obtain ⟨S9, e9, H9, F9⟩ := q9
    rcases xE_places e9 with rfl | rfl
    · refine z_catch (a := 0) (b := 11) (hp := 14) (ct := 19) [] [(0, 11, 18, 21)] rfl (fun z hz => nomatch hz) (by decide) (by decide) wl_zE1 wk_zE1 (fun qx => ?_)
      refine z_astore dLaw_places_14 (Nat.le_of_ble_eq_true rfl) ?_
      refine z_iconst dLaw_places_16 ?_
      refine z_iret rfl rfl dLaw_places_17 ?_
      exact zQw.tw e9 H9 F9 eo hn (Or.inl ⟨rfl, rfl⟩)
    · refine z_catch (a := 0) (b := 11) (hp := 18) (ct := 21) [(0, 11, 14, 19)] [] rfl (by intro z hz; simp only [List.mem_cons, List.not_mem_nil, or_false] at hz; rcases hz with rfl <;> first | exact ⟨by decide, _, wl_zE1, by decide⟩) (by decide) (by decide) wl_zE2 wk_zE2 (fun qx => ?_)
      refine z_astore dLaw_places_18 (Nat.le_of_ble_eq_true rfl) ?_
      refine z_iconst dLaw_places_20 ?_
      refine z_iret rfl rfl dLaw_places_21 ?_
      exact zQw.tw e9 H9 F9 eo hn (Or.inr (Or.inl ⟨rfl, rfl⟩))
  · rintro _ h1 ⟨z, S9, e9, rfl, H9, F9⟩
    have eo1 := (F9 ou hn).trans eo
    rw [zwd_i z]
    refine z_i2l (zwd_r z) dLaw_places_7 ?_
    refine z_putN (k := 0) fd_Out (by decide) fl_Law_13 rfl dLaw_places_8 (by assumption) (by simp) rfl rfl ?_
    refine z_hx (fun h2 p2 g2 => ?_)
    refine z_goto (tgt := 22) dLaw_places_11 (by decide) ?_
    refine z_iconst dLaw_places_22 ?_
    refine z_iret rfl rfl dLaw_places_23 ?_
    exact zQw.ok e9 H9 F9 hn p2 g2
theorem xE_rotate {p b : Int} {E : String} (h : sp_rotate S p b = (.inr E, S')) : E = zE1 ∨ E = zE2 := by
  unfold sp_rotate at h
  (try simp only [spPut, spTake, spBec, spRef] at h)
  (repeat' split at h)
  all_goals first
    | exact Or.inl (Sum.inr.inj (Prod.mk.inj h).1).symm
    | exact Or.inr ((Sum.inr.inj (Prod.mk.inj h).1).symm)
    | exact absurd (Prod.mk.inj h).1 (by simp)
theorem k_Law_rotate {p b : Int}  (hC : zCls G h ad S) (z_p : zI32 p) (z_b : zI32 b) {ou : Nat} {n0 : Int} {sv : Value} (eo : h ou = some (.inr (zkOut, [zl (zwd n0), sv]))) (hn : ∀ i, i < 20 → ou ≠ ad i) : zMW G l hLaw_rotate yLaw_rotate 10 [.ref (ad 0), zi p, zi b, .ref ou] h (zQw G ad ou h (1) (2) (9) (sp_rotate S p b)) zNo 6 36 := by
  refine zMW.of [some (.ref (ad 0)), some (zi p), some (zi b), some (.ref ou), none] (by decide +kernel) rfl (by decide) (Nat.le_of_ble_eq_true rfl) rfl ?_
  refine z_aload_n dLaw_rotate_0 rfl ?_
  refine z_aload_n dLaw_rotate_1 rfl ?_
  refine z_iload_n dLaw_rotate_2 rfl ?_
  refine z_iload_n dLaw_rotate_3 rfl ?_
  refine z_callV (bc' := 0) (bs' := 0) MV_Cls_rotate lk_Law_84 dLaw_rotate_4 (k_Cls_rotate hC z_p z_b) rfl rfl (Nat.le_of_ble_eq_true rfl) rfl hC.2.1 (Nat.le_of_ble_eq_true rfl) (Nat.le_of_ble_eq_true rfl) (by decide) (by decide) (fun E h1 q9 => ?_) ?_
  · obtain ⟨S9, e9, H9, F9⟩ := q9
    rcases xE_rotate e9 with rfl | rfl
    · refine z_catch (a := 0) (b := 11) (hp := 14) (ct := 19) [] [(0, 11, 18, 21)] rfl (fun z hz => nomatch hz) (by decide) (by decide) wl_zE1 wk_zE1 (fun qx => ?_)
      refine z_astore dLaw_rotate_14 (Nat.le_of_ble_eq_true rfl) ?_
      refine z_iconst dLaw_rotate_16 ?_
      refine z_iret rfl rfl dLaw_rotate_17 ?_
      exact zQw.tw e9 H9 F9 eo hn (Or.inl ⟨rfl, rfl⟩)
    · refine z_catch (a := 0) (b := 11) (hp := 18) (ct := 21) [(0, 11, 14, 19)] [] rfl (by intro z hz; simp only [List.mem_cons, List.not_mem_nil, or_false] at hz; rcases hz with rfl <;> first | exact ⟨by decide, _, wl_zE1, by decide⟩) (by decide) (by decide) wl_zE2 wk_zE2 (fun qx => ?_)
      refine z_astore dLaw_rotate_18 (Nat.le_of_ble_eq_true rfl) ?_
      refine z_iconst dLaw_rotate_20 ?_
      refine z_iret rfl rfl dLaw_rotate_21 ?_
      exact zQw.tw e9 H9 F9 eo hn (Or.inr (Or.inl ⟨rfl, rfl⟩))
  · rintro _ h1 ⟨z, S9, e9, rfl, H9, F9⟩
    have eo1 := (F9 ou hn).trans eo
    rw [zwd_i z]
    refine z_i2l (zwd_r z) dLaw_rotate_7 ?_
    refine z_putN (k := 0) fd_Out (by decide) fl_Law_13 rfl dLaw_rotate_8 (by assumption) (by simp) rfl rfl ?_
    refine z_hx (fun h2 p2 g2 => ?_)
    refine z_goto (tgt := 22) dLaw_rotate_11 (by decide) ?_
    refine z_iconst dLaw_rotate_22 ?_
    refine z_iret rfl rfl dLaw_rotate_23 ?_
    exact zQw.ok e9 H9 F9 hn p2 g2
theorem xE_move {p f t : Int} {E : String} (h : sp_move S p f t = (.inr E, S')) : E = zE1 := by
  unfold sp_move at h
  (try simp only [spPut, spTake, spBec, spRef] at h)
  (repeat' split at h)
  all_goals first
    | exact (Sum.inr.inj (Prod.mk.inj h).1).symm
    | exact absurd (Prod.mk.inj h).1 (by simp)
theorem k_Law_move {p f t : Int}  (hC : zCls G h ad S) (z_p : zI32 p) (z_f : zI32 f) (z_t : zI32 t) {ou : Nat} {n0 : Int} {sv : Value} (eo : h ou = some (.inr (zkOut, [zl (zwd n0), sv]))) (hn : ∀ i, i < 20 → ou ≠ ad i) : zMW G l hLaw_move yLaw_move 10 [.ref (ad 0), zi p, zi f, zi t, .ref ou] h (zQw G ad ou h (1) (9) (9) (sp_move S p f t)) zNo 6 36 := by
  refine zMW.of [some (.ref (ad 0)), some (zi p), some (zi f), some (zi t), some (.ref ou), none] (by decide +kernel) rfl (by decide) (Nat.le_of_ble_eq_true rfl) rfl ?_
  refine z_aload dLaw_move_0 rfl ?_
  refine z_aload_n dLaw_move_2 rfl ?_
  refine z_iload_n dLaw_move_3 rfl ?_
  refine z_iload_n dLaw_move_4 rfl ?_
  refine z_iload_n dLaw_move_5 rfl ?_
  refine z_callV (bc' := 0) (bs' := 0) MV_Cls_move lk_Law_87 dLaw_move_6 (k_Cls_move hC z_p z_f z_t) rfl rfl (Nat.le_of_ble_eq_true rfl) rfl hC.2.1 (Nat.le_of_ble_eq_true rfl) (Nat.le_of_ble_eq_true rfl) (by decide) (by decide) (fun E h1 q9 => ?_) ?_
  · obtain ⟨S9, e9, H9, F9⟩ := q9
    obtain rfl := xE_move e9
    refine z_catch (a := 0) (b := 13) (hp := 16) (ct := 19) [] [] rfl (fun z hz => nomatch hz) (by decide) (by decide) wl_zE1 wk_zE1 (fun qx => ?_)
    refine z_astore dLaw_move_16 (Nat.le_of_ble_eq_true rfl) ?_
    refine z_iconst dLaw_move_18 ?_
    refine z_iret rfl rfl dLaw_move_19 ?_
    exact zQw.tw e9 H9 F9 eo hn (Or.inl ⟨rfl, rfl⟩)
  · rintro _ h1 ⟨z, S9, e9, rfl, H9, F9⟩
    have eo1 := (F9 ou hn).trans eo
    rw [zwd_i z]
    refine z_i2l (zwd_r z) dLaw_move_9 ?_
    refine z_putN (k := 0) fd_Out (by decide) fl_Law_13 rfl dLaw_move_10 (by assumption) (by simp) rfl rfl ?_
    refine z_hx (fun h2 p2 g2 => ?_)
    refine z_goto (tgt := 20) dLaw_move_13 (by decide) ?_
    refine z_iconst dLaw_move_20 ?_
    refine z_iret rfl rfl dLaw_move_21 ?_
    exact zQw.ok e9 H9 F9 hn p2 g2
theorem xE_swap {p i j : Int} {E : String} (h : sp_swap S p i j = (.inr E, S')) : E = zE1 := by
  unfold sp_swap at h
  (try simp only [spPut, spTake, spBec, spRef] at h)
  (repeat' split at h)
  all_goals first
    | exact (Sum.inr.inj (Prod.mk.inj h).1).symm
    | exact absurd (Prod.mk.inj h).1 (by simp)
theorem k_Law_swap {p i j : Int}  (hC : zCls G h ad S) (z_p : zI32 p) (z_i : zI32 i) (z_j : zI32 j) {ou : Nat} {n0 : Int} {sv : Value} (eo : h ou = some (.inr (zkOut, [zl (zwd n0), sv]))) (hn : ∀ i, i < 20 → ou ≠ ad i) : zMW G l hLaw_swap yLaw_swap 10 [.ref (ad 0), zi p, zi i, zi j, .ref ou] h (zQw G ad ou h (1) (9) (9) (sp_swap S p i j)) zNo 6 36 := by
  refine zMW.of [some (.ref (ad 0)), some (zi p), some (zi i), some (zi j), some (.ref ou), none] (by decide +kernel) rfl (by decide) (Nat.le_of_ble_eq_true rfl) rfl ?_
  refine z_aload dLaw_swap_0 rfl ?_
  refine z_aload_n dLaw_swap_2 rfl ?_
  refine z_iload_n dLaw_swap_3 rfl ?_
  refine z_iload_n dLaw_swap_4 rfl ?_
  refine z_iload_n dLaw_swap_5 rfl ?_
  refine z_callV (bc' := 0) (bs' := 0) MV_Cls_swap lk_Law_90 dLaw_swap_6 (k_Cls_swap hC z_p z_i z_j) rfl rfl (Nat.le_of_ble_eq_true rfl) rfl hC.2.1 (Nat.le_of_ble_eq_true rfl) (Nat.le_of_ble_eq_true rfl) (by decide) (by decide) (fun E h1 q9 => ?_) ?_
  · obtain ⟨S9, e9, H9, F9⟩ := q9
    obtain rfl := xE_swap e9
    refine z_catch (a := 0) (b := 13) (hp := 16) (ct := 19) [] [] rfl (fun z hz => nomatch hz) (by decide) (by decide) wl_zE1 wk_zE1 (fun qx => ?_)
    refine z_astore dLaw_swap_16 (Nat.le_of_ble_eq_true rfl) ?_
    refine z_iconst dLaw_swap_18 ?_
    refine z_iret rfl rfl dLaw_swap_19 ?_
    exact zQw.tw e9 H9 F9 eo hn (Or.inl ⟨rfl, rfl⟩)
  · rintro _ h1 ⟨z, S9, e9, rfl, H9, F9⟩
    have eo1 := (F9 ou hn).trans eo
    rw [zwd_i z]
    refine z_i2l (zwd_r z) dLaw_swap_9 ?_
    refine z_putN (k := 0) fd_Out (by decide) fl_Law_13 rfl dLaw_swap_10 (by assumption) (by simp) rfl rfl ?_
    refine z_hx (fun h2 p2 g2 => ?_)
    refine z_goto (tgt := 20) dLaw_swap_13 (by decide) ?_
    refine z_iconst dLaw_swap_20 ?_
    refine z_iret rfl rfl dLaw_swap_21 ?_
    exact zQw.ok e9 H9 F9 hn p2 g2
theorem xE_reverse {p : Int} {E : String} (h : sp_reverse S p = (.inr E, S')) : E = zE1 := by
  unfold sp_reverse at h
  (try simp only [spPut, spTake, spBec, spRef] at h)
  (repeat' split at h)
  all_goals first
    | exact (Sum.inr.inj (Prod.mk.inj h).1).symm
    | exact absurd (Prod.mk.inj h).1 (by simp)
theorem k_Law_reverse {p : Int}  (hC : zCls G h ad S) (z_p : zI32 p) {ou : Nat} {n0 : Int} {sv : Value} (eo : h ou = some (.inr (zkOut, [zl (zwd n0), sv]))) (hn : ∀ i, i < 20 → ou ≠ ad i) : zMW G l hLaw_reverse yLaw_reverse 10 [.ref (ad 0), zi p, .ref ou] h (zQw G ad ou h (1) (9) (9) (sp_reverse S p)) zNo 6 36 := by
  refine zMW.of [some (.ref (ad 0)), some (zi p), some (.ref ou), none] (by decide +kernel) rfl (by decide) (Nat.le_of_ble_eq_true rfl) rfl ?_
  refine z_aload_n dLaw_reverse_0 rfl ?_
  refine z_aload_n dLaw_reverse_1 rfl ?_
  refine z_iload_n dLaw_reverse_2 rfl ?_
  refine z_callV (bc' := 0) (bs' := 0) MV_Cls_reverse lk_Law_93 dLaw_reverse_3 (k_Cls_reverse hC z_p) rfl rfl (Nat.le_of_ble_eq_true rfl) rfl hC.2.1 (Nat.le_of_ble_eq_true rfl) (Nat.le_of_ble_eq_true rfl) (by decide) (by decide) (fun E h1 q9 => ?_) ?_
  · obtain ⟨S9, e9, H9, F9⟩ := q9
    obtain rfl := xE_reverse e9
    refine z_catch (a := 0) (b := 10) (hp := 13) (ct := 19) [] [] rfl (fun z hz => nomatch hz) (by decide) (by decide) wl_zE1 wk_zE1 (fun qx => ?_)
    refine z_astore_n dLaw_reverse_13 (Nat.le_of_ble_eq_true rfl) ?_
    refine z_iconst dLaw_reverse_14 ?_
    refine z_iret rfl rfl dLaw_reverse_15 ?_
    exact zQw.tw e9 H9 F9 eo hn (Or.inl ⟨rfl, rfl⟩)
  · rintro _ h1 ⟨z, S9, e9, rfl, H9, F9⟩
    have eo1 := (F9 ou hn).trans eo
    rw [zwd_i z]
    refine z_i2l (zwd_r z) dLaw_reverse_6 ?_
    refine z_putN (k := 0) fd_Out (by decide) fl_Law_13 rfl dLaw_reverse_7 (by assumption) (by simp) rfl rfl ?_
    refine z_hx (fun h2 p2 g2 => ?_)
    refine z_goto (tgt := 16) dLaw_reverse_10 (by decide) ?_
    refine z_iconst dLaw_reverse_16 ?_
    refine z_iret rfl rfl dLaw_reverse_17 ?_
    exact zQw.ok e9 H9 F9 hn p2 g2
theorem xE_through {p m i : Int} {E : String} (h : sp_through S p m i = (.inr E, S')) : E = zE1 := by
  unfold sp_through at h
  (try simp only [spPut, spTake, spBec, spRef] at h)
  (repeat' split at h)
  all_goals first
    | exact (Sum.inr.inj (Prod.mk.inj h).1).symm
    | exact absurd (Prod.mk.inj h).1 (by simp)
theorem k_Law_through {p m i : Int}  (hC : zCls G h ad S) (z_p : zI32 p) (z_m : zI32 m) (z_i : zI32 i) {ou : Nat} {n0 : Int} {sv : Value} (eo : h ou = some (.inr (zkOut, [zl (zwd n0), sv]))) (hn : ∀ i, i < 20 → ou ≠ ad i) : zMW G l hLaw_through yLaw_through 10 [.ref (ad 0), zi p, zi m, zi i, .ref ou] h (zQw G ad ou h (1) (9) (9) (sp_through S p m i)) zNo 6 36 := by
  refine zMW.of [some (.ref (ad 0)), some (zi p), some (zi m), some (zi i), some (.ref ou), none] (by decide +kernel) rfl (by decide) (Nat.le_of_ble_eq_true rfl) rfl ?_
  refine z_aload dLaw_through_0 rfl ?_
  refine z_aload_n dLaw_through_2 rfl ?_
  refine z_iload_n dLaw_through_3 rfl ?_
  refine z_iload_n dLaw_through_4 rfl ?_
  refine z_iload_n dLaw_through_5 rfl ?_
  refine z_callV (bc' := 0) (bs' := 0) MV_Cls_through lk_Law_96 dLaw_through_6 (k_Cls_through hC z_p z_m z_i) rfl rfl (Nat.le_of_ble_eq_true rfl) rfl hC.2.1 (Nat.le_of_ble_eq_true rfl) (Nat.le_of_ble_eq_true rfl) (by decide) (by decide) (fun E h1 q9 => ?_) ?_
  · obtain ⟨S9, e9, H9, F9⟩ := q9
    obtain rfl := xE_through e9
    refine z_catch (a := 0) (b := 13) (hp := 16) (ct := 19) [] [] rfl (fun z hz => nomatch hz) (by decide) (by decide) wl_zE1 wk_zE1 (fun qx => ?_)
    refine z_astore dLaw_through_16 (Nat.le_of_ble_eq_true rfl) ?_
    refine z_iconst dLaw_through_18 ?_
    refine z_iret rfl rfl dLaw_through_19 ?_
    exact zQw.tw e9 H9 F9 eo hn (Or.inl ⟨rfl, rfl⟩)
  · rintro _ h1 ⟨z, S9, e9, rfl, H9, F9⟩
    have eo1 := (F9 ou hn).trans eo
    rw [zwd_i z]
    refine z_i2l (zwd_r z) dLaw_through_9 ?_
    refine z_putN (k := 0) fd_Out (by decide) fl_Law_13 rfl dLaw_through_10 (by assumption) (by simp) rfl rfl ?_
    refine z_hx (fun h2 p2 g2 => ?_)
    refine z_goto (tgt := 20) dLaw_through_13 (by decide) ?_
    refine z_iconst dLaw_through_20 ?_
    refine z_iret rfl rfl dLaw_through_21 ?_
    exact zQw.ok e9 H9 F9 hn p2 g2
theorem xE_areSame {p o : Int} {E : String} (h : sp_areSame S p o = (.inr E, S')) : E = zE1 := by
  unfold sp_areSame at h
  (try simp only [spPut, spTake, spBec, spRef] at h)
  (repeat' split at h)
  all_goals first
    | exact (Sum.inr.inj (Prod.mk.inj h).1).symm
    | exact absurd (Prod.mk.inj h).1 (by simp)
theorem xB_areSame {p o : Int} {z : Int} (h : sp_areSame S p o = (.inl z, S')) : z = 0 ∨ z = 1 := by
  unfold sp_areSame at h
  (try simp only [spPut, spTake, spBec, spRef] at h)
  (repeat' split at h)
  all_goals first
    | exact Or.inl (Sum.inl.inj (Prod.mk.inj h).1).symm
    | exact Or.inr (Sum.inl.inj (Prod.mk.inj h).1).symm
    | exact absurd (Prod.mk.inj h).1 (by simp)
theorem k_Law_areSame {p o : Int}  (hC : zCls G h ad S) (z_p : zI32 p) (z_o : zI32 o) {ou : Nat} {n0 : Int} {sv : Value} (eo : h ou = some (.inr (zkOut, [zl (zwd n0), sv]))) (hn : ∀ i, i < 20 → ou ≠ ad i) : zMW G l hLaw_areSame yLaw_areSame 10 [.ref (ad 0), zi p, zi o, .ref ou] h (zQw G ad ou h (1) (9) (9) (sp_areSame S p o)) zNo 6 36 := by
  refine zMW.of [some (.ref (ad 0)), some (zi p), some (zi o), some (.ref ou), none] (by decide +kernel) rfl (by decide) (Nat.le_of_ble_eq_true rfl) rfl ?_
  refine z_aload_n dLaw_areSame_0 rfl ?_
  refine z_aload_n dLaw_areSame_1 rfl ?_
  refine z_iload_n dLaw_areSame_2 rfl ?_
  refine z_iload_n dLaw_areSame_3 rfl ?_
  refine z_callV (bc' := 0) (bs' := 0) MV_Cls_areSame lk_Law_99 dLaw_areSame_4 (k_Cls_areSame hC z_p z_o) rfl rfl (Nat.le_of_ble_eq_true rfl) rfl hC.2.1 (Nat.le_of_ble_eq_true rfl) (Nat.le_of_ble_eq_true rfl) (by decide) (by decide) (fun E h1 q9 => ?_) ?_
  · obtain ⟨S9, e9, H9, F9⟩ := q9
    obtain rfl := xE_areSame e9
    refine z_catch (a := 0) (b := 18) (hp := 21) (ct := 19) [] [] rfl (fun z hz => nomatch hz) (by decide) (by decide) wl_zE1 wk_zE1 (fun qx => ?_)
    refine z_astore dLaw_areSame_21 (Nat.le_of_ble_eq_true rfl) ?_
    refine z_iconst dLaw_areSame_23 ?_
    refine z_iret rfl rfl dLaw_areSame_24 ?_
    exact zQw.tw e9 H9 F9 eo hn (Or.inl ⟨rfl, rfl⟩)
  · rintro _ h1 ⟨z, S9, e9, rfl, H9, F9⟩
    have eo1 := (F9 ou hn).trans eo
    have hz := xB_areSame e9
    refine z_if_eq (tgt := 14) dLaw_areSame_7 (by decide) (by omega) (fun c7 => ?_) (fun c7 => ?_)
    · refine z_lconst dLaw_areSame_14 0 rfl ?_
      refine z_putN (k := 0) fd_Out (by decide) fl_Law_13 rfl dLaw_areSame_15 (by assumption) (by simp) rfl rfl ?_
      refine z_hx (fun h2 p2 g2 => ?_)
      refine z_goto (tgt := 25) dLaw_areSame_18 (by decide) ?_
      refine z_iconst dLaw_areSame_25 ?_
      refine z_iret rfl rfl dLaw_areSame_26 ?_
      first
        | exact zQw.ok e9 H9 F9 hn (by rw [show zwd z = 0 by (rw [show z = 0 by omega]; decide)]; exact p2) g2
        | exact zQw.ok e9 H9 F9 hn (by rw [show zwd z = 1 by (rw [show z = 1 by omega]; decide)]; exact p2) g2
    · refine z_lconst dLaw_areSame_10 1 rfl ?_
      refine z_goto (tgt := 15) dLaw_areSame_11 (by decide) ?_
      refine z_putN (k := 0) fd_Out (by decide) fl_Law_13 rfl dLaw_areSame_15 (by assumption) (by simp) rfl rfl ?_
      refine z_hx (fun h2 p2 g2 => ?_)
      refine z_goto (tgt := 25) dLaw_areSame_18 (by decide) ?_
      refine z_iconst dLaw_areSame_25 ?_
      refine z_iret rfl rfl dLaw_areSame_26 ?_
      first
        | exact zQw.ok e9 H9 F9 hn (by rw [show zwd z = 0 by (rw [show z = 0 by omega]; decide)]; exact p2) g2
        | exact zQw.ok e9 H9 F9 hn (by rw [show zwd z = 1 by (rw [show z = 1 by omega]; decide)]; exact p2) g2
theorem xE_isMirror {p : Int} {E : String} (h : sp_isMirror S p = (.inr E, S')) : E = zE1 := by
  unfold sp_isMirror at h
  (try simp only [spPut, spTake, spBec, spRef] at h)
  (repeat' split at h)
  all_goals first
    | exact (Sum.inr.inj (Prod.mk.inj h).1).symm
    | exact absurd (Prod.mk.inj h).1 (by simp)
theorem xB_isMirror {p : Int} {z : Int} (h : sp_isMirror S p = (.inl z, S')) : z = 0 ∨ z = 1 := by
  unfold sp_isMirror at h
  (try simp only [spPut, spTake, spBec, spRef] at h)
  (repeat' split at h)
  all_goals first
    | exact Or.inl (Sum.inl.inj (Prod.mk.inj h).1).symm
    | exact Or.inr (Sum.inl.inj (Prod.mk.inj h).1).symm
    | exact absurd (Prod.mk.inj h).1 (by simp)
theorem k_Law_isMirror {p : Int}  (hC : zCls G h ad S) (z_p : zI32 p) {ou : Nat} {n0 : Int} {sv : Value} (eo : h ou = some (.inr (zkOut, [zl (zwd n0), sv]))) (hn : ∀ i, i < 20 → ou ≠ ad i) : zMW G l hLaw_isMirror yLaw_isMirror 10 [.ref (ad 0), zi p, .ref ou] h (zQw G ad ou h (1) (9) (9) (sp_isMirror S p)) zNo 6 36 := by
  refine zMW.of [some (.ref (ad 0)), some (zi p), some (.ref ou), none] (by decide +kernel) rfl (by decide) (Nat.le_of_ble_eq_true rfl) rfl ?_
  refine z_aload_n dLaw_isMirror_0 rfl ?_
  refine z_aload_n dLaw_isMirror_1 rfl ?_
  refine z_iload_n dLaw_isMirror_2 rfl ?_
  refine z_callV (bc' := 0) (bs' := 0) MV_Cls_isMirror lk_Law_102 dLaw_isMirror_3 (k_Cls_isMirror hC z_p) rfl rfl (Nat.le_of_ble_eq_true rfl) rfl hC.2.1 (Nat.le_of_ble_eq_true rfl) (Nat.le_of_ble_eq_true rfl) (by decide) (by decide) (fun E h1 q9 => ?_) ?_
  · obtain ⟨S9, e9, H9, F9⟩ := q9
    obtain rfl := xE_isMirror e9
    refine z_catch (a := 0) (b := 17) (hp := 20) (ct := 19) [] [] rfl (fun z hz => nomatch hz) (by decide) (by decide) wl_zE1 wk_zE1 (fun qx => ?_)
    refine z_astore_n dLaw_isMirror_20 (Nat.le_of_ble_eq_true rfl) ?_
    refine z_iconst dLaw_isMirror_21 ?_
    refine z_iret rfl rfl dLaw_isMirror_22 ?_
    exact zQw.tw e9 H9 F9 eo hn (Or.inl ⟨rfl, rfl⟩)
  · rintro _ h1 ⟨z, S9, e9, rfl, H9, F9⟩
    have eo1 := (F9 ou hn).trans eo
    have hz := xB_isMirror e9
    refine z_if_eq (tgt := 13) dLaw_isMirror_6 (by decide) (by omega) (fun c6 => ?_) (fun c6 => ?_)
    · refine z_lconst dLaw_isMirror_13 0 rfl ?_
      refine z_putN (k := 0) fd_Out (by decide) fl_Law_13 rfl dLaw_isMirror_14 (by assumption) (by simp) rfl rfl ?_
      refine z_hx (fun h2 p2 g2 => ?_)
      refine z_goto (tgt := 23) dLaw_isMirror_17 (by decide) ?_
      refine z_iconst dLaw_isMirror_23 ?_
      refine z_iret rfl rfl dLaw_isMirror_24 ?_
      first
        | exact zQw.ok e9 H9 F9 hn (by rw [show zwd z = 0 by (rw [show z = 0 by omega]; decide)]; exact p2) g2
        | exact zQw.ok e9 H9 F9 hn (by rw [show zwd z = 1 by (rw [show z = 1 by omega]; decide)]; exact p2) g2
    · refine z_lconst dLaw_isMirror_9 1 rfl ?_
      refine z_goto (tgt := 14) dLaw_isMirror_10 (by decide) ?_
      refine z_putN (k := 0) fd_Out (by decide) fl_Law_13 rfl dLaw_isMirror_14 (by assumption) (by simp) rfl rfl ?_
      refine z_hx (fun h2 p2 g2 => ?_)
      refine z_goto (tgt := 23) dLaw_isMirror_17 (by decide) ?_
      refine z_iconst dLaw_isMirror_23 ?_
      refine z_iret rfl rfl dLaw_isMirror_24 ?_
      first
        | exact zQw.ok e9 H9 F9 hn (by rw [show zwd z = 0 by (rw [show z = 0 by omega]; decide)]; exact p2) g2
        | exact zQw.ok e9 H9 F9 hn (by rw [show zwd z = 1 by (rw [show z = 1 by omega]; decide)]; exact p2) g2
theorem xE_open {c p q : Int} {E : String} (h : sp_open S c p q = (.inr E, S')) : E = zE1 := by
  unfold sp_open at h
  (try simp only [spPut, spTake, spBec, spRef] at h)
  (repeat' split at h)
  all_goals first
    | exact (Sum.inr.inj (Prod.mk.inj h).1).symm
    | exact absurd (Prod.mk.inj h).1 (by simp)
theorem k_Law_open {c p q : Int}  (hC : zCls G h ad S) (z_c : zI32 c) (z_p : zI32 p) (z_q : zI32 q) {ou : Nat} {n0 : Int} {sv : Value} (eo : h ou = some (.inr (zkOut, [zl (zwd n0), sv]))) (hn : ∀ i, i < 20 → ou ≠ ad i) : zMW G l hLaw_open yLaw_open 10 [.ref (ad 0), zi c, zi p, zi q, .ref ou] h (zQw G ad ou h (1) (9) (9) (sp_open S c p q)) zNo 6 36 := by
  refine zMW.of [some (.ref (ad 0)), some (zi c), some (zi p), some (zi q), some (.ref ou), none] (by decide +kernel) rfl (by decide) (Nat.le_of_ble_eq_true rfl) rfl ?_
  refine z_aload dLaw_open_0 rfl ?_
  refine z_aload_n dLaw_open_2 rfl ?_
  refine z_iload_n dLaw_open_3 rfl ?_
  refine z_iload_n dLaw_open_4 rfl ?_
  refine z_iload_n dLaw_open_5 rfl ?_
  refine z_callV (bc' := 0) (bs' := 0) MV_Cls_open lk_Law_106 dLaw_open_6 (k_Cls_open hC z_c z_p z_q) rfl rfl (Nat.le_of_ble_eq_true rfl) rfl hC.2.1 (Nat.le_of_ble_eq_true rfl) (Nat.le_of_ble_eq_true rfl) (by decide) (by decide) (fun E h1 q9 => ?_) ?_
  · obtain ⟨S9, e9, H9, F9⟩ := q9
    obtain rfl := xE_open e9
    refine z_catch (a := 0) (b := 13) (hp := 16) (ct := 19) [] [] rfl (fun z hz => nomatch hz) (by decide) (by decide) wl_zE1 wk_zE1 (fun qx => ?_)
    refine z_astore dLaw_open_16 (Nat.le_of_ble_eq_true rfl) ?_
    refine z_iconst dLaw_open_18 ?_
    refine z_iret rfl rfl dLaw_open_19 ?_
    exact zQw.tw e9 H9 F9 eo hn (Or.inl ⟨rfl, rfl⟩)
  · rintro _ h1 ⟨z, S9, e9, rfl, H9, F9⟩
    have eo1 := (F9 ou hn).trans eo
    rw [zwd_i z]
    refine z_i2l (zwd_r z) dLaw_open_9 ?_
    refine z_putN (k := 0) fd_Out (by decide) fl_Law_13 rfl dLaw_open_10 (by assumption) (by simp) rfl rfl ?_
    refine z_hx (fun h2 p2 g2 => ?_)
    refine z_goto (tgt := 20) dLaw_open_13 (by decide) ?_
    refine z_iconst dLaw_open_20 ?_
    refine z_iret rfl rfl dLaw_open_21 ?_
    exact zQw.ok e9 H9 F9 hn p2 g2
theorem xE_shut {c : Int} {E : String} (h : sp_shut S c = (.inr E, S')) : E = zE1 := by
  unfold sp_shut at h
  (try simp only [spPut, spTake, spBec, spRef] at h)
  (repeat' split at h)
  all_goals first
    | exact (Sum.inr.inj (Prod.mk.inj h).1).symm
    | exact absurd (Prod.mk.inj h).1 (by simp)
theorem xB_shut {c : Int} {z : Int} (hC : zCls G h ad S) (h : sp_shut S c = (.inl z, S')) : z = 0 ∨ z = 1 := by
  unfold sp_shut at h
  by_cases q : 0 ≤ c ∧ c < 3
  · rw [if_pos q] at h
    obtain ⟨st, li, ix, la, e1, e2, -⟩ := hC.cs (show c.toNat < 3 by omega)
    rw [← Sum.inl.inj (Prod.mk.inj h).1]
    exact e2
  · rw [if_neg q] at h
    exact absurd (Prod.mk.inj h).1 (by simp)
theorem k_Law_shut {c : Int}  (hC : zCls G h ad S) (z_c : zI32 c) {ou : Nat} {n0 : Int} {sv : Value} (eo : h ou = some (.inr (zkOut, [zl (zwd n0), sv]))) (hn : ∀ i, i < 20 → ou ≠ ad i) : zMW G l hLaw_shut yLaw_shut 10 [.ref (ad 0), zi c, .ref ou] h (zQw G ad ou h (1) (9) (9) (sp_shut S c)) zNo 6 36 := by
  refine zMW.of [some (.ref (ad 0)), some (zi c), some (.ref ou), none] (by decide +kernel) rfl (by decide) (Nat.le_of_ble_eq_true rfl) rfl ?_
  refine z_aload_n dLaw_shut_0 rfl ?_
  refine z_aload_n dLaw_shut_1 rfl ?_
  refine z_iload_n dLaw_shut_2 rfl ?_
  refine z_callV (bc' := 0) (bs' := 0) MV_Cls_shut lk_Law_109 dLaw_shut_3 (k_Cls_shut hC z_c) rfl rfl (Nat.le_of_ble_eq_true rfl) rfl hC.2.1 (Nat.le_of_ble_eq_true rfl) (Nat.le_of_ble_eq_true rfl) (by decide) (by decide) (fun E h1 q9 => ?_) ?_
  · obtain ⟨S9, e9, H9, F9⟩ := q9
    obtain rfl := xE_shut e9
    refine z_catch (a := 0) (b := 17) (hp := 20) (ct := 19) [] [] rfl (fun z hz => nomatch hz) (by decide) (by decide) wl_zE1 wk_zE1 (fun qx => ?_)
    refine z_astore_n dLaw_shut_20 (Nat.le_of_ble_eq_true rfl) ?_
    refine z_iconst dLaw_shut_21 ?_
    refine z_iret rfl rfl dLaw_shut_22 ?_
    exact zQw.tw e9 H9 F9 eo hn (Or.inl ⟨rfl, rfl⟩)
  · rintro _ h1 ⟨z, S9, e9, rfl, H9, F9⟩
    have eo1 := (F9 ou hn).trans eo
    have hz := xB_shut hC e9
    refine z_if_eq (tgt := 13) dLaw_shut_6 (by decide) (by omega) (fun c6 => ?_) (fun c6 => ?_)
    · refine z_lconst dLaw_shut_13 0 rfl ?_
      refine z_putN (k := 0) fd_Out (by decide) fl_Law_13 rfl dLaw_shut_14 (by assumption) (by simp) rfl rfl ?_
      refine z_hx (fun h2 p2 g2 => ?_)
      refine z_goto (tgt := 23) dLaw_shut_17 (by decide) ?_
      refine z_iconst dLaw_shut_23 ?_
      refine z_iret rfl rfl dLaw_shut_24 ?_
      first
        | exact zQw.ok e9 H9 F9 hn (by rw [show zwd z = 0 by (rw [show z = 0 by omega]; decide)]; exact p2) g2
        | exact zQw.ok e9 H9 F9 hn (by rw [show zwd z = 1 by (rw [show z = 1 by omega]; decide)]; exact p2) g2
    · refine z_lconst dLaw_shut_9 1 rfl ?_
      refine z_goto (tgt := 14) dLaw_shut_10 (by decide) ?_
      refine z_putN (k := 0) fd_Out (by decide) fl_Law_13 rfl dLaw_shut_14 (by assumption) (by simp) rfl rfl ?_
      refine z_hx (fun h2 p2 g2 => ?_)
      refine z_goto (tgt := 23) dLaw_shut_17 (by decide) ?_
      refine z_iconst dLaw_shut_23 ?_
      refine z_iret rfl rfl dLaw_shut_24 ?_
      first
        | exact zQw.ok e9 H9 F9 hn (by rw [show zwd z = 0 by (rw [show z = 0 by omega]; decide)]; exact p2) g2
        | exact zQw.ok e9 H9 F9 hn (by rw [show zwd z = 1 by (rw [show z = 1 by omega]; decide)]; exact p2) g2
theorem xE_forth {c : Int} {E : String} (h : sp_forth S c = (.inr E, S')) : E = zE1 ∨ E = zE3 := by
  unfold sp_forth at h
  (try simp only [spPut, spTake, spBec, spRef] at h)
  (repeat' split at h)
  all_goals first
    | exact Or.inl (Sum.inr.inj (Prod.mk.inj h).1).symm
    | exact Or.inr ((Sum.inr.inj (Prod.mk.inj h).1).symm)
    | exact absurd (Prod.mk.inj h).1 (by simp)
theorem k_Law_forth {c : Int} (hO : zOk S) (hC : zCls G h ad S) (z_c : zI32 c) {ou : Nat} {n0 : Int} {sv : Value} (eo : h ou = some (.inr (zkOut, [zl (zwd n0), sv]))) (hn : ∀ i, i < 20 → ou ≠ ad i) : zMW G l hLaw_forth yLaw_forth 10 [.ref (ad 0), zi c, .ref ou] h (zQw G ad ou h (1) (9) (2) (sp_forth S c)) zNo 6 36 := by
  refine zMW.of [some (.ref (ad 0)), some (zi c), some (.ref ou), none] (by decide +kernel) rfl (by decide) (Nat.le_of_ble_eq_true rfl) rfl ?_
  refine z_aload_n dLaw_forth_0 rfl ?_
  refine z_aload_n dLaw_forth_1 rfl ?_
  refine z_iload_n dLaw_forth_2 rfl ?_
  refine z_callV (bc' := 0) (bs' := 0) MV_Cls_forth lk_Law_112 dLaw_forth_3 (k_Cls_forth hO hC z_c) rfl rfl (Nat.le_of_ble_eq_true rfl) rfl hC.2.1 (Nat.le_of_ble_eq_true rfl) (Nat.le_of_ble_eq_true rfl) (by decide) (by decide) (fun E h1 q9 => ?_) ?_
  · obtain ⟨S9, e9, H9, F9⟩ := q9
    rcases xE_forth e9 with rfl | rfl
    · refine z_catch (a := 0) (b := 10) (hp := 13) (ct := 19) [] [(0, 10, 16, 115)] rfl (fun z hz => nomatch hz) (by decide) (by decide) wl_zE1 wk_zE1 (fun qx => ?_)
      refine z_astore_n dLaw_forth_13 (Nat.le_of_ble_eq_true rfl) ?_
      refine z_iconst dLaw_forth_14 ?_
      refine z_iret rfl rfl dLaw_forth_15 ?_
      exact zQw.tw e9 H9 F9 eo hn (Or.inl ⟨rfl, rfl⟩)
    · refine z_catch (a := 0) (b := 10) (hp := 16) (ct := 115) [(0, 10, 13, 19)] [] rfl (by intro z hz; simp only [List.mem_cons, List.not_mem_nil, or_false] at hz; rcases hz with rfl <;> first | exact ⟨by decide, _, wl_zE1, by decide⟩) (by decide) (by decide) wl_zE3 wk_zE3 (fun qx => ?_)
      refine z_astore_n dLaw_forth_16 (Nat.le_of_ble_eq_true rfl) ?_
      refine z_iconst dLaw_forth_17 ?_
      refine z_iret rfl rfl dLaw_forth_18 ?_
      exact zQw.tw e9 H9 F9 eo hn (Or.inr (Or.inr ⟨rfl, rfl⟩))
  · rintro _ h1 ⟨z, S9, e9, rfl, H9, F9⟩
    have eo1 := (F9 ou hn).trans eo
    rw [zwd_i z]
    refine z_i2l (zwd_r z) dLaw_forth_6 ?_
    refine z_putN (k := 0) fd_Out (by decide) fl_Law_13 rfl dLaw_forth_7 (by assumption) (by simp) rfl rfl ?_
    refine z_hx (fun h2 p2 g2 => ?_)
    refine z_goto (tgt := 19) dLaw_forth_10 (by decide) ?_
    refine z_iconst dLaw_forth_19 ?_
    refine z_iret rfl rfl dLaw_forth_20 ?_
    exact zQw.ok e9 H9 F9 hn p2 g2
theorem xE_back {c : Int} {E : String} (h : sp_back S c = (.inr E, S')) : E = zE1 ∨ E = zE3 := by
  unfold sp_back at h
  (try simp only [spPut, spTake, spBec, spRef] at h)
  (repeat' split at h)
  all_goals first
    | exact Or.inl (Sum.inr.inj (Prod.mk.inj h).1).symm
    | exact Or.inr ((Sum.inr.inj (Prod.mk.inj h).1).symm)
    | exact absurd (Prod.mk.inj h).1 (by simp)
theorem k_Law_back {c : Int} (hO : zOk S) (hC : zCls G h ad S) (z_c : zI32 c) {ou : Nat} {n0 : Int} {sv : Value} (eo : h ou = some (.inr (zkOut, [zl (zwd n0), sv]))) (hn : ∀ i, i < 20 → ou ≠ ad i) : zMW G l hLaw_back yLaw_back 10 [.ref (ad 0), zi c, .ref ou] h (zQw G ad ou h (1) (9) (2) (sp_back S c)) zNo 6 36 := by
  refine zMW.of [some (.ref (ad 0)), some (zi c), some (.ref ou), none] (by decide +kernel) rfl (by decide) (Nat.le_of_ble_eq_true rfl) rfl ?_
  refine z_aload_n dLaw_back_0 rfl ?_
  refine z_aload_n dLaw_back_1 rfl ?_
  refine z_iload_n dLaw_back_2 rfl ?_
  refine z_callV (bc' := 0) (bs' := 0) MV_Cls_back lk_Law_117 dLaw_back_3 (k_Cls_back hO hC z_c) rfl rfl (Nat.le_of_ble_eq_true rfl) rfl hC.2.1 (Nat.le_of_ble_eq_true rfl) (Nat.le_of_ble_eq_true rfl) (by decide) (by decide) (fun E h1 q9 => ?_) ?_
  · obtain ⟨S9, e9, H9, F9⟩ := q9
    rcases xE_back e9 with rfl | rfl
    · refine z_catch (a := 0) (b := 10) (hp := 13) (ct := 19) [] [(0, 10, 16, 115)] rfl (fun z hz => nomatch hz) (by decide) (by decide) wl_zE1 wk_zE1 (fun qx => ?_)
      refine z_astore_n dLaw_back_13 (Nat.le_of_ble_eq_true rfl) ?_
      refine z_iconst dLaw_back_14 ?_
      refine z_iret rfl rfl dLaw_back_15 ?_
      exact zQw.tw e9 H9 F9 eo hn (Or.inl ⟨rfl, rfl⟩)
    · refine z_catch (a := 0) (b := 10) (hp := 16) (ct := 115) [(0, 10, 13, 19)] [] rfl (by intro z hz; simp only [List.mem_cons, List.not_mem_nil, or_false] at hz; rcases hz with rfl <;> first | exact ⟨by decide, _, wl_zE1, by decide⟩) (by decide) (by decide) wl_zE3 wk_zE3 (fun qx => ?_)
      refine z_astore_n dLaw_back_16 (Nat.le_of_ble_eq_true rfl) ?_
      refine z_iconst dLaw_back_17 ?_
      refine z_iret rfl rfl dLaw_back_18 ?_
      exact zQw.tw e9 H9 F9 eo hn (Or.inr (Or.inr ⟨rfl, rfl⟩))
  · rintro _ h1 ⟨z, S9, e9, rfl, H9, F9⟩
    have eo1 := (F9 ou hn).trans eo
    rw [zwd_i z]
    refine z_i2l (zwd_r z) dLaw_back_6 ?_
    refine z_putN (k := 0) fd_Out (by decide) fl_Law_13 rfl dLaw_back_7 (by assumption) (by simp) rfl rfl ?_
    refine z_hx (fun h2 p2 g2 => ?_)
    refine z_goto (tgt := 19) dLaw_back_10 (by decide) ?_
    refine z_iconst dLaw_back_19 ?_
    refine z_iret rfl rfl dLaw_back_20 ?_
    exact zQw.ok e9 H9 F9 hn p2 g2
theorem xE_puts {c x : Int} {E : String} (h : sp_puts S c x = (.inr E, S')) : E = zE1 ∨ E = zE2 ∨ E = zE3 := by
  unfold sp_puts at h
  (try simp only [spPut, spTake, spBec, spRef] at h)
  (repeat' split at h)
  all_goals first
    | exact Or.inl (Sum.inr.inj (Prod.mk.inj h).1).symm
    | exact Or.inr (Or.inl (Sum.inr.inj (Prod.mk.inj h).1).symm)
    | exact Or.inr (Or.inr ((Sum.inr.inj (Prod.mk.inj h).1).symm))
    | exact absurd (Prod.mk.inj h).1 (by simp)
theorem k_Law_puts {c x : Int} (hO : zOk S) (hC : zCls G h ad S) (z_c : zI32 c) (z_x : zI32 x) {ou : Nat} {n0 : Int} {sv : Value} (eo : h ou = some (.inr (zkOut, [zl (zwd n0), sv]))) (hn : ∀ i, i < 20 → ou ≠ ad i) : zMW G l hLaw_puts yLaw_puts 10 [.ref (ad 0), zi c, zi x, .ref ou] h (zQw G ad ou h (1) (2) (3) (sp_puts S c x)) zNo 6 36 := by
  refine zMW.of [some (.ref (ad 0)), some (zi c), some (zi x), some (.ref ou), none] (by decide +kernel) rfl (by decide) (Nat.le_of_ble_eq_true rfl) rfl ?_
  refine z_aload_n dLaw_puts_0 rfl ?_
  refine z_aload_n dLaw_puts_1 rfl ?_
  refine z_iload_n dLaw_puts_2 rfl ?_
  refine z_iload_n dLaw_puts_3 rfl ?_
  refine z_callV (bc' := 0) (bs' := 0) MV_Cls_puts lk_Law_120 dLaw_puts_4 (k_Cls_puts hO hC z_c z_x) rfl rfl (Nat.le_of_ble_eq_true rfl) rfl hC.2.1 (Nat.le_of_ble_eq_true rfl) (Nat.le_of_ble_eq_true rfl) (by decide) (by decide) (fun E h1 q9 => ?_) ?_
  · obtain ⟨S9, e9, H9, F9⟩ := q9
    rcases xE_puts e9 with rfl | rfl | rfl
    · refine z_catch (a := 0) (b := 11) (hp := 14) (ct := 19) [] [(0, 11, 18, 21), (0, 11, 22, 115)] rfl (fun z hz => nomatch hz) (by decide) (by decide) wl_zE1 wk_zE1 (fun qx => ?_)
      refine z_astore dLaw_puts_14 (Nat.le_of_ble_eq_true rfl) ?_
      refine z_iconst dLaw_puts_16 ?_
      refine z_iret rfl rfl dLaw_puts_17 ?_
      exact zQw.tw e9 H9 F9 eo hn (Or.inl ⟨rfl, rfl⟩)
    · refine z_catch (a := 0) (b := 11) (hp := 18) (ct := 21) [(0, 11, 14, 19)] [(0, 11, 22, 115)] rfl (by intro z hz; simp only [List.mem_cons, List.not_mem_nil, or_false] at hz; rcases hz with rfl <;> first | exact ⟨by decide, _, wl_zE1, by decide⟩) (by decide) (by decide) wl_zE2 wk_zE2 (fun qx => ?_)
      refine z_astore dLaw_puts_18 (Nat.le_of_ble_eq_true rfl) ?_
      refine z_iconst dLaw_puts_20 ?_
      refine z_iret rfl rfl dLaw_puts_21 ?_
      exact zQw.tw e9 H9 F9 eo hn (Or.inr (Or.inl ⟨rfl, rfl⟩))
    · refine z_catch (a := 0) (b := 11) (hp := 22) (ct := 115) [(0, 11, 14, 19), (0, 11, 18, 21)] [] rfl (by intro z hz; simp only [List.mem_cons, List.not_mem_nil, or_false] at hz; rcases hz with rfl | rfl <;> first | exact ⟨by decide, _, wl_zE1, by decide⟩ | exact ⟨by decide, _, wl_zE2, by decide⟩) (by decide) (by decide) wl_zE3 wk_zE3 (fun qx => ?_)
      refine z_astore dLaw_puts_22 (Nat.le_of_ble_eq_true rfl) ?_
      refine z_iconst dLaw_puts_24 ?_
      refine z_iret rfl rfl dLaw_puts_25 ?_
      exact zQw.tw e9 H9 F9 eo hn (Or.inr (Or.inr ⟨rfl, rfl⟩))
  · rintro _ h1 ⟨z, S9, e9, rfl, H9, F9⟩
    have eo1 := (F9 ou hn).trans eo
    rw [zwd_i z]
    refine z_i2l (zwd_r z) dLaw_puts_7 ?_
    refine z_putN (k := 0) fd_Out (by decide) fl_Law_13 rfl dLaw_puts_8 (by assumption) (by simp) rfl rfl ?_
    refine z_hx (fun h2 p2 g2 => ?_)
    refine z_goto (tgt := 26) dLaw_puts_11 (by decide) ?_
    refine z_iconst dLaw_puts_26 ?_
    refine z_iret rfl rfl dLaw_puts_27 ?_
    exact zQw.ok e9 H9 F9 hn p2 g2
theorem xE_cuts {c : Int} {E : String} (h : sp_cuts S c = (.inr E, S')) : E = zE1 ∨ E = zE3 := by
  unfold sp_cuts at h
  (try simp only [spPut, spTake, spBec, spRef] at h)
  (repeat' split at h)
  all_goals first
    | exact Or.inl (Sum.inr.inj (Prod.mk.inj h).1).symm
    | exact Or.inr ((Sum.inr.inj (Prod.mk.inj h).1).symm)
    | exact absurd (Prod.mk.inj h).1 (by simp)
theorem k_Law_cuts {c : Int} (hO : zOk S) (hC : zCls G h ad S) (z_c : zI32 c) {ou : Nat} {n0 : Int} {sv : Value} (eo : h ou = some (.inr (zkOut, [zl (zwd n0), sv]))) (hn : ∀ i, i < 20 → ou ≠ ad i) : zMW G l hLaw_cuts yLaw_cuts 10 [.ref (ad 0), zi c, .ref ou] h (zQw G ad ou h (1) (9) (2) (sp_cuts S c)) zNo 6 36 := by
  refine zMW.of [some (.ref (ad 0)), some (zi c), some (.ref ou), none] (by decide +kernel) rfl (by decide) (Nat.le_of_ble_eq_true rfl) rfl ?_
  refine z_aload_n dLaw_cuts_0 rfl ?_
  refine z_aload_n dLaw_cuts_1 rfl ?_
  refine z_iload_n dLaw_cuts_2 rfl ?_
  refine z_callV (bc' := 0) (bs' := 0) MV_Cls_cuts lk_Law_123 dLaw_cuts_3 (k_Cls_cuts hO hC z_c) rfl rfl (Nat.le_of_ble_eq_true rfl) rfl hC.2.1 (Nat.le_of_ble_eq_true rfl) (Nat.le_of_ble_eq_true rfl) (by decide) (by decide) (fun E h1 q9 => ?_) ?_
  · obtain ⟨S9, e9, H9, F9⟩ := q9
    rcases xE_cuts e9 with rfl | rfl
    · refine z_catch (a := 0) (b := 10) (hp := 13) (ct := 19) [] [(0, 10, 16, 115)] rfl (fun z hz => nomatch hz) (by decide) (by decide) wl_zE1 wk_zE1 (fun qx => ?_)
      refine z_astore_n dLaw_cuts_13 (Nat.le_of_ble_eq_true rfl) ?_
      refine z_iconst dLaw_cuts_14 ?_
      refine z_iret rfl rfl dLaw_cuts_15 ?_
      exact zQw.tw e9 H9 F9 eo hn (Or.inl ⟨rfl, rfl⟩)
    · refine z_catch (a := 0) (b := 10) (hp := 16) (ct := 115) [(0, 10, 13, 19)] [] rfl (by intro z hz; simp only [List.mem_cons, List.not_mem_nil, or_false] at hz; rcases hz with rfl <;> first | exact ⟨by decide, _, wl_zE1, by decide⟩) (by decide) (by decide) wl_zE3 wk_zE3 (fun qx => ?_)
      refine z_astore_n dLaw_cuts_16 (Nat.le_of_ble_eq_true rfl) ?_
      refine z_iconst dLaw_cuts_17 ?_
      refine z_iret rfl rfl dLaw_cuts_18 ?_
      exact zQw.tw e9 H9 F9 eo hn (Or.inr (Or.inr ⟨rfl, rfl⟩))
  · rintro _ h1 ⟨z, S9, e9, rfl, H9, F9⟩
    have eo1 := (F9 ou hn).trans eo
    rw [zwd_i z]
    refine z_i2l (zwd_r z) dLaw_cuts_6 ?_
    refine z_putN (k := 0) fd_Out (by decide) fl_Law_13 rfl dLaw_cuts_7 (by assumption) (by simp) rfl rfl ?_
    refine z_hx (fun h2 p2 g2 => ?_)
    refine z_goto (tgt := 19) dLaw_cuts_10 (by decide) ?_
    refine z_iconst dLaw_cuts_19 ?_
    refine z_iret rfl rfl dLaw_cuts_20 ?_
    exact zQw.ok e9 H9 F9 hn p2 g2
theorem xE_changes {c x : Int} {E : String} (h : sp_changes S c x = (.inr E, S')) : E = zE1 ∨ E = zE2 ∨ E = zE3 := by
  unfold sp_changes at h
  (try simp only [spPut, spTake, spBec, spRef] at h)
  (repeat' split at h)
  all_goals first
    | exact Or.inl (Sum.inr.inj (Prod.mk.inj h).1).symm
    | exact Or.inr (Or.inl (Sum.inr.inj (Prod.mk.inj h).1).symm)
    | exact Or.inr (Or.inr ((Sum.inr.inj (Prod.mk.inj h).1).symm))
    | exact absurd (Prod.mk.inj h).1 (by simp)
theorem k_Law_changes {c x : Int} (hO : zOk S) (hC : zCls G h ad S) (z_c : zI32 c) (z_x : zI32 x) {ou : Nat} {n0 : Int} {sv : Value} (eo : h ou = some (.inr (zkOut, [zl (zwd n0), sv]))) (hn : ∀ i, i < 20 → ou ≠ ad i) : zMW G l hLaw_changes yLaw_changes 10 [.ref (ad 0), zi c, zi x, .ref ou] h (zQw G ad ou h (1) (2) (3) (sp_changes S c x)) zNo 6 36 := by
  refine zMW.of [some (.ref (ad 0)), some (zi c), some (zi x), some (.ref ou), none] (by decide +kernel) rfl (by decide) (Nat.le_of_ble_eq_true rfl) rfl ?_
  refine z_aload_n dLaw_changes_0 rfl ?_
  refine z_aload_n dLaw_changes_1 rfl ?_
  refine z_iload_n dLaw_changes_2 rfl ?_
  refine z_iload_n dLaw_changes_3 rfl ?_
  refine z_callV (bc' := 0) (bs' := 0) MV_Cls_changes lk_Law_126 dLaw_changes_4 (k_Cls_changes hO hC z_c z_x) rfl rfl (Nat.le_of_ble_eq_true rfl) rfl hC.2.1 (Nat.le_of_ble_eq_true rfl) (Nat.le_of_ble_eq_true rfl) (by decide) (by decide) (fun E h1 q9 => ?_) ?_
  · obtain ⟨S9, e9, H9, F9⟩ := q9
    rcases xE_changes e9 with rfl | rfl | rfl
    · refine z_catch (a := 0) (b := 11) (hp := 14) (ct := 19) [] [(0, 11, 18, 21), (0, 11, 22, 115)] rfl (fun z hz => nomatch hz) (by decide) (by decide) wl_zE1 wk_zE1 (fun qx => ?_)
      refine z_astore dLaw_changes_14 (Nat.le_of_ble_eq_true rfl) ?_
      refine z_iconst dLaw_changes_16 ?_
      refine z_iret rfl rfl dLaw_changes_17 ?_
      exact zQw.tw e9 H9 F9 eo hn (Or.inl ⟨rfl, rfl⟩)
    · refine z_catch (a := 0) (b := 11) (hp := 18) (ct := 21) [(0, 11, 14, 19)] [(0, 11, 22, 115)] rfl (by intro z hz; simp only [List.mem_cons, List.not_mem_nil, or_false] at hz; rcases hz with rfl <;> first | exact ⟨by decide, _, wl_zE1, by decide⟩) (by decide) (by decide) wl_zE2 wk_zE2 (fun qx => ?_)
      refine z_astore dLaw_changes_18 (Nat.le_of_ble_eq_true rfl) ?_
      refine z_iconst dLaw_changes_20 ?_
      refine z_iret rfl rfl dLaw_changes_21 ?_
      exact zQw.tw e9 H9 F9 eo hn (Or.inr (Or.inl ⟨rfl, rfl⟩))
    · refine z_catch (a := 0) (b := 11) (hp := 22) (ct := 115) [(0, 11, 14, 19), (0, 11, 18, 21)] [] rfl (by intro z hz; simp only [List.mem_cons, List.not_mem_nil, or_false] at hz; rcases hz with rfl | rfl <;> first | exact ⟨by decide, _, wl_zE1, by decide⟩ | exact ⟨by decide, _, wl_zE2, by decide⟩) (by decide) (by decide) wl_zE3 wk_zE3 (fun qx => ?_)
      refine z_astore dLaw_changes_22 (Nat.le_of_ble_eq_true rfl) ?_
      refine z_iconst dLaw_changes_24 ?_
      refine z_iret rfl rfl dLaw_changes_25 ?_
      exact zQw.tw e9 H9 F9 eo hn (Or.inr (Or.inr ⟨rfl, rfl⟩))
  · rintro _ h1 ⟨z, S9, e9, rfl, H9, F9⟩
    have eo1 := (F9 ou hn).trans eo
    rw [zwd_i z]
    refine z_i2l (zwd_r z) dLaw_changes_7 ?_
    refine z_putN (k := 0) fd_Out (by decide) fl_Law_13 rfl dLaw_changes_8 (by assumption) (by simp) rfl rfl ?_
    refine z_hx (fun h2 p2 g2 => ?_)
    refine z_goto (tgt := 26) dLaw_changes_11 (by decide) ?_
    refine z_iconst dLaw_changes_26 ?_
    refine z_iret rfl rfl dLaw_changes_27 ?_
    exact zQw.ok e9 H9 F9 hn p2 g2
theorem xE_meet {c o : Int} {E : String} (h : sp_meet S c o = (.inr E, S')) : E = zE1 ∨ E = zE2 ∨ E = zE3 := by
  unfold sp_meet at h
  (try simp only [spPut, spTake, spBec, spRef] at h)
  (repeat' split at h)
  all_goals first
    | exact Or.inl (Sum.inr.inj (Prod.mk.inj h).1).symm
    | exact Or.inr (Or.inl (Sum.inr.inj (Prod.mk.inj h).1).symm)
    | exact Or.inr (Or.inr ((Sum.inr.inj (Prod.mk.inj h).1).symm))
    | exact absurd (Prod.mk.inj h).1 (by simp)
theorem k_Law_meet {c o : Int} (hO : zOk S) (hC : zCls G h ad S) (z_c : zI32 c) (z_o : zI32 o) {ou : Nat} {n0 : Int} {sv : Value} (eo : h ou = some (.inr (zkOut, [zl (zwd n0), sv]))) (hn : ∀ i, i < 20 → ou ≠ ad i) : zMW G l hLaw_meet yLaw_meet 10 [.ref (ad 0), zi c, zi o, .ref ou] h (zQw G ad ou h (1) (2) (3) (sp_meet S c o)) zNo 6 36 := by
  refine zMW.of [some (.ref (ad 0)), some (zi c), some (zi o), some (.ref ou), none] (by decide +kernel) rfl (by decide) (Nat.le_of_ble_eq_true rfl) rfl ?_
  refine z_aload_n dLaw_meet_0 rfl ?_
  refine z_aload_n dLaw_meet_1 rfl ?_
  refine z_iload_n dLaw_meet_2 rfl ?_
  refine z_iload_n dLaw_meet_3 rfl ?_
  refine z_callV (bc' := 0) (bs' := 0) MV_Cls_meet lk_Law_129 dLaw_meet_4 (k_Cls_meet hO hC z_c z_o) rfl rfl (Nat.le_of_ble_eq_true rfl) rfl hC.2.1 (Nat.le_of_ble_eq_true rfl) (Nat.le_of_ble_eq_true rfl) (by decide) (by decide) (fun E h1 q9 => ?_) ?_
  · obtain ⟨S9, e9, H9, F9⟩ := q9
    rcases xE_meet e9 with rfl | rfl | rfl
    · refine z_catch (a := 0) (b := 11) (hp := 14) (ct := 19) [] [(0, 11, 18, 21), (0, 11, 22, 115)] rfl (fun z hz => nomatch hz) (by decide) (by decide) wl_zE1 wk_zE1 (fun qx => ?_)
      refine z_astore dLaw_meet_14 (Nat.le_of_ble_eq_true rfl) ?_
      refine z_iconst dLaw_meet_16 ?_
      refine z_iret rfl rfl dLaw_meet_17 ?_
      exact zQw.tw e9 H9 F9 eo hn (Or.inl ⟨rfl, rfl⟩)
    · refine z_catch (a := 0) (b := 11) (hp := 18) (ct := 21) [(0, 11, 14, 19)] [(0, 11, 22, 115)] rfl (by intro z hz; simp only [List.mem_cons, List.not_mem_nil, or_false] at hz; rcases hz with rfl <;> first | exact ⟨by decide, _, wl_zE1, by decide⟩) (by decide) (by decide) wl_zE2 wk_zE2 (fun qx => ?_)
      refine z_astore dLaw_meet_18 (Nat.le_of_ble_eq_true rfl) ?_
      refine z_iconst dLaw_meet_20 ?_
      refine z_iret rfl rfl dLaw_meet_21 ?_
      exact zQw.tw e9 H9 F9 eo hn (Or.inr (Or.inl ⟨rfl, rfl⟩))
    · refine z_catch (a := 0) (b := 11) (hp := 22) (ct := 115) [(0, 11, 14, 19), (0, 11, 18, 21)] [] rfl (by intro z hz; simp only [List.mem_cons, List.not_mem_nil, or_false] at hz; rcases hz with rfl | rfl <;> first | exact ⟨by decide, _, wl_zE1, by decide⟩ | exact ⟨by decide, _, wl_zE2, by decide⟩) (by decide) (by decide) wl_zE3 wk_zE3 (fun qx => ?_)
      refine z_astore dLaw_meet_22 (Nat.le_of_ble_eq_true rfl) ?_
      refine z_iconst dLaw_meet_24 ?_
      refine z_iret rfl rfl dLaw_meet_25 ?_
      exact zQw.tw e9 H9 F9 eo hn (Or.inr (Or.inr ⟨rfl, rfl⟩))
  · rintro _ h1 ⟨z, S9, e9, rfl, H9, F9⟩
    have eo1 := (F9 ou hn).trans eo
    rw [zwd_i z]
    refine z_i2l (zwd_r z) dLaw_meet_7 ?_
    refine z_putN (k := 0) fd_Out (by decide) fl_Law_13 rfl dLaw_meet_8 (by assumption) (by simp) rfl rfl ?_
    refine z_hx (fun h2 p2 g2 => ?_)
    refine z_goto (tgt := 26) dLaw_meet_11 (by decide) ?_
    refine z_iconst dLaw_meet_26 ?_
    refine z_iret rfl rfl dLaw_meet_27 ?_
    exact zQw.ok e9 H9 F9 hn p2 g2
theorem xE_ofCursor {c w : Int} {E : String} (h : sp_ofCursor S c w = (.inr E, S')) : E = zE1 ∨ E = zE2 := by
  unfold sp_ofCursor at h
  (try simp only [spPut, spTake, spBec, spRef] at h)
  (repeat' split at h)
  all_goals first
    | exact Or.inl (Sum.inr.inj (Prod.mk.inj h).1).symm
    | exact Or.inr ((Sum.inr.inj (Prod.mk.inj h).1).symm)
    | exact absurd (Prod.mk.inj h).1 (by simp)
theorem k_Law_ofCursor {c w : Int} (hO : zOk S) (hC : zCls G h ad S) (z_c : zI32 c) (z_w : zI32 w) {ou : Nat} {n0 : Int} {sv : Value} (eo : h ou = some (.inr (zkOut, [zl (zwd n0), sv]))) (hn : ∀ i, i < 20 → ou ≠ ad i) : zMW G l hLaw_ofCursor yLaw_ofCursor 11 [.ref (ad 0), zi c, zi w, .ref ou] h (zQw G ad ou h (1) (2) (9) (sp_ofCursor S c w)) zNo 6 36 := by
  refine zMW.of [some (.ref (ad 0)), some (zi c), some (zi w), some (.ref ou), none] (by decide +kernel) rfl (by decide) (Nat.le_of_ble_eq_true rfl) rfl ?_
  refine z_aload_n dLaw_ofCursor_0 rfl ?_
  refine z_aload_n dLaw_ofCursor_1 rfl ?_
  refine z_iload_n dLaw_ofCursor_2 rfl ?_
  refine z_iload_n dLaw_ofCursor_3 rfl ?_
  refine z_callV (bc' := 0) (bs' := 0) MV_Cls_ofCursor lk_Law_132 dLaw_ofCursor_4 (k_Cls_ofCursor hO hC z_c z_w) rfl rfl (Nat.le_of_ble_eq_true rfl) rfl hC.2.1 (Nat.le_of_ble_eq_true rfl) (Nat.le_of_ble_eq_true rfl) (by decide) (by decide) (fun E h1 q9 => ?_) ?_
  · obtain ⟨S9, e9, H9, F9⟩ := q9
    rcases xE_ofCursor e9 with rfl | rfl
    · refine z_catch (a := 0) (b := 11) (hp := 14) (ct := 19) [] [(0, 11, 18, 21)] rfl (fun z hz => nomatch hz) (by decide) (by decide) wl_zE1 wk_zE1 (fun qx => ?_)
      refine z_astore dLaw_ofCursor_14 (Nat.le_of_ble_eq_true rfl) ?_
      refine z_iconst dLaw_ofCursor_16 ?_
      refine z_iret rfl rfl dLaw_ofCursor_17 ?_
      exact zQw.tw e9 H9 F9 eo hn (Or.inl ⟨rfl, rfl⟩)
    · refine z_catch (a := 0) (b := 11) (hp := 18) (ct := 21) [(0, 11, 14, 19)] [] rfl (by intro z hz; simp only [List.mem_cons, List.not_mem_nil, or_false] at hz; rcases hz with rfl <;> first | exact ⟨by decide, _, wl_zE1, by decide⟩) (by decide) (by decide) wl_zE2 wk_zE2 (fun qx => ?_)
      refine z_astore dLaw_ofCursor_18 (Nat.le_of_ble_eq_true rfl) ?_
      refine z_iconst dLaw_ofCursor_20 ?_
      refine z_iret rfl rfl dLaw_ofCursor_21 ?_
      exact zQw.tw e9 H9 F9 eo hn (Or.inr (Or.inl ⟨rfl, rfl⟩))
  · rintro _ h1 ⟨z, S9, e9, rfl, H9, F9⟩
    have eo1 := (F9 ou hn).trans eo
    rw [zwd_i z]
    refine z_i2l (zwd_r z) dLaw_ofCursor_7 ?_
    refine z_putN (k := 0) fd_Out (by decide) fl_Law_13 rfl dLaw_ofCursor_8 (by assumption) (by simp) rfl rfl ?_
    refine z_hx (fun h2 p2 g2 => ?_)
    refine z_goto (tgt := 22) dLaw_ofCursor_11 (by decide) ?_
    refine z_iconst dLaw_ofCursor_22 ?_
    refine z_iret rfl rfl dLaw_ofCursor_23 ?_
    exact zQw.ok e9 H9 F9 hn p2 g2
theorem xE_plus {p o : Int} {E : String} (h : sp_plus S p o = (.inr E, S')) : E = zE1 := by
  unfold sp_plus at h
  (try simp only [spPut, spTake, spBec, spRef] at h)
  (repeat' split at h)
  all_goals first
    | exact (Sum.inr.inj (Prod.mk.inj h).1).symm
    | exact absurd (Prod.mk.inj h).1 (by simp)
theorem k_Law_plus {p o : Int}  (hC : zCls G h ad S) (z_p : zI32 p) (z_o : zI32 o) {ou : Nat} {n0 : Int} {sv : Value} (eo : h ou = some (.inr (zkOut, [zl (zwd n0), sv]))) (hn : ∀ i, i < 20 → ou ≠ ad i) : zMW G l hLaw_plus yLaw_plus 10 [.ref (ad 0), zi p, zi o, .ref ou] h (zQw G ad ou h (1) (9) (9) (sp_plus S p o)) zNo 6 36 := by
  refine zMW.of [some (.ref (ad 0)), some (zi p), some (zi o), some (.ref ou), none] (by decide +kernel) rfl (by decide) (Nat.le_of_ble_eq_true rfl) rfl ?_
  refine z_aload_n dLaw_plus_0 rfl ?_
  refine z_aload_n dLaw_plus_1 rfl ?_
  refine z_iload_n dLaw_plus_2 rfl ?_
  refine z_iload_n dLaw_plus_3 rfl ?_
  refine z_callV (bc' := 0) (bs' := 0) MV_Cls_plus lk_Law_135 dLaw_plus_4 (k_Cls_plus hC z_p z_o) rfl rfl (Nat.le_of_ble_eq_true rfl) rfl hC.2.1 (Nat.le_of_ble_eq_true rfl) (Nat.le_of_ble_eq_true rfl) (by decide) (by decide) (fun E h1 q9 => ?_) ?_
  · obtain ⟨S9, e9, H9, F9⟩ := q9
    obtain rfl := xE_plus e9
    refine z_catch (a := 0) (b := 11) (hp := 14) (ct := 19) [] [] rfl (fun z hz => nomatch hz) (by decide) (by decide) wl_zE1 wk_zE1 (fun qx => ?_)
    refine z_astore dLaw_plus_14 (Nat.le_of_ble_eq_true rfl) ?_
    refine z_iconst dLaw_plus_16 ?_
    refine z_iret rfl rfl dLaw_plus_17 ?_
    exact zQw.tw e9 H9 F9 eo hn (Or.inl ⟨rfl, rfl⟩)
  · rintro _ h1 ⟨z, S9, e9, rfl, H9, F9⟩
    have eo1 := (F9 ou hn).trans eo
    rw [zwd_i z]
    refine z_i2l (zwd_r z) dLaw_plus_7 ?_
    refine z_putN (k := 0) fd_Out (by decide) fl_Law_13 rfl dLaw_plus_8 (by assumption) (by simp) rfl rfl ?_
    refine z_hx (fun h2 p2 g2 => ?_)
    refine z_goto (tgt := 18) dLaw_plus_11 (by decide) ?_
    refine z_iconst dLaw_plus_18 ?_
    refine z_iret rfl rfl dLaw_plus_19 ?_
    exact zQw.ok e9 H9 F9 hn p2 g2
theorem xE_times {p o : Int} {E : String} (h : sp_times S p o = (.inr E, S')) : E = zE1 := by
  unfold sp_times at h
  (try simp only [spPut, spTake, spBec, spRef] at h)
  (repeat' split at h)
  all_goals first
    | exact (Sum.inr.inj (Prod.mk.inj h).1).symm
    | exact absurd (Prod.mk.inj h).1 (by simp)
theorem k_Law_times {p o : Int}  (hC : zCls G h ad S) (z_p : zI32 p) (z_o : zI32 o) {ou : Nat} {n0 : Int} {sv : Value} (eo : h ou = some (.inr (zkOut, [zl (zwd n0), sv]))) (hn : ∀ i, i < 20 → ou ≠ ad i) : zMW G l hLaw_times yLaw_times 10 [.ref (ad 0), zi p, zi o, .ref ou] h (zQw G ad ou h (1) (9) (9) (sp_times S p o)) zNo 6 36 := by
  refine zMW.of [some (.ref (ad 0)), some (zi p), some (zi o), some (.ref ou), none] (by decide +kernel) rfl (by decide) (Nat.le_of_ble_eq_true rfl) rfl ?_
  refine z_aload_n dLaw_times_0 rfl ?_
  refine z_aload_n dLaw_times_1 rfl ?_
  refine z_iload_n dLaw_times_2 rfl ?_
  refine z_iload_n dLaw_times_3 rfl ?_
  refine z_callV (bc' := 0) (bs' := 0) MV_Cls_times lk_Law_138 dLaw_times_4 (k_Cls_times hC z_p z_o) rfl rfl (Nat.le_of_ble_eq_true rfl) rfl hC.2.1 (Nat.le_of_ble_eq_true rfl) (Nat.le_of_ble_eq_true rfl) (by decide) (by decide) (fun E h1 q9 => ?_) ?_
  · obtain ⟨S9, e9, H9, F9⟩ := q9
    obtain rfl := xE_times e9
    refine z_catch (a := 0) (b := 11) (hp := 14) (ct := 19) [] [] rfl (fun z hz => nomatch hz) (by decide) (by decide) wl_zE1 wk_zE1 (fun qx => ?_)
    refine z_astore dLaw_times_14 (Nat.le_of_ble_eq_true rfl) ?_
    refine z_iconst dLaw_times_16 ?_
    refine z_iret rfl rfl dLaw_times_17 ?_
    exact zQw.tw e9 H9 F9 eo hn (Or.inl ⟨rfl, rfl⟩)
  · rintro _ h1 ⟨z, S9, e9, rfl, H9, F9⟩
    have eo1 := (F9 ou hn).trans eo
    rw [zwd_i z]
    refine z_i2l (zwd_r z) dLaw_times_7 ?_
    refine z_putN (k := 0) fd_Out (by decide) fl_Law_13 rfl dLaw_times_8 (by assumption) (by simp) rfl rfl ?_
    refine z_hx (fun h2 p2 g2 => ?_)
    refine z_goto (tgt := 18) dLaw_times_11 (by decide) ?_
    refine z_iconst dLaw_times_18 ?_
    refine z_iret rfl rfl dLaw_times_19 ?_
    exact zQw.ok e9 H9 F9 hn p2 g2
theorem xE_shift {p : Int} {E : String} (h : sp_shift S p = (.inr E, S')) : E = zE1 := by
  unfold sp_shift at h
  (try simp only [spPut, spTake, spBec, spRef] at h)
  (repeat' split at h)
  all_goals first
    | exact (Sum.inr.inj (Prod.mk.inj h).1).symm
    | exact absurd (Prod.mk.inj h).1 (by simp)
theorem k_Law_shift {p : Int}  (hC : zCls G h ad S) (z_p : zI32 p) {ou : Nat} {n0 : Int} {sv : Value} (eo : h ou = some (.inr (zkOut, [zl (zwd n0), sv]))) (hn : ∀ i, i < 20 → ou ≠ ad i) : zMW G l hLaw_shift yLaw_shift 10 [.ref (ad 0), zi p, .ref ou] h (zQw G ad ou h (1) (9) (9) (sp_shift S p)) zNo 6 36 := by
  refine zMW.of [some (.ref (ad 0)), some (zi p), some (.ref ou), none] (by decide +kernel) rfl (by decide) (Nat.le_of_ble_eq_true rfl) rfl ?_
  refine z_aload_n dLaw_shift_0 rfl ?_
  refine z_aload_n dLaw_shift_1 rfl ?_
  refine z_iload_n dLaw_shift_2 rfl ?_
  refine z_callV (bc' := 0) (bs' := 0) MV_Cls_shift lk_Law_141 dLaw_shift_3 (k_Cls_shift hC z_p) rfl rfl (Nat.le_of_ble_eq_true rfl) rfl hC.2.1 (Nat.le_of_ble_eq_true rfl) (Nat.le_of_ble_eq_true rfl) (by decide) (by decide) (fun E h1 q9 => ?_) ?_
  · obtain ⟨S9, e9, H9, F9⟩ := q9
    obtain rfl := xE_shift e9
    refine z_catch (a := 0) (b := 10) (hp := 13) (ct := 19) [] [] rfl (fun z hz => nomatch hz) (by decide) (by decide) wl_zE1 wk_zE1 (fun qx => ?_)
    refine z_astore_n dLaw_shift_13 (Nat.le_of_ble_eq_true rfl) ?_
    refine z_iconst dLaw_shift_14 ?_
    refine z_iret rfl rfl dLaw_shift_15 ?_
    exact zQw.tw e9 H9 F9 eo hn (Or.inl ⟨rfl, rfl⟩)
  · rintro _ h1 ⟨z, S9, e9, rfl, H9, F9⟩
    have eo1 := (F9 ou hn).trans eo
    rw [zwd_i z]
    refine z_i2l (zwd_r z) dLaw_shift_6 ?_
    refine z_putN (k := 0) fd_Out (by decide) fl_Law_13 rfl dLaw_shift_7 (by assumption) (by simp) rfl rfl ?_
    refine z_hx (fun h2 p2 g2 => ?_)
    refine z_goto (tgt := 16) dLaw_shift_10 (by decide) ?_
    refine z_iconst dLaw_shift_16 ?_
    refine z_iret rfl rfl dLaw_shift_17 ?_
    exact zQw.ok e9 H9 F9 hn p2 g2
theorem xE_trim {p : Int} {E : String} (h : sp_trim S p = (.inr E, S')) : E = zE1 := by
  unfold sp_trim at h
  (try simp only [spPut, spTake, spBec, spRef] at h)
  (repeat' split at h)
  all_goals first
    | exact (Sum.inr.inj (Prod.mk.inj h).1).symm
    | exact absurd (Prod.mk.inj h).1 (by simp)
theorem k_Law_trim {p : Int}  (hC : zCls G h ad S) (z_p : zI32 p) {ou : Nat} {n0 : Int} {sv : Value} (eo : h ou = some (.inr (zkOut, [zl (zwd n0), sv]))) (hn : ∀ i, i < 20 → ou ≠ ad i) : zMW G l hLaw_trim yLaw_trim 10 [.ref (ad 0), zi p, .ref ou] h (zQw G ad ou h (1) (9) (9) (sp_trim S p)) zNo 6 36 := by
  refine zMW.of [some (.ref (ad 0)), some (zi p), some (.ref ou), none] (by decide +kernel) rfl (by decide) (Nat.le_of_ble_eq_true rfl) rfl ?_
  refine z_aload_n dLaw_trim_0 rfl ?_
  refine z_aload_n dLaw_trim_1 rfl ?_
  refine z_iload_n dLaw_trim_2 rfl ?_
  refine z_callV (bc' := 0) (bs' := 0) MV_Cls_trim lk_Law_144 dLaw_trim_3 (k_Cls_trim hC z_p) rfl rfl (Nat.le_of_ble_eq_true rfl) rfl hC.2.1 (Nat.le_of_ble_eq_true rfl) (Nat.le_of_ble_eq_true rfl) (by decide) (by decide) (fun E h1 q9 => ?_) ?_
  · obtain ⟨S9, e9, H9, F9⟩ := q9
    obtain rfl := xE_trim e9
    refine z_catch (a := 0) (b := 10) (hp := 13) (ct := 19) [] [] rfl (fun z hz => nomatch hz) (by decide) (by decide) wl_zE1 wk_zE1 (fun qx => ?_)
    refine z_astore_n dLaw_trim_13 (Nat.le_of_ble_eq_true rfl) ?_
    refine z_iconst dLaw_trim_14 ?_
    refine z_iret rfl rfl dLaw_trim_15 ?_
    exact zQw.tw e9 H9 F9 eo hn (Or.inl ⟨rfl, rfl⟩)
  · rintro _ h1 ⟨z, S9, e9, rfl, H9, F9⟩
    have eo1 := (F9 ou hn).trans eo
    rw [zwd_i z]
    refine z_i2l (zwd_r z) dLaw_trim_6 ?_
    refine z_putN (k := 0) fd_Out (by decide) fl_Law_13 rfl dLaw_trim_7 (by assumption) (by simp) rfl rfl ?_
    refine z_hx (fun h2 p2 g2 => ?_)
    refine z_goto (tgt := 16) dLaw_trim_10 (by decide) ?_
    refine z_iconst dLaw_trim_16 ?_
    refine z_iret rfl rfl dLaw_trim_17 ?_
    exact zQw.ok e9 H9 F9 hn p2 g2
theorem xE_derive {p : Int} {E : String} (h : sp_derive S p = (.inr E, S')) : E = zE1 := by
  unfold sp_derive at h
  (try simp only [spPut, spTake, spBec, spRef] at h)
  (repeat' split at h)
  all_goals first
    | exact (Sum.inr.inj (Prod.mk.inj h).1).symm
    | exact absurd (Prod.mk.inj h).1 (by simp)
theorem k_Law_derive {p : Int}  (hC : zCls G h ad S) (z_p : zI32 p) {ou : Nat} {n0 : Int} {sv : Value} (eo : h ou = some (.inr (zkOut, [zl (zwd n0), sv]))) (hn : ∀ i, i < 20 → ou ≠ ad i) : zMW G l hLaw_derive yLaw_derive 10 [.ref (ad 0), zi p, .ref ou] h (zQw G ad ou h (1) (9) (9) (sp_derive S p)) zNo 6 36 := by
  refine zMW.of [some (.ref (ad 0)), some (zi p), some (.ref ou), none] (by decide +kernel) rfl (by decide) (Nat.le_of_ble_eq_true rfl) rfl ?_
  refine z_aload_n dLaw_derive_0 rfl ?_
  refine z_aload_n dLaw_derive_1 rfl ?_
  refine z_iload_n dLaw_derive_2 rfl ?_
  refine z_callV (bc' := 0) (bs' := 0) MV_Cls_derive lk_Law_147 dLaw_derive_3 (k_Cls_derive hC z_p) rfl rfl (Nat.le_of_ble_eq_true rfl) rfl hC.2.1 (Nat.le_of_ble_eq_true rfl) (Nat.le_of_ble_eq_true rfl) (by decide) (by decide) (fun E h1 q9 => ?_) ?_
  · obtain ⟨S9, e9, H9, F9⟩ := q9
    obtain rfl := xE_derive e9
    refine z_catch (a := 0) (b := 10) (hp := 13) (ct := 19) [] [] rfl (fun z hz => nomatch hz) (by decide) (by decide) wl_zE1 wk_zE1 (fun qx => ?_)
    refine z_astore_n dLaw_derive_13 (Nat.le_of_ble_eq_true rfl) ?_
    refine z_iconst dLaw_derive_14 ?_
    refine z_iret rfl rfl dLaw_derive_15 ?_
    exact zQw.tw e9 H9 F9 eo hn (Or.inl ⟨rfl, rfl⟩)
  · rintro _ h1 ⟨z, S9, e9, rfl, H9, F9⟩
    have eo1 := (F9 ou hn).trans eo
    rw [zwd_i z]
    refine z_i2l (zwd_r z) dLaw_derive_6 ?_
    refine z_putN (k := 0) fd_Out (by decide) fl_Law_13 rfl dLaw_derive_7 (by assumption) (by simp) rfl rfl ?_
    refine z_hx (fun h2 p2 g2 => ?_)
    refine z_goto (tgt := 16) dLaw_derive_10 (by decide) ?_
    refine z_iconst dLaw_derive_16 ?_
    refine z_iret rfl rfl dLaw_derive_17 ?_
    exact zQw.ok e9 H9 F9 hn p2 g2
theorem xE_value {p x : Int} {E : String} (h : sp_value S p x = (.inr E, S')) : E = zE1 ∨ E = zE2 := by
  unfold sp_value at h
  (try simp only [spPut, spTake, spBec, spRef] at h)
  (repeat' split at h)
  all_goals first
    | exact Or.inl (Sum.inr.inj (Prod.mk.inj h).1).symm
    | exact Or.inr ((Sum.inr.inj (Prod.mk.inj h).1).symm)
    | exact absurd (Prod.mk.inj h).1 (by simp)
theorem k_Law_value {p x : Int}  (hC : zCls G h ad S) (z_p : zI32 p) (z_x : zI32 x) {ou : Nat} {n0 : Int} {sv : Value} (eo : h ou = some (.inr (zkOut, [zl (zwd n0), sv]))) (hn : ∀ i, i < 20 → ou ≠ ad i) : zMW G l hLaw_value yLaw_value 10 [.ref (ad 0), zi p, zi x, .ref ou] h (zQw G ad ou h (1) (2) (9) (sp_value S p x)) zNo 6 36 := by
  refine zMW.of [some (.ref (ad 0)), some (zi p), some (zi x), some (.ref ou), none] (by decide +kernel) rfl (by decide) (Nat.le_of_ble_eq_true rfl) rfl ?_
  refine z_aload_n dLaw_value_0 rfl ?_
  refine z_aload_n dLaw_value_1 rfl ?_
  refine z_iload_n dLaw_value_2 rfl ?_
  refine z_iload_n dLaw_value_3 rfl ?_
  refine z_callV (bc' := 0) (bs' := 0) MV_Cls_value lk_Law_150 dLaw_value_4 (k_Cls_value hC z_p z_x) rfl rfl (Nat.le_of_ble_eq_true rfl) rfl hC.2.1 (Nat.le_of_ble_eq_true rfl) (Nat.le_of_ble_eq_true rfl) (by decide) (by decide) (fun E h1 q9 => ?_) ?_
  · obtain ⟨S9, e9, H9, F9⟩ := q9
    rcases xE_value e9 with rfl | rfl
    · refine z_catch (a := 0) (b := 11) (hp := 14) (ct := 19) [] [(0, 11, 18, 21)] rfl (fun z hz => nomatch hz) (by decide) (by decide) wl_zE1 wk_zE1 (fun qx => ?_)
      refine z_astore dLaw_value_14 (Nat.le_of_ble_eq_true rfl) ?_
      refine z_iconst dLaw_value_16 ?_
      refine z_iret rfl rfl dLaw_value_17 ?_
      exact zQw.tw e9 H9 F9 eo hn (Or.inl ⟨rfl, rfl⟩)
    · refine z_catch (a := 0) (b := 11) (hp := 18) (ct := 21) [(0, 11, 14, 19)] [] rfl (by intro z hz; simp only [List.mem_cons, List.not_mem_nil, or_false] at hz; rcases hz with rfl <;> first | exact ⟨by decide, _, wl_zE1, by decide⟩) (by decide) (by decide) wl_zE2 wk_zE2 (fun qx => ?_)
      refine z_astore dLaw_value_18 (Nat.le_of_ble_eq_true rfl) ?_
      refine z_iconst dLaw_value_20 ?_
      refine z_iret rfl rfl dLaw_value_21 ?_
      exact zQw.tw e9 H9 F9 eo hn (Or.inr (Or.inl ⟨rfl, rfl⟩))
  · rintro _ h1 ⟨z, S9, e9, rfl, H9, F9⟩
    have eo1 := (F9 ou hn).trans eo
    rw [zwd_i z]
    refine z_i2l (zwd_r z) dLaw_value_7 ?_
    refine z_putN (k := 0) fd_Out (by decide) fl_Law_13 rfl dLaw_value_8 (by assumption) (by simp) rfl rfl ?_
    refine z_hx (fun h2 p2 g2 => ?_)
    refine z_goto (tgt := 22) dLaw_value_11 (by decide) ?_
    refine z_iconst dLaw_value_22 ?_
    refine z_iret rfl rfl dLaw_value_23 ?_
    exact zQw.ok e9 H9 F9 hn p2 g2
theorem xE_degree {p : Int} {E : String} (h : sp_degree S p = (.inr E, S')) : E = zE1 := by
  unfold sp_degree at h
  (try simp only [spPut, spTake, spBec, spRef] at h)
  (repeat' split at h)
  all_goals first
    | exact (Sum.inr.inj (Prod.mk.inj h).1).symm
    | exact absurd (Prod.mk.inj h).1 (by simp)
theorem k_Law_degree {p : Int}  (hC : zCls G h ad S) (z_p : zI32 p) {ou : Nat} {n0 : Int} {sv : Value} (eo : h ou = some (.inr (zkOut, [zl (zwd n0), sv]))) (hn : ∀ i, i < 20 → ou ≠ ad i) : zMW G l hLaw_degree yLaw_degree 10 [.ref (ad 0), zi p, .ref ou] h (zQw G ad ou h (1) (9) (9) (sp_degree S p)) zNo 6 36 := by
  refine zMW.of [some (.ref (ad 0)), some (zi p), some (.ref ou), none] (by decide +kernel) rfl (by decide) (Nat.le_of_ble_eq_true rfl) rfl ?_
  refine z_aload_n dLaw_degree_0 rfl ?_
  refine z_aload_n dLaw_degree_1 rfl ?_
  refine z_iload_n dLaw_degree_2 rfl ?_
  refine z_callV (bc' := 0) (bs' := 0) MV_Cls_degree lk_Law_153 dLaw_degree_3 (k_Cls_degree hC z_p) rfl rfl (Nat.le_of_ble_eq_true rfl) rfl hC.2.1 (Nat.le_of_ble_eq_true rfl) (Nat.le_of_ble_eq_true rfl) (by decide) (by decide) (fun E h1 q9 => ?_) ?_
  · obtain ⟨S9, e9, H9, F9⟩ := q9
    obtain rfl := xE_degree e9
    refine z_catch (a := 0) (b := 10) (hp := 13) (ct := 19) [] [] rfl (fun z hz => nomatch hz) (by decide) (by decide) wl_zE1 wk_zE1 (fun qx => ?_)
    refine z_astore_n dLaw_degree_13 (Nat.le_of_ble_eq_true rfl) ?_
    refine z_iconst dLaw_degree_14 ?_
    refine z_iret rfl rfl dLaw_degree_15 ?_
    exact zQw.tw e9 H9 F9 eo hn (Or.inl ⟨rfl, rfl⟩)
  · rintro _ h1 ⟨z, S9, e9, rfl, H9, F9⟩
    have eo1 := (F9 ou hn).trans eo
    rw [zwd_i z]
    refine z_i2l (zwd_r z) dLaw_degree_6 ?_
    refine z_putN (k := 0) fd_Out (by decide) fl_Law_13 rfl dLaw_degree_7 (by assumption) (by simp) rfl rfl ?_
    refine z_hx (fun h2 p2 g2 => ?_)
    refine z_goto (tgt := 16) dLaw_degree_10 (by decide) ?_
    refine z_iconst dLaw_degree_16 ?_
    refine z_iret rfl rfl dLaw_degree_17 ?_
    exact zQw.ok e9 H9 F9 hn p2 g2
theorem xE_ask {key : Int} {E : String} (h : sp_ask S key = (.inr E, S')) : E = zE2 ∨ E = zE3 := by
  unfold sp_ask at h
  (try simp only [spPut, spTake, spBec, spRef] at h)
  (repeat' split at h)
  all_goals first
    | exact Or.inl (Sum.inr.inj (Prod.mk.inj h).1).symm
    | exact Or.inr ((Sum.inr.inj (Prod.mk.inj h).1).symm)
    | exact absurd (Prod.mk.inj h).1 (by simp)
theorem k_Law_ask {key : Int} (hO : zOk S) (hC : zCls G h ad S) (z_key : zI32 key) {ou : Nat} {n0 : Int} {sv : Value} (eo : h ou = some (.inr (zkOut, [zl (zwd n0), sv]))) (hn : ∀ i, i < 20 → ou ≠ ad i) : zMW G l hLaw_ask yLaw_ask 10 [.ref (ad 0), zi key, .ref ou] h (zQw G ad ou h (9) (1) (2) (sp_ask S key)) zNo 6 36 := by
  refine zMW.of [some (.ref (ad 0)), some (zi key), some (.ref ou), none] (by decide +kernel) rfl (by decide) (Nat.le_of_ble_eq_true rfl) rfl ?_
  refine z_aload_n dLaw_ask_0 rfl ?_
  refine z_aload_n dLaw_ask_1 rfl ?_
  refine z_iload_n dLaw_ask_2 rfl ?_
  refine z_callV (bc' := 0) (bs' := 0) MV_Cls_ask lk_Law_156 dLaw_ask_3 (k_Cls_ask hO hC z_key) rfl rfl (Nat.le_of_ble_eq_true rfl) rfl hC.2.1 (Nat.le_of_ble_eq_true rfl) (Nat.le_of_ble_eq_true rfl) (by decide) (by decide) (fun E h1 q9 => ?_) ?_
  · obtain ⟨S9, e9, H9, F9⟩ := q9
    rcases xE_ask e9 with rfl | rfl
    · refine z_catch (a := 0) (b := 10) (hp := 13) (ct := 21) [] [(0, 10, 16, 115)] rfl (fun z hz => nomatch hz) (by decide) (by decide) wl_zE2 wk_zE2 (fun qx => ?_)
      refine z_astore_n dLaw_ask_13 (Nat.le_of_ble_eq_true rfl) ?_
      refine z_iconst dLaw_ask_14 ?_
      refine z_iret rfl rfl dLaw_ask_15 ?_
      exact zQw.tw e9 H9 F9 eo hn (Or.inr (Or.inl ⟨rfl, rfl⟩))
    · refine z_catch (a := 0) (b := 10) (hp := 16) (ct := 115) [(0, 10, 13, 21)] [] rfl (by intro z hz; simp only [List.mem_cons, List.not_mem_nil, or_false] at hz; rcases hz with rfl <;> first | exact ⟨by decide, _, wl_zE2, by decide⟩) (by decide) (by decide) wl_zE3 wk_zE3 (fun qx => ?_)
      refine z_astore_n dLaw_ask_16 (Nat.le_of_ble_eq_true rfl) ?_
      refine z_iconst dLaw_ask_17 ?_
      refine z_iret rfl rfl dLaw_ask_18 ?_
      exact zQw.tw e9 H9 F9 eo hn (Or.inr (Or.inr ⟨rfl, rfl⟩))
  · rintro _ h1 ⟨z, S9, e9, rfl, H9, F9⟩
    have eo1 := (F9 ou hn).trans eo
    rw [zwd_i z]
    refine z_i2l (zwd_r z) dLaw_ask_6 ?_
    refine z_putN (k := 0) fd_Out (by decide) fl_Law_13 rfl dLaw_ask_7 (by assumption) (by simp) rfl rfl ?_
    refine z_hx (fun h2 p2 g2 => ?_)
    refine z_goto (tgt := 19) dLaw_ask_10 (by decide) ?_
    refine z_iconst dLaw_ask_19 ?_
    refine z_iret rfl rfl dLaw_ask_20 ?_
    exact zQw.ok e9 H9 F9 hn p2 g2
theorem xE_asked {w : Int} {E : String} (h : sp_asked S w = (.inr E, S')) : E = zE2 := by
  unfold sp_asked at h
  (try simp only [spPut, spTake, spBec, spRef] at h)
  (repeat' split at h)
  all_goals first
    | exact (Sum.inr.inj (Prod.mk.inj h).1).symm
    | exact absurd (Prod.mk.inj h).1 (by simp)
theorem k_Law_asked {w : Int}  (hC : zCls G h ad S) (z_w : zI32 w) {ou : Nat} {n0 : Int} {sv : Value} (eo : h ou = some (.inr (zkOut, [zl (zwd n0), sv]))) (hn : ∀ i, i < 20 → ou ≠ ad i) : zMW G l hLaw_asked yLaw_asked 10 [.ref (ad 0), zi w, .ref ou] h (zQw G ad ou h (9) (1) (9) (sp_asked S w)) zNo 6 36 := by
  refine zMW.of [some (.ref (ad 0)), some (zi w), some (.ref ou), none] (by decide +kernel) rfl (by decide) (Nat.le_of_ble_eq_true rfl) rfl ?_
  refine z_aload_n dLaw_asked_0 rfl ?_
  refine z_aload_n dLaw_asked_1 rfl ?_
  refine z_iload_n dLaw_asked_2 rfl ?_
  refine z_callV (bc' := 0) (bs' := 0) MV_Cls_asked lk_Law_159 dLaw_asked_3 (k_Cls_asked hC z_w) rfl rfl (Nat.le_of_ble_eq_true rfl) rfl hC.2.1 (Nat.le_of_ble_eq_true rfl) (Nat.le_of_ble_eq_true rfl) (by decide) (by decide) (fun E h1 q9 => ?_) ?_
  · obtain ⟨S9, e9, H9, F9⟩ := q9
    obtain rfl := xE_asked e9
    refine z_catch (a := 0) (b := 10) (hp := 13) (ct := 21) [] [] rfl (fun z hz => nomatch hz) (by decide) (by decide) wl_zE2 wk_zE2 (fun qx => ?_)
    refine z_astore_n dLaw_asked_13 (Nat.le_of_ble_eq_true rfl) ?_
    refine z_iconst dLaw_asked_14 ?_
    refine z_iret rfl rfl dLaw_asked_15 ?_
    exact zQw.tw e9 H9 F9 eo hn (Or.inr (Or.inl ⟨rfl, rfl⟩))
  · rintro _ h1 ⟨z, S9, e9, rfl, H9, F9⟩
    have eo1 := (F9 ou hn).trans eo
    rw [zwd_i z]
    refine z_i2l (zwd_r z) dLaw_asked_6 ?_
    refine z_putN (k := 0) fd_Out (by decide) fl_Law_13 rfl dLaw_asked_7 (by assumption) (by simp) rfl rfl ?_
    refine z_hx (fun h2 p2 g2 => ?_)
    refine z_goto (tgt := 16) dLaw_asked_10 (by decide) ?_
    refine z_iconst dLaw_asked_16 ?_
    refine z_iret rfl rfl dLaw_asked_17 ?_
    exact zQw.ok e9 H9 F9 hn p2 g2
theorem xE_byOrder {p w : Int} {E : String} (h : sp_byOrder S p w = (.inr E, S')) : E = zE1 ∨ E = zE2 := by
  unfold sp_byOrder at h
  (try simp only [spPut, spTake, spBec, spRef] at h)
  (repeat' split at h)
  all_goals first
    | exact Or.inl (Sum.inr.inj (Prod.mk.inj h).1).symm
    | exact Or.inr ((Sum.inr.inj (Prod.mk.inj h).1).symm)
    | exact absurd (Prod.mk.inj h).1 (by simp)
theorem k_Law_byOrder {p w : Int}  (hC : zCls G h ad S) (z_p : zI32 p) (z_w : zI32 w) {ou : Nat} {n0 : Int} {sv : Value} (eo : h ou = some (.inr (zkOut, [zl (zwd n0), sv]))) (hn : ∀ i, i < 20 → ou ≠ ad i) : zMW G l hLaw_byOrder yLaw_byOrder 10 [.ref (ad 0), zi p, zi w, .ref ou] h (zQw G ad ou h (1) (2) (9) (sp_byOrder S p w)) zNo 6 36 := by
  refine zMW.of [some (.ref (ad 0)), some (zi p), some (zi w), some (.ref ou), none] (by decide +kernel) rfl (by decide) (Nat.le_of_ble_eq_true rfl) rfl ?_
  refine z_aload_n dLaw_byOrder_0 rfl ?_
  refine z_aload_n dLaw_byOrder_1 rfl ?_
  refine z_iload_n dLaw_byOrder_2 rfl ?_
  refine z_iload_n dLaw_byOrder_3 rfl ?_
  refine z_callV (bc' := 0) (bs' := 0) MV_Cls_byOrder lk_Law_162 dLaw_byOrder_4 (k_Cls_byOrder hC z_p z_w) rfl rfl (Nat.le_of_ble_eq_true rfl) rfl hC.2.1 (Nat.le_of_ble_eq_true rfl) (Nat.le_of_ble_eq_true rfl) (by decide) (by decide) (fun E h1 q9 => ?_) ?_
  · obtain ⟨S9, e9, H9, F9⟩ := q9
    rcases xE_byOrder e9 with rfl | rfl
    · refine z_catch (a := 0) (b := 11) (hp := 14) (ct := 19) [] [(0, 11, 18, 21)] rfl (fun z hz => nomatch hz) (by decide) (by decide) wl_zE1 wk_zE1 (fun qx => ?_)
      refine z_astore dLaw_byOrder_14 (Nat.le_of_ble_eq_true rfl) ?_
      refine z_iconst dLaw_byOrder_16 ?_
      refine z_iret rfl rfl dLaw_byOrder_17 ?_
      exact zQw.tw e9 H9 F9 eo hn (Or.inl ⟨rfl, rfl⟩)
    · refine z_catch (a := 0) (b := 11) (hp := 18) (ct := 21) [(0, 11, 14, 19)] [] rfl (by intro z hz; simp only [List.mem_cons, List.not_mem_nil, or_false] at hz; rcases hz with rfl <;> first | exact ⟨by decide, _, wl_zE1, by decide⟩) (by decide) (by decide) wl_zE2 wk_zE2 (fun qx => ?_)
      refine z_astore dLaw_byOrder_18 (Nat.le_of_ble_eq_true rfl) ?_
      refine z_iconst dLaw_byOrder_20 ?_
      refine z_iret rfl rfl dLaw_byOrder_21 ?_
      exact zQw.tw e9 H9 F9 eo hn (Or.inr (Or.inl ⟨rfl, rfl⟩))
  · rintro _ h1 ⟨z, S9, e9, rfl, H9, F9⟩
    have eo1 := (F9 ou hn).trans eo
    rw [zwd_i z]
    refine z_i2l (zwd_r z) dLaw_byOrder_7 ?_
    refine z_putN (k := 0) fd_Out (by decide) fl_Law_13 rfl dLaw_byOrder_8 (by assumption) (by simp) rfl rfl ?_
    refine z_hx (fun h2 p2 g2 => ?_)
    refine z_goto (tgt := 22) dLaw_byOrder_11 (by decide) ?_
    refine z_iconst dLaw_byOrder_22 ?_
    refine z_iret rfl rfl dLaw_byOrder_23 ?_
    exact zQw.ok e9 H9 F9 hn p2 g2
theorem xE_house {w : Int} {E : String} (h : sp_house S w = (.inr E, S')) : E = zE2 := by
  unfold sp_house at h
  (try simp only [spPut, spTake, spBec, spRef] at h)
  (repeat' split at h)
  all_goals first
    | exact (Sum.inr.inj (Prod.mk.inj h).1).symm
    | exact absurd (Prod.mk.inj h).1 (by simp)
theorem k_Law_house {w : Int}  (hC : zCls G h ad S) (z_w : zI32 w) {ou : Nat} {n0 : Int} {sv : Value} (eo : h ou = some (.inr (zkOut, [zl (zwd n0), sv]))) (hn : ∀ i, i < 20 → ou ≠ ad i) : zMW G l hLaw_house yLaw_house 10 [.ref (ad 0), zi w, .ref ou] h (zQw G ad ou h (9) (1) (9) (sp_house S w)) zNo 6 36 := by
  refine zMW.of [some (.ref (ad 0)), some (zi w), some (.ref ou), none] (by decide +kernel) rfl (by decide) (Nat.le_of_ble_eq_true rfl) rfl ?_
  refine z_aload_n dLaw_house_0 rfl ?_
  refine z_aload_n dLaw_house_1 rfl ?_
  refine z_iload_n dLaw_house_2 rfl ?_
  refine z_callV (bc' := 0) (bs' := 0) MV_Cls_house lk_Law_165 dLaw_house_3 (k_Cls_house hC z_w) rfl rfl (Nat.le_of_ble_eq_true rfl) rfl hC.2.1 (Nat.le_of_ble_eq_true rfl) (Nat.le_of_ble_eq_true rfl) (by decide) (by decide) (fun E h1 q9 => ?_) ?_
  · obtain ⟨S9, e9, H9, F9⟩ := q9
    obtain rfl := xE_house e9
    refine z_catch (a := 0) (b := 10) (hp := 13) (ct := 21) [] [] rfl (fun z hz => nomatch hz) (by decide) (by decide) wl_zE2 wk_zE2 (fun qx => ?_)
    refine z_astore_n dLaw_house_13 (Nat.le_of_ble_eq_true rfl) ?_
    refine z_iconst dLaw_house_14 ?_
    refine z_iret rfl rfl dLaw_house_15 ?_
    exact zQw.tw e9 H9 F9 eo hn (Or.inr (Or.inl ⟨rfl, rfl⟩))
  · rintro _ h1 ⟨z, S9, e9, rfl, H9, F9⟩
    have eo1 := (F9 ou hn).trans eo
    rw [zwd_i z]
    refine z_i2l (zwd_r z) dLaw_house_6 ?_
    refine z_putN (k := 0) fd_Out (by decide) fl_Law_13 rfl dLaw_house_7 (by assumption) (by simp) rfl rfl ?_
    refine z_hx (fun h2 p2 g2 => ?_)
    refine z_goto (tgt := 16) dLaw_house_10 (by decide) ?_
    refine z_iconst dLaw_house_16 ?_
    refine z_iret rfl rfl dLaw_house_17 ?_
    exact zQw.ok e9 H9 F9 hn p2 g2
end LAW1
end
section
section PURE1
/-! ===== sums; the model's byOrder answers what the class's does ===== -/
theorem zSumN_congr {f g : Nat → Int} : ∀ {n : Nat}, (∀ i, i < n → f i = g i) → zSumN f n = zSumN g n
  | 0, _ => rfl
  | n + 1, h => by
    have ih := zSumN_congr (f := f) (g := g) (n := n) (fun i hi => h i (by omega))
    have hn := h n (by omega)
    unfold zSumN
    omega
theorem zSumN_add (f g : Nat → Int) : ∀ n, zSumN (fun i => f i + g i) n = zSumN f n + zSumN g n
  | 0 => rfl
  | n + 1 => by
    have ih := zSumN_add f g n
    unfold zSumN
    omega
theorem zSumN_sub (f g : Nat → Int) : ∀ n, zSumN (fun i => f i - g i) n = zSumN f n - zSumN g n
  | 0 => rfl
  | n + 1 => by
    have ih := zSumN_sub f g n
    unfold zSumN
    omega
theorem zSumN_mul (c : Int) (f : Nat → Int) : ∀ n, zSumN (fun i => c * f i) n = c * zSumN f n
  | 0 => by show (0 : Int) = c * 0; omega
  | n + 1 => by
    have ih := zSumN_mul c f n
    unfold zSumN
    rw [ih, Int.mul_add]
theorem zSumN_0 {f : Nat → Int} : ∀ {n : Nat}, (∀ i, i < n → f i = 0) → zSumN f n = 0
  | 0, _ => rfl
  | n + 1, h => by
    have ih := zSumN_0 (f := f) (n := n) (fun i hi => h i (by omega))
    have hn := h n (by omega)
    unfold zSumN
    omega
theorem zSumN_le {f g : Nat → Int} : ∀ {n : Nat}, (∀ i, i < n → f i ≤ g i) → zSumN f n ≤ zSumN g n
  | 0, _ => Int.le_refl _
  | n + 1, h => by
    have ih := zSumN_le (f := f) (g := g) (n := n) (fun i hi => h i (by omega))
    have hn := h n (by omega)
    unfold zSumN
    omega
theorem zSumN_swap (f : Nat → Nat → Int) (m : Nat) : ∀ n, zSumN (fun i => zSumN (fun j => f i j) m) n = zSumN (fun j => zSumN (fun i => f i j) n) m
  | 0 => (zSumN_0 (fun _ _ => rfl)).symm
  | n + 1 => by
    have ih := zSumN_swap f m n
    have e : zSumN (fun j => zSumN (fun i => f i j) n + f n j) m = zSumN (fun j => zSumN (fun i => f i j) n) m + zSumN (fun j => f n j) m := zSumN_add _ _ m
    show zSumN (fun i => zSumN (fun j => f i j) m) n + zSumN (fun j => f n j) m = zSumN (fun j => zSumN (fun i => f i j) n + f n j) m
    omega
theorem zSumN_delta (g : Nat → Int) (k : Nat) : ∀ n, zSumN (fun i => if k = i then g i else 0) n = if k < n then g k else 0
  | 0 => by rw [if_neg (by omega)]; rfl
  | n + 1 => by
    have ih := zSumN_delta g k n
    unfold zSumN
    rw [ih]
    by_cases e : k = n
    · subst e
      rw [if_neg (by omega), if_pos rfl, if_pos (by omega)]
      omega
    · rw [if_neg e]
      by_cases c : k < n
      · rw [if_pos c, if_pos (by omega)]; omega
      · rw [if_neg c, if_neg (by omega)]; omega
theorem zSumN_const (c : Int) : ∀ n : Nat, zSumN (fun _ => c) n = n * c
  | 0 => by show (0 : Int) = ((0 : Nat) : Int) * c; omega
  | n + 1 => by
    have ih := zSumN_const c n
    unfold zSumN
    rw [ih, Int.natCast_add, Int.add_mul]
    omega
/-- nothing negative that comes to nothing is nothing each time -/
theorem zSumN_all0 {f : Nat → Int} : ∀ {n : Nat}, (∀ i, i < n → 0 ≤ f i) → zSumN f n = 0 → ∀ i, i < n → f i = 0
  | 0, _, _, i, hi => absurd hi (by omega)
  | n + 1, h, e, i, hi => by
    have hs : 0 ≤ zSumN f n := by
      have h0 := zSumN_le (f := fun _ => 0) (g := f) (n := n) (fun i hi => h i (by omega))
      rw [zSumN_0 (fun _ _ => rfl)] at h0
      exact h0
    have hn := h n (by omega)
    unfold zSumN at e
    by_cases c : i = n
    · subst c; omega
    · exact zSumN_all0 (n := n) (fun i hi => h i (by omega)) (by omega) i (by omega)
theorem zSumN_most1 {pos : Nat → Nat} {i n : Nat} (h2 : ∀ j k, j < n → k < n → pos j = pos k → j = k) : ∀ m, m ≤ n → zSumN (fun k => if pos k = i then 1 else 0) m ≤ 1 ∧ ((∀ k, k < m → pos k ≠ i) → zSumN (fun k => if pos k = i then 1 else 0) m = 0)
  | 0, _ => ⟨by show (0 : Int) ≤ 1; omega, fun _ => rfl⟩
  | m + 1, hm => by
    have ih := zSumN_most1 (i := i) h2 m (by omega)
    unfold zSumN
    by_cases e : pos m = i
    · have h0 := ih.2 (fun k hk q => absurd (h2 k m (by omega) (by omega) (q.trans e.symm)) (by omega))
      rw [if_pos e]
      exact ⟨by omega, fun q => absurd e (q m (by omega))⟩
    · rw [if_neg e]
      refine ⟨by omega, fun q => ?_⟩
      have := ih.2 (fun k hk => q k (by omega))
      omega
/-- each place once: a sum over places is one over keys -/
theorem zSumN_place {n : Nat} {pos : Nat → Nat} (h1 : ∀ k, k < n → pos k < n) (h2 : ∀ j k, j < n → k < n → pos j = pos k → j = k) (f : Nat → Int) : zSumN f n = zSumN (fun k => f (pos k)) n := by
  have d : ∀ k, k < n → ∀ g : Nat → Int, zSumN (fun i => if pos k = i then g i else 0) n = g (pos k) := fun k hk g => by
    rw [zSumN_delta, if_pos (h1 k hk)]
  have c1 : ∀ i, zSumN (fun k => if pos k = i then 1 else 0) n ≤ 1 := fun i => (zSumN_most1 h2 n (Nat.le_refl n)).1
  have e1 : zSumN (fun i => zSumN (fun k => if pos k = i then (1 : Int) else 0) n) n = zSumN (fun k => zSumN (fun i => if pos k = i then (1 : Int) else 0) n) n := zSumN_swap (fun i k => if pos k = i then (1 : Int) else 0) n n
  have e2 : zSumN (fun k => zSumN (fun i => if pos k = i then (1 : Int) else 0) n) n = zSumN (fun _ => 1) n := zSumN_congr (fun k hk => d k hk (fun _ => 1))
  have e3 := zSumN_const 1 n
  have e4 : zSumN (fun i => 1 - zSumN (fun k => if pos k = i then (1 : Int) else 0) n) n = zSumN (fun _ => 1) n - zSumN (fun i => zSumN (fun k => if pos k = i then (1 : Int) else 0) n) n := zSumN_sub _ _ n
  have c0 := zSumN_all0 (f := fun i => 1 - zSumN (fun k => if pos k = i then (1 : Int) else 0) n) (n := n) (fun i _ => by have := c1 i; omega) (by omega)
  have e5 : zSumN f n = zSumN (fun i => zSumN (fun k => if pos k = i then f i else 0) n) n := zSumN_congr (fun i hi => by
    have e := c0 i hi
    have m1 : zSumN (fun k => f i * (if pos k = i then (1 : Int) else 0)) n = f i * zSumN (fun k => if pos k = i then (1 : Int) else 0) n := zSumN_mul (f i) _ n
    have m2 : zSumN (fun k => if pos k = i then f i else 0) n = zSumN (fun k => f i * (if pos k = i then (1 : Int) else 0)) n := zSumN_congr (fun k _ => by
      by_cases q : pos k = i
      · rw [if_pos q, if_pos q, Int.mul_one]
      · rw [if_neg q, if_neg q, Int.mul_zero])
    have m3 : zSumN (fun k => if pos k = i then (1 : Int) else 0) n = 1 := by omega
    rw [m2, m1, m3, Int.mul_one])
  have e6 : zSumN (fun i => zSumN (fun k => if pos k = i then f i else 0) n) n = zSumN (fun k => zSumN (fun i => if pos k = i then f i else 0) n) n := zSumN_swap (fun i k => if pos k = i then f i else 0) n n
  have e7 : zSumN (fun k => zSumN (fun i => if pos k = i then f i else 0) n) n = zSumN (fun k => f (pos k)) n := zSumN_congr (fun k hk => d k hk f)
  exact e5.trans (e6.trans e7)
/-! the places of the keys in an order -/
theorem zOrd_pos {L : List Int} (h8 : L.length = 8) (hf : ∀ k : Nat, k < 8 → zFind L k 0 ≠ -1) {k : Nat} (hk : k < 8) : (0 ≤ zFind L k 0 ∧ zFind L k 0 < 8) ∧ L.getD (zFind L k 0).toNat 0 = (k : Int) := by
  have h1 := zFind_in L k 0
  have h2 := hf k hk
  exact ⟨⟨by omega, by omega⟩, zFind_get (by omega)⟩
theorem zOrd_inj {L : List Int} (h8 : L.length = 8) (hf : ∀ k : Nat, k < 8 → zFind L k 0 ≠ -1) {j k : Nat} (hj : j < 8) (hk : k < 8) (e : zFind L j 0 = zFind L k 0) : j = k := by
  have h1 := (zOrd_pos h8 hf hj).2
  have h2 := (zOrd_pos h8 hf hk).2
  rw [e, h2] at h1
  omega
theorem zOrd_sum {L : List Int} (h8 : L.length = 8) (hf : ∀ k : Nat, k < 8 → zFind L k 0 ≠ -1) (f : Nat → Int) : zSumN f 8 = zSumN (fun k => f (zFind L k 0).toNat) 8 := by
  refine zSumN_place (fun k hk => ?_) (fun j k hj hk e => ?_) f
  · have := (zOrd_pos h8 hf hk).1; omega
  · have h1 := (zOrd_pos h8 hf hj).1
    have h2 := (zOrd_pos h8 hf hk).1
    exact zOrd_inj h8 hf hj hk (by omega)
theorem zC1_sum (L : List Int) (i : Nat) : ∀ n, zC1 L i n = zSumN (fun m => if i < m ∧ L.getD m 0 < L.getD i 0 then 1 else 0) n
  | 0 => rfl
  | n + 1 => by
    have ih := zC1_sum L i n
    unfold zC1 zSumN
    rw [ih]
theorem zC2_sum (L : List Int) : ∀ n, zC2 L n = zSumN (fun i => zC1 L i L.length) n
  | 0 => rfl
  | n + 1 => by
    have ih := zC2_sum L n
    unfold zC2 zSumN
    rw [ih]
theorem zB1_sum (L : List Int) (b : Nat) : ∀ n, zB1 L b n = zSumN (fun a => if zFind L b 0 < zFind L a 0 then 1 else 0) n
  | 0 => rfl
  | n + 1 => by
    have ih := zB1_sum L b n
    unfold zB1 zSumN
    rw [ih]
theorem zB2_sum (L : List Int) : ∀ n, zB2 L n = zSumN (fun b => zB1 L b b) n
  | 0 => rfl
  | n + 1 => by
    have ih := zB2_sum L n
    unfold zB2 zSumN
    rw [ih]
theorem zSumN_upto (f : Nat → Int) (b : Nat) : ∀ n, b ≤ n → zSumN (fun a => if a < b then f a else 0) n = zSumN f b
  | 0, h => by rw [show b = 0 by omega]; rfl
  | n + 1, h => by
    by_cases c : b = n + 1
    · subst c
      exact zSumN_congr (fun i hi => if_pos hi)
    · have ih := zSumN_upto f b n (by omega)
      show zSumN (fun a => if a < b then f a else 0) n + (if n < b then f n else 0) = zSumN f b
      rw [ih, if_neg (by omega)]
      omega
/-- the inversions, counted by places or by keys -/
theorem zB2_inv {L : List Int} (h8 : L.length = 8) (hf : ∀ k : Nat, k < 8 → zFind L k 0 ≠ -1) : zB2 L 8 = zInv L := by
  unfold zInv
  rw [zC2_sum, h8, zOrd_sum h8 hf, zB2_sum]
  refine zSumN_congr (fun b hb => ?_)
  rw [zC1_sum, zOrd_sum h8 hf, zB1_sum, ← zSumN_upto _ b 8 (by omega)]
  refine zSumN_congr (fun a ha => ?_)
  have pa := zOrd_pos h8 hf ha
  have pb := zOrd_pos h8 hf hb
  rw [pa.2, pb.2]
  by_cases c : a < b
  · rw [if_pos c]
    by_cases c2 : zFind L b 0 < zFind L a 0
    · have q : (zFind L b 0).toNat < (zFind L a 0).toNat ∧ (a : Int) < (b : Int) := ⟨by omega, by omega⟩
      rw [if_pos c2, if_pos q]
    · have q : ¬ ((zFind L b 0).toNat < (zFind L a 0).toNat ∧ (a : Int) < (b : Int)) := fun q => c2 (by omega)
      rw [if_neg c2, if_neg q]
  · have q : ¬ ((zFind L b 0).toNat < (zFind L a 0).toNat ∧ (a : Int) < (b : Int)) := fun q => c (by omega)
    rw [if_neg c, if_neg q]
/-! the cost, by the askings or by how often each key was asked -/
theorem zCost_0 {T : Nat → Int} {L : List Int} (hT : ∀ k, T k = 0) : ∀ n, zCost T L n = 0
  | 0 => rfl
  | n + 1 => by
    unfold zCost
    rw [zCost_0 hT n, hT n]
    omega
theorem zCost_hit {T T' : Nat → Int} {L : List Int} {x : Int} (hT : ∀ k : Nat, T' k = T k + (if (k : Int) = x then 1 else 0)) (h0 : 0 ≤ x) : ∀ n : Nat, zCost T' L n = zCost T L n + (if x < (n : Int) then zFind L x 0 + 1 else 0)
  | 0 => by rw [if_neg (by omega)]; rfl
  | n + 1 => by
    have ih := zCost_hit (L := L) hT h0 n
    unfold zCost
    rw [ih, hT n]
    by_cases e : (n : Int) = x
    · rw [if_neg (by omega), if_pos e, if_pos (by omega), Int.add_mul, e]
      omega
    · rw [if_neg e, Int.add_zero]
      by_cases c : x < (n : Int)
      · rw [if_pos c, if_pos (by omega)]; omega
      · rw [if_neg c, if_neg (by omega)]; omega
theorem zCost_app {A L : List Int} {x : Int} (hx : 0 ≤ x ∧ x ≤ 7) : zCost (zCntT (A ++ [x])) L 8 = zCost (zCntT A) L 8 + (zFind L x 0 + 1) := by
  rw [zCost_hit (T := zCntT A) (T' := zCntT (A ++ [x])) (x := x) (fun k => zCnt_app A x k) hx.1 8, if_pos (by omega)]
theorem zBc_cost {L A : List Int} (hA : ∀ j, j < A.length → 0 ≤ A.getD j 0 ∧ A.getD j 0 ≤ 7) : ∀ n, n ≤ A.length → zBc L A n = zCost (zCntT (A.take n)) L 8
  | 0, _ => (zCost_0 (fun k => by simp [zCntT, zCnt]) 8).symm
  | n + 1, h => by
    have ih := zBc_cost (L := L) hA n (by omega)
    have e : A.take (n + 1) = A.take n ++ [A.getD n 0] := by
      rw [List.take_succ, List.getD_eq_getElem?_getD, List.getElem?_eq_getElem (by omega)]
      rfl
    unfold zBc
    rw [ih, e, zCost_app (hA n (by omega))]
    omega
theorem zBc_all {L A : List Int} (hA : ∀ j, j < A.length → 0 ≤ A.getD j 0 ∧ A.getD j 0 ≤ 7) : zBc L A A.length = zCost (zCntT A) L 8 := by
  rw [zBc_cost hA A.length (Nat.le_refl _), List.take_length]
/-- the model's byOrder says what the class's does -/
theorem spm_eq {S : zSt} {p w : Int} (oka : zOkA S) : spm_byOrder S p w = sp_byOrder S p w := by
  unfold spm_byOrder sp_byOrder zBo
  rw [zBc_all oka]
  by_cases c1 : 0 ≤ p ∧ p < 4
  · rw [if_pos c1, if_pos c1]
    by_cases c2 : 0 ≤ w ∧ w ≤ 2
    · rw [if_pos c2, if_pos c2]
      by_cases c3 : (S.1 p.toNat).length = 8 ∧ ∀ k : Nat, k < 8 → zFind (S.1 p.toNat) k 0 ≠ -1
      · rw [if_pos c3, if_pos c3, zB2_inv c3.1 c3.2]
        by_cases c4 : w = 0
        · rw [if_pos c4, if_pos c4]
        · rw [if_neg c4, if_neg c4]
          by_cases c5 : w = 1
          · rw [if_pos c5, if_pos c5]
          · rw [if_neg c5, if_neg c5]
      · rw [if_neg c3, if_neg c3]
    · rw [if_neg c2, if_neg c2]
  · rw [if_neg c1, if_neg c1]
end PURE1
end
section
section PURE2
/-! ===== all is sound: what isSound() asks of the lists ===== -/
theorem zRev_rev (L : List Int) : zRev (zRev L) = L := by
  apply zl_ext (by rw [zRev_len, zRev_len])
  intro j hj
  rw [zRev_len, zRev_len] at hj
  rw [zRev_at (by rw [zRev_len]; exact hj), zRev_len, zRev_at (by omega), show L.length - 1 - (L.length - 1 - j) = j by omega]
theorem zRot_back (L : List Int) : zRot (zRot L 1) (-1) = L := by
  apply zl_ext (by rw [zRot_len, zRot_len])
  intro j hj
  rw [zRot_len, zRot_len] at hj
  rw [zRot_at (by rw [zRot_len]; exact hj), zRot_len]
  have hp : (0 : Int) < L.length := by omega
  have b1 := Int.emod_nonneg ((j : Int) - -1) (show (L.length : Int) ≠ 0 by omega)
  have b2 := Int.emod_lt_of_pos ((j : Int) - -1) hp
  rw [zRot_at (by omega), show (((((j : Int) - -1) % (L.length : Int)).toNat : Nat) : Int) = ((j : Int) - -1) % (L.length : Int) by omega]
  by_cases c : (j : Int) + 1 = L.length
  · rw [show (j : Int) - -1 = L.length by omega, Int.emod_self, show (0 : Int) - 1 = (L.length : Int) - 1 + (L.length : Int) * (-1) by omega, Int.add_mul_emod_self_left, Int.emod_eq_of_lt (by omega) (by omega), show ((L.length : Int) - 1).toNat = j by omega]
  · rw [Int.emod_eq_of_lt (a := (j : Int) - -1) (by omega) (by omega), show (j : Int) - -1 - 1 = j by omega, Int.emod_eq_of_lt (by omega) (by omega), Int.toNat_natCast]
theorem zTB_all (L : List Int) : zTB L := ⟨zRev_rev L, by rw [zRev_rev]; exact zRot_back L⟩
/-! the value of a polynomial -/
def zPw (x : Int) : Nat → Int
  | 0 => 1
  | n + 1 => zPw x n * x
theorem zPw_add (x : Int) (m : Nat) : ∀ n, zPw x (m + n) = zPw x m * zPw x n
  | 0 => by show zPw x m = zPw x m * 1; omega
  | n + 1 => by
    have ih := zPw_add x m n
    show zPw x (m + n) * x = zPw x m * (zPw x n * x)
    rw [ih, Int.mul_assoc]
/-- the value without the rest -/
def zHw (L : List Int) (x : Int) : Nat → Int
  | 0 => 0
  | n + 1 => zHw L x n * x + L.getD (L.length - 1 - n) 0
theorem zHr_hw (L : List Int) (x : Int) : ∀ n, zHr L x n = zHw L x n % 9973
  | 0 => rfl
  | n + 1 => by
    have ih := zHr_hw L x n
    unfold zHr zHw
    rw [ih, Int.add_emod, Int.mul_emod, Int.emod_emod, ← Int.mul_emod, ← Int.add_emod]
theorem zSumN_head (g : Nat → Int) : ∀ n, zSumN g (n + 1) = g 0 + zSumN (fun j => g (j + 1)) n
  | 0 => by show (0 : Int) + g 0 = g 0 + 0; omega
  | n + 1 => by
    have ih := zSumN_head g n
    show zSumN g (n + 1) + g (n + 1) = g 0 + (zSumN (fun j => g (j + 1)) n + g (n + 1))
    omega
theorem zHw_sum (L : List Int) (x : Int) : ∀ n, n ≤ L.length → zHw L x n = zSumN (fun j => L.getD (L.length - n + j) 0 * zPw x j) n
  | 0, _ => rfl
  | n + 1, h => by
    have ih := zHw_sum L x n (by omega)
    have e1 := zSumN_head (fun j => L.getD (L.length - (n + 1) + j) 0 * zPw x j) n
    have e2 : zSumN (fun j => L.getD (L.length - (n + 1) + (j + 1)) 0 * zPw x (j + 1)) n = zSumN (fun j => x * (L.getD (L.length - n + j) 0 * zPw x j)) n := zSumN_congr (fun j _ => by
      rw [show L.length - (n + 1) + (j + 1) = L.length - n + j by omega]
      show _ * (zPw x j * x) = _
      rw [← Int.mul_assoc, Int.mul_comm])
    have e3 : zSumN (fun j => x * (L.getD (L.length - n + j) 0 * zPw x j)) n = x * zSumN (fun j => L.getD (L.length - n + j) 0 * zPw x j) n := zSumN_mul x _ n
    show zHw L x n * x + L.getD (L.length - 1 - n) 0 = _
    rw [e1, e2, e3, ← ih, show L.length - (n + 1) + 0 = L.length - 1 - n by omega, Int.mul_comm x]
    show _ = L.getD (L.length - 1 - n) 0 * 1 + _
    omega
/-- the value, coefficient by coefficient -/
def zEv (L : List Int) (x : Int) : Int := zSumN (fun j => L.getD j 0 * zPw x j) L.length
theorem zHr_ev (L : List Int) (x : Int) : zHr L x L.length = zEv L x % 9973 := by
  rw [zHr_hw, zHw_sum L x L.length (Nat.le_refl _)]
  unfold zEv
  rw [zSumN_congr (g := fun j => L.getD j 0 * zPw x j) (fun j _ => by rw [show L.length - L.length + j = j by omega])]
theorem zSumN_more {f : Nat → Int} {n : Nat} (hz : ∀ j, n ≤ j → f j = 0) : ∀ k, zSumN f (n + k) = zSumN f n
  | 0 => rfl
  | k + 1 => by
    have ih := zSumN_more hz k
    have h := hz (n + k) (by omega)
    show zSumN f (n + k) + f (n + k) = _
    omega
/-- the value, over as many places as one likes -/
theorem zEv_at (L : List Int) (x : Int) {m : Nat} (h : L.length ≤ m) : zEv L x = zSumN (fun j => zAt L (j : Int) * zPw x j) m := by
  have e := zSumN_more (f := fun j => zAt L (j : Int) * zPw x j) (n := L.length) (fun j hj => by rw [zAt_ge hj, Int.zero_mul]) (m - L.length)
  rw [show L.length + (m - L.length) = m by omega] at e
  rw [e]
  exact zSumN_congr (fun j hj => by rw [zAt_lt hj])
theorem zEv_mk (n : Nat) (g : Nat → Int) (x : Int) : zEv (zmk n g) x = zSumN (fun j => g j * zPw x j) n := by
  unfold zEv
  rw [zmk_len]
  exact zSumN_congr (fun j hj => by rw [zmk_at g hj])
theorem zEv_plus (L M : List Int) (x : Int) {m : Nat} (hL : L.length ≤ m) (hM : M.length ≤ m) : zEv (zmk m (fun j => zAt L (j : Int) + zAt M (j : Int))) x = zEv L x + zEv M x := by
  rw [zEv_mk, zEv_at L x hL, zEv_at M x hM]
  have e : zSumN (fun j => zAt L (j : Int) * zPw x j + zAt M (j : Int) * zPw x j) m = zSumN (fun j => zAt L (j : Int) * zPw x j) m + zSumN (fun j => zAt M (j : Int) * zPw x j) m := zSumN_add _ _ m
  rw [← e]
  exact zSumN_congr (fun j _ => by rw [Int.add_mul])
theorem zSumN_from (f : Nat → Int) (i : Nat) (hz : ∀ j, j < i → f j = 0) : ∀ k, zSumN f (i + k) = zSumN (fun j => f (i + j)) k
  | 0 => zSumN_0 hz
  | k + 1 => by
    have ih := zSumN_from f i hz k
    show zSumN f (i + k) + f (i + k) = zSumN (fun j => f (i + j)) k + f (i + k)
    omega
theorem zCf_sum (L M : List Int) (p : Int) : ∀ n, zCf L M p n = zSumN (fun i => zAt L (i : Int) * zAt M (p - (i : Int))) n
  | 0 => rfl
  | n + 1 => by
    have ih := zCf_sum L M p n
    unfold zCf zSumN
    rw [ih]
theorem zEv_times (L M : List Int) (x : Int) : zEv (zmk (zPn L M) (fun j => zCf L M (j : Int) (j + 1))) x = zEv L x * zEv M x := by
  rw [zEv_mk]
  by_cases c : L.length = 0 ∨ M.length = 0
  · rw [show zPn L M = 0 from if_pos c]
    rcases c with c | c
    · rw [show zEv L x = 0 by unfold zEv; rw [c]; rfl, Int.zero_mul]
      rfl
    · rw [show zEv M x = 0 by unfold zEv; rw [c]; rfl, Int.mul_zero]
      rfl
  · have hN : zPn L M = L.length + M.length - 1 := if_neg c
    have a1 : zSumN (fun p => zCf L M (p : Int) (p + 1) * zPw x p) (zPn L M) = zSumN (fun p => zSumN (fun i => zAt L (i : Int) * (zAt M ((p : Int) - (i : Int)) * zPw x p)) L.length) (zPn L M) := zSumN_congr (fun p _ => by
      rw [← zCf_all, zCf_sum, Int.mul_comm]
      have e : zSumN (fun i => zPw x p * (zAt L (i : Int) * zAt M ((p : Int) - (i : Int)))) L.length = zPw x p * zSumN (fun i => zAt L (i : Int) * zAt M ((p : Int) - (i : Int))) L.length := zSumN_mul _ _ _
      rw [← e]
      exact zSumN_congr (fun i _ => by rw [Int.mul_comm, Int.mul_assoc]))
    have a2 : zSumN (fun p => zSumN (fun i => zAt L (i : Int) * (zAt M ((p : Int) - (i : Int)) * zPw x p)) L.length) (zPn L M) = zSumN (fun i => zSumN (fun p => zAt L (i : Int) * (zAt M ((p : Int) - (i : Int)) * zPw x p)) (zPn L M)) L.length := zSumN_swap (fun p i => zAt L (i : Int) * (zAt M ((p : Int) - (i : Int)) * zPw x p)) L.length (zPn L M)
    have a3 : zSumN (fun i => zSumN (fun p => zAt L (i : Int) * (zAt M ((p : Int) - (i : Int)) * zPw x p)) (zPn L M)) L.length = zSumN (fun i => zEv M x * (L.getD i 0 * zPw x i)) L.length := zSumN_congr (fun i hi => by
      have b1 : zSumN (fun p => zAt L (i : Int) * (zAt M ((p : Int) - (i : Int)) * zPw x p)) (zPn L M) = zAt L (i : Int) * zSumN (fun p => zAt M ((p : Int) - (i : Int)) * zPw x p) (zPn L M) := zSumN_mul _ _ _
      have b2 := zSumN_from (fun p => zAt M ((p : Int) - (i : Int)) * zPw x p) i (fun j hj => by rw [zAt_neg (by omega), Int.zero_mul]) (zPn L M - i)
      rw [show i + (zPn L M - i) = zPn L M by omega] at b2
      have b3 : zSumN (fun j => zAt M (((i + j : Nat) : Int) - (i : Int)) * zPw x (i + j)) (zPn L M - i) = zSumN (fun j => zPw x i * (zAt M (j : Int) * zPw x j)) (zPn L M - i) := zSumN_congr (fun j _ => by
        rw [show ((i + j : Nat) : Int) - (i : Int) = (j : Int) by omega, zPw_add, ← Int.mul_assoc, ← Int.mul_assoc, Int.mul_comm (zAt M (j : Int))])
      have b4 : zSumN (fun j => zPw x i * (zAt M (j : Int) * zPw x j)) (zPn L M - i) = zPw x i * zSumN (fun j => zAt M (j : Int) * zPw x j) (zPn L M - i) := zSumN_mul _ _ _
      rw [b1, b2, b3, b4, ← zEv_at M x (by omega), zAt_lt hi, ← Int.mul_assoc, Int.mul_comm])
    have a4 : zSumN (fun i => zEv M x * (L.getD i 0 * zPw x i)) L.length = zEv M x * zSumN (fun i => L.getD i 0 * zPw x i) L.length := zSumN_mul _ _ _
    rw [a1, a2, a3, a4, Int.mul_comm]
    rfl
theorem zRA_plus (L M : List Int) (x : Int) : zRA L M (zmk (if (L.length : Int) < M.length then M.length else L.length) (fun j => zAt L j + zAt M j)) 0 x := by
  unfold zRA
  rw [if_pos rfl, zHr_ev, zHr_ev, zHr_ev, zEv_plus L M x (by split <;> omega) (by split <;> omega), ← Int.add_emod]
theorem zRA_times (L M : List Int) (x : Int) : zRA L M (zmk (zPn L M) (fun j => zCf L M j (j + 1))) 1 x := by
  unfold zRA
  rw [if_neg (by decide), zHr_ev, zHr_ev, zHr_ev, zEv_times, ← Int.mul_emod]
theorem zAU_all (L M : List Int) : zAU L M := ⟨fun _ => ⟨zRA_plus L M 2, zRA_plus L M 3, zRA_plus L M (-1)⟩, fun _ => ⟨zRA_times L M 2, zRA_times L M 3, zRA_times L M (-1)⟩⟩
/-! what was asked costs no more than the bound: each asking moves its key ahead -/
/-- how many two keys stand otherwise in R than in L -/
def zPh (r l : Nat → Int) : Int := zSumN (fun a => zSumN (fun b => if r a < r b ∧ l b < l a then 1 else 0) 8) 8
theorem zPh_pos (r l : Nat → Int) : 0 ≤ zPh r l := by
  have h : zSumN (fun _ => 0) 8 ≤ zPh r l := zSumN_le (fun a _ => by
    have h2 : zSumN (fun _ => 0) 8 ≤ zSumN (fun b => if r a < r b ∧ l b < l a then (1 : Int) else 0) 8 := zSumN_le (fun b _ => by split <;> omega)
    rw [zSumN_0 (f := fun _ => 0) (fun _ _ => rfl)] at h2
    exact h2)
  rw [zSumN_0 (f := fun _ => 0) (fun _ _ => rfl)] at h
  exact h
theorem zSumN_count (c : Int) (h0 : 0 ≤ c) : ∀ n : Nat, c ≤ n → zSumN (fun i => if (i : Int) < c then 1 else 0) n = c
  | 0, h => by
    show (0 : Int) = c
    omega
  | n + 1, h => by
    by_cases q : c ≤ n
    · have ih := zSumN_count c h0 n q
      unfold zSumN
      rw [ih, if_neg (by omega)]
      omega
    · have e : zSumN (fun i => if (i : Int) < c then (1 : Int) else 0) n = zSumN (fun _ => 1) n := zSumN_congr (fun i hi => if_pos (by omega))
      have e2 := zSumN_const 1 n
      unfold zSumN
      rw [e, if_pos (by omega)]
      omega
/-- how many keys are ahead of one in an order: its place -/
theorem zOrd_count {L : List Int} (h8 : L.length = 8) (hf : ∀ k : Nat, k < 8 → zFind L k 0 ≠ -1) {c : Int} (h0 : 0 ≤ c) (hc : c ≤ 8) : zSumN (fun k => if zFind L k 0 < c then 1 else 0) 8 = c := by
  have e := zSumN_count c h0 8 (by omega)
  rw [zOrd_sum h8 hf] at e
  have e2 : zSumN (fun k : Nat => if zFind L k 0 < c then (1 : Int) else 0) 8 = zSumN (fun k : Nat => if (((zFind L k 0).toNat : Nat) : Int) < c then (1 : Int) else 0) 8 := zSumN_congr (fun k hk => by
    have := (zOrd_pos h8 hf hk).1
    rw [show (((zFind L k 0).toNat : Nat) : Int) = zFind L k 0 by omega])
  exact e2.trans e
/-- the step: a key goes ahead -/
theorem zPh_ask {r r' l : Nat → Int} {x : Nat} (hx : x < 8) (h0 : ∀ a, a < 8 → 0 ≤ r a) (hr : ∀ a b, a < 8 → b < 8 → r a = r b → a = b) (hl : ∀ a b, a < 8 → b < 8 → l a = l b → a = b)
    (hr' : ∀ a, a < 8 → r' a = if a = x then 0 else if r a < r x then r a + 1 else r a) (cr : zSumN (fun a => if r a < r x then 1 else 0) 8 = r x) (cl : zSumN (fun a => if l a < l x then 1 else 0) 8 = l x) : r x + 1 + zPh r' l ≤ zPh r l + 2 * (l x + 1) - 1 := by
  have t : ∀ a, a < 8 → ∀ b, b < 8 → (if r' a < r' b ∧ l b < l a then (1 : Int) else 0) = (if r a < r b ∧ l b < l a then (1 : Int) else 0) + ((if x = a then (if r b < r x ∧ l b < l x then 1 else 0) else 0) - (if x = b then (if r a < r x ∧ l x < l a then 1 else 0) else 0)) := by
    intro a ha b hb
    have ra := hr' a ha
    have rb := hr' b hb
    have p1 := h0 a ha
    have p2 := h0 b hb
    have p3 := h0 x hx
    have q1 := hr a x ha hx
    have q2 := hr b x hb hx
    have q3 := hr a b ha hb
    have s1 := hl a x ha hx
    have s2 := hl b x hb hx
    by_cases ca : x = a
    · subst ca
      rw [if_pos rfl] at ra
      by_cases cb : x = b
      · subst cb
        have w1 : ¬ (r x < r x ∧ l x < l x) := fun q => by have := q.1; omega
        have w2 : ¬ (r' x < r' x ∧ l x < l x) := fun q => by have := q.1; omega
        rw [if_pos rfl, if_neg w2, if_neg w1]
        rfl
      · rw [if_neg (by omega)] at rb
        rw [if_pos rfl, if_neg cb]
        by_cases c1 : l b < l x
        · by_cases c2 : r b < r x
          · rw [if_pos c2] at rb
            rw [if_pos (by omega), if_neg (by omega), if_pos (by omega)]
            rfl
          · rw [if_neg c2] at rb
            have : r b ≠ r x := fun q => cb (q2 q).symm
            rw [if_pos (by omega), if_pos (by omega), if_neg (by omega)]
            rfl
        · rw [if_neg (by omega), if_neg (by omega), if_neg (by omega)]
          rfl
    · rw [if_neg (by omega)] at ra
      by_cases cb : x = b
      · subst cb
        rw [if_pos rfl] at rb
        rw [if_neg ca, if_pos rfl]
        have w : ¬ (r' a < r' x ∧ l x < l a) := fun q => by
          have := q.1
          rw [rb, ra] at this
          split at this <;> omega
        rw [if_neg w]
        omega
      · rw [if_neg (by omega)] at rb
        rw [if_neg ca, if_neg cb]
        have w : (r' a < r' b ∧ l b < l a) ↔ (r a < r b ∧ l b < l a) := by
          rw [ra, rb]
          have : r a ≠ r x := fun q => ca (q1 q).symm
          have : r b ≠ r x := fun q => cb (q2 q).symm
          split <;> split <;> omega
        by_cases c1 : r a < r b ∧ l b < l a
        · rw [if_pos c1, if_pos (w.mpr c1)]
          rfl
        · rw [if_neg c1, if_neg (fun q => c1 (w.mp q))]
          rfl
  have u1 : zPh r' l = zSumN (fun a => zSumN (fun b => (if r a < r b ∧ l b < l a then (1 : Int) else 0) + ((if x = a then (if r b < r x ∧ l b < l x then 1 else 0) else 0) - (if x = b then (if r a < r x ∧ l x < l a then 1 else 0) else 0))) 8) 8 := zSumN_congr (fun a ha => zSumN_congr (fun b hb => t a ha b hb))
  have u2 : zSumN (fun a => zSumN (fun b => (if r a < r b ∧ l b < l a then (1 : Int) else 0) + ((if x = a then (if r b < r x ∧ l b < l x then 1 else 0) else 0) - (if x = b then (if r a < r x ∧ l x < l a then 1 else 0) else 0))) 8) 8 = zSumN (fun a => zSumN (fun b => if r a < r b ∧ l b < l a then (1 : Int) else 0) 8 + ((if x = a then zSumN (fun b => if r b < r x ∧ l b < l x then 1 else 0) 8 else 0) - (if r a < r x ∧ l x < l a then 1 else 0))) 8 := zSumN_congr (fun a ha => by
    have v1 : zSumN (fun b => (if r a < r b ∧ l b < l a then (1 : Int) else 0) + ((if x = a then (if r b < r x ∧ l b < l x then 1 else 0) else 0) - (if x = b then (if r a < r x ∧ l x < l a then 1 else 0) else 0))) 8 = zSumN (fun b => if r a < r b ∧ l b < l a then (1 : Int) else 0) 8 + zSumN (fun b => (if x = a then (if r b < r x ∧ l b < l x then (1 : Int) else 0) else 0) - (if x = b then (if r a < r x ∧ l x < l a then 1 else 0) else 0)) 8 := zSumN_add _ _ 8
    have v2 : zSumN (fun b => (if x = a then (if r b < r x ∧ l b < l x then (1 : Int) else 0) else 0) - (if x = b then (if r a < r x ∧ l x < l a then 1 else 0) else 0)) 8 = zSumN (fun b => if x = a then (if r b < r x ∧ l b < l x then (1 : Int) else 0) else 0) 8 - zSumN (fun b => if x = b then (if r a < r x ∧ l x < l a then (1 : Int) else 0) else 0) 8 := zSumN_sub _ _ 8
    have v3 : zSumN (fun b => if x = b then (if r a < r x ∧ l x < l a then (1 : Int) else 0) else 0) 8 = (if r a < r x ∧ l x < l a then (1 : Int) else 0) := by
      have := zSumN_delta (fun _ => if r a < r x ∧ l x < l a then (1 : Int) else 0) x 8
      rw [if_pos hx] at this
      exact this
    have v4 : zSumN (fun b => if x = a then (if r b < r x ∧ l b < l x then (1 : Int) else 0) else 0) 8 = (if x = a then zSumN (fun b => if r b < r x ∧ l b < l x then 1 else 0) 8 else 0) := by
      by_cases c : x = a
      · rw [if_pos c]
        exact zSumN_congr (fun b _ => if_pos c)
      · rw [if_neg c]
        exact zSumN_0 (fun b _ => if_neg c)
    rw [v1, v2, v3, v4])
  have u3 : zSumN (fun a => zSumN (fun b => if r a < r b ∧ l b < l a then (1 : Int) else 0) 8 + ((if x = a then zSumN (fun b => if r b < r x ∧ l b < l x then 1 else 0) 8 else 0) - (if r a < r x ∧ l x < l a then 1 else 0))) 8 = zPh r l + zSumN (fun a => (if x = a then zSumN (fun b => if r b < r x ∧ l b < l x then (1 : Int) else 0) 8 else 0) - (if r a < r x ∧ l x < l a then 1 else 0)) 8 := zSumN_add _ _ 8
  have u4 : zSumN (fun a => (if x = a then zSumN (fun b => if r b < r x ∧ l b < l x then (1 : Int) else 0) 8 else 0) - (if r a < r x ∧ l x < l a then 1 else 0)) 8 = zSumN (fun a => if x = a then zSumN (fun b => if r b < r x ∧ l b < l x then (1 : Int) else 0) 8 else 0) 8 - zSumN (fun a => if r a < r x ∧ l x < l a then (1 : Int) else 0) 8 := zSumN_sub _ _ 8
  have u5 : zSumN (fun a => if x = a then zSumN (fun b => if r b < r x ∧ l b < l x then (1 : Int) else 0) 8 else 0) 8 = zSumN (fun b => if r b < r x ∧ l b < l x then (1 : Int) else 0) 8 := by
    have := zSumN_delta (fun _ => zSumN (fun b => if r b < r x ∧ l b < l x then (1 : Int) else 0) 8) x 8
    rw [if_pos hx] at this
    exact this
  have u6 : zSumN (fun a => (if r a < r x ∧ l a < l x then (1 : Int) else 0) + (if r a < r x ∧ l x < l a then (1 : Int) else 0)) 8 = r x := by
    refine Eq.trans (zSumN_congr (fun a ha => ?_)) cr
    have s1 := hl a x ha hx
    by_cases c1 : r a < r x
    · rw [if_pos c1]
      have : l a ≠ l x := fun q => by
        have := s1 q
        subst this
        omega
      by_cases c2 : l a < l x
      · rw [if_pos ⟨c1, c2⟩, if_neg (fun q => by have := q.2; omega)]
        rfl
      · rw [if_neg (fun q => c2 q.2), if_pos ⟨c1, by omega⟩]
        rfl
    · rw [if_neg c1, if_neg (fun q => c1 q.1), if_neg (fun q => c1 q.1)]
      rfl
  have u7 : zSumN (fun a => (if r a < r x ∧ l a < l x then (1 : Int) else 0) + (if r a < r x ∧ l x < l a then (1 : Int) else 0)) 8 = zSumN (fun a => if r a < r x ∧ l a < l x then (1 : Int) else 0) 8 + zSumN (fun a => if r a < r x ∧ l x < l a then (1 : Int) else 0) 8 := zSumN_add _ _ 8
  have u8 : zSumN (fun a => if r a < r x ∧ l a < l x then (1 : Int) else 0) 8 ≤ zSumN (fun a => if l a < l x then (1 : Int) else 0) 8 := zSumN_le (fun a _ => by
    by_cases c : l a < l x
    · rw [if_pos c]; split <;> omega
    · rw [if_neg c, if_neg (fun q => c q.2)]; omega)
  omega
end PURE2
end
section
section PURE3
/-! ===== the bound holds after every act ===== -/
theorem zFd9_before (L : List Int) (x : Int) : ∀ n : Nat, ∀ i : Nat, (i : Int) < zFd9 L x 0 n → L.getD i 0 ≠ x
  | 0, i, h => absurd h (by unfold zFd9; omega)
  | n + 1, i, h => by
    have ih := zFd9_before L x n i
    unfold zFd9 at h
    split at h
    · rename_i q
      intro e
      have hm := zFd9_mem L x n i (by omega) e
      rcases q.2 with q2 | q2
      · exact q2 rfl
      · omega
    · exact ih h
theorem zFind_before {L : List Int} {x : Int} {i : Nat} (h : (i : Int) < zFind L x 0) : L.getD i 0 ≠ x := zFd9_before L x _ i h
theorem zFd9_first {L : List Int} {x : Int} {j : Nat} (h1 : ∀ i, i < j → L.getD i 0 ≠ x) (h2 : L.getD j 0 = x) : ∀ n : Nat, zFd9 L x 0 n = if j < n then (j : Int) else -1
  | 0 => by rw [if_neg (by omega)]; rfl
  | n + 1 => by
    have ih := zFd9_first h1 h2 n
    unfold zFd9
    by_cases c : j < n
    · rw [if_pos c] at ih
      have w : ¬ (L.getD n 0 = x ∧ ((0 : Int) ≠ 0 ∨ zFd9 L x 0 n = -1)) := fun q => by
        rcases q.2 with q2 | q2
        · exact q2 rfl
        · omega
      rw [if_neg w, ih, if_pos (by omega)]
    · rw [if_neg c] at ih
      by_cases c2 : j = n
      · subst c2
        rw [if_pos ⟨h2, Or.inr ih⟩, if_pos (by omega)]
      · rw [if_neg (fun q => h1 n (by omega) q.1), ih, if_neg (by omega)]
theorem zFind_first {L : List Int} {x : Int} {j : Nat} (hj : j < L.length) (h1 : ∀ i, i < j → L.getD i 0 ≠ x) (h2 : L.getD j 0 = x) : zFind L x 0 = (j : Int) := by
  unfold zFind
  rw [zFd9_first h1 h2, if_pos hj]
/-- where the keys stand once one of them went ahead -/
theorem zFront_at {K : List Int} {key a : Int} (hp : 0 ≤ zFind K key 0) (ha : 0 ≤ zFind K a 0) : zFind (zIns (zDel K (zFind K key 0)) 0 key) a 0 = if a = key then 0 else if zFind K a 0 < zFind K key 0 then zFind K a 0 + 1 else zFind K a 0 := by
  have h1 := zFind_in K key 0
  have h2 := zFind_in K a 0
  have hl := zFront_len hp
  have hd := zDel_len K (zFind K key 0)
  have g1 := zFind_get hp
  have g2 := zFind_get ha
  have at0 : (zIns (zDel K (zFind K key 0)) 0 key).getD 0 0 = key := by rw [zIns_at (by omega), if_neg (by omega), if_pos (by omega)]
  have at1 : ∀ i : Nat, 0 < i → i < K.length → (zIns (zDel K (zFind K key 0)) 0 key).getD i 0 = if ((i - 1 : Nat) : Int) < zFind K key 0 then K.getD (i - 1) 0 else K.getD i 0 := fun i i0 i1 => by
    rw [zIns_at (by omega), if_neg (by omega), if_neg (by omega), zDel_at (by omega), show i - 1 + 1 = i by omega]
  by_cases e : a = key
  · rw [if_pos e]
    exact zFind_first (j := 0) (by omega) (fun i hi => absurd hi (by omega)) (at0.trans e.symm)
  · rw [if_neg e]
    have ne : zFind K a 0 ≠ zFind K key 0 := fun q => e (by rw [← g2, q, g1])
    by_cases c : zFind K a 0 < zFind K key 0
    · rw [if_pos c]
      have q := zFind_first (L := zIns (zDel K (zFind K key 0)) 0 key) (x := a) (j := (zFind K a 0).toNat + 1) (by omega) (fun i hi => by
        by_cases i0 : i = 0
        · subst i0; rw [at0]; exact Ne.symm e
        · rw [at1 i (by omega) (by omega), if_pos (by omega)]
          exact zFind_before (by omega)) (by rw [at1 _ (by omega) (by omega), if_pos (by omega), show (zFind K a 0).toNat + 1 - 1 = (zFind K a 0).toNat by omega]; exact g2)
      rw [q]
      omega
    · rw [if_neg c]
      have q := zFind_first (L := zIns (zDel K (zFind K key 0)) 0 key) (x := a) (j := (zFind K a 0).toNat) (by omega) (fun i hi => by
        by_cases i0 : i = 0
        · subst i0; rw [at0]; exact Ne.symm e
        · rw [at1 i (by omega) (by omega)]
          by_cases c3 : ((i - 1 : Nat) : Int) < zFind K key 0
          · rw [if_pos c3]; exact zFind_before (by omega)
          · rw [if_neg c3]; exact zFind_before (by omega)) (by rw [at1 _ (by omega) (by omega), if_neg (by omega)]; exact g2)
      rw [q]
      omega
/-- what was asked costs no more than the bound of any order, and what the two still stand otherwise -/
def zOkP (S : zSt) : Prop := ∀ L : List Int, zOrd L → S.2.2.2.2 0 + zPh (fun a => zFind S.2.2.1 a 0) (fun a => zFind L a 0) ≤ 2 * zCost (zCntT S.2.2.2.1) L 8 - (S.2.2.2.1.length : Int) + zInv L
theorem zOkP.of {S S' : zSt} (hO : zOkP S) (e : S'.2.2.1 = S.2.2.1 ∧ S'.2.2.2.1 = S.2.2.2.1 ∧ S'.2.2.2.2 0 = S.2.2.2.2 0) : zOkP S' := by
  unfold zOkP
  rw [e.1, e.2.1, e.2.2]
  exact hO
theorem zPl9_find {a : Nat} (h : a < 8) : zFind (zPl9 8) a 0 = (a : Int) := by
  refine zFind_first (by rw [zPl9_len]; exact h) (fun i hi => ?_) (zmk_at _ h)
  rw [show (zPl9 8).getD i 0 = (i : Int) from zmk_at _ (by omega)]
  omega
theorem zPh_start {L : List Int} (hL : zOrd L) : zPh (fun a => zFind (zPl9 8) a 0) (fun a => zFind L a 0) = zInv L := by
  rw [← zB2_inv hL.1 hL.2, zB2_sum]
  have e1 : zPh (fun a => zFind (zPl9 8) a 0) (fun a => zFind L a 0) = zSumN (fun b => zSumN (fun a => if zFind (zPl9 8) (a : Nat) 0 < zFind (zPl9 8) (b : Nat) 0 ∧ zFind L b 0 < zFind L a 0 then (1 : Int) else 0) 8) 8 := zSumN_swap (fun a b => if zFind (zPl9 8) (a : Nat) 0 < zFind (zPl9 8) (b : Nat) 0 ∧ zFind L b 0 < zFind L a 0 then (1 : Int) else 0) 8 8
  rw [e1]
  refine zSumN_congr (fun b hb => ?_)
  rw [zB1_sum, ← zSumN_upto _ b 8 (by omega)]
  refine zSumN_congr (fun a ha => ?_)
  rw [zPl9_find ha, zPl9_find hb]
  by_cases c : a < b
  · rw [if_pos c]
    by_cases c2 : zFind L b 0 < zFind L a 0
    · have q : (a : Int) < (b : Int) ∧ zFind L b 0 < zFind L a 0 := ⟨by omega, c2⟩
      rw [if_pos c2, if_pos q]
    · have q : ¬ ((a : Int) < (b : Int) ∧ zFind L b 0 < zFind L a 0) := fun q => c2 q.2
      rw [if_neg c2, if_neg q]
  · have q : ¬ ((a : Int) < (b : Int) ∧ zFind L b 0 < zFind L a 0) := fun q => c (by have := q.1; omega)
    rw [if_neg c, if_neg q]
theorem okp_begin {S : zSt} (e1 : S.2.2.1 = zPl9 8) (e2 : S.2.2.2.1 = []) (e3 : S.2.2.2.2 0 = 0) : zOkP S := by
  intro L hL
  have e4 : zCost (zCntT []) L 8 = 0 := zCost_0 (fun k => by simp [zCntT, zCnt]) 8
  have e5 := zPh_start hL
  rw [e1, e2, e3, e4, e5]
  show (0 : Int) + zInv L ≤ 2 * 0 - ((0 : Nat) : Int) + zInv L
  omega
theorem okp_zS0 : zOkP zS0 := okp_begin rfl rfl rfl
theorem okp_forget {S : zSt} (_hP : zOkP S) : zOkP (sp_forget S).2 := okp_begin rfl rfl rfl
theorem okp_ask {S : zSt} {key : Int} (hO : zOk S) (hP : zOkP S) : zOkP (sp_ask S key).2 := by
  unfold sp_ask
  by_cases c1 : 0 ≤ key ∧ key ≤ 7
  · rw [if_pos c1]
    by_cases c2 : S.2.2.2.1.length < 60
    · rw [if_pos c2]
      intro L hL
      obtain ⟨x, rfl⟩ := Int.eq_ofNat_of_zero_le c1.1
      have h8 := hO.2.2.1
      have hf : ∀ a : Nat, a < 8 → 0 ≤ zFind S.2.2.1 a 0 := fun a ha => hO.2.1 a (by omega) (by omega)
      have hn : ∀ a : Nat, a < 8 → zFind S.2.2.1 a 0 ≠ -1 := fun a ha => by have := hf a ha; omega
      have hx : x < 8 := by omega
      have px := zFind_in S.2.2.1 x 0
      have pl := (zOrd_pos hL.1 hL.2 hx).1
      have st := zPh_ask (r := fun a => zFind S.2.2.1 a 0) (r' := fun a => zFind (zIns (zDel S.2.2.1 (zFind S.2.2.1 x 0)) 0 x) a 0) (l := fun a => zFind L a 0) hx hf
        (fun a b ha hb e => zOrd_inj h8 hn ha hb e) (fun a b ha hb e => zOrd_inj hL.1 hL.2 ha hb e)
        (fun a ha => by
          have q := zFront_at (K := S.2.2.1) (key := x) (a := a) (hf x hx) (hf a ha)
          show zFind (zIns (zDel S.2.2.1 (zFind S.2.2.1 x 0)) 0 x) a 0 = if a = x then 0 else if zFind S.2.2.1 a 0 < zFind S.2.2.1 x 0 then zFind S.2.2.1 a 0 + 1 else zFind S.2.2.1 a 0
          rw [q]
          by_cases c : a = x
          · rw [if_pos c, if_pos (by omega)]
          · rw [if_neg c, if_neg (by omega)])
        (zOrd_count h8 hn (hf x hx) (by omega)) (zOrd_count hL.1 hL.2 pl.1 (by omega))
      have old := hP L hL
      have ec := zCost_app (A := S.2.2.2.1) (L := L) (x := (x : Int)) (by omega)
      show (S.2.2.2.2 0 + (zFind S.2.2.1 x 0 + 1)) + zPh (fun a => zFind (zIns (zDel S.2.2.1 (zFind S.2.2.1 x 0)) 0 x) a 0) (fun a => zFind L a 0) ≤ 2 * zCost (zCntT (S.2.2.2.1 ++ [(x : Int)])) L 8 - ((S.2.2.2.1 ++ [(x : Int)]).length : Int) + zInv L
      rw [ec, List.length_append, List.length_singleton]
      have st2 : zFind S.2.2.1 x 0 + 1 + zPh (fun a => zFind (zIns (zDel S.2.2.1 (zFind S.2.2.1 x 0)) 0 x) a 0) (fun a => zFind L a 0) ≤ zPh (fun a => zFind S.2.2.1 a 0) (fun a => zFind L a 0) + 2 * (zFind L x 0 + 1) - 1 := st
      omega
    · rw [if_neg c2]
      exact hP
  · rw [if_neg c1]
    exact hP
/-- so isSound() is always so -/
theorem zSnd_all {S : zSt} (hO : zOk S) (hP : zOkP S) : zSnd S := by
  refine ⟨fun k _ => ⟨zTB_all _, fun j _ _ => zAU_all _ _⟩, ⟨hO.2.2.1, fun k hk => ?_⟩, fun k _ hL => ?_⟩
  · have := hO.2.1 k (by omega) (by omega)
    omega
  · have h1 := hP _ hL
    have h2 := zPh_pos (fun a => zFind S.2.2.1 a 0) (fun a => zFind (S.1 k) a 0)
    omega
/-- both: what was asked are keys, and the bound -/
def zOkB (S : zSt) : Prop := zOkA S ∧ zOkP S
end PURE3
end
section
section DIGX
variable {G : zG} {l : Launch} {h h' h'' : zHp} {ma : Nat → Nat} {S : zSt} {th : Int}
abbrev zfA (S : zSt) : Nat → Int → Int := fun n e => e * 31 + zwd (zHv S n)
abbrev zfC (S : zSt) (c : Nat) : Nat → Int → Int := fun n e => e * 31 + zwd (zCuV S c n)
abbrev zfD (S : zSt) : Nat → Int → Int := fun n e => e * 31 + zwd (zAkV S n)
abbrev zfF (S : zSt) (L : List Int) : Nat → Int → Int := fun n e => e * 31 + zwd (zBo S L n)
theorem l_Mod_dxA {mc ms : Nat} {Qn : Option Value → zHp → Prop} {Qx : String → zHp → Prop} {D : Int} (H : zMod G h ma S 0) (hO : zOk S) (hA : zOkA S) (h16 : ∀ k, k < 4 → (S.1 k).length ≤ 16)
    (K : ∀ bc bs (h1 : zHp) y3 y4 y5 y6 y7 y8 y9 y10, 0 ≤ bc → 0 ≤ bs → 18 ≤ bc → 108 ≤ bs → zExt h h1 → zR G l (zMJ G hMod_digest 4 Qn Qx mc ms) bc bs h1 33 [some (.ref (ma 0)), some (zl (zFld (zfA S) D 5)), none, y3, y4, y5, y6, y7, y8, y9, y10] []) :
    ∀ (n m bc bs : Nat) (h1 : zHp) (y4 y5 y6 y7 y8 y9 y10 : Option Value), 5 - m < n → m ≤ 5 → (5 - m) + 18 ≤ bc → 5 * (5 - m) + 108 ≤ bs → zExt h h1 → zR G l (zMJ G hMod_digest 4 Qn Qx mc ms) bc bs h1 11 [some (.ref (ma 0)), some (zl (zFld (zfA S) D m)), none, some (zi (m : Int)), y4, y5, y6, y7, y8, y9, y10] [] := by
  intro n
  induction n with
  | zero => intro m bc bs h1 y4 y5 y6 y7 y8 y9 y10 x1 x2 x3 x4 hx; omega
  | succ n ih =>
  intro m bc bs h1 y4 y5 y6 y7 y8 y9 y10 x1 x2 x3 x4 hx
  have H1 := H.ext hx
  have oc1 := H1.2.1
  refine z_iload_n dMod_digest_11 rfl ?_
  refine z_iconst dMod_digest_12 ?_
  refine z_icmp_ge (tgt := 33) dMod_digest_13 (by decide) (by omega) (by omega) (fun c13 => ?_) (fun c13 => ?_)
  · have em : m = 5 := by omega
    subst em
    exact K _ _ h1 _ _ _ _ _ _ _ _ (by omega) (by omega) (by omega) (by omega) hx
  · refine z_lload_n dMod_digest_16 rfl ?_
    refine z_aload_n dMod_digest_17 rfl ?_
    refine z_iload_n dMod_digest_18 rfl ?_
    refine z_callV (bc' := bc - 1) (bs' := bs - 5) MV_Mod_houseNow lk_Mod_203 dMod_digest_19 (k_Mod_houseNow H1 (by omega)) rfl rfl (Nat.le_of_ble_eq_true rfl) rfl (by assumption) (Nat.le_of_ble_eq_true rfl) (Nat.le_of_ble_eq_true rfl) (by omega) (by omega) (fun _ _ q => q.elim) ?_
    rintro _ h2 ⟨rfl, hx2⟩
    rw [zwd_i (zHv S (m : Int))]
    have hw9 := zwd_r (zHv S (m : Int))
    have H2 := H1.ext hx2
    have oc2 := H2.2.1
    refine z_i2l (by first | omega | omega) dMod_digest_22 ?_
    refine z_callS MS_Mod_add lk_Mod_210 dMod_digest_23 k_Mod_add rfl rfl (Nat.le_of_ble_eq_true rfl)  (Nat.le_of_ble_eq_true rfl) (Nat.le_of_ble_eq_true rfl) (Nat.le_of_eq (Nat.zero_add _)) (Nat.le_of_eq (Nat.zero_add _)) (fun _ _ q => q.elim) ?_
    rintro _ _ ⟨rfl, rfl⟩
    refine z_lstore_n dMod_digest_26 (Nat.le_of_ble_eq_true rfl) ?_
    refine z_iinc dMod_digest_27 rfl (Nat.le_of_ble_eq_true rfl) ?_
    refine z_goto (tgt := 11) dMod_digest_30 (by decide) ?_
    exact ih (m + 1) (bc - 1) (bs - 5) h2 _ _ _ _ _ _ _ (by omega) (by omega) (by omega) (by omega) (hx.tr hx2)
theorem l_Mod_dxC2 {mc ms : Nat} {Qn : Option Value → zHp → Prop} {Qx : String → zHp → Prop} {D : Int} {c : Nat} (hc : c < 3) {B : Nat} (H : zMod G h ma S 0) (hO : zOk S) (hA : zOkA S) (h16 : ∀ k, k < 4 → (S.1 k).length ≤ 16)
    (K : ∀ bc bs (h1 : zHp) y4 y5 y6 y7 y8 y9 y10, B ≤ bc → 6 * B ≤ bs → zExt h h1 → zR G l (zMJ G hMod_digest 4 Qn Qx mc ms) bc bs h1 170 [some (.ref (ma 0)), some (zl (zDc S c D)), none, some (zi (c : Int)), y4, y5, y6, y7, y8, y9, y10] []) :
    ∀ (n m bc bs : Nat) (h1 : zHp) (y5 y6 y7 y8 y9 y10 : Option Value), 6 - m < n → m ≤ 6 → (6 - m) + B ≤ bc → 6 * (6 - m) + 6 * B ≤ bs → zExt h h1 → zR G l (zMJ G hMod_digest 4 Qn Qx mc ms) bc bs h1 144 [some (.ref (ma 0)), some (zl (zFld (zfC S c) D m)), none, some (zi (c : Int)), some (zi (m : Int)), y5, y6, y7, y8, y9, y10] [] := by
  intro n
  induction n with
  | zero => intro m bc bs h1 y5 y6 y7 y8 y9 y10 x1 x2 x3 x4 hx; omega
  | succ n ih =>
  intro m bc bs h1 y5 y6 y7 y8 y9 y10 x1 x2 x3 x4 hx
  have H1 := H.ext hx
  have oc1 := H1.2.1
  refine z_iload dMod_digest_144 rfl ?_
  refine z_bipush dMod_digest_146 rfl ?_
  refine z_icmp_ge (tgt := 170) dMod_digest_148 (by decide) (by omega) (by omega) (fun c148 => ?_) (fun c148 => ?_)
  · have em : m = 6 := by omega
    subst em
    exact K _ _ h1 _ _ _ _ _ _ _ (by omega) (by omega) hx
  · refine z_lload_n dMod_digest_151 rfl ?_
    refine z_aload_n dMod_digest_152 rfl ?_
    refine z_iload_n dMod_digest_153 rfl ?_
    refine z_iload dMod_digest_154 rfl ?_
    refine z_callV (bc' := bc - 1) (bs' := bs - 6) MV_Mod_ofCursorNow lk_Mod_154 dMod_digest_156 (k_Mod_ofCursorNow H1 (by omega) (by omega) hO h16) rfl rfl (Nat.le_of_ble_eq_true rfl) rfl (by assumption) (Nat.le_of_ble_eq_true rfl) (Nat.le_of_ble_eq_true rfl) (by omega) (by omega) (fun _ _ q => q.elim) ?_
    rintro _ h2 ⟨rfl, hx2⟩
    rw [zwd_i (zCuV S c (m : Int))]
    have hw9 := zwd_r (zCuV S c (m : Int))
    have H2 := H1.ext hx2
    have oc2 := H2.2.1
    refine z_i2l (by first | omega | omega) dMod_digest_159 ?_
    refine z_callS MS_Mod_add lk_Mod_210 dMod_digest_160 k_Mod_add rfl rfl (Nat.le_of_ble_eq_true rfl)  (Nat.le_of_ble_eq_true rfl) (Nat.le_of_ble_eq_true rfl) (Nat.le_of_eq (Nat.zero_add _)) (Nat.le_of_eq (Nat.zero_add _)) (fun _ _ q => q.elim) ?_
    rintro _ _ ⟨rfl, rfl⟩
    refine z_lstore_n dMod_digest_163 (Nat.le_of_ble_eq_true rfl) ?_
    refine z_iinc dMod_digest_164 rfl (Nat.le_of_ble_eq_true rfl) ?_
    refine z_goto (tgt := 144) dMod_digest_167 (by decide) ?_
    exact ih (m + 1) (bc - 1) (bs - 6) h2 _ _ _ _ _ _ (by omega) (by omega) (by omega) (by omega) (hx.tr hx2)
theorem l_Mod_dxC {mc ms : Nat} {Qn : Option Value → zHp → Prop} {Qx : String → zHp → Prop} {D : Int} (H : zMod G h ma S 0) (hO : zOk S) (hA : zOkA S) (h16 : ∀ k, k < 4 → (S.1 k).length ≤ 16)
    (K : ∀ bc bs (h1 : zHp) y3 y4 y5 y6 y7 y8 y9 y10, zExt h h1 → zR G l (zMJ G hMod_digest 4 Qn Qx mc ms) bc bs h1 176 [some (.ref (ma 0)), some (zl (zFld (fun n e => zDc S n e) D 3)), none, y3, y4, y5, y6, y7, y8, y9, y10] []) :
    ∀ (n m bc bs : Nat) (h1 : zHp) (y4 y5 y6 y7 y8 y9 y10 : Option Value), 3 - m < n → m ≤ 3 → 6 * (3 - m) ≤ bc → 36 * (3 - m) ≤ bs → zExt h h1 → zR G l (zMJ G hMod_digest 4 Qn Qx mc ms) bc bs h1 136 [some (.ref (ma 0)), some (zl (zFld (fun n e => zDc S n e) D m)), none, some (zi (m : Int)), y4, y5, y6, y7, y8, y9, y10] [] := by
  intro n
  induction n with
  | zero => intro m bc bs h1 y4 y5 y6 y7 y8 y9 y10 x1 x2 x3 x4 hx; omega
  | succ n ih =>
  intro m bc bs h1 y4 y5 y6 y7 y8 y9 y10 x1 x2 x3 x4 hx
  refine z_iload_n dMod_digest_136 rfl ?_
  refine z_iconst dMod_digest_137 ?_
  refine z_icmp_ge (tgt := 176) dMod_digest_138 (by decide) (by omega) (by omega) (fun c138 => ?_) (fun c138 => ?_)
  · have em : m = 3 := by omega
    subst em
    exact K _ _ h1 _ _ _ _ _ _ _ _ hx
  · refine z_iconst dMod_digest_141 ?_
    refine z_istore dMod_digest_142 (Nat.le_of_ble_eq_true rfl) ?_
    refine l_Mod_dxC2 (h := h1) (c := m) (D := zFld (fun n e => zDc S n e) D m) (by omega) (B := 6 * (2 - m)) (H.ext hx) hO hA h16 (fun bc2 bs2 h2 y4 y5 y6 y7 y8 y9 y10 z1 z2 hx2 => ?_) 7 0 _ _ h1 _ _ _ _ _ _ (by omega) (by omega) (by omega) (by omega) zExt.rf
    refine z_iinc dMod_digest_170 rfl (Nat.le_of_ble_eq_true rfl) ?_
    refine z_goto (tgt := 136) dMod_digest_173 (by decide) ?_
    exact ih (m + 1) bc2 bs2 h2 _ _ _ _ _ _ _ (by omega) (by omega) (by omega) (by omega) (hx.tr hx2)
theorem l_Mod_dxB2 {mc ms bc bs : Nat} {Qn : Option Value → zHp → Prop} {Qx : String → zHp → Prop} {D : Int} {r a : Nat} {L : List Int} {b m9 : Int} (hr : zAr G h a L)
    (K : ∀ y9 y10, zR G l (zMJ G hMod_digest 4 Qn Qx mc ms) bc bs h 107 [some (.ref (ma 0)), some (zl (zDgI D L L.length)), none, some (.ref r), some (zi b), some (zi m9), some (.ref a), some (.ref a), some (zi (L.length : Int)), y9, y10] []) :
    ∀ (n m : Nat) (y10 : Option Value), L.length - m < n → m ≤ L.length → zR G l (zMJ G hMod_digest 4 Qn Qx mc ms) bc bs h 79 [some (.ref (ma 0)), some (zl (zDgI D L m)), none, some (.ref r), some (zi b), some (zi m9), some (.ref a), some (.ref a), some (zi (L.length : Int)), some (zi (m : Int)), y10] [] := by
  intro n
  induction n with
  | zero => intro m y10 x1 x2; omega
  | succ n ih =>
  intro m y10 x1 x2
  obtain ⟨f, d1, d2, d3, d4⟩ := id hr
  refine z_iload dMod_digest_79 rfl ?_
  refine z_iload dMod_digest_81 rfl ?_
  refine z_icmp_ge (tgt := 107) dMod_digest_83 (by decide) (by omega) (by omega) (fun c83 => ?_) (fun c83 => ?_)
  · have em : m = L.length := by omega
    subst em
    exact K _ _
  · have d4m := d4 m (by omega)
    rw [← zAt_lt (by omega)] at d4m
    refine z_aload dMod_digest_86 rfl ?_
    refine z_iload dMod_digest_88 rfl ?_
    refine z_iald dMod_digest_90 (by assumption) (by refine ⟨?_, ?_, ?_⟩ <;> omega) ?_
    rw [Int.toNat_natCast, d3 m (by omega), ← zAt_lt (by omega)]
    refine z_istore dMod_digest_91 (Nat.le_of_ble_eq_true rfl) ?_
    refine z_lload_n dMod_digest_93 rfl ?_
    refine z_iload dMod_digest_94 rfl ?_
    refine z_i2l (by first | omega | omega) dMod_digest_96 ?_
    refine z_callS MS_Mod_add lk_Mod_210 dMod_digest_97 k_Mod_add rfl rfl (Nat.le_of_ble_eq_true rfl)  (Nat.le_of_ble_eq_true rfl) (Nat.le_of_ble_eq_true rfl) (Nat.le_of_eq (Nat.zero_add _)) (Nat.le_of_eq (Nat.zero_add _)) (fun _ _ q => q.elim) ?_
    rintro _ _ ⟨rfl, rfl⟩
    refine z_lstore_n dMod_digest_100 (Nat.le_of_ble_eq_true rfl) ?_
    refine z_iinc dMod_digest_101 rfl (Nat.le_of_ble_eq_true rfl) ?_
    refine z_goto (tgt := 79) dMod_digest_104 (by decide) ?_
    exact ih (m + 1) _ (by omega) (by omega)
theorem l_Mod_dxB {mc ms bc bs : Nat} {Qn : Option Value → zHp → Prop} {Qx : String → zHp → Prop} {D : Int} (H : zMod G h ma S 0)
    (K : ∀ y3 y4 y5 y6 y7 y8 y9 y10, zR G l (zMJ G hMod_digest 4 Qn Qx mc ms) bc bs h 134 [some (.ref (ma 0)), some (zl (zFld (fun n e => zDgL e (S.1 n)) D 4)), none, y3, y4, y5, y6, y7, y8, y9, y10] []) :
    ∀ (n m : Nat) (y6 y7 y8 y9 y10 : Option Value), 4 - m < n → m ≤ 4 → zR G l (zMJ G hMod_digest 4 Qn Qx mc ms) bc bs h 45 [some (.ref (ma 0)), some (zl (zFld (fun n e => zDgL e (S.1 n)) D m)), none, some (.ref (ma 1)), some (zi (4 : Int)), some (zi (m : Int)), y6, y7, y8, y9, y10] [] := by
  intro n
  induction n with
  | zero => intro m y6 y7 y8 y9 y10 x1 x2; omega
  | succ n ih =>
  intro m y6 y7 y8 y9 y10 x1 x2
  obtain ⟨m1, m2, ⟨g, m3, m3a⟩, m4, ⟨f6, m5, m5a⟩, m6, m7⟩ := id H
  unfold zMfs at m2
  refine z_iload dMod_digest_45 rfl ?_
  refine z_iload dMod_digest_47 rfl ?_
  refine z_icmp_ge (tgt := 134) dMod_digest_49 (by decide) (by omega) (by omega) (fun c49 => ?_) (fun c49 => ?_)
  · have em : m = 4 := by omega
    subst em
    exact K _ _ _ _ _ _ _ _
  · refine z_aload_n dMod_digest_52 rfl ?_
    refine z_iload dMod_digest_53 rfl ?_
    refine z_aald (t := 4) (ty := .array .int) rfl rfl dMod_digest_55 m3 (by refine ⟨?_, ?_, ?_⟩ <;> omega) ?_
    rw [Int.toNat_natCast, m3a m (by omega)]
    obtain ⟨fr, r1, r2, r3, r4⟩ := id (m6 m (by omega))
    refine z_astore dMod_digest_56 (Nat.le_of_ble_eq_true rfl) ?_
    refine z_lload_n dMod_digest_58 rfl ?_
    refine z_aload dMod_digest_59 rfl ?_
    refine z_alenI dMod_digest_61 r1 ?_
    refine z_i2l (by first | omega | omega) dMod_digest_62 ?_
    refine z_callS MS_Mod_add lk_Mod_210 dMod_digest_63 k_Mod_add rfl rfl (Nat.le_of_ble_eq_true rfl)  (Nat.le_of_ble_eq_true rfl) (Nat.le_of_ble_eq_true rfl) (Nat.le_of_eq (Nat.zero_add _)) (Nat.le_of_eq (Nat.zero_add _)) (fun _ _ q => q.elim) ?_
    rintro _ _ ⟨rfl, rfl⟩
    refine z_lstore_n dMod_digest_66 (Nat.le_of_ble_eq_true rfl) ?_
    refine z_aload dMod_digest_67 rfl ?_
    refine z_astore dMod_digest_69 (Nat.le_of_ble_eq_true rfl) ?_
    refine z_aload dMod_digest_71 rfl ?_
    refine z_alenI dMod_digest_73 r1 ?_
    refine z_istore dMod_digest_74 (Nat.le_of_ble_eq_true rfl) ?_
    refine z_iconst dMod_digest_76 ?_
    refine z_istore dMod_digest_77 (Nat.le_of_ble_eq_true rfl) ?_
    refine l_Mod_dxB2 (D := zFld (fun n e => zDgL e (S.1 n)) D m * 31 + ((S.1 m).length : Int)) (m6 m (by omega)) (fun y9 y10 => ?_) ((S.1 m).length + 1) 0 _ (by omega) (by omega)
    refine z_lload_n dMod_digest_107 rfl ?_
    refine z_aload dMod_digest_108 rfl ?_
    refine z_iconst dMod_digest_110 ?_
    refine z_callS MS_Mod_valueOf lk_Mod_176 dMod_digest_111 (k_Mod_valueOf (m6 m (by omega)) (by omega)) rfl rfl (Nat.le_of_ble_eq_true rfl)  (Nat.le_of_ble_eq_true rfl) (Nat.le_of_ble_eq_true rfl) (Nat.le_of_eq (Nat.zero_add _)) (Nat.le_of_eq (Nat.zero_add _)) (fun _ _ q => q.elim) ?_
    rintro _ _ ⟨rfl, rfl⟩
    have hv9 := zHr_in (S.1 m) 2 (S.1 m).length
    refine z_i2l (by first | omega | omega) dMod_digest_114 ?_
    refine z_callS MS_Mod_add lk_Mod_210 dMod_digest_115 k_Mod_add rfl rfl (Nat.le_of_ble_eq_true rfl)  (Nat.le_of_ble_eq_true rfl) (Nat.le_of_ble_eq_true rfl) (Nat.le_of_eq (Nat.zero_add _)) (Nat.le_of_eq (Nat.zero_add _)) (fun _ _ q => q.elim) ?_
    rintro _ _ ⟨rfl, rfl⟩
    refine z_aload dMod_digest_118 rfl ?_
    refine z_callS MS_Mod_degreeOf lk_Mod_180 dMod_digest_120 (k_Mod_degreeOf (m6 m (by omega))) rfl rfl (Nat.le_of_ble_eq_true rfl)  (Nat.le_of_ble_eq_true rfl) (Nat.le_of_ble_eq_true rfl) (Nat.le_of_eq (Nat.zero_add _)) (Nat.le_of_eq (Nat.zero_add _)) (fun _ _ q => q.elim) ?_
    rintro _ _ ⟨rfl, rfl⟩
    have hz9 := zLnz_in (S.1 m)
    refine z_i2l (by first | omega | omega) dMod_digest_123 ?_
    refine z_callS MS_Mod_add lk_Mod_210 dMod_digest_124 k_Mod_add rfl rfl (Nat.le_of_ble_eq_true rfl)  (Nat.le_of_ble_eq_true rfl) (Nat.le_of_ble_eq_true rfl) (Nat.le_of_eq (Nat.zero_add _)) (Nat.le_of_eq (Nat.zero_add _)) (fun _ _ q => q.elim) ?_
    rintro _ _ ⟨rfl, rfl⟩
    refine z_lstore_n dMod_digest_127 (Nat.le_of_ble_eq_true rfl) ?_
    refine z_iinc dMod_digest_128 rfl (Nat.le_of_ble_eq_true rfl) ?_
    refine z_goto (tgt := 45) dMod_digest_131 (by decide) ?_
    exact ih (m + 1) _ _ _ _ _ (by omega) (by omega)
theorem l_Mod_dxD {mc ms bc bs : Nat} {Qn : Option Value → zHp → Prop} {Qx : String → zHp → Prop} {D : Int} (H : zMod G h ma S 0) (hO : zOk S)
    (K : ∀ y3 y4 y5 y6 y7 y8 y9 y10, zR G l (zMJ G hMod_digest 4 Qn Qx mc ms) bc bs h 200 [some (.ref (ma 0)), some (zl (zFld (zfD S) D 4)), none, y3, y4, y5, y6, y7, y8, y9, y10] []) :
    ∀ (n m : Nat) (y4 y5 y6 y7 y8 y9 y10 : Option Value), 4 - m < n → m ≤ 4 → zR G l (zMJ G hMod_digest 4 Qn Qx mc ms) bc bs h 178 [some (.ref (ma 0)), some (zl (zFld (zfD S) D m)), none, some (zi (m : Int)), y4, y5, y6, y7, y8, y9, y10] [] := by
  intro n
  induction n with
  | zero => intro m y4 y5 y6 y7 y8 y9 y10 x1 x2; omega
  | succ n ih =>
  intro m y4 y5 y6 y7 y8 y9 y10 x1 x2
  have oc1 := H.2.1
  refine z_iload_n dMod_digest_178 rfl ?_
  refine z_iconst dMod_digest_179 ?_
  refine z_icmp_ge (tgt := 200) dMod_digest_180 (by decide) (by omega) (by omega) (fun c180 => ?_) (fun c180 => ?_)
  · have em : m = 4 := by omega
    subst em
    exact K _ _ _ _ _ _ _ _
  · refine z_lload_n dMod_digest_183 rfl ?_
    refine z_aload_n dMod_digest_184 rfl ?_
    refine z_iload_n dMod_digest_185 rfl ?_
    refine z_callV MV_Mod_askedNow lk_Mod_190 dMod_digest_186 (k_Mod_askedNow H (by omega) hO) rfl rfl (Nat.le_of_ble_eq_true rfl) rfl (by assumption) (Nat.le_of_ble_eq_true rfl) (Nat.le_of_ble_eq_true rfl) (Nat.le_of_eq (Nat.zero_add _)) (Nat.le_of_eq (Nat.zero_add _)) (fun _ _ q => q.elim) ?_
    rintro _ _ ⟨rfl, rfl⟩
    rw [zwd_i (zAkV S (m : Int))]
    have hw9 := zwd_r (zAkV S (m : Int))
    refine z_i2l (by first | omega | omega) dMod_digest_189 ?_
    refine z_callS MS_Mod_add lk_Mod_210 dMod_digest_190 k_Mod_add rfl rfl (Nat.le_of_ble_eq_true rfl)  (Nat.le_of_ble_eq_true rfl) (Nat.le_of_ble_eq_true rfl) (Nat.le_of_eq (Nat.zero_add _)) (Nat.le_of_eq (Nat.zero_add _)) (fun _ _ q => q.elim) ?_
    rintro _ _ ⟨rfl, rfl⟩
    refine z_lstore_n dMod_digest_193 (Nat.le_of_ble_eq_true rfl) ?_
    refine z_iinc dMod_digest_194 rfl (Nat.le_of_ble_eq_true rfl) ?_
    refine z_goto (tgt := 178) dMod_digest_197 (by decide) ?_
    exact ih (m + 1) _ _ _ _ _ _ _ (by omega) (by omega)
theorem l_Mod_dxE {mc ms bc bs : Nat} {Qn : Option Value → zHp → Prop} {Qx : String → zHp → Prop} {D : Int} {a : Nat} {L : List Int} (hr : zAr G h a L)
    (K : ∀ y3 y4 y5 y6 y7 y8 y9 y10, zR G l (zMJ G hMod_digest 4 Qn Qx mc ms) bc bs h 239 [some (.ref (ma 0)), some (zl (zDgI D L L.length)), none, y3, y4, y5, y6, y7, y8, y9, y10] []) :
    ∀ (n m : Nat) (y6 y7 y8 y9 y10 : Option Value), L.length - m < n → m ≤ L.length → zR G l (zMJ G hMod_digest 4 Qn Qx mc ms) bc bs h 212 [some (.ref (ma 0)), some (zl (zDgI D L m)), none, some (.ref a), some (zi (L.length : Int)), some (zi (m : Int)), y6, y7, y8, y9, y10] [] := by
  intro n
  induction n with
  | zero => intro m y6 y7 y8 y9 y10 x1 x2; omega
  | succ n ih =>
  intro m y6 y7 y8 y9 y10 x1 x2
  obtain ⟨f, d1, d2, d3, d4⟩ := id hr
  refine z_iload dMod_digest_212 rfl ?_
  refine z_iload dMod_digest_214 rfl ?_
  refine z_icmp_ge (tgt := 239) dMod_digest_216 (by decide) (by omega) (by omega) (fun c216 => ?_) (fun c216 => ?_)
  · have em : m = L.length := by omega
    subst em
    exact K _ _ _ _ _ _ _ _
  · have d4m := d4 m (by omega)
    rw [← zAt_lt (by omega)] at d4m
    refine z_aload_n dMod_digest_219 rfl ?_
    refine z_iload dMod_digest_220 rfl ?_
    refine z_iald dMod_digest_222 (by assumption) (by refine ⟨?_, ?_, ?_⟩ <;> omega) ?_
    rw [Int.toNat_natCast, d3 m (by omega), ← zAt_lt (by omega)]
    refine z_istore dMod_digest_223 (Nat.le_of_ble_eq_true rfl) ?_
    refine z_lload_n dMod_digest_225 rfl ?_
    refine z_iload dMod_digest_226 rfl ?_
    refine z_i2l (by first | omega | omega) dMod_digest_228 ?_
    refine z_callS MS_Mod_add lk_Mod_210 dMod_digest_229 k_Mod_add rfl rfl (Nat.le_of_ble_eq_true rfl)  (Nat.le_of_ble_eq_true rfl) (Nat.le_of_ble_eq_true rfl) (Nat.le_of_eq (Nat.zero_add _)) (Nat.le_of_eq (Nat.zero_add _)) (fun _ _ q => q.elim) ?_
    rintro _ _ ⟨rfl, rfl⟩
    refine z_lstore_n dMod_digest_232 (Nat.le_of_ble_eq_true rfl) ?_
    refine z_iinc dMod_digest_233 rfl (Nat.le_of_ble_eq_true rfl) ?_
    refine z_goto (tgt := 212) dMod_digest_236 (by decide) ?_
    exact ih (m + 1) _ _ _ _ _ (by omega) (by omega)
theorem l_Mod_dxF2 {mc ms bc bs : Nat} {Qn : Option Value → zHp → Prop} {Qx : String → zHp → Prop} {D : Int} {y8 y9 y10 : Option Value} {c a : Nat} {L : List Int} (H : zMod G h ma S 0) (hO : zOk S) (hA : zOkA S) (hr : zAr G h a L) (ho : zOrd L)
    (K : ∀ y7, zR G l (zMJ G hMod_digest 4 Qn Qx mc ms) bc bs h 319 [some (.ref (ma 0)), some (zl (zFld (zfF S L) D 3)), none, some (.ref (ma 1)), some (zi (4 : Int)), some (zi (c : Int)), some (.ref a), y7, y8, y9, y10] []) :
    ∀ (n m : Nat), 3 - m < n → m ≤ 3 → zR G l (zMJ G hMod_digest 4 Qn Qx mc ms) bc bs h 285 [some (.ref (ma 0)), some (zl (zFld (zfF S L) D m)), none, some (.ref (ma 1)), some (zi (4 : Int)), some (zi (c : Int)), some (.ref a), some (zi (m : Int)), y8, y9, y10] [] := by
  intro n
  induction n with
  | zero => intro m x1 x2; omega
  | succ n ih =>
  intro m x1 x2
  have oc1 := H.2.1
  refine z_aload dMod_digest_285 rfl ?_
  refine z_callS MS_Mod_isOrder lk_Mod_193 dMod_digest_287 (k_Mod_isOrder hr) rfl rfl (Nat.le_of_ble_eq_true rfl)  (Nat.le_of_ble_eq_true rfl) (Nat.le_of_ble_eq_true rfl) (Nat.le_of_eq (Nat.zero_add _)) (Nat.le_of_eq (Nat.zero_add _)) (fun _ _ q => q.elim) ?_
  rintro _ _ ⟨b7, rfl, hb7, rfl⟩
  refine z_if_eq (tgt := 319) dMod_digest_290 (by decide) (by omega) (fun c290 => ?_) (fun c290 => ?_)
  · exfalso
    rcases hb7 with q | q
    · have := q.1; omega
    · exact q.2 ho
  · refine z_iload dMod_digest_293 rfl ?_
    refine z_iconst dMod_digest_295 ?_
    refine z_icmp_ge (tgt := 319) dMod_digest_296 (by decide) (by omega) (by omega) (fun c296 => ?_) (fun c296 => ?_)
    · have em : m = 3 := by omega
      subst em
      exact K _
    · refine z_lload_n dMod_digest_299 rfl ?_
      refine z_aload_n dMod_digest_300 rfl ?_
      refine z_aload dMod_digest_301 rfl ?_
      refine z_iload dMod_digest_303 rfl ?_
      refine z_callV MV_Mod_byOrderNow lk_Mod_197 dMod_digest_305 (k_Mod_byOrderNow H hr (by omega) hO.2.2.2.1 (fun j hj => by have := hA j hj; omega)) rfl rfl (Nat.le_of_ble_eq_true rfl) rfl (by assumption) (Nat.le_of_ble_eq_true rfl) (Nat.le_of_ble_eq_true rfl) (Nat.le_of_eq (Nat.zero_add _)) (Nat.le_of_eq (Nat.zero_add _)) (fun _ _ q => q.elim) ?_
      rintro _ _ ⟨rfl, rfl⟩
      rw [zwd_i (zBo S L (m : Int))]
      have hw9 := zwd_r (zBo S L (m : Int))
      refine z_i2l (by first | omega | omega) dMod_digest_308 ?_
      refine z_callS MS_Mod_add lk_Mod_210 dMod_digest_309 k_Mod_add rfl rfl (Nat.le_of_ble_eq_true rfl)  (Nat.le_of_ble_eq_true rfl) (Nat.le_of_ble_eq_true rfl) (Nat.le_of_eq (Nat.zero_add _)) (Nat.le_of_eq (Nat.zero_add _)) (fun _ _ q => q.elim) ?_
      rintro _ _ ⟨rfl, rfl⟩
      refine z_lstore_n dMod_digest_312 (Nat.le_of_ble_eq_true rfl) ?_
      refine z_iinc dMod_digest_313 rfl (Nat.le_of_ble_eq_true rfl) ?_
      refine z_goto (tgt := 285) dMod_digest_316 (by decide) ?_
      exact ih (m + 1) (by omega) (by omega)
theorem l_Mod_dxF3 {mc ms bc bs : Nat} {Qn : Option Value → zHp → Prop} {Qx : String → zHp → Prop} {D : Int} {y8 y9 y10 : Option Value} {c a : Nat} {L : List Int} (H : zMod G h ma S 0) (hr : zAr G h a L) (ho : ¬ zOrd L)
    (K : ∀ y7, zR G l (zMJ G hMod_digest 4 Qn Qx mc ms) bc bs h 319 [some (.ref (ma 0)), some (zl (D)), none, some (.ref (ma 1)), some (zi (4 : Int)), some (zi (c : Int)), some (.ref a), y7, y8, y9, y10] []) :
    zR G l (zMJ G hMod_digest 4 Qn Qx mc ms) bc bs h 285 [some (.ref (ma 0)), some (zl (D)), none, some (.ref (ma 1)), some (zi (4 : Int)), some (zi (c : Int)), some (.ref a), some (zi (0 : Int)), y8, y9, y10] [] := by
  have oc1 := H.2.1
  refine z_aload dMod_digest_285 rfl ?_
  refine z_callS MS_Mod_isOrder lk_Mod_193 dMod_digest_287 (k_Mod_isOrder hr) rfl rfl (Nat.le_of_ble_eq_true rfl)  (Nat.le_of_ble_eq_true rfl) (Nat.le_of_ble_eq_true rfl) (Nat.le_of_eq (Nat.zero_add _)) (Nat.le_of_eq (Nat.zero_add _)) (fun _ _ q => q.elim) ?_
  rintro _ _ ⟨b7, rfl, hb7, rfl⟩
  refine z_if_eq (tgt := 319) dMod_digest_290 (by decide) (by omega) (fun c290 => ?_) (fun c290 => ?_)
  · exact K _
  · exfalso
    rcases hb7 with q | q
    · exact ho q.2
    · have := q.1; omega
theorem zDgO_1 {S : zSt} {D : Int} {L : List Int} (hA : zOkA S) (ho : zOrd L) : zDgO S D L = zFld (zfF S L) (D * 31 + 1) 3 := by
  unfold zDgO
  rw [if_pos ho]
  show _ = ((((D * 31 + 1) * 31 + zwd (zBo S L ((0 : Nat) : Int))) * 31 + zwd (zBo S L ((1 : Nat) : Int))) * 31 + zwd (zBo S L ((2 : Nat) : Int)))
  rw [show zBo S L ((0 : Nat) : Int) = zCost (zCntT S.2.2.2.1) L 8 by unfold zBo; rw [if_pos (by omega), zBc_all hA], show zBo S L ((1 : Nat) : Int) = zInv L by unfold zBo; rw [if_neg (by omega), if_pos (by omega), zB2_inv ho.1 ho.2], show zBo S L ((2 : Nat) : Int) = zBd S L by unfold zBo zBd; rw [if_neg (by omega), if_neg (by omega), zBc_all hA, zB2_inv ho.1 ho.2]]
theorem zDgO_0 {S : zSt} {D : Int} {L : List Int} (ho : ¬ zOrd L) : zDgO S D L = D * 31 + 0 := by
  unfold zDgO
  rw [if_neg ho]
theorem l_Mod_dxF {mc ms bc bs : Nat} {Qn : Option Value → zHp → Prop} {Qx : String → zHp → Prop} {D : Int} (H : zMod G h ma S 0) (hO : zOk S) (hA : zOkA S)
    (K : ∀ y3 y4 y5 y6 y7 y8 y9 y10, zR G l (zMJ G hMod_digest 4 Qn Qx mc ms) bc bs h 325 [some (.ref (ma 0)), some (zl (zFld (fun n e => zDgO S e (S.1 n)) D 4)), none, y3, y4, y5, y6, y7, y8, y9, y10] []) :
    ∀ (n m : Nat) (y6 y7 y8 y9 y10 : Option Value), 4 - m < n → m ≤ 4 → zR G l (zMJ G hMod_digest 4 Qn Qx mc ms) bc bs h 251 [some (.ref (ma 0)), some (zl (zFld (fun n e => zDgO S e (S.1 n)) D m)), none, some (.ref (ma 1)), some (zi (4 : Int)), some (zi (m : Int)), y6, y7, y8, y9, y10] [] := by
  intro n
  induction n with
  | zero => intro m y6 y7 y8 y9 y10 x1 x2; omega
  | succ n ih =>
  intro m y6 y7 y8 y9 y10 x1 x2
  obtain ⟨m1, m2, ⟨g, m3, m3a⟩, m4, ⟨f6, m5, m5a⟩, m6, m7⟩ := id H
  unfold zMfs at m2
  refine z_iload dMod_digest_251 rfl ?_
  refine z_iload dMod_digest_253 rfl ?_
  refine z_icmp_ge (tgt := 325) dMod_digest_255 (by decide) (by omega) (by omega) (fun c255 => ?_) (fun c255 => ?_)
  · have em : m = 4 := by omega
    subst em
    exact K _ _ _ _ _ _ _ _
  · refine z_aload_n dMod_digest_258 rfl ?_
    refine z_iload dMod_digest_259 rfl ?_
    refine z_aald (t := 4) (ty := .array .int) rfl rfl dMod_digest_261 m3 (by refine ⟨?_, ?_, ?_⟩ <;> omega) ?_
    rw [Int.toNat_natCast, m3a m (by omega)]
    obtain ⟨fr, r1, r2, r3, r4⟩ := id (m6 m (by omega))
    refine z_astore dMod_digest_262 (Nat.le_of_ble_eq_true rfl) ?_
    refine z_lload_n dMod_digest_264 rfl ?_
    refine z_aload dMod_digest_265 rfl ?_
    refine z_callS MS_Mod_isOrder lk_Mod_193 dMod_digest_267 (k_Mod_isOrder (m6 m (by omega))) rfl rfl (Nat.le_of_ble_eq_true rfl)  (Nat.le_of_ble_eq_true rfl) (Nat.le_of_ble_eq_true rfl) (Nat.le_of_eq (Nat.zero_add _)) (Nat.le_of_eq (Nat.zero_add _)) (fun _ _ q => q.elim) ?_
    rintro _ _ ⟨b7, rfl, hb7, rfl⟩
    refine z_if_eq (tgt := 277) dMod_digest_270 (by decide) (by omega) (fun c270 => ?_) (fun c270 => ?_)
    · have q9 : ¬ zOrd (S.1 m) := by
        rcases hb7 with q | q
        · have := q.1; omega
        · exact q.2
      refine z_lconst dMod_digest_277 0 rfl ?_
      refine z_callS MS_Mod_add lk_Mod_210 dMod_digest_278 k_Mod_add rfl rfl (Nat.le_of_ble_eq_true rfl)  (Nat.le_of_ble_eq_true rfl) (Nat.le_of_ble_eq_true rfl) (Nat.le_of_eq (Nat.zero_add _)) (Nat.le_of_eq (Nat.zero_add _)) (fun _ _ q => q.elim) ?_
      rintro _ _ ⟨rfl, rfl⟩
      refine z_lstore_n dMod_digest_281 (Nat.le_of_ble_eq_true rfl) ?_
      refine z_iconst dMod_digest_282 ?_
      refine z_istore dMod_digest_283 (Nat.le_of_ble_eq_true rfl) ?_
      refine l_Mod_dxF3 (c := m) (D := zFld (fun n e => zDgO S e (S.1 n)) D m * 31 + 0) H (m6 m (by omega)) q9 (fun y7 => ?_)
      refine z_iinc dMod_digest_319 rfl (Nat.le_of_ble_eq_true rfl) ?_
      refine z_goto (tgt := 251) dMod_digest_322 (by decide) ?_
      rw [← zDgO_0 q9]
      exact ih (m + 1) _ _ _ _ _ (by omega) (by omega)
    · have q9 : zOrd (S.1 m) := by
        rcases hb7 with q | q
        · exact q.2
        · have := q.1; omega
      refine z_lconst dMod_digest_273 1 rfl ?_
      refine z_goto (tgt := 278) dMod_digest_274 (by decide) ?_
      refine z_callS MS_Mod_add lk_Mod_210 dMod_digest_278 k_Mod_add rfl rfl (Nat.le_of_ble_eq_true rfl)  (Nat.le_of_ble_eq_true rfl) (Nat.le_of_ble_eq_true rfl) (Nat.le_of_eq (Nat.zero_add _)) (Nat.le_of_eq (Nat.zero_add _)) (fun _ _ q => q.elim) ?_
      rintro _ _ ⟨rfl, rfl⟩
      refine z_lstore_n dMod_digest_281 (Nat.le_of_ble_eq_true rfl) ?_
      refine z_iconst dMod_digest_282 ?_
      refine z_istore dMod_digest_283 (Nat.le_of_ble_eq_true rfl) ?_
      refine l_Mod_dxF2 (c := m) (D := zFld (fun n e => zDgO S e (S.1 n)) D m * 31 + 1) H hO hA (m6 m (by omega)) q9 (fun y7 => ?_) 4 0 (by omega) (by omega)
      refine z_iinc dMod_digest_319 rfl (Nat.le_of_ble_eq_true rfl) ?_
      refine z_goto (tgt := 251) dMod_digest_322 (by decide) ?_
      rw [← zDgO_1 hA q9]
      exact ih (m + 1) _ _ _ _ _ (by omega) (by omega)
theorem k_Mod_digestX (H : zMod G h ma S th) (hO : zOk S) (hA : zOkA S) (h16 : ∀ k, k < 4 → (S.1 k).length ≤ 16) : zM G l hMod_digest yMod_digest 4 [.ref (ma 0)] h (fun v h' => v = some (zl (zD6 S * 31 + 1)) ∧ zMod G h' ma S 0 ∧ zMfr ma h h') zNo 23 133 := by
  obtain ⟨m1, m2, ⟨g, m3, m3a⟩, m4, ⟨f6, m5, m5a⟩, m6, m7⟩ := id H
  unfold zMfs at m2
  refine zM.of [some (.ref (ma 0)), none, none, none, none, none, none, none, none, none, none] (by decide +kernel) rfl (by decide) rfl (Nat.le_of_ble_eq_true rfl) rfl ?_
  refine z_aload_n dMod_digest_0 rfl ?_
  refine z_iconst dMod_digest_1 ?_
  refine z_put (k := 12) fd_Mod (by decide) fl_Mod_37 rfl dMod_digest_2 (by assumption) (by simp) rfl rfl ?_
  refine z_hx (fun h1 p1 f1 => ?_)
  have H1 : zMod G h1 ma S 0 := H.obj (nu := S.2.2.2.2) p1 f1
  have fz1 : zMfr ma h h1 := zMfr.of0 f1
  refine z_ldc2 (v := (7834 : Int64)) dMod_digest_5 (7834) (by decide) ct_Mod_208 ?_
  refine z_lstore_n dMod_digest_8 (Nat.le_of_ble_eq_true rfl) ?_
  refine z_iconst dMod_digest_9 ?_
  refine z_istore_n dMod_digest_10 (Nat.le_of_ble_eq_true rfl) ?_
  refine l_Mod_dxA (h := h1) (D := 7834) H1 hO hA h16 (fun bc bs h2 y3 y4 y5 y6 y7 y8 y9 y10 _ _ z3 z4 hx2 => ?_) 6 0 23 133 h1 _ _ _ _ _ _ _ (by omega) (by omega) (by omega) (by omega) zExt.rf
  have H2 := H1.ext hx2
  have fz2 : zMfr ma h h2 := fz1.tr (zMfr.ext hx2)
  obtain ⟨-, v2, ⟨vg, v3, v3a⟩, -⟩ := id H2
  unfold zMfs at v2
  refine z_aload_n dMod_digest_33 rfl ?_
  refine z_get (k := 0) fd_Mod (by decide) fl_Mod_11 dMod_digest_34 (by assumption) (by rfl) ?_
  refine z_astore_n dMod_digest_37 (Nat.le_of_ble_eq_true rfl) ?_
  refine z_aload_n dMod_digest_38 rfl ?_
  refine z_alenR dMod_digest_39 v3 ?_
  refine z_istore dMod_digest_40 (Nat.le_of_ble_eq_true rfl) ?_
  refine z_iconst dMod_digest_42 ?_
  refine z_istore dMod_digest_43 (Nat.le_of_ble_eq_true rfl) ?_
  refine l_Mod_dxB (h := h2) (D := zD1 S) H2 (fun y3 y4 y5 y6 y7 y8 y9 y10 => ?_) 5 0 _ _ _ _ _ (by omega) (by omega)
  refine z_iconst dMod_digest_134 ?_
  refine z_istore_n dMod_digest_135 (Nat.le_of_ble_eq_true rfl) ?_
  refine l_Mod_dxC (h := h2) (D := zD2 S) H2 hO hA h16 (fun bc3 bs3 h3 y3 y4 y5 y6 y7 y8 y9 y10 hx3 => ?_) 4 0 _ _ h2 _ _ _ _ _ _ _ (by omega) (by omega) (by omega) (by omega) zExt.rf
  have H3 := H2.ext hx3
  have fz3 : zMfr ma h h3 := fz2.tr (zMfr.ext hx3)
  refine z_iconst dMod_digest_176 ?_
  refine z_istore_n dMod_digest_177 (Nat.le_of_ble_eq_true rfl) ?_
  refine l_Mod_dxD (h := h3) (D := zD3 S) H3 hO (fun y3 y4 y5 y6 y7 y8 y9 y10 => ?_) 5 0 _ _ _ _ _ _ _ (by omega) (by omega)
  obtain ⟨-, u2, ⟨ug, u3, u3a⟩, -, -, u6, rk⟩ := id H3
  unfold zMfs at u2
  obtain ⟨fk, rk1, -⟩ := id rk
  refine z_aload_n dMod_digest_200 rfl ?_
  refine z_get (k := 6) fd_Mod (by decide) fl_Mod_31 dMod_digest_201 (by assumption) (by rfl) ?_
  refine z_astore_n dMod_digest_204 (Nat.le_of_ble_eq_true rfl) ?_
  refine z_aload_n dMod_digest_205 rfl ?_
  refine z_alenI dMod_digest_206 rk1 ?_
  refine z_istore dMod_digest_207 (Nat.le_of_ble_eq_true rfl) ?_
  refine z_iconst dMod_digest_209 ?_
  refine z_istore dMod_digest_210 (Nat.le_of_ble_eq_true rfl) ?_
  refine l_Mod_dxE (h := h3) (D := zD4 S) rk (fun y3 y4 y5 y6 y7 y8 y9 y10 => ?_) (S.2.2.1.length + 1) 0 _ _ _ _ _ (by omega) (by omega)
  refine z_aload_n dMod_digest_239 rfl ?_
  refine z_get (k := 0) fd_Mod (by decide) fl_Mod_11 dMod_digest_240 (by assumption) (by rfl) ?_
  refine z_astore_n dMod_digest_243 (Nat.le_of_ble_eq_true rfl) ?_
  refine z_aload_n dMod_digest_244 rfl ?_
  refine z_alenR dMod_digest_245 u3 ?_
  refine z_istore dMod_digest_246 (Nat.le_of_ble_eq_true rfl) ?_
  refine z_iconst dMod_digest_248 ?_
  refine z_istore dMod_digest_249 (Nat.le_of_ble_eq_true rfl) ?_
  refine l_Mod_dxF (h := h3) (D := zD5 S) H3 hO hA (fun y3 y4 y5 y6 y7 y8 y9 y10 => ?_) 5 0 _ _ _ _ _ (by omega) (by omega)
  refine z_lload_n dMod_digest_325 rfl ?_
  refine z_lconst dMod_digest_326 1 rfl ?_
  refine z_callS MS_Mod_add lk_Mod_210 dMod_digest_327 k_Mod_add rfl rfl (Nat.le_of_ble_eq_true rfl)  (Nat.le_of_ble_eq_true rfl) (Nat.le_of_ble_eq_true rfl) (Nat.le_of_eq (Nat.zero_add _)) (Nat.le_of_eq (Nat.zero_add _)) (fun _ _ q => q.elim) ?_
  rintro _ _ ⟨rfl, rfl⟩
  refine z_lret rfl dMod_digest_330 ?_
  exact ⟨rfl, H3, fz3⟩
end DIGX
end
section
/-! ===== the law: its end, its script ===== -/
def R_law : String := "CursorlistLaw"
def lw_P (b : Addr) (xs : List Int32) (args : Array Value) (s : State) : Prop := args = #[.ref b] ∧ s.IntsAt b xs ∧ xs.length ≤ 2048 ∧ (Jvm.Cond.and given_1 narrow_1).before args s = true
def lw_Q (_ : Array Value) (s : State) (o : Outcome) (t : State) : Prop := o = .returned (some (.int 1)) ∧ Framed s o t [] 745290 6860233
def lw_Z (below : List Frame) (a : Array Value) (s : State) : State → Prop := fun t => ∃ o, t.status = .running ∧ Ended t below o ∧ lw_Q a s o t
/-- the law's own end, with 1 on the stack, nothing written that was there before, its room as the claim has it -/
theorem lw_ret {p : Program} {l : Launch} {e : Env} {s : State} {m : MethodId} {below : List Frame} {meth : Method} {c : Code} {b : Nat} (hx : p.tables.exec = Jvm.exec) (hb : c.code = code) (hr : meth.sig.returnType = ret) (hlocks : meth.locks = false) {pc : Nat} {H : Heap} {ls : Array Slot} (hdg : decode code pc = .ok (.ireturn, 1)) : W p l e room_1 s m #[Value.ref b] below meth c H [] 745290 6860233 (lw_Z below #[Value.ref b] s) (F0 m pc ls [.int 1]) := by
  intro T hT X
  obtain ⟨fs, hret, hrun, hended, hW, hframe⟩ := X.leave (v := some (.int 1)) (hlocks := hlocks) (fun h => by rw [hr] at h; cases h)
  have hmeth' : T.vm.method? m = some meth := X.method'
  refine ⟨T.setFrames fs, ?_, .returned (some (.int 1)), hrun, hended, rfl, ⟨_, rfl⟩, hW, hframe⟩
  jvm_step X.here [X.here.top, hx, hb, hdg, hmeth', hr, ret, narrow_b1]
  (try refine ⟨rfl, ?_⟩); (try refine ⟨rfl, ?_⟩)
  first | (intro acts; rw [hret _ acts rfl rfl rfl]) | rw [hret _ _ rfl rfl rfl]
  exact Steps.refl _
/-- what holds at the law's entry: the machine, the code, the tables' words (any of lw_tbl by 'hts w (by decide +kernel)'), the script of L ints xs at the cell b, what the Statement gives of the start (any of its parts by flat_of_before) -/
def lw_At (p : Program) (s : State) (m : MethodId) (meth : Method) (c : Code) (b L : Nat) (xs : Nat → Int32) : Prop :=
  p.tables.exec = Jvm.exec ∧ c.code = code ∧ meth.sig.returnType = ret ∧ c.maxLocals = 7 ∧ s.vm.findClass R_law = some m.cls ∧ (∀ w ∈ lw_tbl, w.before #[Value.ref b] s = true) ∧ va_X b L xs s s.heap ∧ b < s.heap.size ∧ meth.locks = false ∧ (Jvm.Cond.and given_1 narrow_1).before #[Value.ref b] s = true
section LAW2
variable {G : zG} {l : Launch} {h h' h0 h1 h2 : zHp} {ad ma ma2 : Nat → Nat} {S S' : zSt} {th : Int}
abbrev hLaw_law : zHd := (RLaw, cLaw_law, 7, ret, [], false)
abbrev zLJ (G : zG) (b L : Nat) (xs : Nat → Int32) : zJ := (hLaw_law, room_1, fun below args s => lw_Z below args s, fun args s => args = #[Value.ref b] ∧ G.2.2 = s.heap.size ∧ va_X b L xs s s.heap ∧ b < s.heap.size ∧ L ≤ 2048)
variable {b L : Nat} {xs : Nat → Int32} {bc bs pc : Nat} {ls : List (Option Value)} {st : List Value}
/-- the law ends with true -/
theorem z_lawret (hd : decode cLaw_law pc = .ok (.ireturn, 1)) : zR G l (zLJ G b L xs) bc bs h pc ls [zi 1] := by
  intro p e s m args below meth c H locs cells slots ls0 C0 hP hS hL h1 h2
  obtain ⟨rfl, hG, hX, hb, -⟩ := C0.2.2.2.2.2.2.2.2.2.2.2.1
  have e1 : cells ≤ 745290 := by have : cells + bc ≤ 745290 := h1; omega
  have e2 : slots ≤ 6860233 := by have : slots + bs ≤ 6860233 := h2; omega
  refine va_forget (fun q hq => ?_) (W.widen (k := 745290) (n := 6860233) e1 e2 (lw_ret C0.1 C0.2.1 C0.2.2.2.1 C0.2.2.2.2.2.2.2.2.1 hd))
  have : G.2.2 ≤ q.base := hS.2.2 q hq
  rw [hG] at this
  exact this
/-- a number of the script -/
def zX9 (xs : Nat → Int32) (k : Int) : Int := (xs k.toNat).toInt
theorem zX9_r (k : Int) : zI32 (zX9 xs k) := by
  unfold zI32 zX9
  have h1 := Int32.le_toInt (xs k.toNat)
  have h2 := Int32.toInt_lt (xs k.toNat)
  omega
theorem z_sld {k : Int} (hk : 0 ≤ k ∧ k < L) (hd : decode cLaw_law pc = .ok (.iaload, 1)) (kk : zR G l (zLJ G b L xs) bc bs h (pc + 1) ls (zi (zX9 xs k) :: st)) : zR G l (zLJ G b L xs) bc bs h pc ls (zi k :: .ref b :: st) := by
  intro p e9 s m args below meth c H locs cells slots ls0 C0 hP hS hL h1 h2
  obtain ⟨ha, hG, hX, hb, hL2⟩ := C0.2.2.2.2.2.2.2.2.2.2.2.1
  refine va_sld C0.1 C0.2.1 hX hb (fun q : G.2.2 ≤ b => by rw [hG] at q; omega) hS (zI_in hk.1 hk.2 (by omega)) hd ?_
  rw [zI_clamp hk.1 (by omega)]
  have e : zI (zX9 xs k) = xs k.toNat := zI_of _
  rw [← e]
  exact kk p e9 s m args below meth c H locs cells slots ls0 C0 hP hS hL h1 h2
theorem z_slen (hd : decode cLaw_law pc = .ok (.arraylength, 1)) (kk : L ≤ 2048 → zR G l (zLJ G b L xs) bc bs h (pc + 1) ls (zi (L : Int) :: st)) : zR G l (zLJ G b L xs) bc bs h pc ls (.ref b :: st) := by
  intro p e s m args below meth c H locs cells slots ls0 C0 hP hS hL h1 h2
  obtain ⟨ha, hG, hX, hb, hL2⟩ := C0.2.2.2.2.2.2.2.2.2.2.2.1
  refine va_slen C0.1 C0.2.1 hX hb (fun q : G.2.2 ≤ b => by rw [hG] at q; omega) hS hd ?_
  rw [zI_nat]
  exact kk hL2 p e s m args below meth c H locs cells slots ls0 C0 hP hS hL h1 h2
variable {J : zJ}
/-- the low six bits -/
theorem zand63 (y : Int32) : ∃ k : Int, (0 ≤ k ∧ k < 64) ∧ y &&& zI 63 = zI k := by
  refine ⟨((y.toBitVec.toNat % 64 : Nat) : Int), ⟨by omega, by omega⟩, ?_⟩
  apply Int32.toBitVec_inj.mp
  apply BitVec.eq_of_toNat_eq
  have e63 : (zI 63).toBitVec = 63#32 := by decide
  have e1 : (y &&& zI 63).toBitVec = y.toBitVec &&& 63#32 := by rw [Int32.toBitVec_and, e63]
  rw [e1, BitVec.toNat_and]
  have e2 : y.toBitVec.toNat &&& (63#32).toNat = y.toBitVec.toNat % 64 := Nat.and_two_pow_sub_one_eq_mod _ 6
  rw [e2]
  show _ = (Int32.ofInt ((y.toBitVec.toNat % 64 : Nat) : Int)).toBitVec.toNat
  have e3 : (Int32.ofInt ((y.toBitVec.toNat % 64 : Nat) : Int)).toBitVec = BitVec.ofInt 32 ((y.toBitVec.toNat % 64 : Nat) : Int) := rfl
  rw [e3, BitVec.ofInt_natCast, BitVec.toNat_ofNat]
  have := Nat.mod_lt y.toBitVec.toNat (show 64 > 0 by decide)
  omega
/-! the state of both objects and of out -/
def zLi (G : zG) (h : zHp) (ad ma : Nat → Nat) (ou : Nat) (S : zSt) : Prop := ∃ (th n0 : Int) (sv : Value), zCls G h ad S ∧ zMod G h ma S th ∧ zOk S ∧ zOkB S ∧ h ou = some (.inr (zkOut, [zl (zwd n0), sv])) ∧ (∀ i, i < 20 → ou ≠ ad i) ∧ (∀ j, j < 13 → ou ≠ ma j) ∧ (∀ i j, i < 20 → j < 13 → ad i ≠ ma j)
theorem zCls.dom (H : zCls G h ad S) {i : Nat} (hi : i < 20) : ∃ e, h (ad i) = some e := by
  obtain ⟨c1, c2, ⟨g3, c3, d3⟩, ⟨g4, c4, d4⟩, c5, ⟨T6, c6, d6⟩, c7, c8, ⟨R9, ⟨f9, e9, e9a, -⟩⟩, ⟨f10, e10, e10a, -⟩⟩ := H
  have cu : ∀ c, c < 3 → ∃ e, h (ad (5 + c)) = some e := fun c hc => by
    obtain ⟨st, li, ix, la, e, -⟩ := c7 c hc
    exact ⟨_, e⟩
  have ro : ∀ k, k < 4 → (∃ e, h (ad (8 + 2 * k)) = some e) ∧ ∃ e, h (ad (9 + 2 * k)) = some e := fun k hk => by
    obtain ⟨f, e1, e2, -⟩ := c8 k hk
    exact ⟨⟨_, e1⟩, ⟨_, e2⟩⟩
  match i, hi with
  | 0, _ => exact ⟨_, c2⟩
  | 1, _ => exact ⟨_, c3⟩
  | 2, _ => exact ⟨_, c4⟩
  | 3, _ => exact ⟨_, c5⟩
  | 4, _ => exact ⟨_, c6⟩
  | 5, _ => exact cu 0 (by omega)
  | 6, _ => exact cu 1 (by omega)
  | 7, _ => exact cu 2 (by omega)
  | 8, _ => exact (ro 0 (by omega)).1
  | 9, _ => exact (ro 0 (by omega)).2
  | 10, _ => exact (ro 1 (by omega)).1
  | 11, _ => exact (ro 1 (by omega)).2
  | 12, _ => exact (ro 2 (by omega)).1
  | 13, _ => exact (ro 2 (by omega)).2
  | 14, _ => exact (ro 3 (by omega)).1
  | 15, _ => exact (ro 3 (by omega)).2
  | 16, _ => exact ⟨_, e9⟩
  | 17, _ => exact ⟨_, e9a⟩
  | 18, _ => exact ⟨_, e10⟩
  | 19, _ => exact ⟨_, e10a⟩
  | n + 20, h9 => exact absurd h9 (by omega)
theorem zLi.fin {ou : Nat} {th2 n0 : Int} {sv : Value} (C : zCls G h1 ad S') (eo : h1 ou = some (.inr (zkOut, [zl (zwd n0), sv]))) (n1 : ∀ i, i < 20 → ou ≠ ad i) (n2 : ∀ j, j < 13 → ou ≠ ma j) (n3 : ∀ i j, i < 20 → j < 13 → ad i ≠ ma j)
    (M : zMod G h2 ma2 S' th2) (F : zMfr ma h1 h2) (A : ∀ i, i < 13 → ma2 i = ma i ∨ (zDm h1 (ma2 i) ∧ G.2.2 ≤ ma2 i)) (ok : zOk S') (oka : zOkB S') : zLi G h2 ad ma2 ou S' := by
  refine ⟨th2, n0, sv, C.at (fun i hi => ?_), M, ok, oka, F ou _ eo n2, n1, fun j hj => ?_, fun i j hi hj => ?_⟩
  · obtain ⟨e, he⟩ := C.dom hi
    rw [he]
    exact F _ _ he (fun j hj => n3 i j hi hj)
  · rcases A j hj with q | ⟨q, -⟩
    · rw [q]; exact n2 j hj
    · exact Nat.ne_of_lt (q _ _ eo)
  · obtain ⟨e, he⟩ := C.dom hi
    rcases A j hj with q | ⟨q, -⟩
    · rw [q]; exact n3 i j hi hj
    · exact Nat.ne_of_lt (q _ _ he)
theorem zCls.exo {ou : Nat} (H : zCls G h ad S) (n1 : ∀ i, i < 20 → ou ≠ ad i) (f : ∀ q e, q ≠ ou → h q = some e → h' q = some e) : zCls G h' ad S := H.at (fun i hi => by
  obtain ⟨e, he⟩ := H.dom hi
  rw [he]
  exact f _ _ (Ne.symm (n1 i hi)) he)
theorem zMod.exo {ou : Nat} (H : zMod G h ma S th) (n2 : ∀ j, j < 13 → ou ≠ ma j) (f : ∀ q e, q ≠ ou → h q = some e → h' q = some e) : zMod G h' ma S th := H.at (fun j hj => by
  obtain ⟨e, he⟩ := H.dom hj
  rw [he]
  exact f _ _ (Ne.symm (n2 j hj)) he)
theorem zMod.mid {ou : Nat} (M : zMod G h ma S th) (n2 : ∀ j, j < 13 → ou ≠ ma j) (n3 : ∀ i j, i < 20 → j < 13 → ad i ≠ ma j) (f1 : ∀ q, q ≠ ou → (∀ i, i < 20 → q ≠ ad i) → h1 q = h q) : zMod G h1 ma S th := M.at (fun j hj => f1 _ (Ne.symm (n2 j hj)) (fun i hi => Ne.symm (n3 i j hi hj)))
theorem ok_zS0 : zOk zS0 := by
  refine ⟨fun c _ q => absurd (show (0 : Int) = 1 from q) (by decide), fun k k1 k2 => ?_, rfl, Nat.zero_le _, Int.le_refl _, Int.le_refl _⟩
  show 0 ≤ zFind (zPl9 8) k 0
  rcases (show k = 0 ∨ k = 1 ∨ k = 2 ∨ k = 3 ∨ k = 4 ∨ k = 5 ∨ k = 6 ∨ k = 7 by omega) with rfl | rfl | rfl | rfl | rfl | rfl | rfl | rfl <;> decide
theorem oka_zS0 : zOkA zS0 := fun j hj => absurd hj (Nat.not_lt_zero j)
theorem okb_zS0 : zOkB zS0 := ⟨oka_zS0, okp_zS0⟩
theorem oka_put {p w x : Int} (hA : zOkA S) : zOkA (sp_put S p w x).2 := by
  refine hA.of ?_
  unfold sp_put
  (try simp only [spPut, spTake, spBec, spRef])
  (repeat' split) <;> rfl
theorem oka_take {p w : Int} (hA : zOkA S) : zOkA (sp_take S p w).2 := by
  refine hA.of ?_
  unfold sp_take
  (try simp only [spPut, spTake, spBec, spRef])
  (repeat' split) <;> rfl
theorem oka_look {p w : Int} (hA : zOkA S) : zOkA (sp_look S p w).2 := by
  refine hA.of ?_
  unfold sp_look
  (try simp only [spPut, spTake, spBec, spRef])
  (repeat' split) <;> rfl
theorem oka_get {p q : Int} (hA : zOkA S) : zOkA (sp_get S p q).2 := by
  refine hA.of ?_
  unfold sp_get
  (try simp only [spPut, spTake, spBec, spRef])
  (repeat' split) <;> rfl
theorem oka_set {p q x : Int} (hA : zOkA S) : zOkA (sp_set S p q x).2 := by
  refine hA.of ?_
  unfold sp_set
  (try simp only [spPut, spTake, spBec, spRef])
  (repeat' split) <;> rfl
theorem oka_insert {p q x : Int} (hA : zOkA S) : zOkA (sp_insert S p q x).2 := by
  refine hA.of ?_
  unfold sp_insert
  (try simp only [spPut, spTake, spBec, spRef])
  (repeat' split) <;> rfl
theorem oka_removeAt {p q : Int} (hA : zOkA S) : zOkA (sp_removeAt S p q).2 := by
  refine hA.of ?_
  unfold sp_removeAt
  (try simp only [spPut, spTake, spBec, spRef])
  (repeat' split) <;> rfl
theorem oka_drop {p x b : Int} (hA : zOkA S) : zOkA (sp_drop S p x b).2 := by
  refine hA.of ?_
  unfold sp_drop
  (try simp only [spPut, spTake, spBec, spRef])
  (repeat' split) <;> rfl
theorem oka_thin {p x : Int} (hA : zOkA S) : zOkA (sp_thin S p x).2 := by
  refine hA.of ?_
  unfold sp_thin
  (try simp only [spPut, spTake, spBec, spRef])
  (repeat' split) <;> rfl
theorem oka_indexOf {p x b : Int} (hA : zOkA S) : zOkA (sp_indexOf S p x b).2 := by
  refine hA.of ?_
  unfold sp_indexOf
  (try simp only [spPut, spTake, spBec, spRef])
  (repeat' split) <;> rfl
theorem oka_has {p x : Int} (hA : zOkA S) : zOkA (sp_has S p x).2 := by
  refine hA.of ?_
  unfold sp_has
  (try simp only [spPut, spTake, spBec, spRef])
  (repeat' split) <;> rfl
theorem oka_size {p : Int} (hA : zOkA S) : zOkA (sp_size S p).2 := by
  refine hA.of ?_
  unfold sp_size
  (try simp only [spPut, spTake, spBec, spRef])
  (repeat' split) <;> rfl
theorem oka_clear {p : Int} (hA : zOkA S) : zOkA (sp_clear S p).2 := by
  refine hA.of ?_
  unfold sp_clear
  (try simp only [spPut, spTake, spBec, spRef])
  (repeat' split) <;> rfl
theorem oka_append {p f : Int} (hA : zOkA S) : zOkA (sp_append S p f).2 := by
  refine hA.of ?_
  unfold sp_append
  (try simp only [spPut, spTake, spBec, spRef])
  (repeat' split) <;> rfl
theorem oka_appendAt {p q f : Int} (hA : zOkA S) : zOkA (sp_appendAt S p q f).2 := by
  refine hA.of ?_
  unfold sp_appendAt
  (try simp only [spPut, spTake, spBec, spRef])
  (repeat' split) <;> rfl
theorem oka_copy {p i : Int} (hA : zOkA S) : zOkA (sp_copy S p i).2 := by
  refine hA.of ?_
  unfold sp_copy
  (try simp only [spPut, spTake, spBec, spRef])
  (repeat' split) <;> rfl
theorem oka_places {p m : Int} (hA : zOkA S) : zOkA (sp_places S p m).2 := by
  refine hA.of ?_
  unfold sp_places
  (try simp only [spPut, spTake, spBec, spRef])
  (repeat' split) <;> rfl
theorem oka_rotate {p b : Int} (hA : zOkA S) : zOkA (sp_rotate S p b).2 := by
  refine hA.of ?_
  unfold sp_rotate
  (try simp only [spPut, spTake, spBec, spRef])
  (repeat' split) <;> rfl
theorem oka_move {p f t : Int} (hA : zOkA S) : zOkA (sp_move S p f t).2 := by
  refine hA.of ?_
  unfold sp_move
  (try simp only [spPut, spTake, spBec, spRef])
  (repeat' split) <;> rfl
theorem oka_swap {p i j : Int} (hA : zOkA S) : zOkA (sp_swap S p i j).2 := by
  refine hA.of ?_
  unfold sp_swap
  (try simp only [spPut, spTake, spBec, spRef])
  (repeat' split) <;> rfl
theorem oka_reverse {p : Int} (hA : zOkA S) : zOkA (sp_reverse S p).2 := by
  refine hA.of ?_
  unfold sp_reverse
  (try simp only [spPut, spTake, spBec, spRef])
  (repeat' split) <;> rfl
theorem oka_through {p m i : Int} (hA : zOkA S) : zOkA (sp_through S p m i).2 := by
  refine hA.of ?_
  unfold sp_through
  (try simp only [spPut, spTake, spBec, spRef])
  (repeat' split) <;> rfl
theorem oka_areSame {p o : Int} (hA : zOkA S) : zOkA (sp_areSame S p o).2 := by
  refine hA.of ?_
  unfold sp_areSame
  (try simp only [spPut, spTake, spBec, spRef])
  (repeat' split) <;> rfl
theorem oka_isMirror {p : Int} (hA : zOkA S) : zOkA (sp_isMirror S p).2 := by
  refine hA.of ?_
  unfold sp_isMirror
  (try simp only [spPut, spTake, spBec, spRef])
  (repeat' split) <;> rfl
theorem oka_open {c p q : Int} (hA : zOkA S) : zOkA (sp_open S c p q).2 := by
  refine hA.of ?_
  unfold sp_open
  (try simp only [spPut, spTake, spBec, spRef])
  (repeat' split) <;> rfl
theorem oka_shut {c : Int} (hA : zOkA S) : zOkA (sp_shut S c).2 := by
  refine hA.of ?_
  unfold sp_shut
  (try simp only [spPut, spTake, spBec, spRef])
  (repeat' split) <;> rfl
theorem oka_forth {c : Int} (hA : zOkA S) : zOkA (sp_forth S c).2 := by
  refine hA.of ?_
  unfold sp_forth
  (try simp only [spPut, spTake, spBec, spRef])
  (repeat' split) <;> rfl
theorem oka_back {c : Int} (hA : zOkA S) : zOkA (sp_back S c).2 := by
  refine hA.of ?_
  unfold sp_back
  (try simp only [spPut, spTake, spBec, spRef])
  (repeat' split) <;> rfl
theorem oka_puts {c x : Int} (hA : zOkA S) : zOkA (sp_puts S c x).2 := by
  refine hA.of ?_
  unfold sp_puts
  (try simp only [spPut, spTake, spBec, spRef])
  (repeat' split) <;> rfl
theorem oka_cuts {c : Int} (hA : zOkA S) : zOkA (sp_cuts S c).2 := by
  refine hA.of ?_
  unfold sp_cuts
  (try simp only [spPut, spTake, spBec, spRef])
  (repeat' split) <;> rfl
theorem oka_changes {c x : Int} (hA : zOkA S) : zOkA (sp_changes S c x).2 := by
  refine hA.of ?_
  unfold sp_changes
  (try simp only [spPut, spTake, spBec, spRef])
  (repeat' split) <;> rfl
theorem oka_meet {c o : Int} (hA : zOkA S) : zOkA (sp_meet S c o).2 := by
  refine hA.of ?_
  unfold sp_meet
  (try simp only [spPut, spTake, spBec, spRef])
  (repeat' split) <;> rfl
theorem oka_ofCursor {c w : Int} (hA : zOkA S) : zOkA (sp_ofCursor S c w).2 := by
  refine hA.of ?_
  unfold sp_ofCursor
  (try simp only [spPut, spTake, spBec, spRef])
  (repeat' split) <;> rfl
theorem oka_plus {p o : Int} (hA : zOkA S) : zOkA (sp_plus S p o).2 := by
  refine hA.of ?_
  unfold sp_plus
  (try simp only [spPut, spTake, spBec, spRef])
  (repeat' split) <;> rfl
theorem oka_times {p o : Int} (hA : zOkA S) : zOkA (sp_times S p o).2 := by
  refine hA.of ?_
  unfold sp_times
  (try simp only [spPut, spTake, spBec, spRef])
  (repeat' split) <;> rfl
theorem oka_shift {p : Int} (hA : zOkA S) : zOkA (sp_shift S p).2 := by
  refine hA.of ?_
  unfold sp_shift
  (try simp only [spPut, spTake, spBec, spRef])
  (repeat' split) <;> rfl
theorem oka_trim {p : Int} (hA : zOkA S) : zOkA (sp_trim S p).2 := by
  refine hA.of ?_
  unfold sp_trim
  (try simp only [spPut, spTake, spBec, spRef])
  (repeat' split) <;> rfl
theorem oka_derive {p : Int} (hA : zOkA S) : zOkA (sp_derive S p).2 := by
  refine hA.of ?_
  unfold sp_derive
  (try simp only [spPut, spTake, spBec, spRef])
  (repeat' split) <;> rfl
theorem oka_value {p x : Int} (hA : zOkA S) : zOkA (sp_value S p x).2 := by
  refine hA.of ?_
  unfold sp_value
  (try simp only [spPut, spTake, spBec, spRef])
  (repeat' split) <;> rfl
theorem oka_degree {p : Int} (hA : zOkA S) : zOkA (sp_degree S p).2 := by
  refine hA.of ?_
  unfold sp_degree
  (try simp only [spPut, spTake, spBec, spRef])
  (repeat' split) <;> rfl
theorem oka_ask {key : Int} (hA : zOkA S) : zOkA (sp_ask S key).2 := by
  unfold sp_ask
  (repeat' split)
  · rename_i q1 q2
    intro j hj
    have e : (zsAsk S key).2.2.2.1 = S.2.2.2.1 ++ [key] := rfl
    show 0 ≤ (zsAsk S key).2.2.2.1.getD j 0 ∧ (zsAsk S key).2.2.2.1.getD j 0 ≤ 7
    have hj2 : j < (S.2.2.2.1 ++ [key]).length := hj
    rw [List.length_append, List.length_singleton] at hj2
    rw [e]
    by_cases c : j < S.2.2.2.1.length
    · have := hA j c
      rw [List.getD_eq_getElem?_getD, List.getElem?_append_left c, ← List.getD_eq_getElem?_getD]
      exact this
    · rw [List.getD_eq_getElem?_getD, List.getElem?_append_right (by omega), show j - S.2.2.2.1.length = 0 by omega]
      exact q1
  · exact hA
  · exact hA
theorem oka_asked {w : Int} (hA : zOkA S) : zOkA (sp_asked S w).2 := by
  refine hA.of ?_
  unfold sp_asked
  (try simp only [spPut, spTake, spBec, spRef])
  (repeat' split) <;> rfl
theorem oka_byOrder {p w : Int} (hA : zOkA S) : zOkA (sp_byOrder S p w).2 := by
  refine hA.of ?_
  unfold sp_byOrder
  (try simp only [spPut, spTake, spBec, spRef])
  (repeat' split) <;> rfl
theorem oka_house {w : Int} (hA : zOkA S) : zOkA (sp_house S w).2 := by
  refine hA.of ?_
  unfold sp_house
  (try simp only [spPut, spTake, spBec, spRef])
  (repeat' split) <;> rfl
theorem oka_forget (hA : zOkA S) : zOkA (sp_forget S).2 := fun j hj => absurd hj (Nat.not_lt_zero j)
theorem oka_knock (hA : zOkA S) : zOkA (sp_knock S).2 := by
  refine hA.of ?_
  unfold sp_knock
  (try simp only [spPut, spTake, spBec, spRef])
  (repeat' split) <;> rfl
theorem okp_put {p w x : Int} (hP : zOkP S) : zOkP (sp_put S p w x).2 := by
  refine hP.of ?_
  unfold sp_put
  (try simp only [spPut, spTake, spBec, spRef])
  (repeat' split) <;> exact ⟨rfl, rfl, rfl⟩
theorem okb_put {p w x : Int} (_hO : zOk S) (hB : zOkB S) : zOkB (sp_put S p w x).2 := ⟨oka_put hB.1, okp_put hB.2⟩
theorem okp_take {p w : Int} (hP : zOkP S) : zOkP (sp_take S p w).2 := by
  refine hP.of ?_
  unfold sp_take
  (try simp only [spPut, spTake, spBec, spRef])
  (repeat' split) <;> exact ⟨rfl, rfl, rfl⟩
theorem okb_take {p w : Int} (_hO : zOk S) (hB : zOkB S) : zOkB (sp_take S p w).2 := ⟨oka_take hB.1, okp_take hB.2⟩
theorem okp_look {p w : Int} (hP : zOkP S) : zOkP (sp_look S p w).2 := by
  refine hP.of ?_
  unfold sp_look
  (try simp only [spPut, spTake, spBec, spRef])
  (repeat' split) <;> exact ⟨rfl, rfl, rfl⟩
theorem okb_look {p w : Int} (_hO : zOk S) (hB : zOkB S) : zOkB (sp_look S p w).2 := ⟨oka_look hB.1, okp_look hB.2⟩
theorem okp_get {p q : Int} (hP : zOkP S) : zOkP (sp_get S p q).2 := by
  refine hP.of ?_
  unfold sp_get
  (try simp only [spPut, spTake, spBec, spRef])
  (repeat' split) <;> exact ⟨rfl, rfl, rfl⟩
theorem okb_get {p q : Int} (_hO : zOk S) (hB : zOkB S) : zOkB (sp_get S p q).2 := ⟨oka_get hB.1, okp_get hB.2⟩
theorem okp_set {p q x : Int} (hP : zOkP S) : zOkP (sp_set S p q x).2 := by
  refine hP.of ?_
  unfold sp_set
  (try simp only [spPut, spTake, spBec, spRef])
  (repeat' split) <;> exact ⟨rfl, rfl, rfl⟩
theorem okb_set {p q x : Int} (_hO : zOk S) (hB : zOkB S) : zOkB (sp_set S p q x).2 := ⟨oka_set hB.1, okp_set hB.2⟩
theorem okp_insert {p q x : Int} (hP : zOkP S) : zOkP (sp_insert S p q x).2 := by
  refine hP.of ?_
  unfold sp_insert
  (try simp only [spPut, spTake, spBec, spRef])
  (repeat' split) <;> exact ⟨rfl, rfl, rfl⟩
theorem okb_insert {p q x : Int} (_hO : zOk S) (hB : zOkB S) : zOkB (sp_insert S p q x).2 := ⟨oka_insert hB.1, okp_insert hB.2⟩
theorem okp_removeAt {p q : Int} (hP : zOkP S) : zOkP (sp_removeAt S p q).2 := by
  refine hP.of ?_
  unfold sp_removeAt
  (try simp only [spPut, spTake, spBec, spRef])
  (repeat' split) <;> exact ⟨rfl, rfl, rfl⟩
theorem okb_removeAt {p q : Int} (_hO : zOk S) (hB : zOkB S) : zOkB (sp_removeAt S p q).2 := ⟨oka_removeAt hB.1, okp_removeAt hB.2⟩
theorem okp_drop {p x b : Int} (hP : zOkP S) : zOkP (sp_drop S p x b).2 := by
  refine hP.of ?_
  unfold sp_drop
  (try simp only [spPut, spTake, spBec, spRef])
  (repeat' split) <;> exact ⟨rfl, rfl, rfl⟩
theorem okb_drop {p x b : Int} (_hO : zOk S) (hB : zOkB S) : zOkB (sp_drop S p x b).2 := ⟨oka_drop hB.1, okp_drop hB.2⟩
theorem okp_thin {p x : Int} (hP : zOkP S) : zOkP (sp_thin S p x).2 := by
  refine hP.of ?_
  unfold sp_thin
  (try simp only [spPut, spTake, spBec, spRef])
  (repeat' split) <;> exact ⟨rfl, rfl, rfl⟩
theorem okb_thin {p x : Int} (_hO : zOk S) (hB : zOkB S) : zOkB (sp_thin S p x).2 := ⟨oka_thin hB.1, okp_thin hB.2⟩
theorem okp_indexOf {p x b : Int} (hP : zOkP S) : zOkP (sp_indexOf S p x b).2 := by
  refine hP.of ?_
  unfold sp_indexOf
  (try simp only [spPut, spTake, spBec, spRef])
  (repeat' split) <;> exact ⟨rfl, rfl, rfl⟩
theorem okb_indexOf {p x b : Int} (_hO : zOk S) (hB : zOkB S) : zOkB (sp_indexOf S p x b).2 := ⟨oka_indexOf hB.1, okp_indexOf hB.2⟩
theorem okp_has {p x : Int} (hP : zOkP S) : zOkP (sp_has S p x).2 := by
  refine hP.of ?_
  unfold sp_has
  (try simp only [spPut, spTake, spBec, spRef])
  (repeat' split) <;> exact ⟨rfl, rfl, rfl⟩
theorem okb_has {p x : Int} (_hO : zOk S) (hB : zOkB S) : zOkB (sp_has S p x).2 := ⟨oka_has hB.1, okp_has hB.2⟩
theorem okp_size {p : Int} (hP : zOkP S) : zOkP (sp_size S p).2 := by
  refine hP.of ?_
  unfold sp_size
  (try simp only [spPut, spTake, spBec, spRef])
  (repeat' split) <;> exact ⟨rfl, rfl, rfl⟩
theorem okb_size {p : Int} (_hO : zOk S) (hB : zOkB S) : zOkB (sp_size S p).2 := ⟨oka_size hB.1, okp_size hB.2⟩
theorem okp_clear {p : Int} (hP : zOkP S) : zOkP (sp_clear S p).2 := by
  refine hP.of ?_
  unfold sp_clear
  (try simp only [spPut, spTake, spBec, spRef])
  (repeat' split) <;> exact ⟨rfl, rfl, rfl⟩
theorem okb_clear {p : Int} (_hO : zOk S) (hB : zOkB S) : zOkB (sp_clear S p).2 := ⟨oka_clear hB.1, okp_clear hB.2⟩
theorem okp_append {p f : Int} (hP : zOkP S) : zOkP (sp_append S p f).2 := by
  refine hP.of ?_
  unfold sp_append
  (try simp only [spPut, spTake, spBec, spRef])
  (repeat' split) <;> exact ⟨rfl, rfl, rfl⟩
theorem okb_append {p f : Int} (_hO : zOk S) (hB : zOkB S) : zOkB (sp_append S p f).2 := ⟨oka_append hB.1, okp_append hB.2⟩
theorem okp_appendAt {p q f : Int} (hP : zOkP S) : zOkP (sp_appendAt S p q f).2 := by
  refine hP.of ?_
  unfold sp_appendAt
  (try simp only [spPut, spTake, spBec, spRef])
  (repeat' split) <;> exact ⟨rfl, rfl, rfl⟩
theorem okb_appendAt {p q f : Int} (_hO : zOk S) (hB : zOkB S) : zOkB (sp_appendAt S p q f).2 := ⟨oka_appendAt hB.1, okp_appendAt hB.2⟩
theorem okp_copy {p i : Int} (hP : zOkP S) : zOkP (sp_copy S p i).2 := by
  refine hP.of ?_
  unfold sp_copy
  (try simp only [spPut, spTake, spBec, spRef])
  (repeat' split) <;> exact ⟨rfl, rfl, rfl⟩
theorem okb_copy {p i : Int} (_hO : zOk S) (hB : zOkB S) : zOkB (sp_copy S p i).2 := ⟨oka_copy hB.1, okp_copy hB.2⟩
theorem okp_places {p m : Int} (hP : zOkP S) : zOkP (sp_places S p m).2 := by
  refine hP.of ?_
  unfold sp_places
  (try simp only [spPut, spTake, spBec, spRef])
  (repeat' split) <;> exact ⟨rfl, rfl, rfl⟩
theorem okb_places {p m : Int} (_hO : zOk S) (hB : zOkB S) : zOkB (sp_places S p m).2 := ⟨oka_places hB.1, okp_places hB.2⟩
theorem okp_rotate {p b : Int} (hP : zOkP S) : zOkP (sp_rotate S p b).2 := by
  refine hP.of ?_
  unfold sp_rotate
  (try simp only [spPut, spTake, spBec, spRef])
  (repeat' split) <;> exact ⟨rfl, rfl, rfl⟩
theorem okb_rotate {p b : Int} (_hO : zOk S) (hB : zOkB S) : zOkB (sp_rotate S p b).2 := ⟨oka_rotate hB.1, okp_rotate hB.2⟩
theorem okp_move {p f t : Int} (hP : zOkP S) : zOkP (sp_move S p f t).2 := by
  refine hP.of ?_
  unfold sp_move
  (try simp only [spPut, spTake, spBec, spRef])
  (repeat' split) <;> exact ⟨rfl, rfl, rfl⟩
theorem okb_move {p f t : Int} (_hO : zOk S) (hB : zOkB S) : zOkB (sp_move S p f t).2 := ⟨oka_move hB.1, okp_move hB.2⟩
theorem okp_swap {p i j : Int} (hP : zOkP S) : zOkP (sp_swap S p i j).2 := by
  refine hP.of ?_
  unfold sp_swap
  (try simp only [spPut, spTake, spBec, spRef])
  (repeat' split) <;> exact ⟨rfl, rfl, rfl⟩
theorem okb_swap {p i j : Int} (_hO : zOk S) (hB : zOkB S) : zOkB (sp_swap S p i j).2 := ⟨oka_swap hB.1, okp_swap hB.2⟩
theorem okp_reverse {p : Int} (hP : zOkP S) : zOkP (sp_reverse S p).2 := by
  refine hP.of ?_
  unfold sp_reverse
  (try simp only [spPut, spTake, spBec, spRef])
  (repeat' split) <;> exact ⟨rfl, rfl, rfl⟩
theorem okb_reverse {p : Int} (_hO : zOk S) (hB : zOkB S) : zOkB (sp_reverse S p).2 := ⟨oka_reverse hB.1, okp_reverse hB.2⟩
theorem okp_through {p m i : Int} (hP : zOkP S) : zOkP (sp_through S p m i).2 := by
  refine hP.of ?_
  unfold sp_through
  (try simp only [spPut, spTake, spBec, spRef])
  (repeat' split) <;> exact ⟨rfl, rfl, rfl⟩
theorem okb_through {p m i : Int} (_hO : zOk S) (hB : zOkB S) : zOkB (sp_through S p m i).2 := ⟨oka_through hB.1, okp_through hB.2⟩
theorem okp_areSame {p o : Int} (hP : zOkP S) : zOkP (sp_areSame S p o).2 := by
  refine hP.of ?_
  unfold sp_areSame
  (try simp only [spPut, spTake, spBec, spRef])
  (repeat' split) <;> exact ⟨rfl, rfl, rfl⟩
theorem okb_areSame {p o : Int} (_hO : zOk S) (hB : zOkB S) : zOkB (sp_areSame S p o).2 := ⟨oka_areSame hB.1, okp_areSame hB.2⟩
theorem okp_isMirror {p : Int} (hP : zOkP S) : zOkP (sp_isMirror S p).2 := by
  refine hP.of ?_
  unfold sp_isMirror
  (try simp only [spPut, spTake, spBec, spRef])
  (repeat' split) <;> exact ⟨rfl, rfl, rfl⟩
theorem okb_isMirror {p : Int} (_hO : zOk S) (hB : zOkB S) : zOkB (sp_isMirror S p).2 := ⟨oka_isMirror hB.1, okp_isMirror hB.2⟩
theorem okp_open {c p q : Int} (hP : zOkP S) : zOkP (sp_open S c p q).2 := by
  refine hP.of ?_
  unfold sp_open
  (try simp only [spPut, spTake, spBec, spRef])
  (repeat' split) <;> exact ⟨rfl, rfl, rfl⟩
theorem okb_open {c p q : Int} (_hO : zOk S) (hB : zOkB S) : zOkB (sp_open S c p q).2 := ⟨oka_open hB.1, okp_open hB.2⟩
theorem okp_shut {c : Int} (hP : zOkP S) : zOkP (sp_shut S c).2 := by
  refine hP.of ?_
  unfold sp_shut
  (try simp only [spPut, spTake, spBec, spRef])
  (repeat' split) <;> exact ⟨rfl, rfl, rfl⟩
theorem okb_shut {c : Int} (_hO : zOk S) (hB : zOkB S) : zOkB (sp_shut S c).2 := ⟨oka_shut hB.1, okp_shut hB.2⟩
theorem okp_forth {c : Int} (hP : zOkP S) : zOkP (sp_forth S c).2 := by
  refine hP.of ?_
  unfold sp_forth
  (try simp only [spPut, spTake, spBec, spRef])
  (repeat' split) <;> exact ⟨rfl, rfl, rfl⟩
theorem okb_forth {c : Int} (_hO : zOk S) (hB : zOkB S) : zOkB (sp_forth S c).2 := ⟨oka_forth hB.1, okp_forth hB.2⟩
theorem okp_back {c : Int} (hP : zOkP S) : zOkP (sp_back S c).2 := by
  refine hP.of ?_
  unfold sp_back
  (try simp only [spPut, spTake, spBec, spRef])
  (repeat' split) <;> exact ⟨rfl, rfl, rfl⟩
theorem okb_back {c : Int} (_hO : zOk S) (hB : zOkB S) : zOkB (sp_back S c).2 := ⟨oka_back hB.1, okp_back hB.2⟩
theorem okp_puts {c x : Int} (hP : zOkP S) : zOkP (sp_puts S c x).2 := by
  refine hP.of ?_
  unfold sp_puts
  (try simp only [spPut, spTake, spBec, spRef])
  (repeat' split) <;> exact ⟨rfl, rfl, rfl⟩
theorem okb_puts {c x : Int} (_hO : zOk S) (hB : zOkB S) : zOkB (sp_puts S c x).2 := ⟨oka_puts hB.1, okp_puts hB.2⟩
theorem okp_cuts {c : Int} (hP : zOkP S) : zOkP (sp_cuts S c).2 := by
  refine hP.of ?_
  unfold sp_cuts
  (try simp only [spPut, spTake, spBec, spRef])
  (repeat' split) <;> exact ⟨rfl, rfl, rfl⟩
theorem okb_cuts {c : Int} (_hO : zOk S) (hB : zOkB S) : zOkB (sp_cuts S c).2 := ⟨oka_cuts hB.1, okp_cuts hB.2⟩
theorem okp_changes {c x : Int} (hP : zOkP S) : zOkP (sp_changes S c x).2 := by
  refine hP.of ?_
  unfold sp_changes
  (try simp only [spPut, spTake, spBec, spRef])
  (repeat' split) <;> exact ⟨rfl, rfl, rfl⟩
theorem okb_changes {c x : Int} (_hO : zOk S) (hB : zOkB S) : zOkB (sp_changes S c x).2 := ⟨oka_changes hB.1, okp_changes hB.2⟩
theorem okp_meet {c o : Int} (hP : zOkP S) : zOkP (sp_meet S c o).2 := by
  refine hP.of ?_
  unfold sp_meet
  (try simp only [spPut, spTake, spBec, spRef])
  (repeat' split) <;> exact ⟨rfl, rfl, rfl⟩
theorem okb_meet {c o : Int} (_hO : zOk S) (hB : zOkB S) : zOkB (sp_meet S c o).2 := ⟨oka_meet hB.1, okp_meet hB.2⟩
theorem okp_ofCursor {c w : Int} (hP : zOkP S) : zOkP (sp_ofCursor S c w).2 := by
  refine hP.of ?_
  unfold sp_ofCursor
  (try simp only [spPut, spTake, spBec, spRef])
  (repeat' split) <;> exact ⟨rfl, rfl, rfl⟩
theorem okb_ofCursor {c w : Int} (_hO : zOk S) (hB : zOkB S) : zOkB (sp_ofCursor S c w).2 := ⟨oka_ofCursor hB.1, okp_ofCursor hB.2⟩
theorem okp_plus {p o : Int} (hP : zOkP S) : zOkP (sp_plus S p o).2 := by
  refine hP.of ?_
  unfold sp_plus
  (try simp only [spPut, spTake, spBec, spRef])
  (repeat' split) <;> exact ⟨rfl, rfl, rfl⟩
theorem okb_plus {p o : Int} (_hO : zOk S) (hB : zOkB S) : zOkB (sp_plus S p o).2 := ⟨oka_plus hB.1, okp_plus hB.2⟩
theorem okp_times {p o : Int} (hP : zOkP S) : zOkP (sp_times S p o).2 := by
  refine hP.of ?_
  unfold sp_times
  (try simp only [spPut, spTake, spBec, spRef])
  (repeat' split) <;> exact ⟨rfl, rfl, rfl⟩
theorem okb_times {p o : Int} (_hO : zOk S) (hB : zOkB S) : zOkB (sp_times S p o).2 := ⟨oka_times hB.1, okp_times hB.2⟩
theorem okp_shift {p : Int} (hP : zOkP S) : zOkP (sp_shift S p).2 := by
  refine hP.of ?_
  unfold sp_shift
  (try simp only [spPut, spTake, spBec, spRef])
  (repeat' split) <;> exact ⟨rfl, rfl, rfl⟩
theorem okb_shift {p : Int} (_hO : zOk S) (hB : zOkB S) : zOkB (sp_shift S p).2 := ⟨oka_shift hB.1, okp_shift hB.2⟩
theorem okp_trim {p : Int} (hP : zOkP S) : zOkP (sp_trim S p).2 := by
  refine hP.of ?_
  unfold sp_trim
  (try simp only [spPut, spTake, spBec, spRef])
  (repeat' split) <;> exact ⟨rfl, rfl, rfl⟩
theorem okb_trim {p : Int} (_hO : zOk S) (hB : zOkB S) : zOkB (sp_trim S p).2 := ⟨oka_trim hB.1, okp_trim hB.2⟩
theorem okp_derive {p : Int} (hP : zOkP S) : zOkP (sp_derive S p).2 := by
  refine hP.of ?_
  unfold sp_derive
  (try simp only [spPut, spTake, spBec, spRef])
  (repeat' split) <;> exact ⟨rfl, rfl, rfl⟩
theorem okb_derive {p : Int} (_hO : zOk S) (hB : zOkB S) : zOkB (sp_derive S p).2 := ⟨oka_derive hB.1, okp_derive hB.2⟩
theorem okp_value {p x : Int} (hP : zOkP S) : zOkP (sp_value S p x).2 := by
  refine hP.of ?_
  unfold sp_value
  (try simp only [spPut, spTake, spBec, spRef])
  (repeat' split) <;> exact ⟨rfl, rfl, rfl⟩
theorem okb_value {p x : Int} (_hO : zOk S) (hB : zOkB S) : zOkB (sp_value S p x).2 := ⟨oka_value hB.1, okp_value hB.2⟩
theorem okp_degree {p : Int} (hP : zOkP S) : zOkP (sp_degree S p).2 := by
  refine hP.of ?_
  unfold sp_degree
  (try simp only [spPut, spTake, spBec, spRef])
  (repeat' split) <;> exact ⟨rfl, rfl, rfl⟩
theorem okb_degree {p : Int} (_hO : zOk S) (hB : zOkB S) : zOkB (sp_degree S p).2 := ⟨oka_degree hB.1, okp_degree hB.2⟩
theorem okb_ask {key : Int} (hO : zOk S) (hB : zOkB S) : zOkB (sp_ask S key).2 := ⟨oka_ask hB.1, okp_ask hO hB.2⟩
theorem okp_asked {w : Int} (hP : zOkP S) : zOkP (sp_asked S w).2 := by
  refine hP.of ?_
  unfold sp_asked
  (try simp only [spPut, spTake, spBec, spRef])
  (repeat' split) <;> exact ⟨rfl, rfl, rfl⟩
theorem okb_asked {w : Int} (_hO : zOk S) (hB : zOkB S) : zOkB (sp_asked S w).2 := ⟨oka_asked hB.1, okp_asked hB.2⟩
theorem okp_byOrder {p w : Int} (hP : zOkP S) : zOkP (sp_byOrder S p w).2 := by
  refine hP.of ?_
  unfold sp_byOrder
  (try simp only [spPut, spTake, spBec, spRef])
  (repeat' split) <;> exact ⟨rfl, rfl, rfl⟩
theorem okb_byOrder {p w : Int} (_hO : zOk S) (hB : zOkB S) : zOkB (sp_byOrder S p w).2 := ⟨oka_byOrder hB.1, okp_byOrder hB.2⟩
theorem okp_house {w : Int} (hP : zOkP S) : zOkP (sp_house S w).2 := by
  refine hP.of ?_
  unfold sp_house
  (try simp only [spPut, spTake, spBec, spRef])
  (repeat' split) <;> exact ⟨rfl, rfl, rfl⟩
theorem okb_house {w : Int} (_hO : zOk S) (hB : zOkB S) : zOkB (sp_house S w).2 := ⟨oka_house hB.1, okp_house hB.2⟩
theorem okb_forget (_hO : zOk S) (hB : zOkB S) : zOkB (sp_forget S).2 := ⟨oka_forget hB.1, okp_forget hB.2⟩
theorem okp_knock (hP : zOkP S) : zOkP (sp_knock S).2 := by
  refine hP.of ?_
  unfold sp_knock
  (try simp only [spPut, spTake, spBec, spRef])
  (repeat' split) <;> exact ⟨rfl, rfl, rfl⟩
theorem okb_knock (_hO : zOk S) (hB : zOkB S) : zOkB (sp_knock S).2 := ⟨oka_knock hB.1, okp_knock hB.2⟩
end LAW2
end
