section MOD10
variable {G : zG} {l : Launch} {h h' h'' : zHp} {ma : Nat → Nat} {S : zSt} {th : Int}
/-- new cells alone -/
def zExt (h h' : zHp) : Prop := ∀ z e, h z = some e → h' z = some e
theorem zExt.rf : zExt h h := fun _ _ e => e
theorem zExt.tr (a : zExt h h') (b : zExt h' h'') : zExt h h'' := fun z e he => b z e (a z e he)
theorem zExt.new {q : Nat} (hq : zDm h q) (hf : ∀ z, z ≠ q → h' z = h z) : zExt h h' := fun z e he => (hf z (fun ez => by have := hq _ _ he; omega)).trans he
theorem zDm.dn {q : Nat} (hq : zDm h' q) (hx : zExt h h') : zDm h q := fun a e he => hq a e (hx a e he)
theorem zMfr.ext (hx : zExt h h') : zMfr ma h h' := fun z e he _ => hx z e he
theorem zMod.ext (H : zMod G h ma S th) (hx : zExt h h') : zMod G h' ma S th := H.same (fun i hi => by
  obtain ⟨e, he⟩ := H.dom hi
  exact (hx _ _ he).trans he.symm)
theorem zAr.ext {a : Nat} {L : List Int} (H : zAr G h a L) (hx : zExt h h') : zAr G h' a L := by
  obtain ⟨f, e1, e2⟩ := H
  exact ⟨f, hx _ _ e1, e2⟩
theorem zExt.at {a : Nat} {e : va_E} (hx : zExt h h') (he : h a = some e) : h' a = some e := hx _ _ he
theorem zAr.st {a : Nat} {L : List Int} {f : Nat → Int} {p x : Int} (e : h' a = some (zInts G L.length (zup f p.toNat x))) (hl : L.length ≤ 99) (hf : ∀ j, j < L.length → f j = L.getD j 0) (hi : ∀ j, j < L.length → zIn (L.getD j 0)) (hx : zIn x) (hp : 0 ≤ p ∧ p < L.length) : zAr G h' a (zSet L p x) := by
  refine ⟨_, by rw [zSet_len]; exact e, by rw [zSet_len]; exact hl, fun j hj => ?_, fun j hj => ?_⟩
  · rw [zSet_len] at hj
    rw [zSet_at _ _ _ hj]
    by_cases e9 : (j : Int) = p
    · rw [if_pos e9, show j = p.toNat by omega, zup_same]
    · rw [if_neg e9, zup_ne (by omega)]
      exact hf j hj
  · rw [zSet_len] at hj
    rw [zSet_at _ _ _ hj]
    split
    · exact hx
    · exact hi j hj
theorem l_Mod_joined {a b : Nat} {L M : List Int} {p : Int} (hm : zAr G h b M) (hp : 0 ≤ p ∧ p ≤ L.length) (hL : L.length + M.length ≤ 60) :
    ∀ (n m bc bs : Nat) (h1 : zHp) (q : Nat), M.length - m < n → m ≤ M.length → M.length - m ≤ bc → 61 * (M.length - m) ≤ bs → zAr G h1 q (zJn L p M m) → (q = a ∨ (zDm h q ∧ G.2.2 ≤ q)) → zExt h h1 →
      zR G l (zMJ G hMod_joined 2 (fun v h' => ∃ q, v = some (.ref q) ∧ (q = a ∨ (zDm h q ∧ G.2.2 ≤ q)) ∧ zAr G h' q (zJn L p M M.length) ∧ zExt h h') zNo 16 976) bc bs h1 5 [some (.ref a), some (zi p), some (.ref b), some (.ref q), some (zi (m : Int))] [] := by
  intro n
  induction n with
  | zero => intro m bc bs h1 q q1 q2 q3 q4 r hq hx; omega
  | succ n ih =>
  intro m bc bs h1 q q1 q2 q3 q4 r hq hx
  have hln := zJn_len L p M m
  obtain ⟨f, d1, d2, d3, d4⟩ := id (hm.ext hx)
  obtain ⟨fr, ra, rb, rc, rd⟩ := id r
  refine z_iload dMod_joined_5 rfl ?_
  refine z_aload_n dMod_joined_7 rfl ?_
  refine z_alenI dMod_joined_8 (by assumption) ?_
  refine z_icmp_ge (tgt := 31) dMod_joined_9 (by decide) (by omega) (by omega) (fun c9 => ?_) (fun c9 => ?_)
  · refine z_aload_n dMod_joined_31 rfl ?_
    refine z_aret rfl (Or.inr ⟨_, rfl⟩) (Or.inr ⟨_, rfl⟩) dMod_joined_32 ?_
    have em : m = M.length := by omega
    subst em
    exact ⟨q, rfl, hq, r, hx⟩
  · refine z_aload_n dMod_joined_12 rfl ?_
    refine z_iload_n dMod_joined_13 rfl ?_
    refine z_iload dMod_joined_14 rfl ?_
    refine z_iadd dMod_joined_16 ?_
    refine z_aload_n dMod_joined_17 rfl ?_
    refine z_iload dMod_joined_18 rfl ?_
    refine z_iald dMod_joined_20 (by assumption) (by refine ⟨?_, ?_, ?_⟩ <;> omega) ?_
    rw [Int.toNat_natCast, d3 m (by omega)]
    refine z_callS (bc' := bc - 1) (bs' := bs - 61) MS_Mod_with lk_Mod_49 dMod_joined_21 (k_Mod_with r (by omega) (d4 m (by omega)) (by omega)) rfl rfl (Nat.le_of_ble_eq_true rfl)  (Nat.le_of_ble_eq_true rfl) (Nat.le_of_ble_eq_true rfl) (by omega) (by omega) (fun _ _ q => q.elim) ?_
    rintro _ h2 ⟨q2, rfl, hq2, gq2, r2, F2⟩
    refine z_astore_n dMod_joined_24 (Nat.le_of_ble_eq_true rfl) ?_
    refine z_iinc dMod_joined_25 rfl (Nat.le_of_ble_eq_true rfl) ?_
    refine z_goto (tgt := 5) dMod_joined_28 (by decide) ?_
    exact ih (m + 1) _ _ h2 q2 (by omega) (by omega) (by omega) (by omega) r2 (Or.inr ⟨hq2.dn hx, gq2⟩) (hx.tr (zExt.new hq2 F2))
theorem k_Mod_joined {a b : Nat} {L M : List Int} {p : Int} (hr : zAr G h a L) (hm : zAr G h b M) (hp : 0 ≤ p ∧ p ≤ L.length) (hL : L.length + M.length ≤ 60) (hM : M.length ≤ 16) : zM G l hMod_joined yMod_joined 2 [.ref a, zi p, .ref b] h (fun v h' => ∃ q, v = some (.ref q) ∧ (q = a ∨ (zDm h q ∧ G.2.2 ≤ q)) ∧ zAr G h' q (zJn L p M M.length) ∧ zExt h h') zNo 16 976 := by
  refine zM.of [some (.ref a), some (zi p), some (.ref b), none, none] (by decide +kernel) rfl (by decide) rfl (Nat.le_of_ble_eq_true rfl) rfl ?_
  refine z_aload_n dMod_joined_0 rfl ?_
  refine z_astore_n dMod_joined_1 (Nat.le_of_ble_eq_true rfl) ?_
  refine z_iconst dMod_joined_2 ?_
  refine z_istore dMod_joined_3 (Nat.le_of_ble_eq_true rfl) ?_
  exact l_Mod_joined hm hp hL (M.length + 1) 0 16 976 h a (by omega) (by omega) (by omega) (by omega) hr (Or.inl rfl) zExt.rf
theorem zJn_nil (M : List Int) : ∀ m : Nat, m ≤ M.length → zJn [] 0 M m = M.take m
  | 0, _ => by simp [zJn]
  | m + 1, hm => by
    have ih := zJn_nil M m (by omega)
    rw [zJn, ih]
    have hl : (M.take m).length = m := by rw [List.length_take]; omega
    have e : (0 : Int) + (m : Int) = ((M.take m).length : Int) := by rw [hl]; omega
    rw [e, zIns_end]
    apply List.ext_getElem?
    intro i
    rw [List.getElem?_append, hl]
    by_cases c : i < m
    · rw [if_pos c, List.getElem?_take, List.getElem?_take, if_pos c, if_pos (by omega)]
    · rw [if_neg c]
      by_cases c2 : i = m
      · subst c2
        rw [Nat.sub_self, List.getElem?_take, if_pos (by omega)]
        simp [List.getD_eq_getElem?_getD, List.getElem?_eq_getElem (show i < M.length by omega)]
      · rw [List.getElem?_take, if_neg (by omega), List.getElem?_eq_none (by simp; omega)]
theorem k_Mod_copied {b : Nat} {M : List Int} (hm : zAr G h b M) (hM : M.length ≤ 16) : zM G l hMod_copied yMod_copied 3 [.ref b] h (fun v h' => ∃ q, v = some (.ref q) ∧ zDm h q ∧ G.2.2 ≤ q ∧ zAr G h' q M ∧ zExt h h') zNo 17 976 := by
  refine zM.of [some (.ref b)] (by decide +kernel) rfl (by decide) rfl (Nat.le_of_ble_eq_true rfl) rfl ?_
  refine z_iconst dMod_copied_0 ?_
  refine z_newI (n := 0) (bc' := 16) (bs' := 976) rfl dMod_copied_1 (by decide) (by decide) (by decide) (fun q h1 hq gq e1 f1 => ?_)
  have hx1 : zExt h h1 := zExt.new hq f1
  have r1 : zAr G h1 q [] := ⟨_, e1, by decide, fun j hj => absurd hj (by simp), fun j hj => absurd hj (by simp)⟩
  refine z_iconst dMod_copied_3 ?_
  refine z_aload_n dMod_copied_4 rfl ?_
  refine z_callS (bc' := 0) (bs' := 0) MS_Mod_joined lk_Mod_126 dMod_copied_5 (k_Mod_joined r1 (hm.ext hx1) (by simp) (by simp; omega) hM) rfl rfl (Nat.le_of_ble_eq_true rfl)  (Nat.le_of_ble_eq_true rfl) (Nat.le_of_ble_eq_true rfl) (by decide) (by decide) (fun _ _ q => q.elim) ?_
  rintro _ h2 ⟨q2, rfl, hq2, r2, hx2⟩
  rw [zJn_nil M M.length (Nat.le_refl _), List.take_length] at r2
  refine z_aret rfl (Or.inr ⟨_, rfl⟩) (Or.inr ⟨_, rfl⟩) dMod_copied_8 ?_
  refine ⟨q2, rfl, ?_, ?_, r2, hx1.tr hx2⟩
  · rcases hq2 with rfl | ⟨x1, x2⟩
    · exact hq
    · exact x1.dn hx1
  · rcases hq2 with rfl | ⟨x1, x2⟩
    · exact gq
    · exact x2
theorem k_Mod_joins {k j : Nat} {q : Int} (H : zMod G h ma S th) (hk : k < 4) (hj : j < 4) (hq : 0 ≤ q ∧ q ≤ (S.1 k).length) (h16 : ∀ k, k < 4 → (S.1 k).length ≤ 16) : zM G l hMod_joins yMod_joins 3 [.ref (ma 0), zi (k : Int), zi q, zi (j : Int)] h (fun v h' => zMfr ma h h' ∧ (((S.1 k).length + (S.1 j).length ≤ 16 ∧ v = some (zi ((zJn (S.1 k) q (S.1 j) (S.1 j).length).length : Int)) ∧ ∃ q9, (q9 = ma (8 + k) ∨ (zDm h q9 ∧ G.2.2 ≤ q9)) ∧ zMod G h' (zup ma (8 + k) q9) (zsStale (zsL S k (zJn (S.1 k) q (S.1 j) (S.1 j).length)) k (-1)) th) ∨ (¬ (S.1 k).length + (S.1 j).length ≤ 16 ∧ v = some (zi (-1000009)) ∧ zMod G h' ma (zsRef S) th))) zNo 16 976 := by
  obtain ⟨m1, m2, ⟨g, m3, m3a⟩, m4, ⟨f6, m5, m5a⟩, m6, m7⟩ := id H
  unfold zMfs at m2
  obtain ⟨frk, rk1, rk2, rk3, rk4⟩ := id (m6 k hk)
  obtain ⟨frj, rj1, rj2, rj3, rj4⟩ := id (m6 j hj)
  have h16k := h16 k hk
  have h16j := h16 j hj
  refine zM.of [some (.ref (ma 0)), some (zi (k : Int)), some (zi q), some (zi (j : Int))] (by decide +kernel) rfl (by decide) rfl (Nat.le_of_ble_eq_true rfl) rfl ?_
  refine z_aload_n dMod_joins_0 rfl ?_
  refine z_get (k := 0) fd_Mod (by decide) fl_Mod_11 dMod_joins_1 (by assumption) (by rfl) ?_
  refine z_iload_n dMod_joins_4 rfl ?_
  refine z_aald (t := 4) (ty := .array .int) rfl rfl dMod_joins_5 m3 (by refine ⟨?_, ?_, ?_⟩ <;> omega) ?_
  rw [show (k : Int).toNat = k from rfl, m3a k (by omega)]
  refine z_alenI dMod_joins_6 (by assumption) ?_
  refine z_aload_n dMod_joins_7 rfl ?_
  refine z_get (k := 0) fd_Mod (by decide) fl_Mod_11 dMod_joins_8 (by assumption) (by rfl) ?_
  refine z_iload_n dMod_joins_11 rfl ?_
  refine z_aald (t := 4) (ty := .array .int) rfl rfl dMod_joins_12 m3 (by refine ⟨?_, ?_, ?_⟩ <;> omega) ?_
  rw [show (j : Int).toNat = j from rfl, m3a j (by omega)]
  refine z_alenI dMod_joins_13 (by assumption) ?_
  refine z_iadd dMod_joins_14 ?_
  refine z_bipush dMod_joins_15 rfl ?_
  refine z_icmp_le (tgt := 27) dMod_joins_17 (by decide) (by omega) (by omega) (fun c17 => ?_) (fun c17 => ?_)
  · refine z_aload_n dMod_joins_27 rfl ?_
    refine z_iload_n dMod_joins_28 rfl ?_
    refine z_aload_n dMod_joins_29 rfl ?_
    refine z_get (k := 0) fd_Mod (by decide) fl_Mod_11 dMod_joins_30 (by assumption) (by rfl) ?_
    refine z_iload_n dMod_joins_33 rfl ?_
    refine z_aald (t := 4) (ty := .array .int) rfl rfl dMod_joins_34 m3 (by refine ⟨?_, ?_, ?_⟩ <;> omega) ?_
    rw [show (k : Int).toNat = k from rfl, m3a k (by omega)]
    refine z_iload_n dMod_joins_35 rfl ?_
    refine z_aload_n dMod_joins_36 rfl ?_
    refine z_get (k := 0) fd_Mod (by decide) fl_Mod_11 dMod_joins_37 (by assumption) (by rfl) ?_
    refine z_iload_n dMod_joins_40 rfl ?_
    refine z_aald (t := 4) (ty := .array .int) rfl rfl dMod_joins_41 m3 (by refine ⟨?_, ?_, ?_⟩ <;> omega) ?_
    rw [show (j : Int).toNat = j from rfl, m3a j (by omega)]
    refine z_callS (bc' := 0) (bs' := 0) MS_Mod_joined lk_Mod_126 dMod_joins_42 (k_Mod_joined (m6 k hk) (m6 j hj) (by omega) (by omega) (by omega)) rfl rfl (Nat.le_of_ble_eq_true rfl)  (Nat.le_of_ble_eq_true rfl) (Nat.le_of_ble_eq_true rfl) (by decide) (by decide) (fun _ _ q => q.elim) ?_
    rintro _ h2 ⟨q2, rfl, hq2, r2, hx2⟩
    have H2 : zMod G h2 ma S th := H.ext hx2
    have oc2 := H2.2.1
    have hnq : ∀ i, i < 13 → i ≠ 8 + k → q2 ≠ ma i := by
      intro i hi hne
      rcases hq2 with rfl | ⟨x1, -⟩
      · exact H.inj (by omega) hi (Ne.symm hne)
      · exact H.nq x1 hi
    refine z_callV MV_Mod_becomes lk_Mod_95 dMod_joins_45 (k_Mod_becomes H2 hk r2 hnq) rfl rfl (Nat.le_of_ble_eq_true rfl) rfl (by assumption) (Nat.le_of_ble_eq_true rfl) (Nat.le_of_ble_eq_true rfl) (Nat.le_of_eq (Nat.zero_add _)) (Nat.le_of_eq (Nat.zero_add _)) (fun _ _ q => q.elim) ?_
    rintro _ h3 ⟨rfl, H3, F3⟩
    have fz3 : zMfr ma h h3 := (zMfr.ext hx2).tr (zMfr.bec F3)
    refine z_iret rfl rfl dMod_joins_48 ?_
    first
      | exact ⟨fz3, Or.inl ⟨by omega, rfl, q2, hq2, H3⟩⟩
      | exact ⟨fz2, Or.inr ⟨by omega, rfl, H2⟩⟩
  · refine z_aload_n dMod_joins_20 rfl ?_
    refine z_callV MV_Mod_refused lk_Mod_92 dMod_joins_21 (k_Mod_refused m2 rfl rfl) rfl rfl (Nat.le_of_ble_eq_true rfl) rfl (by assumption) (Nat.le_of_ble_eq_true rfl) (Nat.le_of_ble_eq_true rfl) (Nat.le_of_eq (Nat.zero_add _)) (Nat.le_of_eq (Nat.zero_add _)) (fun _ _ q => q.elim) ?_
    rintro _ h2 ⟨rfl, p2, g2⟩
    have H2 : zMod G h2 ma (zsRef S) th := H.obj (nu := zup S.2.2.2.2 1 (S.2.2.2.2 1 + 1)) p2 g2
    have fz2 : zMfr ma h h2 := zMfr.of0 g2
    refine z_goto (tgt := 48) dMod_joins_24 (by decide) ?_
    refine z_iret rfl rfl dMod_joins_48 ?_
    first
      | exact ⟨fz3, Or.inl ⟨by omega, rfl, q2, hq2, H3⟩⟩
      | exact ⟨fz2, Or.inr ⟨by omega, rfl, H2⟩⟩
theorem k_Mod_append {p f : Int} (H : zMod G h ma S th) (z_p : zI32 p) (z_f : zI32 f) (h16 : ∀ k, k < 4 → (S.1 k).length ≤ 16) : zM G l hMod_append yMod_append 4 [.ref (ma 0), zi p, zi f] h (zQm G ma h (1) (2) (3) (sp_append S p f)) zNo 16 976 := by
  obtain ⟨m1, m2, ⟨g, m3, m3a⟩, m4, ⟨f6, m5, m5a⟩, m6, m7⟩ := id H
  unfold zMfs at m2
  refine zM.of [some (.ref (ma 0)), some (zi p), some (zi f)] (by decide +kernel) rfl (by decide) rfl (Nat.le_of_ble_eq_true rfl) rfl ?_
  refine z_aload_n dMod_append_0 rfl ?_
  refine z_iload_n dMod_append_1 rfl ?_
  refine z_callS MS_Mod_isNo lk_Mod_81 dMod_append_2 (k_Mod_isNo (by omega)) rfl rfl (Nat.le_of_ble_eq_true rfl)  (Nat.le_of_ble_eq_true rfl) (Nat.le_of_ble_eq_true rfl) (Nat.le_of_eq (Nat.zero_add _)) (Nat.le_of_eq (Nat.zero_add _)) (fun _ _ q => q.elim) ?_
  rintro _ _ ⟨n9k, rfl, (⟨rfl, hn9k⟩ | ⟨rfl, hn9k⟩), rfl⟩
  · refine z_if_ne (tgt := 15) dMod_append_5 (by decide) (by omega) (fun c5 => ?_) (fun c5 => ?_)
    · refine z_iconst dMod_append_15 ?_
      refine z_goto (tgt := 20) dMod_append_16 (by decide) ?_
      refine z_iconst dMod_append_20 ?_
      refine z_iconst dMod_append_21 ?_
      refine z_callV MV_Mod_fails lk_Mod_88 dMod_append_22 (k_Mod_fails (by assumption) rfl (by omega) (by omega) (by omega)) rfl rfl (Nat.le_of_ble_eq_true rfl) rfl (by assumption) (Nat.le_of_ble_eq_true rfl) (Nat.le_of_ble_eq_true rfl) (Nat.le_of_eq (Nat.zero_add _)) (Nat.le_of_eq (Nat.zero_add _)) (fun _ _ q => q.elim) ?_
      rintro _ h1 ⟨t9, b8, rfl, ht, p1, g1⟩
      have H1 : zMod G h1 ma S t9 := H.obj (nu := S.2.2.2.2) (th' := t9) p1 g1
      have fz1 : zMfr ma h h1 := zMfr.of0 g1
      obtain ⟨-, n2, ⟨gg, n3, n3a⟩, n4, ⟨f61, n5, n5a⟩, n6, n7⟩ := id H1
      unfold zMfs at n2
      refine z_if_eq (tgt := 30) dMod_append_25 (by decide) (by omega) (fun c25 => ?_) (fun c25 => ?_)
      · exfalso; omega
      · refine z_iconst dMod_append_28 ?_
        refine z_iret rfl rfl dMod_append_29 ?_
        rcases (show t9 = 0 ∨ t9 = 1 ∨ t9 = 2 ∨ t9 = 3 by omega) with t0 | t0 | t0 | t0
        all_goals first
          | (exfalso; omega)
          | exact zQm.okB H3 (hq9.imp id (fun x9 => ⟨x9.1.up H1 fz1, x9.2⟩)) (by omega) (by assumption) (by unfold sp_append; (try unfold spPut); (try simp only [Int.toNat_natCast]); (repeat (first | rw [if_pos (by omega)] | rw [if_neg (by omega)] | rw [if_pos (by assumption)] | rw [if_neg (by assumption)] | rw [if_pos (True.intro : True)])); (try (first | rfl | (congr 2; omega) | (congr 1; congr 1; omega))); done)
          | exact zQm.ok H3 (by omega) (by assumption) (by unfold sp_append; (try unfold spPut); (try simp only [Int.toNat_natCast]); (repeat (first | rw [if_pos (by omega)] | rw [if_neg (by omega)] | rw [if_pos (by assumption)] | rw [if_neg (by assumption)] | rw [if_pos (True.intro : True)])); (try (first | rfl | (congr 2; omega) | (congr 1; congr 1; omega))); done)
          | exact zQm.b1 H3 (by omega) (by assumption) (by unfold sp_append; (try unfold spPut); (try simp only [Int.toNat_natCast]); (repeat (first | rw [if_pos (by omega)] | rw [if_neg (by omega)] | rw [if_pos (by assumption)] | rw [if_neg (by assumption)] | rw [if_pos (True.intro : True)])); (try (first | rfl | (congr 2; omega) | (congr 1; congr 1; omega))); done)
          | exact zQm.b2 H3 (by omega) (by assumption) (by unfold sp_append; (try unfold spPut); (try simp only [Int.toNat_natCast]); (repeat (first | rw [if_pos (by omega)] | rw [if_neg (by omega)] | rw [if_pos (by assumption)] | rw [if_neg (by assumption)] | rw [if_pos (True.intro : True)])); (try (first | rfl | (congr 2; omega) | (congr 1; congr 1; omega))); done)
          | exact zQm.b3 H3 (by omega) (by assumption) (by unfold sp_append; (try unfold spPut); (try simp only [Int.toNat_natCast]); (repeat (first | rw [if_pos (by omega)] | rw [if_neg (by omega)] | rw [if_pos (by assumption)] | rw [if_neg (by assumption)] | rw [if_pos (True.intro : True)])); (try (first | rfl | (congr 2; omega) | (congr 1; congr 1; omega))); done)
          | exact zQm.ok H1 (by omega) (by assumption) (by unfold sp_append; (try unfold spPut); (try simp only [Int.toNat_natCast]); (repeat (first | rw [if_pos (by omega)] | rw [if_neg (by omega)] | rw [if_pos (by assumption)] | rw [if_neg (by assumption)] | rw [if_pos (True.intro : True)])); (try (first | rfl | (congr 2; omega) | (congr 1; congr 1; omega))); done)
          | exact zQm.b1 H1 (by omega) (by assumption) (by unfold sp_append; (try unfold spPut); (try simp only [Int.toNat_natCast]); (repeat (first | rw [if_pos (by omega)] | rw [if_neg (by omega)] | rw [if_pos (by assumption)] | rw [if_neg (by assumption)] | rw [if_pos (True.intro : True)])); (try (first | rfl | (congr 2; omega) | (congr 1; congr 1; omega))); done)
          | exact zQm.b2 H1 (by omega) (by assumption) (by unfold sp_append; (try unfold spPut); (try simp only [Int.toNat_natCast]); (repeat (first | rw [if_pos (by omega)] | rw [if_neg (by omega)] | rw [if_pos (by assumption)] | rw [if_neg (by assumption)] | rw [if_pos (True.intro : True)])); (try (first | rfl | (congr 2; omega) | (congr 1; congr 1; omega))); done)
          | exact zQm.b3 H1 (by omega) (by assumption) (by unfold sp_append; (try unfold spPut); (try simp only [Int.toNat_natCast]); (repeat (first | rw [if_pos (by omega)] | rw [if_neg (by omega)] | rw [if_pos (by assumption)] | rw [if_neg (by assumption)] | rw [if_pos (True.intro : True)])); (try (first | rfl | (congr 2; omega) | (congr 1; congr 1; omega))); done)
    · exfalso; omega
  · obtain ⟨k, rfl⟩ := Int.eq_ofNat_of_zero_le (show 0 ≤ p by omega)
    have hkk : k < 4 := by omega
    refine z_if_ne (tgt := 15) dMod_append_5 (by decide) (by omega) (fun c5 => ?_) (fun c5 => ?_)
    · exfalso; omega
    · refine z_iload_n dMod_append_8 rfl ?_
      refine z_callS MS_Mod_isNo lk_Mod_81 dMod_append_9 (k_Mod_isNo (by omega)) rfl rfl (Nat.le_of_ble_eq_true rfl)  (Nat.le_of_ble_eq_true rfl) (Nat.le_of_ble_eq_true rfl) (Nat.le_of_eq (Nat.zero_add _)) (Nat.le_of_eq (Nat.zero_add _)) (fun _ _ q => q.elim) ?_
      rintro _ _ ⟨n9j, rfl, (⟨rfl, hn9j⟩ | ⟨rfl, hn9j⟩), rfl⟩
      · refine z_if_eq (tgt := 19) dMod_append_12 (by decide) (by omega) (fun c12 => ?_) (fun c12 => ?_)
        · refine z_iconst dMod_append_19 ?_
          refine z_iconst dMod_append_20 ?_
          refine z_iconst dMod_append_21 ?_
          refine z_callV MV_Mod_fails lk_Mod_88 dMod_append_22 (k_Mod_fails (by assumption) rfl (by omega) (by omega) (by omega)) rfl rfl (Nat.le_of_ble_eq_true rfl) rfl (by assumption) (Nat.le_of_ble_eq_true rfl) (Nat.le_of_ble_eq_true rfl) (Nat.le_of_eq (Nat.zero_add _)) (Nat.le_of_eq (Nat.zero_add _)) (fun _ _ q => q.elim) ?_
          rintro _ h1 ⟨t9, b8, rfl, ht, p1, g1⟩
          have H1 : zMod G h1 ma S t9 := H.obj (nu := S.2.2.2.2) (th' := t9) p1 g1
          have fz1 : zMfr ma h h1 := zMfr.of0 g1
          obtain ⟨-, n2, ⟨gg, n3, n3a⟩, n4, ⟨f61, n5, n5a⟩, n6, n7⟩ := id H1
          unfold zMfs at n2
          refine z_if_eq (tgt := 30) dMod_append_25 (by decide) (by omega) (fun c25 => ?_) (fun c25 => ?_)
          · exfalso; omega
          · refine z_iconst dMod_append_28 ?_
            refine z_iret rfl rfl dMod_append_29 ?_
            rcases (show t9 = 0 ∨ t9 = 1 ∨ t9 = 2 ∨ t9 = 3 by omega) with t0 | t0 | t0 | t0
            all_goals first
              | (exfalso; omega)
              | exact zQm.okB H3 (hq9.imp id (fun x9 => ⟨x9.1.up H1 fz1, x9.2⟩)) (by omega) (by assumption) (by unfold sp_append; (try unfold spPut); (try simp only [Int.toNat_natCast]); (repeat (first | rw [if_pos (by omega)] | rw [if_neg (by omega)] | rw [if_pos (by assumption)] | rw [if_neg (by assumption)] | rw [if_pos (True.intro : True)])); (try (first | rfl | (congr 2; omega) | (congr 1; congr 1; omega))); done)
              | exact zQm.ok H3 (by omega) (by assumption) (by unfold sp_append; (try unfold spPut); (try simp only [Int.toNat_natCast]); (repeat (first | rw [if_pos (by omega)] | rw [if_neg (by omega)] | rw [if_pos (by assumption)] | rw [if_neg (by assumption)] | rw [if_pos (True.intro : True)])); (try (first | rfl | (congr 2; omega) | (congr 1; congr 1; omega))); done)
              | exact zQm.b1 H3 (by omega) (by assumption) (by unfold sp_append; (try unfold spPut); (try simp only [Int.toNat_natCast]); (repeat (first | rw [if_pos (by omega)] | rw [if_neg (by omega)] | rw [if_pos (by assumption)] | rw [if_neg (by assumption)] | rw [if_pos (True.intro : True)])); (try (first | rfl | (congr 2; omega) | (congr 1; congr 1; omega))); done)
              | exact zQm.b2 H3 (by omega) (by assumption) (by unfold sp_append; (try unfold spPut); (try simp only [Int.toNat_natCast]); (repeat (first | rw [if_pos (by omega)] | rw [if_neg (by omega)] | rw [if_pos (by assumption)] | rw [if_neg (by assumption)] | rw [if_pos (True.intro : True)])); (try (first | rfl | (congr 2; omega) | (congr 1; congr 1; omega))); done)
              | exact zQm.b3 H3 (by omega) (by assumption) (by unfold sp_append; (try unfold spPut); (try simp only [Int.toNat_natCast]); (repeat (first | rw [if_pos (by omega)] | rw [if_neg (by omega)] | rw [if_pos (by assumption)] | rw [if_neg (by assumption)] | rw [if_pos (True.intro : True)])); (try (first | rfl | (congr 2; omega) | (congr 1; congr 1; omega))); done)
              | exact zQm.ok H1 (by omega) (by assumption) (by unfold sp_append; (try unfold spPut); (try simp only [Int.toNat_natCast]); (repeat (first | rw [if_pos (by omega)] | rw [if_neg (by omega)] | rw [if_pos (by assumption)] | rw [if_neg (by assumption)] | rw [if_pos (True.intro : True)])); (try (first | rfl | (congr 2; omega) | (congr 1; congr 1; omega))); done)
              | exact zQm.b1 H1 (by omega) (by assumption) (by unfold sp_append; (try unfold spPut); (try simp only [Int.toNat_natCast]); (repeat (first | rw [if_pos (by omega)] | rw [if_neg (by omega)] | rw [if_pos (by assumption)] | rw [if_neg (by assumption)] | rw [if_pos (True.intro : True)])); (try (first | rfl | (congr 2; omega) | (congr 1; congr 1; omega))); done)
              | exact zQm.b2 H1 (by omega) (by assumption) (by unfold sp_append; (try unfold spPut); (try simp only [Int.toNat_natCast]); (repeat (first | rw [if_pos (by omega)] | rw [if_neg (by omega)] | rw [if_pos (by assumption)] | rw [if_neg (by assumption)] | rw [if_pos (True.intro : True)])); (try (first | rfl | (congr 2; omega) | (congr 1; congr 1; omega))); done)
              | exact zQm.b3 H1 (by omega) (by assumption) (by unfold sp_append; (try unfold spPut); (try simp only [Int.toNat_natCast]); (repeat (first | rw [if_pos (by omega)] | rw [if_neg (by omega)] | rw [if_pos (by assumption)] | rw [if_neg (by assumption)] | rw [if_pos (True.intro : True)])); (try (first | rfl | (congr 2; omega) | (congr 1; congr 1; omega))); done)
        · refine z_iconst dMod_append_15 ?_
          refine z_goto (tgt := 20) dMod_append_16 (by decide) ?_
          refine z_iconst dMod_append_20 ?_
          refine z_iconst dMod_append_21 ?_
          refine z_callV MV_Mod_fails lk_Mod_88 dMod_append_22 (k_Mod_fails (by assumption) rfl (by omega) (by omega) (by omega)) rfl rfl (Nat.le_of_ble_eq_true rfl) rfl (by assumption) (Nat.le_of_ble_eq_true rfl) (Nat.le_of_ble_eq_true rfl) (Nat.le_of_eq (Nat.zero_add _)) (Nat.le_of_eq (Nat.zero_add _)) (fun _ _ q => q.elim) ?_
          rintro _ h1 ⟨t9, b8, rfl, ht, p1, g1⟩
          have H1 : zMod G h1 ma S t9 := H.obj (nu := S.2.2.2.2) (th' := t9) p1 g1
          have fz1 : zMfr ma h h1 := zMfr.of0 g1
          obtain ⟨-, n2, ⟨gg, n3, n3a⟩, n4, ⟨f61, n5, n5a⟩, n6, n7⟩ := id H1
          unfold zMfs at n2
          refine z_if_eq (tgt := 30) dMod_append_25 (by decide) (by omega) (fun c25 => ?_) (fun c25 => ?_)
          · exfalso; omega
          · refine z_iconst dMod_append_28 ?_
            refine z_iret rfl rfl dMod_append_29 ?_
            rcases (show t9 = 0 ∨ t9 = 1 ∨ t9 = 2 ∨ t9 = 3 by omega) with t0 | t0 | t0 | t0
            all_goals first
              | (exfalso; omega)
              | exact zQm.okB H3 (hq9.imp id (fun x9 => ⟨x9.1.up H1 fz1, x9.2⟩)) (by omega) (by assumption) (by unfold sp_append; (try unfold spPut); (try simp only [Int.toNat_natCast]); (repeat (first | rw [if_pos (by omega)] | rw [if_neg (by omega)] | rw [if_pos (by assumption)] | rw [if_neg (by assumption)] | rw [if_pos (True.intro : True)])); (try (first | rfl | (congr 2; omega) | (congr 1; congr 1; omega))); done)
              | exact zQm.ok H3 (by omega) (by assumption) (by unfold sp_append; (try unfold spPut); (try simp only [Int.toNat_natCast]); (repeat (first | rw [if_pos (by omega)] | rw [if_neg (by omega)] | rw [if_pos (by assumption)] | rw [if_neg (by assumption)] | rw [if_pos (True.intro : True)])); (try (first | rfl | (congr 2; omega) | (congr 1; congr 1; omega))); done)
              | exact zQm.b1 H3 (by omega) (by assumption) (by unfold sp_append; (try unfold spPut); (try simp only [Int.toNat_natCast]); (repeat (first | rw [if_pos (by omega)] | rw [if_neg (by omega)] | rw [if_pos (by assumption)] | rw [if_neg (by assumption)] | rw [if_pos (True.intro : True)])); (try (first | rfl | (congr 2; omega) | (congr 1; congr 1; omega))); done)
              | exact zQm.b2 H3 (by omega) (by assumption) (by unfold sp_append; (try unfold spPut); (try simp only [Int.toNat_natCast]); (repeat (first | rw [if_pos (by omega)] | rw [if_neg (by omega)] | rw [if_pos (by assumption)] | rw [if_neg (by assumption)] | rw [if_pos (True.intro : True)])); (try (first | rfl | (congr 2; omega) | (congr 1; congr 1; omega))); done)
              | exact zQm.b3 H3 (by omega) (by assumption) (by unfold sp_append; (try unfold spPut); (try simp only [Int.toNat_natCast]); (repeat (first | rw [if_pos (by omega)] | rw [if_neg (by omega)] | rw [if_pos (by assumption)] | rw [if_neg (by assumption)] | rw [if_pos (True.intro : True)])); (try (first | rfl | (congr 2; omega) | (congr 1; congr 1; omega))); done)
              | exact zQm.ok H1 (by omega) (by assumption) (by unfold sp_append; (try unfold spPut); (try simp only [Int.toNat_natCast]); (repeat (first | rw [if_pos (by omega)] | rw [if_neg (by omega)] | rw [if_pos (by assumption)] | rw [if_neg (by assumption)] | rw [if_pos (True.intro : True)])); (try (first | rfl | (congr 2; omega) | (congr 1; congr 1; omega))); done)
              | exact zQm.b1 H1 (by omega) (by assumption) (by unfold sp_append; (try unfold spPut); (try simp only [Int.toNat_natCast]); (repeat (first | rw [if_pos (by omega)] | rw [if_neg (by omega)] | rw [if_pos (by assumption)] | rw [if_neg (by assumption)] | rw [if_pos (True.intro : True)])); (try (first | rfl | (congr 2; omega) | (congr 1; congr 1; omega))); done)
              | exact zQm.b2 H1 (by omega) (by assumption) (by unfold sp_append; (try unfold spPut); (try simp only [Int.toNat_natCast]); (repeat (first | rw [if_pos (by omega)] | rw [if_neg (by omega)] | rw [if_pos (by assumption)] | rw [if_neg (by assumption)] | rw [if_pos (True.intro : True)])); (try (first | rfl | (congr 2; omega) | (congr 1; congr 1; omega))); done)
              | exact zQm.b3 H1 (by omega) (by assumption) (by unfold sp_append; (try unfold spPut); (try simp only [Int.toNat_natCast]); (repeat (first | rw [if_pos (by omega)] | rw [if_neg (by omega)] | rw [if_pos (by assumption)] | rw [if_neg (by assumption)] | rw [if_pos (True.intro : True)])); (try (first | rfl | (congr 2; omega) | (congr 1; congr 1; omega))); done)
      · obtain ⟨j, rfl⟩ := Int.eq_ofNat_of_zero_le (show 0 ≤ f by omega)
        have hkj : j < 4 := by omega
        refine z_if_eq (tgt := 19) dMod_append_12 (by decide) (by omega) (fun c12 => ?_) (fun c12 => ?_)
        · refine z_iconst dMod_append_19 ?_
          refine z_iconst dMod_append_20 ?_
          refine z_iconst dMod_append_21 ?_
          refine z_callV MV_Mod_fails lk_Mod_88 dMod_append_22 (k_Mod_fails (by assumption) rfl (by omega) (by omega) (by omega)) rfl rfl (Nat.le_of_ble_eq_true rfl) rfl (by assumption) (Nat.le_of_ble_eq_true rfl) (Nat.le_of_ble_eq_true rfl) (Nat.le_of_eq (Nat.zero_add _)) (Nat.le_of_eq (Nat.zero_add _)) (fun _ _ q => q.elim) ?_
          rintro _ h1 ⟨t9, b8, rfl, ht, p1, g1⟩
          have H1 : zMod G h1 ma S t9 := H.obj (nu := S.2.2.2.2) (th' := t9) p1 g1
          have fz1 : zMfr ma h h1 := zMfr.of0 g1
          obtain ⟨-, n2, ⟨gg, n3, n3a⟩, n4, ⟨f61, n5, n5a⟩, n6, n7⟩ := id H1
          unfold zMfs at n2
          refine z_if_eq (tgt := 30) dMod_append_25 (by decide) (by omega) (fun c25 => ?_) (fun c25 => ?_)
          · obtain ⟨frk, rk1, rk2, rk3, rk4⟩ := id (n6 k (by omega))
            have h16k := h16 k (by omega)
            have ezk : ∀ i : Int, 0 ≤ i → i < ((S.1 k).length : Int) → frk i.toNat = zAt (S.1 k) i := fun i x1 x2 => by rw [rk3 _ (by omega), zAt_eq x1 x2]
            obtain ⟨frj, rj1, rj2, rj3, rj4⟩ := id (n6 j (by omega))
            have h16j := h16 j (by omega)
            have ezj : ∀ i : Int, 0 ≤ i → i < ((S.1 j).length : Int) → frj i.toNat = zAt (S.1 j) i := fun i x1 x2 => by rw [rj3 _ (by omega), zAt_eq x1 x2]
            refine z_aload_n dMod_append_30 rfl ?_
            refine z_iload_n dMod_append_31 rfl ?_
            refine z_aload_n dMod_append_32 rfl ?_
            refine z_get (k := 0) fd_Mod (by decide) fl_Mod_11 dMod_append_33 (by assumption) (by rfl) ?_
            refine z_iload_n dMod_append_36 rfl ?_
            refine z_aald (t := 4) (ty := .array .int) rfl rfl dMod_append_37 n3 (by refine ⟨?_, ?_, ?_⟩ <;> omega) ?_
            rw [show (k : Int).toNat = k from rfl, n3a k (by omega)]
            refine z_alenI dMod_append_38 (by assumption) ?_
            refine z_iload_n dMod_append_39 rfl ?_
            refine z_callV (bc' := 0) (bs' := 0) MV_Mod_joins lk_Mod_122 dMod_append_40 (k_Mod_joins H1 (by omega) (by omega) (by omega) h16) rfl rfl (Nat.le_of_ble_eq_true rfl) rfl (by assumption) (Nat.le_of_ble_eq_true rfl) (Nat.le_of_ble_eq_true rfl) (by decide) (by decide) (fun _ _ q => q.elim) ?_
            rintro _ h3 ⟨fj, (⟨hle, rfl, q9, hq9, H3⟩ | ⟨hle, rfl, H3⟩)⟩
            all_goals have fz3 : zMfr ma h h3 := fz1.tr fj
            · refine z_iret rfl rfl dMod_append_43 ?_
              rcases (show t9 = 0 ∨ t9 = 1 ∨ t9 = 2 ∨ t9 = 3 by omega) with t0 | t0 | t0 | t0
              all_goals first
                | (exfalso; omega)
                | exact zQm.okB H3 (hq9.imp id (fun x9 => ⟨x9.1.up H1 fz1, x9.2⟩)) (by omega) (by assumption) (by unfold sp_append; (try unfold spPut); (try simp only [Int.toNat_natCast]); (repeat (first | rw [if_pos (by omega)] | rw [if_neg (by omega)] | rw [if_pos (by assumption)] | rw [if_neg (by assumption)] | rw [if_pos (True.intro : True)])); (try (first | rfl | (congr 2; omega) | (congr 1; congr 1; omega))); done)
                | exact zQm.ok H3 (by omega) (by assumption) (by unfold sp_append; (try unfold spPut); (try simp only [Int.toNat_natCast]); (repeat (first | rw [if_pos (by omega)] | rw [if_neg (by omega)] | rw [if_pos (by assumption)] | rw [if_neg (by assumption)] | rw [if_pos (True.intro : True)])); (try (first | rfl | (congr 2; omega) | (congr 1; congr 1; omega))); done)
                | exact zQm.b1 H3 (by omega) (by assumption) (by unfold sp_append; (try unfold spPut); (try simp only [Int.toNat_natCast]); (repeat (first | rw [if_pos (by omega)] | rw [if_neg (by omega)] | rw [if_pos (by assumption)] | rw [if_neg (by assumption)] | rw [if_pos (True.intro : True)])); (try (first | rfl | (congr 2; omega) | (congr 1; congr 1; omega))); done)
                | exact zQm.b2 H3 (by omega) (by assumption) (by unfold sp_append; (try unfold spPut); (try simp only [Int.toNat_natCast]); (repeat (first | rw [if_pos (by omega)] | rw [if_neg (by omega)] | rw [if_pos (by assumption)] | rw [if_neg (by assumption)] | rw [if_pos (True.intro : True)])); (try (first | rfl | (congr 2; omega) | (congr 1; congr 1; omega))); done)
                | exact zQm.b3 H3 (by omega) (by assumption) (by unfold sp_append; (try unfold spPut); (try simp only [Int.toNat_natCast]); (repeat (first | rw [if_pos (by omega)] | rw [if_neg (by omega)] | rw [if_pos (by assumption)] | rw [if_neg (by assumption)] | rw [if_pos (True.intro : True)])); (try (first | rfl | (congr 2; omega) | (congr 1; congr 1; omega))); done)
                | exact zQm.ok H1 (by omega) (by assumption) (by unfold sp_append; (try unfold spPut); (try simp only [Int.toNat_natCast]); (repeat (first | rw [if_pos (by omega)] | rw [if_neg (by omega)] | rw [if_pos (by assumption)] | rw [if_neg (by assumption)] | rw [if_pos (True.intro : True)])); (try (first | rfl | (congr 2; omega) | (congr 1; congr 1; omega))); done)
                | exact zQm.b1 H1 (by omega) (by assumption) (by unfold sp_append; (try unfold spPut); (try simp only [Int.toNat_natCast]); (repeat (first | rw [if_pos (by omega)] | rw [if_neg (by omega)] | rw [if_pos (by assumption)] | rw [if_neg (by assumption)] | rw [if_pos (True.intro : True)])); (try (first | rfl | (congr 2; omega) | (congr 1; congr 1; omega))); done)
                | exact zQm.b2 H1 (by omega) (by assumption) (by unfold sp_append; (try unfold spPut); (try simp only [Int.toNat_natCast]); (repeat (first | rw [if_pos (by omega)] | rw [if_neg (by omega)] | rw [if_pos (by assumption)] | rw [if_neg (by assumption)] | rw [if_pos (True.intro : True)])); (try (first | rfl | (congr 2; omega) | (congr 1; congr 1; omega))); done)
                | exact zQm.b3 H1 (by omega) (by assumption) (by unfold sp_append; (try unfold spPut); (try simp only [Int.toNat_natCast]); (repeat (first | rw [if_pos (by omega)] | rw [if_neg (by omega)] | rw [if_pos (by assumption)] | rw [if_neg (by assumption)] | rw [if_pos (True.intro : True)])); (try (first | rfl | (congr 2; omega) | (congr 1; congr 1; omega))); done)
            · refine z_iret rfl rfl dMod_append_43 ?_
              rcases (show t9 = 0 ∨ t9 = 1 ∨ t9 = 2 ∨ t9 = 3 by omega) with t0 | t0 | t0 | t0
              all_goals first
                | (exfalso; omega)
                | exact zQm.okB H3 (hq9.imp id (fun x9 => ⟨x9.1.up H1 fz1, x9.2⟩)) (by omega) (by assumption) (by unfold sp_append; (try unfold spPut); (try simp only [Int.toNat_natCast]); (repeat (first | rw [if_pos (by omega)] | rw [if_neg (by omega)] | rw [if_pos (by assumption)] | rw [if_neg (by assumption)] | rw [if_pos (True.intro : True)])); (try (first | rfl | (congr 2; omega) | (congr 1; congr 1; omega))); done)
                | exact zQm.ok H3 (by omega) (by assumption) (by unfold sp_append; (try unfold spPut); (try simp only [Int.toNat_natCast]); (repeat (first | rw [if_pos (by omega)] | rw [if_neg (by omega)] | rw [if_pos (by assumption)] | rw [if_neg (by assumption)] | rw [if_pos (True.intro : True)])); (try (first | rfl | (congr 2; omega) | (congr 1; congr 1; omega))); done)
                | exact zQm.b1 H3 (by omega) (by assumption) (by unfold sp_append; (try unfold spPut); (try simp only [Int.toNat_natCast]); (repeat (first | rw [if_pos (by omega)] | rw [if_neg (by omega)] | rw [if_pos (by assumption)] | rw [if_neg (by assumption)] | rw [if_pos (True.intro : True)])); (try (first | rfl | (congr 2; omega) | (congr 1; congr 1; omega))); done)
                | exact zQm.b2 H3 (by omega) (by assumption) (by unfold sp_append; (try unfold spPut); (try simp only [Int.toNat_natCast]); (repeat (first | rw [if_pos (by omega)] | rw [if_neg (by omega)] | rw [if_pos (by assumption)] | rw [if_neg (by assumption)] | rw [if_pos (True.intro : True)])); (try (first | rfl | (congr 2; omega) | (congr 1; congr 1; omega))); done)
                | exact zQm.b3 H3 (by omega) (by assumption) (by unfold sp_append; (try unfold spPut); (try simp only [Int.toNat_natCast]); (repeat (first | rw [if_pos (by omega)] | rw [if_neg (by omega)] | rw [if_pos (by assumption)] | rw [if_neg (by assumption)] | rw [if_pos (True.intro : True)])); (try (first | rfl | (congr 2; omega) | (congr 1; congr 1; omega))); done)
                | exact zQm.ok H1 (by omega) (by assumption) (by unfold sp_append; (try unfold spPut); (try simp only [Int.toNat_natCast]); (repeat (first | rw [if_pos (by omega)] | rw [if_neg (by omega)] | rw [if_pos (by assumption)] | rw [if_neg (by assumption)] | rw [if_pos (True.intro : True)])); (try (first | rfl | (congr 2; omega) | (congr 1; congr 1; omega))); done)
                | exact zQm.b1 H1 (by omega) (by assumption) (by unfold sp_append; (try unfold spPut); (try simp only [Int.toNat_natCast]); (repeat (first | rw [if_pos (by omega)] | rw [if_neg (by omega)] | rw [if_pos (by assumption)] | rw [if_neg (by assumption)] | rw [if_pos (True.intro : True)])); (try (first | rfl | (congr 2; omega) | (congr 1; congr 1; omega))); done)
                | exact zQm.b2 H1 (by omega) (by assumption) (by unfold sp_append; (try unfold spPut); (try simp only [Int.toNat_natCast]); (repeat (first | rw [if_pos (by omega)] | rw [if_neg (by omega)] | rw [if_pos (by assumption)] | rw [if_neg (by assumption)] | rw [if_pos (True.intro : True)])); (try (first | rfl | (congr 2; omega) | (congr 1; congr 1; omega))); done)
                | exact zQm.b3 H1 (by omega) (by assumption) (by unfold sp_append; (try unfold spPut); (try simp only [Int.toNat_natCast]); (repeat (first | rw [if_pos (by omega)] | rw [if_neg (by omega)] | rw [if_pos (by assumption)] | rw [if_neg (by assumption)] | rw [if_pos (True.intro : True)])); (try (first | rfl | (congr 2; omega) | (congr 1; congr 1; omega))); done)
          · refine z_iconst dMod_append_28 ?_
            refine z_iret rfl rfl dMod_append_29 ?_
            rcases (show t9 = 0 ∨ t9 = 1 ∨ t9 = 2 ∨ t9 = 3 by omega) with t0 | t0 | t0 | t0
            all_goals first
              | (exfalso; omega)
              | exact zQm.okB H3 (hq9.imp id (fun x9 => ⟨x9.1.up H1 fz1, x9.2⟩)) (by omega) (by assumption) (by unfold sp_append; (try unfold spPut); (try simp only [Int.toNat_natCast]); (repeat (first | rw [if_pos (by omega)] | rw [if_neg (by omega)] | rw [if_pos (by assumption)] | rw [if_neg (by assumption)] | rw [if_pos (True.intro : True)])); (try (first | rfl | (congr 2; omega) | (congr 1; congr 1; omega))); done)
              | exact zQm.ok H3 (by omega) (by assumption) (by unfold sp_append; (try unfold spPut); (try simp only [Int.toNat_natCast]); (repeat (first | rw [if_pos (by omega)] | rw [if_neg (by omega)] | rw [if_pos (by assumption)] | rw [if_neg (by assumption)] | rw [if_pos (True.intro : True)])); (try (first | rfl | (congr 2; omega) | (congr 1; congr 1; omega))); done)
              | exact zQm.b1 H3 (by omega) (by assumption) (by unfold sp_append; (try unfold spPut); (try simp only [Int.toNat_natCast]); (repeat (first | rw [if_pos (by omega)] | rw [if_neg (by omega)] | rw [if_pos (by assumption)] | rw [if_neg (by assumption)] | rw [if_pos (True.intro : True)])); (try (first | rfl | (congr 2; omega) | (congr 1; congr 1; omega))); done)
              | exact zQm.b2 H3 (by omega) (by assumption) (by unfold sp_append; (try unfold spPut); (try simp only [Int.toNat_natCast]); (repeat (first | rw [if_pos (by omega)] | rw [if_neg (by omega)] | rw [if_pos (by assumption)] | rw [if_neg (by assumption)] | rw [if_pos (True.intro : True)])); (try (first | rfl | (congr 2; omega) | (congr 1; congr 1; omega))); done)
              | exact zQm.b3 H3 (by omega) (by assumption) (by unfold sp_append; (try unfold spPut); (try simp only [Int.toNat_natCast]); (repeat (first | rw [if_pos (by omega)] | rw [if_neg (by omega)] | rw [if_pos (by assumption)] | rw [if_neg (by assumption)] | rw [if_pos (True.intro : True)])); (try (first | rfl | (congr 2; omega) | (congr 1; congr 1; omega))); done)
              | exact zQm.ok H1 (by omega) (by assumption) (by unfold sp_append; (try unfold spPut); (try simp only [Int.toNat_natCast]); (repeat (first | rw [if_pos (by omega)] | rw [if_neg (by omega)] | rw [if_pos (by assumption)] | rw [if_neg (by assumption)] | rw [if_pos (True.intro : True)])); (try (first | rfl | (congr 2; omega) | (congr 1; congr 1; omega))); done)
              | exact zQm.b1 H1 (by omega) (by assumption) (by unfold sp_append; (try unfold spPut); (try simp only [Int.toNat_natCast]); (repeat (first | rw [if_pos (by omega)] | rw [if_neg (by omega)] | rw [if_pos (by assumption)] | rw [if_neg (by assumption)] | rw [if_pos (True.intro : True)])); (try (first | rfl | (congr 2; omega) | (congr 1; congr 1; omega))); done)
              | exact zQm.b2 H1 (by omega) (by assumption) (by unfold sp_append; (try unfold spPut); (try simp only [Int.toNat_natCast]); (repeat (first | rw [if_pos (by omega)] | rw [if_neg (by omega)] | rw [if_pos (by assumption)] | rw [if_neg (by assumption)] | rw [if_pos (True.intro : True)])); (try (first | rfl | (congr 2; omega) | (congr 1; congr 1; omega))); done)
              | exact zQm.b3 H1 (by omega) (by assumption) (by unfold sp_append; (try unfold spPut); (try simp only [Int.toNat_natCast]); (repeat (first | rw [if_pos (by omega)] | rw [if_neg (by omega)] | rw [if_pos (by assumption)] | rw [if_neg (by assumption)] | rw [if_pos (True.intro : True)])); (try (first | rfl | (congr 2; omega) | (congr 1; congr 1; omega))); done)
        · exfalso; omega
theorem k_Mod_appendAt {p q f : Int} (H : zMod G h ma S th) (z_p : zI32 p) (z_q : zI32 q) (z_f : zI32 f) (h16 : ∀ k, k < 4 → (S.1 k).length ≤ 16) : zM G l hMod_appendAt yMod_appendAt 4 [.ref (ma 0), zi p, zi q, zi f] h (zQm G ma h (1) (2) (3) (sp_appendAt S p q f)) zNo 16 976 := by
  obtain ⟨m1, m2, ⟨g, m3, m3a⟩, m4, ⟨f6, m5, m5a⟩, m6, m7⟩ := id H
  unfold zMfs at m2
  refine zM.of [some (.ref (ma 0)), some (zi p), some (zi q), some (zi f)] (by decide +kernel) rfl (by decide) rfl (Nat.le_of_ble_eq_true rfl) rfl ?_
  refine z_aload_n dMod_appendAt_0 rfl ?_
  refine z_iload_n dMod_appendAt_1 rfl ?_
  refine z_callS MS_Mod_isNo lk_Mod_81 dMod_appendAt_2 (k_Mod_isNo (by omega)) rfl rfl (Nat.le_of_ble_eq_true rfl)  (Nat.le_of_ble_eq_true rfl) (Nat.le_of_ble_eq_true rfl) (Nat.le_of_eq (Nat.zero_add _)) (Nat.le_of_eq (Nat.zero_add _)) (fun _ _ q => q.elim) ?_
  rintro _ _ ⟨n9k, rfl, (⟨rfl, hn9k⟩ | ⟨rfl, hn9k⟩), rfl⟩
  · refine z_if_ne (tgt := 30) dMod_appendAt_5 (by decide) (by omega) (fun c5 => ?_) (fun c5 => ?_)
    · refine z_iconst dMod_appendAt_30 ?_
      refine z_goto (tgt := 35) dMod_appendAt_31 (by decide) ?_
      refine z_iconst dMod_appendAt_35 ?_
      refine z_iconst dMod_appendAt_36 ?_
      refine z_callV MV_Mod_fails lk_Mod_88 dMod_appendAt_37 (k_Mod_fails (by assumption) rfl (by omega) (by omega) (by omega)) rfl rfl (Nat.le_of_ble_eq_true rfl) rfl (by assumption) (Nat.le_of_ble_eq_true rfl) (Nat.le_of_ble_eq_true rfl) (Nat.le_of_eq (Nat.zero_add _)) (Nat.le_of_eq (Nat.zero_add _)) (fun _ _ q => q.elim) ?_
      rintro _ h1 ⟨t9, b8, rfl, ht, p1, g1⟩
      have H1 : zMod G h1 ma S t9 := H.obj (nu := S.2.2.2.2) (th' := t9) p1 g1
      have fz1 : zMfr ma h h1 := zMfr.of0 g1
      obtain ⟨-, n2, ⟨gg, n3, n3a⟩, n4, ⟨f61, n5, n5a⟩, n6, n7⟩ := id H1
      unfold zMfs at n2
      refine z_if_eq (tgt := 45) dMod_appendAt_40 (by decide) (by omega) (fun c40 => ?_) (fun c40 => ?_)
      · exfalso; omega
      · refine z_iconst dMod_appendAt_43 ?_
        refine z_iret rfl rfl dMod_appendAt_44 ?_
        rcases (show t9 = 0 ∨ t9 = 1 ∨ t9 = 2 ∨ t9 = 3 by omega) with t0 | t0 | t0 | t0
        all_goals first
          | (exfalso; omega)
          | exact zQm.okB H3 (hq9.imp id (fun x9 => ⟨x9.1.up H1 fz1, x9.2⟩)) (by omega) (by assumption) (by unfold sp_appendAt; (try unfold spPut); (try simp only [Int.toNat_natCast]); (repeat (first | rw [if_pos (by omega)] | rw [if_neg (by omega)] | rw [if_pos (by assumption)] | rw [if_neg (by assumption)] | rw [if_pos (True.intro : True)])); (try (first | rfl | (congr 2; omega) | (congr 1; congr 1; omega))); done)
          | exact zQm.ok H3 (by omega) (by assumption) (by unfold sp_appendAt; (try unfold spPut); (try simp only [Int.toNat_natCast]); (repeat (first | rw [if_pos (by omega)] | rw [if_neg (by omega)] | rw [if_pos (by assumption)] | rw [if_neg (by assumption)] | rw [if_pos (True.intro : True)])); (try (first | rfl | (congr 2; omega) | (congr 1; congr 1; omega))); done)
          | exact zQm.b1 H3 (by omega) (by assumption) (by unfold sp_appendAt; (try unfold spPut); (try simp only [Int.toNat_natCast]); (repeat (first | rw [if_pos (by omega)] | rw [if_neg (by omega)] | rw [if_pos (by assumption)] | rw [if_neg (by assumption)] | rw [if_pos (True.intro : True)])); (try (first | rfl | (congr 2; omega) | (congr 1; congr 1; omega))); done)
          | exact zQm.b2 H3 (by omega) (by assumption) (by unfold sp_appendAt; (try unfold spPut); (try simp only [Int.toNat_natCast]); (repeat (first | rw [if_pos (by omega)] | rw [if_neg (by omega)] | rw [if_pos (by assumption)] | rw [if_neg (by assumption)] | rw [if_pos (True.intro : True)])); (try (first | rfl | (congr 2; omega) | (congr 1; congr 1; omega))); done)
          | exact zQm.b3 H3 (by omega) (by assumption) (by unfold sp_appendAt; (try unfold spPut); (try simp only [Int.toNat_natCast]); (repeat (first | rw [if_pos (by omega)] | rw [if_neg (by omega)] | rw [if_pos (by assumption)] | rw [if_neg (by assumption)] | rw [if_pos (True.intro : True)])); (try (first | rfl | (congr 2; omega) | (congr 1; congr 1; omega))); done)
          | exact zQm.ok H1 (by omega) (by assumption) (by unfold sp_appendAt; (try unfold spPut); (try simp only [Int.toNat_natCast]); (repeat (first | rw [if_pos (by omega)] | rw [if_neg (by omega)] | rw [if_pos (by assumption)] | rw [if_neg (by assumption)] | rw [if_pos (True.intro : True)])); (try (first | rfl | (congr 2; omega) | (congr 1; congr 1; omega))); done)
          | exact zQm.b1 H1 (by omega) (by assumption) (by unfold sp_appendAt; (try unfold spPut); (try simp only [Int.toNat_natCast]); (repeat (first | rw [if_pos (by omega)] | rw [if_neg (by omega)] | rw [if_pos (by assumption)] | rw [if_neg (by assumption)] | rw [if_pos (True.intro : True)])); (try (first | rfl | (congr 2; omega) | (congr 1; congr 1; omega))); done)
          | exact zQm.b2 H1 (by omega) (by assumption) (by unfold sp_appendAt; (try unfold spPut); (try simp only [Int.toNat_natCast]); (repeat (first | rw [if_pos (by omega)] | rw [if_neg (by omega)] | rw [if_pos (by assumption)] | rw [if_neg (by assumption)] | rw [if_pos (True.intro : True)])); (try (first | rfl | (congr 2; omega) | (congr 1; congr 1; omega))); done)
          | exact zQm.b3 H1 (by omega) (by assumption) (by unfold sp_appendAt; (try unfold spPut); (try simp only [Int.toNat_natCast]); (repeat (first | rw [if_pos (by omega)] | rw [if_neg (by omega)] | rw [if_pos (by assumption)] | rw [if_neg (by assumption)] | rw [if_pos (True.intro : True)])); (try (first | rfl | (congr 2; omega) | (congr 1; congr 1; omega))); done)
    · exfalso; omega
  · obtain ⟨k, rfl⟩ := Int.eq_ofNat_of_zero_le (show 0 ≤ p by omega)
    have hkk : k < 4 := by omega
    refine z_if_ne (tgt := 30) dMod_appendAt_5 (by decide) (by omega) (fun c5 => ?_) (fun c5 => ?_)
    · exfalso; omega
    · refine z_iload_n dMod_appendAt_8 rfl ?_
      refine z_callS MS_Mod_isNo lk_Mod_81 dMod_appendAt_9 (k_Mod_isNo (by omega)) rfl rfl (Nat.le_of_ble_eq_true rfl)  (Nat.le_of_ble_eq_true rfl) (Nat.le_of_ble_eq_true rfl) (Nat.le_of_eq (Nat.zero_add _)) (Nat.le_of_eq (Nat.zero_add _)) (fun _ _ q => q.elim) ?_
      rintro _ _ ⟨n9j, rfl, (⟨rfl, hn9j⟩ | ⟨rfl, hn9j⟩), rfl⟩
      · refine z_if_ne (tgt := 30) dMod_appendAt_12 (by decide) (by omega) (fun c12 => ?_) (fun c12 => ?_)
        · refine z_iconst dMod_appendAt_30 ?_
          refine z_goto (tgt := 35) dMod_appendAt_31 (by decide) ?_
          refine z_iconst dMod_appendAt_35 ?_
          refine z_iconst dMod_appendAt_36 ?_
          refine z_callV MV_Mod_fails lk_Mod_88 dMod_appendAt_37 (k_Mod_fails (by assumption) rfl (by omega) (by omega) (by omega)) rfl rfl (Nat.le_of_ble_eq_true rfl) rfl (by assumption) (Nat.le_of_ble_eq_true rfl) (Nat.le_of_ble_eq_true rfl) (Nat.le_of_eq (Nat.zero_add _)) (Nat.le_of_eq (Nat.zero_add _)) (fun _ _ q => q.elim) ?_
          rintro _ h1 ⟨t9, b8, rfl, ht, p1, g1⟩
          have H1 : zMod G h1 ma S t9 := H.obj (nu := S.2.2.2.2) (th' := t9) p1 g1
          have fz1 : zMfr ma h h1 := zMfr.of0 g1
          obtain ⟨-, n2, ⟨gg, n3, n3a⟩, n4, ⟨f61, n5, n5a⟩, n6, n7⟩ := id H1
          unfold zMfs at n2
          refine z_if_eq (tgt := 45) dMod_appendAt_40 (by decide) (by omega) (fun c40 => ?_) (fun c40 => ?_)
          · exfalso; omega
          · refine z_iconst dMod_appendAt_43 ?_
            refine z_iret rfl rfl dMod_appendAt_44 ?_
            rcases (show t9 = 0 ∨ t9 = 1 ∨ t9 = 2 ∨ t9 = 3 by omega) with t0 | t0 | t0 | t0
            all_goals first
              | (exfalso; omega)
              | exact zQm.okB H3 (hq9.imp id (fun x9 => ⟨x9.1.up H1 fz1, x9.2⟩)) (by omega) (by assumption) (by unfold sp_appendAt; (try unfold spPut); (try simp only [Int.toNat_natCast]); (repeat (first | rw [if_pos (by omega)] | rw [if_neg (by omega)] | rw [if_pos (by assumption)] | rw [if_neg (by assumption)] | rw [if_pos (True.intro : True)])); (try (first | rfl | (congr 2; omega) | (congr 1; congr 1; omega))); done)
              | exact zQm.ok H3 (by omega) (by assumption) (by unfold sp_appendAt; (try unfold spPut); (try simp only [Int.toNat_natCast]); (repeat (first | rw [if_pos (by omega)] | rw [if_neg (by omega)] | rw [if_pos (by assumption)] | rw [if_neg (by assumption)] | rw [if_pos (True.intro : True)])); (try (first | rfl | (congr 2; omega) | (congr 1; congr 1; omega))); done)
              | exact zQm.b1 H3 (by omega) (by assumption) (by unfold sp_appendAt; (try unfold spPut); (try simp only [Int.toNat_natCast]); (repeat (first | rw [if_pos (by omega)] | rw [if_neg (by omega)] | rw [if_pos (by assumption)] | rw [if_neg (by assumption)] | rw [if_pos (True.intro : True)])); (try (first | rfl | (congr 2; omega) | (congr 1; congr 1; omega))); done)
              | exact zQm.b2 H3 (by omega) (by assumption) (by unfold sp_appendAt; (try unfold spPut); (try simp only [Int.toNat_natCast]); (repeat (first | rw [if_pos (by omega)] | rw [if_neg (by omega)] | rw [if_pos (by assumption)] | rw [if_neg (by assumption)] | rw [if_pos (True.intro : True)])); (try (first | rfl | (congr 2; omega) | (congr 1; congr 1; omega))); done)
              | exact zQm.b3 H3 (by omega) (by assumption) (by unfold sp_appendAt; (try unfold spPut); (try simp only [Int.toNat_natCast]); (repeat (first | rw [if_pos (by omega)] | rw [if_neg (by omega)] | rw [if_pos (by assumption)] | rw [if_neg (by assumption)] | rw [if_pos (True.intro : True)])); (try (first | rfl | (congr 2; omega) | (congr 1; congr 1; omega))); done)
              | exact zQm.ok H1 (by omega) (by assumption) (by unfold sp_appendAt; (try unfold spPut); (try simp only [Int.toNat_natCast]); (repeat (first | rw [if_pos (by omega)] | rw [if_neg (by omega)] | rw [if_pos (by assumption)] | rw [if_neg (by assumption)] | rw [if_pos (True.intro : True)])); (try (first | rfl | (congr 2; omega) | (congr 1; congr 1; omega))); done)
              | exact zQm.b1 H1 (by omega) (by assumption) (by unfold sp_appendAt; (try unfold spPut); (try simp only [Int.toNat_natCast]); (repeat (first | rw [if_pos (by omega)] | rw [if_neg (by omega)] | rw [if_pos (by assumption)] | rw [if_neg (by assumption)] | rw [if_pos (True.intro : True)])); (try (first | rfl | (congr 2; omega) | (congr 1; congr 1; omega))); done)
              | exact zQm.b2 H1 (by omega) (by assumption) (by unfold sp_appendAt; (try unfold spPut); (try simp only [Int.toNat_natCast]); (repeat (first | rw [if_pos (by omega)] | rw [if_neg (by omega)] | rw [if_pos (by assumption)] | rw [if_neg (by assumption)] | rw [if_pos (True.intro : True)])); (try (first | rfl | (congr 2; omega) | (congr 1; congr 1; omega))); done)
              | exact zQm.b3 H1 (by omega) (by assumption) (by unfold sp_appendAt; (try unfold spPut); (try simp only [Int.toNat_natCast]); (repeat (first | rw [if_pos (by omega)] | rw [if_neg (by omega)] | rw [if_pos (by assumption)] | rw [if_neg (by assumption)] | rw [if_pos (True.intro : True)])); (try (first | rfl | (congr 2; omega) | (congr 1; congr 1; omega))); done)
        · exfalso; omega
      · obtain ⟨j, rfl⟩ := Int.eq_ofNat_of_zero_le (show 0 ≤ f by omega)
        have hkj : j < 4 := by omega
        refine z_if_ne (tgt := 30) dMod_appendAt_12 (by decide) (by omega) (fun c12 => ?_) (fun c12 => ?_)
        · exfalso; omega
        · obtain ⟨frk, rk1, rk2, rk3, rk4⟩ := id (m6 k (by omega))
          refine z_iload_n dMod_appendAt_15 rfl ?_
          refine z_iconst dMod_appendAt_16 ?_
          refine z_aload_n dMod_appendAt_17 rfl ?_
          refine z_get (k := 0) fd_Mod (by decide) fl_Mod_11 dMod_appendAt_18 (by assumption) (by rfl) ?_
          refine z_iload_n dMod_appendAt_21 rfl ?_
          refine z_aald (t := 4) (ty := .array .int) rfl rfl dMod_appendAt_22 m3 (by refine ⟨?_, ?_, ?_⟩ <;> omega) ?_
          rw [show (k : Int).toNat = k from rfl, m3a k (by omega)]
          refine z_alenI dMod_appendAt_23 (by assumption) ?_
          refine z_callS MS_Mod_isOut lk_Mod_41 dMod_appendAt_24 (k_Mod_isOut (by omega) (by omega) (by omega)) rfl rfl (Nat.le_of_ble_eq_true rfl)  (Nat.le_of_ble_eq_true rfl) (Nat.le_of_ble_eq_true rfl) (Nat.le_of_eq (Nat.zero_add _)) (Nat.le_of_eq (Nat.zero_add _)) (fun _ _ q => q.elim) ?_
          rintro _ _ ⟨o9, rfl, (⟨rfl, ho9⟩ | ⟨rfl, ho9⟩), rfl⟩
          · refine z_if_eq (tgt := 34) dMod_appendAt_27 (by decide) (by omega) (fun c27 => ?_) (fun c27 => ?_)
            · exfalso; omega
            · refine z_iconst dMod_appendAt_30 ?_
              refine z_goto (tgt := 35) dMod_appendAt_31 (by decide) ?_
              refine z_iconst dMod_appendAt_35 ?_
              refine z_iconst dMod_appendAt_36 ?_
              refine z_callV MV_Mod_fails lk_Mod_88 dMod_appendAt_37 (k_Mod_fails (by assumption) rfl (by omega) (by omega) (by omega)) rfl rfl (Nat.le_of_ble_eq_true rfl) rfl (by assumption) (Nat.le_of_ble_eq_true rfl) (Nat.le_of_ble_eq_true rfl) (Nat.le_of_eq (Nat.zero_add _)) (Nat.le_of_eq (Nat.zero_add _)) (fun _ _ q => q.elim) ?_
              rintro _ h1 ⟨t9, b8, rfl, ht, p1, g1⟩
              have H1 : zMod G h1 ma S t9 := H.obj (nu := S.2.2.2.2) (th' := t9) p1 g1
              have fz1 : zMfr ma h h1 := zMfr.of0 g1
              obtain ⟨-, n2, ⟨gg, n3, n3a⟩, n4, ⟨f61, n5, n5a⟩, n6, n7⟩ := id H1
              unfold zMfs at n2
              refine z_if_eq (tgt := 45) dMod_appendAt_40 (by decide) (by omega) (fun c40 => ?_) (fun c40 => ?_)
              · exfalso; omega
              · refine z_iconst dMod_appendAt_43 ?_
                refine z_iret rfl rfl dMod_appendAt_44 ?_
                rcases (show t9 = 0 ∨ t9 = 1 ∨ t9 = 2 ∨ t9 = 3 by omega) with t0 | t0 | t0 | t0
                all_goals first
                  | (exfalso; omega)
                  | exact zQm.okB H3 (hq9.imp id (fun x9 => ⟨x9.1.up H1 fz1, x9.2⟩)) (by omega) (by assumption) (by unfold sp_appendAt; (try unfold spPut); (try simp only [Int.toNat_natCast]); (repeat (first | rw [if_pos (by omega)] | rw [if_neg (by omega)] | rw [if_pos (by assumption)] | rw [if_neg (by assumption)] | rw [if_pos (True.intro : True)])); (try (first | rfl | (congr 2; omega) | (congr 1; congr 1; omega))); done)
                  | exact zQm.ok H3 (by omega) (by assumption) (by unfold sp_appendAt; (try unfold spPut); (try simp only [Int.toNat_natCast]); (repeat (first | rw [if_pos (by omega)] | rw [if_neg (by omega)] | rw [if_pos (by assumption)] | rw [if_neg (by assumption)] | rw [if_pos (True.intro : True)])); (try (first | rfl | (congr 2; omega) | (congr 1; congr 1; omega))); done)
                  | exact zQm.b1 H3 (by omega) (by assumption) (by unfold sp_appendAt; (try unfold spPut); (try simp only [Int.toNat_natCast]); (repeat (first | rw [if_pos (by omega)] | rw [if_neg (by omega)] | rw [if_pos (by assumption)] | rw [if_neg (by assumption)] | rw [if_pos (True.intro : True)])); (try (first | rfl | (congr 2; omega) | (congr 1; congr 1; omega))); done)
                  | exact zQm.b2 H3 (by omega) (by assumption) (by unfold sp_appendAt; (try unfold spPut); (try simp only [Int.toNat_natCast]); (repeat (first | rw [if_pos (by omega)] | rw [if_neg (by omega)] | rw [if_pos (by assumption)] | rw [if_neg (by assumption)] | rw [if_pos (True.intro : True)])); (try (first | rfl | (congr 2; omega) | (congr 1; congr 1; omega))); done)
                  | exact zQm.b3 H3 (by omega) (by assumption) (by unfold sp_appendAt; (try unfold spPut); (try simp only [Int.toNat_natCast]); (repeat (first | rw [if_pos (by omega)] | rw [if_neg (by omega)] | rw [if_pos (by assumption)] | rw [if_neg (by assumption)] | rw [if_pos (True.intro : True)])); (try (first | rfl | (congr 2; omega) | (congr 1; congr 1; omega))); done)
                  | exact zQm.ok H1 (by omega) (by assumption) (by unfold sp_appendAt; (try unfold spPut); (try simp only [Int.toNat_natCast]); (repeat (first | rw [if_pos (by omega)] | rw [if_neg (by omega)] | rw [if_pos (by assumption)] | rw [if_neg (by assumption)] | rw [if_pos (True.intro : True)])); (try (first | rfl | (congr 2; omega) | (congr 1; congr 1; omega))); done)
                  | exact zQm.b1 H1 (by omega) (by assumption) (by unfold sp_appendAt; (try unfold spPut); (try simp only [Int.toNat_natCast]); (repeat (first | rw [if_pos (by omega)] | rw [if_neg (by omega)] | rw [if_pos (by assumption)] | rw [if_neg (by assumption)] | rw [if_pos (True.intro : True)])); (try (first | rfl | (congr 2; omega) | (congr 1; congr 1; omega))); done)
                  | exact zQm.b2 H1 (by omega) (by assumption) (by unfold sp_appendAt; (try unfold spPut); (try simp only [Int.toNat_natCast]); (repeat (first | rw [if_pos (by omega)] | rw [if_neg (by omega)] | rw [if_pos (by assumption)] | rw [if_neg (by assumption)] | rw [if_pos (True.intro : True)])); (try (first | rfl | (congr 2; omega) | (congr 1; congr 1; omega))); done)
                  | exact zQm.b3 H1 (by omega) (by assumption) (by unfold sp_appendAt; (try unfold spPut); (try simp only [Int.toNat_natCast]); (repeat (first | rw [if_pos (by omega)] | rw [if_neg (by omega)] | rw [if_pos (by assumption)] | rw [if_neg (by assumption)] | rw [if_pos (True.intro : True)])); (try (first | rfl | (congr 2; omega) | (congr 1; congr 1; omega))); done)
          · refine z_if_eq (tgt := 34) dMod_appendAt_27 (by decide) (by omega) (fun c27 => ?_) (fun c27 => ?_)
            · refine z_iconst dMod_appendAt_34 ?_
              refine z_iconst dMod_appendAt_35 ?_
              refine z_iconst dMod_appendAt_36 ?_
              refine z_callV MV_Mod_fails lk_Mod_88 dMod_appendAt_37 (k_Mod_fails (by assumption) rfl (by omega) (by omega) (by omega)) rfl rfl (Nat.le_of_ble_eq_true rfl) rfl (by assumption) (Nat.le_of_ble_eq_true rfl) (Nat.le_of_ble_eq_true rfl) (Nat.le_of_eq (Nat.zero_add _)) (Nat.le_of_eq (Nat.zero_add _)) (fun _ _ q => q.elim) ?_
              rintro _ h1 ⟨t9, b8, rfl, ht, p1, g1⟩
              have H1 : zMod G h1 ma S t9 := H.obj (nu := S.2.2.2.2) (th' := t9) p1 g1
              have fz1 : zMfr ma h h1 := zMfr.of0 g1
              obtain ⟨-, n2, ⟨gg, n3, n3a⟩, n4, ⟨f61, n5, n5a⟩, n6, n7⟩ := id H1
              unfold zMfs at n2
              refine z_if_eq (tgt := 45) dMod_appendAt_40 (by decide) (by omega) (fun c40 => ?_) (fun c40 => ?_)
              · obtain ⟨frk, rk1, rk2, rk3, rk4⟩ := id (n6 k (by omega))
                have h16k := h16 k (by omega)
                have ezk : ∀ i : Int, 0 ≤ i → i < ((S.1 k).length : Int) → frk i.toNat = zAt (S.1 k) i := fun i x1 x2 => by rw [rk3 _ (by omega), zAt_eq x1 x2]
                obtain ⟨frj, rj1, rj2, rj3, rj4⟩ := id (n6 j (by omega))
                have h16j := h16 j (by omega)
                have ezj : ∀ i : Int, 0 ≤ i → i < ((S.1 j).length : Int) → frj i.toNat = zAt (S.1 j) i := fun i x1 x2 => by rw [rj3 _ (by omega), zAt_eq x1 x2]
                refine z_aload_n dMod_appendAt_45 rfl ?_
                refine z_iload_n dMod_appendAt_46 rfl ?_
                refine z_iload_n dMod_appendAt_47 rfl ?_
                refine z_iload_n dMod_appendAt_48 rfl ?_
                refine z_callV (bc' := 0) (bs' := 0) MV_Mod_joins lk_Mod_122 dMod_appendAt_49 (k_Mod_joins H1 (by omega) (by omega) (by omega) h16) rfl rfl (Nat.le_of_ble_eq_true rfl) rfl (by assumption) (Nat.le_of_ble_eq_true rfl) (Nat.le_of_ble_eq_true rfl) (by decide) (by decide) (fun _ _ q => q.elim) ?_
                rintro _ h3 ⟨fj, (⟨hle, rfl, q9, hq9, H3⟩ | ⟨hle, rfl, H3⟩)⟩
                all_goals have fz3 : zMfr ma h h3 := fz1.tr fj
                · refine z_iret rfl rfl dMod_appendAt_52 ?_
                  rcases (show t9 = 0 ∨ t9 = 1 ∨ t9 = 2 ∨ t9 = 3 by omega) with t0 | t0 | t0 | t0
                  all_goals first
                    | (exfalso; omega)
                    | exact zQm.okB H3 (hq9.imp id (fun x9 => ⟨x9.1.up H1 fz1, x9.2⟩)) (by omega) (by assumption) (by unfold sp_appendAt; (try unfold spPut); (try simp only [Int.toNat_natCast]); (repeat (first | rw [if_pos (by omega)] | rw [if_neg (by omega)] | rw [if_pos (by assumption)] | rw [if_neg (by assumption)] | rw [if_pos (True.intro : True)])); (try (first | rfl | (congr 2; omega) | (congr 1; congr 1; omega))); done)
                    | exact zQm.ok H3 (by omega) (by assumption) (by unfold sp_appendAt; (try unfold spPut); (try simp only [Int.toNat_natCast]); (repeat (first | rw [if_pos (by omega)] | rw [if_neg (by omega)] | rw [if_pos (by assumption)] | rw [if_neg (by assumption)] | rw [if_pos (True.intro : True)])); (try (first | rfl | (congr 2; omega) | (congr 1; congr 1; omega))); done)
                    | exact zQm.b1 H3 (by omega) (by assumption) (by unfold sp_appendAt; (try unfold spPut); (try simp only [Int.toNat_natCast]); (repeat (first | rw [if_pos (by omega)] | rw [if_neg (by omega)] | rw [if_pos (by assumption)] | rw [if_neg (by assumption)] | rw [if_pos (True.intro : True)])); (try (first | rfl | (congr 2; omega) | (congr 1; congr 1; omega))); done)
                    | exact zQm.b2 H3 (by omega) (by assumption) (by unfold sp_appendAt; (try unfold spPut); (try simp only [Int.toNat_natCast]); (repeat (first | rw [if_pos (by omega)] | rw [if_neg (by omega)] | rw [if_pos (by assumption)] | rw [if_neg (by assumption)] | rw [if_pos (True.intro : True)])); (try (first | rfl | (congr 2; omega) | (congr 1; congr 1; omega))); done)
                    | exact zQm.b3 H3 (by omega) (by assumption) (by unfold sp_appendAt; (try unfold spPut); (try simp only [Int.toNat_natCast]); (repeat (first | rw [if_pos (by omega)] | rw [if_neg (by omega)] | rw [if_pos (by assumption)] | rw [if_neg (by assumption)] | rw [if_pos (True.intro : True)])); (try (first | rfl | (congr 2; omega) | (congr 1; congr 1; omega))); done)
                    | exact zQm.ok H1 (by omega) (by assumption) (by unfold sp_appendAt; (try unfold spPut); (try simp only [Int.toNat_natCast]); (repeat (first | rw [if_pos (by omega)] | rw [if_neg (by omega)] | rw [if_pos (by assumption)] | rw [if_neg (by assumption)] | rw [if_pos (True.intro : True)])); (try (first | rfl | (congr 2; omega) | (congr 1; congr 1; omega))); done)
                    | exact zQm.b1 H1 (by omega) (by assumption) (by unfold sp_appendAt; (try unfold spPut); (try simp only [Int.toNat_natCast]); (repeat (first | rw [if_pos (by omega)] | rw [if_neg (by omega)] | rw [if_pos (by assumption)] | rw [if_neg (by assumption)] | rw [if_pos (True.intro : True)])); (try (first | rfl | (congr 2; omega) | (congr 1; congr 1; omega))); done)
                    | exact zQm.b2 H1 (by omega) (by assumption) (by unfold sp_appendAt; (try unfold spPut); (try simp only [Int.toNat_natCast]); (repeat (first | rw [if_pos (by omega)] | rw [if_neg (by omega)] | rw [if_pos (by assumption)] | rw [if_neg (by assumption)] | rw [if_pos (True.intro : True)])); (try (first | rfl | (congr 2; omega) | (congr 1; congr 1; omega))); done)
                    | exact zQm.b3 H1 (by omega) (by assumption) (by unfold sp_appendAt; (try unfold spPut); (try simp only [Int.toNat_natCast]); (repeat (first | rw [if_pos (by omega)] | rw [if_neg (by omega)] | rw [if_pos (by assumption)] | rw [if_neg (by assumption)] | rw [if_pos (True.intro : True)])); (try (first | rfl | (congr 2; omega) | (congr 1; congr 1; omega))); done)
                · refine z_iret rfl rfl dMod_appendAt_52 ?_
                  rcases (show t9 = 0 ∨ t9 = 1 ∨ t9 = 2 ∨ t9 = 3 by omega) with t0 | t0 | t0 | t0
                  all_goals first
                    | (exfalso; omega)
                    | exact zQm.okB H3 (hq9.imp id (fun x9 => ⟨x9.1.up H1 fz1, x9.2⟩)) (by omega) (by assumption) (by unfold sp_appendAt; (try unfold spPut); (try simp only [Int.toNat_natCast]); (repeat (first | rw [if_pos (by omega)] | rw [if_neg (by omega)] | rw [if_pos (by assumption)] | rw [if_neg (by assumption)] | rw [if_pos (True.intro : True)])); (try (first | rfl | (congr 2; omega) | (congr 1; congr 1; omega))); done)
                    | exact zQm.ok H3 (by omega) (by assumption) (by unfold sp_appendAt; (try unfold spPut); (try simp only [Int.toNat_natCast]); (repeat (first | rw [if_pos (by omega)] | rw [if_neg (by omega)] | rw [if_pos (by assumption)] | rw [if_neg (by assumption)] | rw [if_pos (True.intro : True)])); (try (first | rfl | (congr 2; omega) | (congr 1; congr 1; omega))); done)
                    | exact zQm.b1 H3 (by omega) (by assumption) (by unfold sp_appendAt; (try unfold spPut); (try simp only [Int.toNat_natCast]); (repeat (first | rw [if_pos (by omega)] | rw [if_neg (by omega)] | rw [if_pos (by assumption)] | rw [if_neg (by assumption)] | rw [if_pos (True.intro : True)])); (try (first | rfl | (congr 2; omega) | (congr 1; congr 1; omega))); done)
                    | exact zQm.b2 H3 (by omega) (by assumption) (by unfold sp_appendAt; (try unfold spPut); (try simp only [Int.toNat_natCast]); (repeat (first | rw [if_pos (by omega)] | rw [if_neg (by omega)] | rw [if_pos (by assumption)] | rw [if_neg (by assumption)] | rw [if_pos (True.intro : True)])); (try (first | rfl | (congr 2; omega) | (congr 1; congr 1; omega))); done)
                    | exact zQm.b3 H3 (by omega) (by assumption) (by unfold sp_appendAt; (try unfold spPut); (try simp only [Int.toNat_natCast]); (repeat (first | rw [if_pos (by omega)] | rw [if_neg (by omega)] | rw [if_pos (by assumption)] | rw [if_neg (by assumption)] | rw [if_pos (True.intro : True)])); (try (first | rfl | (congr 2; omega) | (congr 1; congr 1; omega))); done)
                    | exact zQm.ok H1 (by omega) (by assumption) (by unfold sp_appendAt; (try unfold spPut); (try simp only [Int.toNat_natCast]); (repeat (first | rw [if_pos (by omega)] | rw [if_neg (by omega)] | rw [if_pos (by assumption)] | rw [if_neg (by assumption)] | rw [if_pos (True.intro : True)])); (try (first | rfl | (congr 2; omega) | (congr 1; congr 1; omega))); done)
                    | exact zQm.b1 H1 (by omega) (by assumption) (by unfold sp_appendAt; (try unfold spPut); (try simp only [Int.toNat_natCast]); (repeat (first | rw [if_pos (by omega)] | rw [if_neg (by omega)] | rw [if_pos (by assumption)] | rw [if_neg (by assumption)] | rw [if_pos (True.intro : True)])); (try (first | rfl | (congr 2; omega) | (congr 1; congr 1; omega))); done)
                    | exact zQm.b2 H1 (by omega) (by assumption) (by unfold sp_appendAt; (try unfold spPut); (try simp only [Int.toNat_natCast]); (repeat (first | rw [if_pos (by omega)] | rw [if_neg (by omega)] | rw [if_pos (by assumption)] | rw [if_neg (by assumption)] | rw [if_pos (True.intro : True)])); (try (first | rfl | (congr 2; omega) | (congr 1; congr 1; omega))); done)
                    | exact zQm.b3 H1 (by omega) (by assumption) (by unfold sp_appendAt; (try unfold spPut); (try simp only [Int.toNat_natCast]); (repeat (first | rw [if_pos (by omega)] | rw [if_neg (by omega)] | rw [if_pos (by assumption)] | rw [if_neg (by assumption)] | rw [if_pos (True.intro : True)])); (try (first | rfl | (congr 2; omega) | (congr 1; congr 1; omega))); done)
              · refine z_iconst dMod_appendAt_43 ?_
                refine z_iret rfl rfl dMod_appendAt_44 ?_
                rcases (show t9 = 0 ∨ t9 = 1 ∨ t9 = 2 ∨ t9 = 3 by omega) with t0 | t0 | t0 | t0
                all_goals first
                  | (exfalso; omega)
                  | exact zQm.okB H3 (hq9.imp id (fun x9 => ⟨x9.1.up H1 fz1, x9.2⟩)) (by omega) (by assumption) (by unfold sp_appendAt; (try unfold spPut); (try simp only [Int.toNat_natCast]); (repeat (first | rw [if_pos (by omega)] | rw [if_neg (by omega)] | rw [if_pos (by assumption)] | rw [if_neg (by assumption)] | rw [if_pos (True.intro : True)])); (try (first | rfl | (congr 2; omega) | (congr 1; congr 1; omega))); done)
                  | exact zQm.ok H3 (by omega) (by assumption) (by unfold sp_appendAt; (try unfold spPut); (try simp only [Int.toNat_natCast]); (repeat (first | rw [if_pos (by omega)] | rw [if_neg (by omega)] | rw [if_pos (by assumption)] | rw [if_neg (by assumption)] | rw [if_pos (True.intro : True)])); (try (first | rfl | (congr 2; omega) | (congr 1; congr 1; omega))); done)
                  | exact zQm.b1 H3 (by omega) (by assumption) (by unfold sp_appendAt; (try unfold spPut); (try simp only [Int.toNat_natCast]); (repeat (first | rw [if_pos (by omega)] | rw [if_neg (by omega)] | rw [if_pos (by assumption)] | rw [if_neg (by assumption)] | rw [if_pos (True.intro : True)])); (try (first | rfl | (congr 2; omega) | (congr 1; congr 1; omega))); done)
                  | exact zQm.b2 H3 (by omega) (by assumption) (by unfold sp_appendAt; (try unfold spPut); (try simp only [Int.toNat_natCast]); (repeat (first | rw [if_pos (by omega)] | rw [if_neg (by omega)] | rw [if_pos (by assumption)] | rw [if_neg (by assumption)] | rw [if_pos (True.intro : True)])); (try (first | rfl | (congr 2; omega) | (congr 1; congr 1; omega))); done)
                  | exact zQm.b3 H3 (by omega) (by assumption) (by unfold sp_appendAt; (try unfold spPut); (try simp only [Int.toNat_natCast]); (repeat (first | rw [if_pos (by omega)] | rw [if_neg (by omega)] | rw [if_pos (by assumption)] | rw [if_neg (by assumption)] | rw [if_pos (True.intro : True)])); (try (first | rfl | (congr 2; omega) | (congr 1; congr 1; omega))); done)
                  | exact zQm.ok H1 (by omega) (by assumption) (by unfold sp_appendAt; (try unfold spPut); (try simp only [Int.toNat_natCast]); (repeat (first | rw [if_pos (by omega)] | rw [if_neg (by omega)] | rw [if_pos (by assumption)] | rw [if_neg (by assumption)] | rw [if_pos (True.intro : True)])); (try (first | rfl | (congr 2; omega) | (congr 1; congr 1; omega))); done)
                  | exact zQm.b1 H1 (by omega) (by assumption) (by unfold sp_appendAt; (try unfold spPut); (try simp only [Int.toNat_natCast]); (repeat (first | rw [if_pos (by omega)] | rw [if_neg (by omega)] | rw [if_pos (by assumption)] | rw [if_neg (by assumption)] | rw [if_pos (True.intro : True)])); (try (first | rfl | (congr 2; omega) | (congr 1; congr 1; omega))); done)
                  | exact zQm.b2 H1 (by omega) (by assumption) (by unfold sp_appendAt; (try unfold spPut); (try simp only [Int.toNat_natCast]); (repeat (first | rw [if_pos (by omega)] | rw [if_neg (by omega)] | rw [if_pos (by assumption)] | rw [if_neg (by assumption)] | rw [if_pos (True.intro : True)])); (try (first | rfl | (congr 2; omega) | (congr 1; congr 1; omega))); done)
                  | exact zQm.b3 H1 (by omega) (by assumption) (by unfold sp_appendAt; (try unfold spPut); (try simp only [Int.toNat_natCast]); (repeat (first | rw [if_pos (by omega)] | rw [if_neg (by omega)] | rw [if_pos (by assumption)] | rw [if_neg (by assumption)] | rw [if_pos (True.intro : True)])); (try (first | rfl | (congr 2; omega) | (congr 1; congr 1; omega))); done)
            · exfalso; omega
theorem k_Mod_copy {p i : Int} (H : zMod G h ma S th) (z_p : zI32 p) (z_i : zI32 i) (h16 : ∀ k, k < 4 → (S.1 k).length ≤ 16) : zM G l hMod_copy yMod_copy 4 [.ref (ma 0), zi p, zi i] h (zQm G ma h (1) (2) (3) (sp_copy S p i)) zNo 17 976 := by
  obtain ⟨m1, m2, ⟨g, m3, m3a⟩, m4, ⟨f6, m5, m5a⟩, m6, m7⟩ := id H
  unfold zMfs at m2
  refine zM.of [some (.ref (ma 0)), some (zi p), some (zi i)] (by decide +kernel) rfl (by decide) rfl (Nat.le_of_ble_eq_true rfl) rfl ?_
  refine z_aload_n dMod_copy_0 rfl ?_
  refine z_iload_n dMod_copy_1 rfl ?_
  refine z_callS MS_Mod_isNo lk_Mod_81 dMod_copy_2 (k_Mod_isNo (by omega)) rfl rfl (Nat.le_of_ble_eq_true rfl)  (Nat.le_of_ble_eq_true rfl) (Nat.le_of_ble_eq_true rfl) (Nat.le_of_eq (Nat.zero_add _)) (Nat.le_of_eq (Nat.zero_add _)) (fun _ _ q => q.elim) ?_
  rintro _ _ ⟨n9k, rfl, (⟨rfl, hn9k⟩ | ⟨rfl, hn9k⟩), rfl⟩
  · refine z_if_ne (tgt := 15) dMod_copy_5 (by decide) (by omega) (fun c5 => ?_) (fun c5 => ?_)
    · refine z_iconst dMod_copy_15 ?_
      refine z_goto (tgt := 20) dMod_copy_16 (by decide) ?_
      refine z_iconst dMod_copy_20 ?_
      refine z_iconst dMod_copy_21 ?_
      refine z_callV MV_Mod_fails lk_Mod_88 dMod_copy_22 (k_Mod_fails (by assumption) rfl (by omega) (by omega) (by omega)) rfl rfl (Nat.le_of_ble_eq_true rfl) rfl (by assumption) (Nat.le_of_ble_eq_true rfl) (Nat.le_of_ble_eq_true rfl) (Nat.le_of_eq (Nat.zero_add _)) (Nat.le_of_eq (Nat.zero_add _)) (fun _ _ q => q.elim) ?_
      rintro _ h1 ⟨t9, b8, rfl, ht, p1, g1⟩
      have H1 : zMod G h1 ma S t9 := H.obj (nu := S.2.2.2.2) (th' := t9) p1 g1
      have fz1 : zMfr ma h h1 := zMfr.of0 g1
      obtain ⟨-, n2, ⟨gg, n3, n3a⟩, n4, ⟨f61, n5, n5a⟩, n6, n7⟩ := id H1
      unfold zMfs at n2
      refine z_if_eq (tgt := 32) dMod_copy_25 (by decide) (by omega) (fun c25 => ?_) (fun c25 => ?_)
      · exfalso; omega
      · refine z_iconst dMod_copy_28 ?_
        refine z_goto (tgt := 46) dMod_copy_29 (by decide) ?_
        refine z_iret rfl rfl dMod_copy_46 ?_
        rcases (show t9 = 0 ∨ t9 = 1 ∨ t9 = 2 ∨ t9 = 3 by omega) with t0 | t0 | t0 | t0
        all_goals first
          | (exfalso; omega)
          | exact zQm.okB H3 (Or.inr ⟨dq2, gq2⟩) (by omega) (by assumption) (by unfold sp_copy; (try unfold spPut); (try simp only [Int.toNat_natCast]); (repeat (first | rw [if_pos (by omega)] | rw [if_neg (by omega)] | rw [if_pos (by assumption)] | rw [if_neg (by assumption)] | rw [if_pos (True.intro : True)])); (try (first | rfl | (congr 2; omega) | (congr 1; congr 1; omega))); done)
          | exact zQm.ok H2 (by omega) (by assumption) (by unfold sp_copy; (try unfold spPut); (try simp only [Int.toNat_natCast]); (repeat (first | rw [if_pos (by omega)] | rw [if_neg (by omega)] | rw [if_pos (by assumption)] | rw [if_neg (by assumption)] | rw [if_pos (True.intro : True)])); (try (first | rfl | (congr 2; omega) | (congr 1; congr 1; omega))); done)
          | exact zQm.b1 H2 (by omega) (by assumption) (by unfold sp_copy; (try unfold spPut); (try simp only [Int.toNat_natCast]); (repeat (first | rw [if_pos (by omega)] | rw [if_neg (by omega)] | rw [if_pos (by assumption)] | rw [if_neg (by assumption)] | rw [if_pos (True.intro : True)])); (try (first | rfl | (congr 2; omega) | (congr 1; congr 1; omega))); done)
          | exact zQm.b2 H2 (by omega) (by assumption) (by unfold sp_copy; (try unfold spPut); (try simp only [Int.toNat_natCast]); (repeat (first | rw [if_pos (by omega)] | rw [if_neg (by omega)] | rw [if_pos (by assumption)] | rw [if_neg (by assumption)] | rw [if_pos (True.intro : True)])); (try (first | rfl | (congr 2; omega) | (congr 1; congr 1; omega))); done)
          | exact zQm.b3 H2 (by omega) (by assumption) (by unfold sp_copy; (try unfold spPut); (try simp only [Int.toNat_natCast]); (repeat (first | rw [if_pos (by omega)] | rw [if_neg (by omega)] | rw [if_pos (by assumption)] | rw [if_neg (by assumption)] | rw [if_pos (True.intro : True)])); (try (first | rfl | (congr 2; omega) | (congr 1; congr 1; omega))); done)
          | exact zQm.ok H1 (by omega) (by assumption) (by unfold sp_copy; (try unfold spPut); (try simp only [Int.toNat_natCast]); (repeat (first | rw [if_pos (by omega)] | rw [if_neg (by omega)] | rw [if_pos (by assumption)] | rw [if_neg (by assumption)] | rw [if_pos (True.intro : True)])); (try (first | rfl | (congr 2; omega) | (congr 1; congr 1; omega))); done)
          | exact zQm.b1 H1 (by omega) (by assumption) (by unfold sp_copy; (try unfold spPut); (try simp only [Int.toNat_natCast]); (repeat (first | rw [if_pos (by omega)] | rw [if_neg (by omega)] | rw [if_pos (by assumption)] | rw [if_neg (by assumption)] | rw [if_pos (True.intro : True)])); (try (first | rfl | (congr 2; omega) | (congr 1; congr 1; omega))); done)
          | exact zQm.b2 H1 (by omega) (by assumption) (by unfold sp_copy; (try unfold spPut); (try simp only [Int.toNat_natCast]); (repeat (first | rw [if_pos (by omega)] | rw [if_neg (by omega)] | rw [if_pos (by assumption)] | rw [if_neg (by assumption)] | rw [if_pos (True.intro : True)])); (try (first | rfl | (congr 2; omega) | (congr 1; congr 1; omega))); done)
          | exact zQm.b3 H1 (by omega) (by assumption) (by unfold sp_copy; (try unfold spPut); (try simp only [Int.toNat_natCast]); (repeat (first | rw [if_pos (by omega)] | rw [if_neg (by omega)] | rw [if_pos (by assumption)] | rw [if_neg (by assumption)] | rw [if_pos (True.intro : True)])); (try (first | rfl | (congr 2; omega) | (congr 1; congr 1; omega))); done)
    · exfalso; omega
  · obtain ⟨k, rfl⟩ := Int.eq_ofNat_of_zero_le (show 0 ≤ p by omega)
    have hkk : k < 4 := by omega
    refine z_if_ne (tgt := 15) dMod_copy_5 (by decide) (by omega) (fun c5 => ?_) (fun c5 => ?_)
    · exfalso; omega
    · refine z_iload_n dMod_copy_8 rfl ?_
      refine z_callS MS_Mod_isNo lk_Mod_81 dMod_copy_9 (k_Mod_isNo (by omega)) rfl rfl (Nat.le_of_ble_eq_true rfl)  (Nat.le_of_ble_eq_true rfl) (Nat.le_of_ble_eq_true rfl) (Nat.le_of_eq (Nat.zero_add _)) (Nat.le_of_eq (Nat.zero_add _)) (fun _ _ q => q.elim) ?_
      rintro _ _ ⟨n9j, rfl, (⟨rfl, hn9j⟩ | ⟨rfl, hn9j⟩), rfl⟩
      · refine z_if_eq (tgt := 19) dMod_copy_12 (by decide) (by omega) (fun c12 => ?_) (fun c12 => ?_)
        · refine z_iconst dMod_copy_19 ?_
          refine z_iconst dMod_copy_20 ?_
          refine z_iconst dMod_copy_21 ?_
          refine z_callV MV_Mod_fails lk_Mod_88 dMod_copy_22 (k_Mod_fails (by assumption) rfl (by omega) (by omega) (by omega)) rfl rfl (Nat.le_of_ble_eq_true rfl) rfl (by assumption) (Nat.le_of_ble_eq_true rfl) (Nat.le_of_ble_eq_true rfl) (Nat.le_of_eq (Nat.zero_add _)) (Nat.le_of_eq (Nat.zero_add _)) (fun _ _ q => q.elim) ?_
          rintro _ h1 ⟨t9, b8, rfl, ht, p1, g1⟩
          have H1 : zMod G h1 ma S t9 := H.obj (nu := S.2.2.2.2) (th' := t9) p1 g1
          have fz1 : zMfr ma h h1 := zMfr.of0 g1
          obtain ⟨-, n2, ⟨gg, n3, n3a⟩, n4, ⟨f61, n5, n5a⟩, n6, n7⟩ := id H1
          unfold zMfs at n2
          refine z_if_eq (tgt := 32) dMod_copy_25 (by decide) (by omega) (fun c25 => ?_) (fun c25 => ?_)
          · exfalso; omega
          · refine z_iconst dMod_copy_28 ?_
            refine z_goto (tgt := 46) dMod_copy_29 (by decide) ?_
            refine z_iret rfl rfl dMod_copy_46 ?_
            rcases (show t9 = 0 ∨ t9 = 1 ∨ t9 = 2 ∨ t9 = 3 by omega) with t0 | t0 | t0 | t0
            all_goals first
              | (exfalso; omega)
              | exact zQm.okB H3 (Or.inr ⟨dq2, gq2⟩) (by omega) (by assumption) (by unfold sp_copy; (try unfold spPut); (try simp only [Int.toNat_natCast]); (repeat (first | rw [if_pos (by omega)] | rw [if_neg (by omega)] | rw [if_pos (by assumption)] | rw [if_neg (by assumption)] | rw [if_pos (True.intro : True)])); (try (first | rfl | (congr 2; omega) | (congr 1; congr 1; omega))); done)
              | exact zQm.ok H2 (by omega) (by assumption) (by unfold sp_copy; (try unfold spPut); (try simp only [Int.toNat_natCast]); (repeat (first | rw [if_pos (by omega)] | rw [if_neg (by omega)] | rw [if_pos (by assumption)] | rw [if_neg (by assumption)] | rw [if_pos (True.intro : True)])); (try (first | rfl | (congr 2; omega) | (congr 1; congr 1; omega))); done)
              | exact zQm.b1 H2 (by omega) (by assumption) (by unfold sp_copy; (try unfold spPut); (try simp only [Int.toNat_natCast]); (repeat (first | rw [if_pos (by omega)] | rw [if_neg (by omega)] | rw [if_pos (by assumption)] | rw [if_neg (by assumption)] | rw [if_pos (True.intro : True)])); (try (first | rfl | (congr 2; omega) | (congr 1; congr 1; omega))); done)
              | exact zQm.b2 H2 (by omega) (by assumption) (by unfold sp_copy; (try unfold spPut); (try simp only [Int.toNat_natCast]); (repeat (first | rw [if_pos (by omega)] | rw [if_neg (by omega)] | rw [if_pos (by assumption)] | rw [if_neg (by assumption)] | rw [if_pos (True.intro : True)])); (try (first | rfl | (congr 2; omega) | (congr 1; congr 1; omega))); done)
              | exact zQm.b3 H2 (by omega) (by assumption) (by unfold sp_copy; (try unfold spPut); (try simp only [Int.toNat_natCast]); (repeat (first | rw [if_pos (by omega)] | rw [if_neg (by omega)] | rw [if_pos (by assumption)] | rw [if_neg (by assumption)] | rw [if_pos (True.intro : True)])); (try (first | rfl | (congr 2; omega) | (congr 1; congr 1; omega))); done)
              | exact zQm.ok H1 (by omega) (by assumption) (by unfold sp_copy; (try unfold spPut); (try simp only [Int.toNat_natCast]); (repeat (first | rw [if_pos (by omega)] | rw [if_neg (by omega)] | rw [if_pos (by assumption)] | rw [if_neg (by assumption)] | rw [if_pos (True.intro : True)])); (try (first | rfl | (congr 2; omega) | (congr 1; congr 1; omega))); done)
              | exact zQm.b1 H1 (by omega) (by assumption) (by unfold sp_copy; (try unfold spPut); (try simp only [Int.toNat_natCast]); (repeat (first | rw [if_pos (by omega)] | rw [if_neg (by omega)] | rw [if_pos (by assumption)] | rw [if_neg (by assumption)] | rw [if_pos (True.intro : True)])); (try (first | rfl | (congr 2; omega) | (congr 1; congr 1; omega))); done)
              | exact zQm.b2 H1 (by omega) (by assumption) (by unfold sp_copy; (try unfold spPut); (try simp only [Int.toNat_natCast]); (repeat (first | rw [if_pos (by omega)] | rw [if_neg (by omega)] | rw [if_pos (by assumption)] | rw [if_neg (by assumption)] | rw [if_pos (True.intro : True)])); (try (first | rfl | (congr 2; omega) | (congr 1; congr 1; omega))); done)
              | exact zQm.b3 H1 (by omega) (by assumption) (by unfold sp_copy; (try unfold spPut); (try simp only [Int.toNat_natCast]); (repeat (first | rw [if_pos (by omega)] | rw [if_neg (by omega)] | rw [if_pos (by assumption)] | rw [if_neg (by assumption)] | rw [if_pos (True.intro : True)])); (try (first | rfl | (congr 2; omega) | (congr 1; congr 1; omega))); done)
        · refine z_iconst dMod_copy_15 ?_
          refine z_goto (tgt := 20) dMod_copy_16 (by decide) ?_
          refine z_iconst dMod_copy_20 ?_
          refine z_iconst dMod_copy_21 ?_
          refine z_callV MV_Mod_fails lk_Mod_88 dMod_copy_22 (k_Mod_fails (by assumption) rfl (by omega) (by omega) (by omega)) rfl rfl (Nat.le_of_ble_eq_true rfl) rfl (by assumption) (Nat.le_of_ble_eq_true rfl) (Nat.le_of_ble_eq_true rfl) (Nat.le_of_eq (Nat.zero_add _)) (Nat.le_of_eq (Nat.zero_add _)) (fun _ _ q => q.elim) ?_
          rintro _ h1 ⟨t9, b8, rfl, ht, p1, g1⟩
          have H1 : zMod G h1 ma S t9 := H.obj (nu := S.2.2.2.2) (th' := t9) p1 g1
          have fz1 : zMfr ma h h1 := zMfr.of0 g1
          obtain ⟨-, n2, ⟨gg, n3, n3a⟩, n4, ⟨f61, n5, n5a⟩, n6, n7⟩ := id H1
          unfold zMfs at n2
          refine z_if_eq (tgt := 32) dMod_copy_25 (by decide) (by omega) (fun c25 => ?_) (fun c25 => ?_)
          · exfalso; omega
          · refine z_iconst dMod_copy_28 ?_
            refine z_goto (tgt := 46) dMod_copy_29 (by decide) ?_
            refine z_iret rfl rfl dMod_copy_46 ?_
            rcases (show t9 = 0 ∨ t9 = 1 ∨ t9 = 2 ∨ t9 = 3 by omega) with t0 | t0 | t0 | t0
            all_goals first
              | (exfalso; omega)
              | exact zQm.okB H3 (Or.inr ⟨dq2, gq2⟩) (by omega) (by assumption) (by unfold sp_copy; (try unfold spPut); (try simp only [Int.toNat_natCast]); (repeat (first | rw [if_pos (by omega)] | rw [if_neg (by omega)] | rw [if_pos (by assumption)] | rw [if_neg (by assumption)] | rw [if_pos (True.intro : True)])); (try (first | rfl | (congr 2; omega) | (congr 1; congr 1; omega))); done)
              | exact zQm.ok H2 (by omega) (by assumption) (by unfold sp_copy; (try unfold spPut); (try simp only [Int.toNat_natCast]); (repeat (first | rw [if_pos (by omega)] | rw [if_neg (by omega)] | rw [if_pos (by assumption)] | rw [if_neg (by assumption)] | rw [if_pos (True.intro : True)])); (try (first | rfl | (congr 2; omega) | (congr 1; congr 1; omega))); done)
              | exact zQm.b1 H2 (by omega) (by assumption) (by unfold sp_copy; (try unfold spPut); (try simp only [Int.toNat_natCast]); (repeat (first | rw [if_pos (by omega)] | rw [if_neg (by omega)] | rw [if_pos (by assumption)] | rw [if_neg (by assumption)] | rw [if_pos (True.intro : True)])); (try (first | rfl | (congr 2; omega) | (congr 1; congr 1; omega))); done)
              | exact zQm.b2 H2 (by omega) (by assumption) (by unfold sp_copy; (try unfold spPut); (try simp only [Int.toNat_natCast]); (repeat (first | rw [if_pos (by omega)] | rw [if_neg (by omega)] | rw [if_pos (by assumption)] | rw [if_neg (by assumption)] | rw [if_pos (True.intro : True)])); (try (first | rfl | (congr 2; omega) | (congr 1; congr 1; omega))); done)
              | exact zQm.b3 H2 (by omega) (by assumption) (by unfold sp_copy; (try unfold spPut); (try simp only [Int.toNat_natCast]); (repeat (first | rw [if_pos (by omega)] | rw [if_neg (by omega)] | rw [if_pos (by assumption)] | rw [if_neg (by assumption)] | rw [if_pos (True.intro : True)])); (try (first | rfl | (congr 2; omega) | (congr 1; congr 1; omega))); done)
              | exact zQm.ok H1 (by omega) (by assumption) (by unfold sp_copy; (try unfold spPut); (try simp only [Int.toNat_natCast]); (repeat (first | rw [if_pos (by omega)] | rw [if_neg (by omega)] | rw [if_pos (by assumption)] | rw [if_neg (by assumption)] | rw [if_pos (True.intro : True)])); (try (first | rfl | (congr 2; omega) | (congr 1; congr 1; omega))); done)
              | exact zQm.b1 H1 (by omega) (by assumption) (by unfold sp_copy; (try unfold spPut); (try simp only [Int.toNat_natCast]); (repeat (first | rw [if_pos (by omega)] | rw [if_neg (by omega)] | rw [if_pos (by assumption)] | rw [if_neg (by assumption)] | rw [if_pos (True.intro : True)])); (try (first | rfl | (congr 2; omega) | (congr 1; congr 1; omega))); done)
              | exact zQm.b2 H1 (by omega) (by assumption) (by unfold sp_copy; (try unfold spPut); (try simp only [Int.toNat_natCast]); (repeat (first | rw [if_pos (by omega)] | rw [if_neg (by omega)] | rw [if_pos (by assumption)] | rw [if_neg (by assumption)] | rw [if_pos (True.intro : True)])); (try (first | rfl | (congr 2; omega) | (congr 1; congr 1; omega))); done)
              | exact zQm.b3 H1 (by omega) (by assumption) (by unfold sp_copy; (try unfold spPut); (try simp only [Int.toNat_natCast]); (repeat (first | rw [if_pos (by omega)] | rw [if_neg (by omega)] | rw [if_pos (by assumption)] | rw [if_neg (by assumption)] | rw [if_pos (True.intro : True)])); (try (first | rfl | (congr 2; omega) | (congr 1; congr 1; omega))); done)
      · obtain ⟨j, rfl⟩ := Int.eq_ofNat_of_zero_le (show 0 ≤ i by omega)
        have hkj : j < 4 := by omega
        refine z_if_eq (tgt := 19) dMod_copy_12 (by decide) (by omega) (fun c12 => ?_) (fun c12 => ?_)
        · refine z_iconst dMod_copy_19 ?_
          refine z_iconst dMod_copy_20 ?_
          refine z_iconst dMod_copy_21 ?_
          refine z_callV MV_Mod_fails lk_Mod_88 dMod_copy_22 (k_Mod_fails (by assumption) rfl (by omega) (by omega) (by omega)) rfl rfl (Nat.le_of_ble_eq_true rfl) rfl (by assumption) (Nat.le_of_ble_eq_true rfl) (Nat.le_of_ble_eq_true rfl) (Nat.le_of_eq (Nat.zero_add _)) (Nat.le_of_eq (Nat.zero_add _)) (fun _ _ q => q.elim) ?_
          rintro _ h1 ⟨t9, b8, rfl, ht, p1, g1⟩
          have H1 : zMod G h1 ma S t9 := H.obj (nu := S.2.2.2.2) (th' := t9) p1 g1
          have fz1 : zMfr ma h h1 := zMfr.of0 g1
          obtain ⟨-, n2, ⟨gg, n3, n3a⟩, n4, ⟨f61, n5, n5a⟩, n6, n7⟩ := id H1
          unfold zMfs at n2
          refine z_if_eq (tgt := 32) dMod_copy_25 (by decide) (by omega) (fun c25 => ?_) (fun c25 => ?_)
          · obtain ⟨frk, rk1, rk2, rk3, rk4⟩ := id (n6 k (by omega))
            have h16k := h16 k (by omega)
            have ezk : ∀ i : Int, 0 ≤ i → i < ((S.1 k).length : Int) → frk i.toNat = zAt (S.1 k) i := fun i x1 x2 => by rw [rk3 _ (by omega), zAt_eq x1 x2]
            obtain ⟨frj, rj1, rj2, rj3, rj4⟩ := id (n6 j (by omega))
            have h16j := h16 j (by omega)
            have ezj : ∀ i : Int, 0 ≤ i → i < ((S.1 j).length : Int) → frj i.toNat = zAt (S.1 j) i := fun i x1 x2 => by rw [rj3 _ (by omega), zAt_eq x1 x2]
            refine z_aload_n dMod_copy_32 rfl ?_
            refine z_iload_n dMod_copy_33 rfl ?_
            refine z_aload_n dMod_copy_34 rfl ?_
            refine z_get (k := 0) fd_Mod (by decide) fl_Mod_11 dMod_copy_35 (by assumption) (by rfl) ?_
            refine z_iload_n dMod_copy_38 rfl ?_
            refine z_aald (t := 4) (ty := .array .int) rfl rfl dMod_copy_39 n3 (by refine ⟨?_, ?_, ?_⟩ <;> omega) ?_
            rw [show (k : Int).toNat = k from rfl, n3a k (by omega)]
            refine z_callS (bc' := 0) (bs' := 0) MS_Mod_copied lk_Mod_130 dMod_copy_40 (k_Mod_copied (n6 k (by omega)) (by omega)) rfl rfl (Nat.le_of_ble_eq_true rfl)  (Nat.le_of_ble_eq_true rfl) (Nat.le_of_ble_eq_true rfl) (by decide) (by decide) (fun _ _ q => q.elim) ?_
            rintro _ h2 ⟨q2, rfl, hq2, gq2, r2, hx2⟩
            have H2 : zMod G h2 ma S t9 := H1.ext hx2
            have fz2 : zMfr ma h h2 := fz1.tr (zMfr.ext hx2)
            have dq2 : zDm h q2 := hq2.up H1 fz1
            have oc2 := H2.2.1
            refine z_callV MV_Mod_becomes lk_Mod_95 dMod_copy_43 (k_Mod_becomes H2 (by omega) r2 (fun i hi _ => H1.nq hq2 hi)) rfl rfl (Nat.le_of_ble_eq_true rfl) rfl (by assumption) (Nat.le_of_ble_eq_true rfl) (Nat.le_of_ble_eq_true rfl) (Nat.le_of_eq (Nat.zero_add _)) (Nat.le_of_eq (Nat.zero_add _)) (fun _ _ q => q.elim) ?_
            rintro _ h3 ⟨rfl, H3, F3⟩
            have fz3 : zMfr ma h h3 := fz2.tr (zMfr.bec F3)
            refine z_iret rfl rfl dMod_copy_46 ?_
            rcases (show t9 = 0 ∨ t9 = 1 ∨ t9 = 2 ∨ t9 = 3 by omega) with t0 | t0 | t0 | t0
            all_goals first
              | (exfalso; omega)
              | exact zQm.okB H3 (Or.inr ⟨dq2, gq2⟩) (by omega) (by assumption) (by unfold sp_copy; (try unfold spPut); (try simp only [Int.toNat_natCast]); (repeat (first | rw [if_pos (by omega)] | rw [if_neg (by omega)] | rw [if_pos (by assumption)] | rw [if_neg (by assumption)] | rw [if_pos (True.intro : True)])); (try (first | rfl | (congr 2; omega) | (congr 1; congr 1; omega))); done)
              | exact zQm.ok H2 (by omega) (by assumption) (by unfold sp_copy; (try unfold spPut); (try simp only [Int.toNat_natCast]); (repeat (first | rw [if_pos (by omega)] | rw [if_neg (by omega)] | rw [if_pos (by assumption)] | rw [if_neg (by assumption)] | rw [if_pos (True.intro : True)])); (try (first | rfl | (congr 2; omega) | (congr 1; congr 1; omega))); done)
              | exact zQm.b1 H2 (by omega) (by assumption) (by unfold sp_copy; (try unfold spPut); (try simp only [Int.toNat_natCast]); (repeat (first | rw [if_pos (by omega)] | rw [if_neg (by omega)] | rw [if_pos (by assumption)] | rw [if_neg (by assumption)] | rw [if_pos (True.intro : True)])); (try (first | rfl | (congr 2; omega) | (congr 1; congr 1; omega))); done)
              | exact zQm.b2 H2 (by omega) (by assumption) (by unfold sp_copy; (try unfold spPut); (try simp only [Int.toNat_natCast]); (repeat (first | rw [if_pos (by omega)] | rw [if_neg (by omega)] | rw [if_pos (by assumption)] | rw [if_neg (by assumption)] | rw [if_pos (True.intro : True)])); (try (first | rfl | (congr 2; omega) | (congr 1; congr 1; omega))); done)
              | exact zQm.b3 H2 (by omega) (by assumption) (by unfold sp_copy; (try unfold spPut); (try simp only [Int.toNat_natCast]); (repeat (first | rw [if_pos (by omega)] | rw [if_neg (by omega)] | rw [if_pos (by assumption)] | rw [if_neg (by assumption)] | rw [if_pos (True.intro : True)])); (try (first | rfl | (congr 2; omega) | (congr 1; congr 1; omega))); done)
              | exact zQm.ok H1 (by omega) (by assumption) (by unfold sp_copy; (try unfold spPut); (try simp only [Int.toNat_natCast]); (repeat (first | rw [if_pos (by omega)] | rw [if_neg (by omega)] | rw [if_pos (by assumption)] | rw [if_neg (by assumption)] | rw [if_pos (True.intro : True)])); (try (first | rfl | (congr 2; omega) | (congr 1; congr 1; omega))); done)
              | exact zQm.b1 H1 (by omega) (by assumption) (by unfold sp_copy; (try unfold spPut); (try simp only [Int.toNat_natCast]); (repeat (first | rw [if_pos (by omega)] | rw [if_neg (by omega)] | rw [if_pos (by assumption)] | rw [if_neg (by assumption)] | rw [if_pos (True.intro : True)])); (try (first | rfl | (congr 2; omega) | (congr 1; congr 1; omega))); done)
              | exact zQm.b2 H1 (by omega) (by assumption) (by unfold sp_copy; (try unfold spPut); (try simp only [Int.toNat_natCast]); (repeat (first | rw [if_pos (by omega)] | rw [if_neg (by omega)] | rw [if_pos (by assumption)] | rw [if_neg (by assumption)] | rw [if_pos (True.intro : True)])); (try (first | rfl | (congr 2; omega) | (congr 1; congr 1; omega))); done)
              | exact zQm.b3 H1 (by omega) (by assumption) (by unfold sp_copy; (try unfold spPut); (try simp only [Int.toNat_natCast]); (repeat (first | rw [if_pos (by omega)] | rw [if_neg (by omega)] | rw [if_pos (by assumption)] | rw [if_neg (by assumption)] | rw [if_pos (True.intro : True)])); (try (first | rfl | (congr 2; omega) | (congr 1; congr 1; omega))); done)
          · refine z_iconst dMod_copy_28 ?_
            refine z_goto (tgt := 46) dMod_copy_29 (by decide) ?_
            refine z_iret rfl rfl dMod_copy_46 ?_
            rcases (show t9 = 0 ∨ t9 = 1 ∨ t9 = 2 ∨ t9 = 3 by omega) with t0 | t0 | t0 | t0
            all_goals first
              | (exfalso; omega)
              | exact zQm.okB H3 (Or.inr ⟨dq2, gq2⟩) (by omega) (by assumption) (by unfold sp_copy; (try unfold spPut); (try simp only [Int.toNat_natCast]); (repeat (first | rw [if_pos (by omega)] | rw [if_neg (by omega)] | rw [if_pos (by assumption)] | rw [if_neg (by assumption)] | rw [if_pos (True.intro : True)])); (try (first | rfl | (congr 2; omega) | (congr 1; congr 1; omega))); done)
              | exact zQm.ok H2 (by omega) (by assumption) (by unfold sp_copy; (try unfold spPut); (try simp only [Int.toNat_natCast]); (repeat (first | rw [if_pos (by omega)] | rw [if_neg (by omega)] | rw [if_pos (by assumption)] | rw [if_neg (by assumption)] | rw [if_pos (True.intro : True)])); (try (first | rfl | (congr 2; omega) | (congr 1; congr 1; omega))); done)
              | exact zQm.b1 H2 (by omega) (by assumption) (by unfold sp_copy; (try unfold spPut); (try simp only [Int.toNat_natCast]); (repeat (first | rw [if_pos (by omega)] | rw [if_neg (by omega)] | rw [if_pos (by assumption)] | rw [if_neg (by assumption)] | rw [if_pos (True.intro : True)])); (try (first | rfl | (congr 2; omega) | (congr 1; congr 1; omega))); done)
              | exact zQm.b2 H2 (by omega) (by assumption) (by unfold sp_copy; (try unfold spPut); (try simp only [Int.toNat_natCast]); (repeat (first | rw [if_pos (by omega)] | rw [if_neg (by omega)] | rw [if_pos (by assumption)] | rw [if_neg (by assumption)] | rw [if_pos (True.intro : True)])); (try (first | rfl | (congr 2; omega) | (congr 1; congr 1; omega))); done)
              | exact zQm.b3 H2 (by omega) (by assumption) (by unfold sp_copy; (try unfold spPut); (try simp only [Int.toNat_natCast]); (repeat (first | rw [if_pos (by omega)] | rw [if_neg (by omega)] | rw [if_pos (by assumption)] | rw [if_neg (by assumption)] | rw [if_pos (True.intro : True)])); (try (first | rfl | (congr 2; omega) | (congr 1; congr 1; omega))); done)
              | exact zQm.ok H1 (by omega) (by assumption) (by unfold sp_copy; (try unfold spPut); (try simp only [Int.toNat_natCast]); (repeat (first | rw [if_pos (by omega)] | rw [if_neg (by omega)] | rw [if_pos (by assumption)] | rw [if_neg (by assumption)] | rw [if_pos (True.intro : True)])); (try (first | rfl | (congr 2; omega) | (congr 1; congr 1; omega))); done)
              | exact zQm.b1 H1 (by omega) (by assumption) (by unfold sp_copy; (try unfold spPut); (try simp only [Int.toNat_natCast]); (repeat (first | rw [if_pos (by omega)] | rw [if_neg (by omega)] | rw [if_pos (by assumption)] | rw [if_neg (by assumption)] | rw [if_pos (True.intro : True)])); (try (first | rfl | (congr 2; omega) | (congr 1; congr 1; omega))); done)
              | exact zQm.b2 H1 (by omega) (by assumption) (by unfold sp_copy; (try unfold spPut); (try simp only [Int.toNat_natCast]); (repeat (first | rw [if_pos (by omega)] | rw [if_neg (by omega)] | rw [if_pos (by assumption)] | rw [if_neg (by assumption)] | rw [if_pos (True.intro : True)])); (try (first | rfl | (congr 2; omega) | (congr 1; congr 1; omega))); done)
              | exact zQm.b3 H1 (by omega) (by assumption) (by unfold sp_copy; (try unfold spPut); (try simp only [Int.toNat_natCast]); (repeat (first | rw [if_pos (by omega)] | rw [if_neg (by omega)] | rw [if_pos (by assumption)] | rw [if_neg (by assumption)] | rw [if_pos (True.intro : True)])); (try (first | rfl | (congr 2; omega) | (congr 1; congr 1; omega))); done)
        · exfalso; omega
end MOD10
