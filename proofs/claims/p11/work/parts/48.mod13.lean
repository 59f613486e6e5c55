section MOD13
variable {G : zG} {l : Launch} {h h' h'' : zHp} {ma : Nat → Nat} {S : zSt} {th : Int}
theorem zDel_eq {L : List Int} {p : Int} (h0 : 0 ≤ p) (h1 : p < L.length) : zDel L p = L.take p.toNat ++ L.drop (p.toNat + 1) := by
  have hl : (L.take p.toNat).length = p.toNat := by rw [List.length_take]; omega
  apply zl_ext (by rw [zDel_len, List.length_append, hl, List.length_drop]; omega)
  intro j hj
  rw [zDel_len] at hj
  rw [zDel_at hj]
  simp only [List.getD_eq_getElem?_getD, List.getElem?_append, hl, List.getElem?_take, List.getElem?_drop]
  by_cases c : (j : Int) < p
  · rw [if_pos c, if_pos (by omega), if_pos (by omega)]
  · rw [if_neg c, if_neg (by omega), show p.toNat + 1 + (j - p.toNat) = j + 1 by omega]
theorem zFl_del {L : List Int} {x : Int} (h : 0 ≤ zFind L x 0) : zFl (zDel L (zFind L x 0)) x = zFl L x := by
  have h1 := zFind_in L x 0
  have hg := zFind_get h
  have hlt : (zFind L x 0).toNat < L.length := by omega
  rw [zDel_eq h (by omega)]
  have e : L = L.take (zFind L x 0).toNat ++ (x :: L.drop ((zFind L x 0).toNat + 1)) := by
    have e1 : L.drop (zFind L x 0).toNat = L[(zFind L x 0).toNat] :: L.drop ((zFind L x 0).toNat + 1) := List.drop_eq_getElem_cons hlt
    have e2 : L[(zFind L x 0).toNat] = x := by
      have e4 := hg
      rw [zgetD hlt] at e4
      exact e4
    exact (List.take_append_drop (zFind L x 0).toNat L).symm.trans (by rw [e1, e2])
  have e3 : zFl L x = zFl (L.take (zFind L x 0).toNat ++ (x :: L.drop ((zFind L x 0).toNat + 1))) x := congrArg (fun q => zFl q x) e
  rw [e3]
  unfold zFl
  rw [List.filter_append, List.filter_append, List.filter_cons_of_neg (by simp)]
theorem zFl_none {L : List Int} {x : Int} (h : zFind L x 0 = -1) : zFl L x = L := by
  unfold zFl
  rw [List.filter_eq_self]
  intro y hy
  obtain ⟨i, hi, e⟩ := List.getElem_of_mem hy
  rw [decide_eq_true_eq]
  intro ey
  have := zFind_mem (L := L) (x := x) (j := i) hi (by rw [← ey, ← e]; simp [List.getD_eq_getElem?_getD, List.getElem?_eq_getElem hi])
  omega
theorem zLn9_get (L : List Int) : ∀ n : Nat, 0 ≤ zLn9 L n → L.getD (zLn9 L n).toNat 0 ≠ 0
  | 0, h => absurd h (by unfold zLn9; omega)
  | n + 1, h => by
    have ih := zLn9_get L n
    unfold zLn9 at h ⊢
    split
    · rename_i q
      rw [if_pos q] at h
      exact ih h
    · rename_i q
      rw [Int.toNat_natCast]
      exact q
theorem zLn9_top (L : List Int) : ∀ n j : Nat, zLn9 L n < (j : Int) → j < n → L.getD j 0 = 0
  | 0, j, _, h => absurd h (by omega)
  | n + 1, j, h1, h2 => by
    have ih := zLn9_top L n j
    unfold zLn9 at h1
    split at h1
    · rename_i q
      by_cases c : j = n
      · rw [c]; exact q
      · exact ih h1 (by omega)
    · omega
theorem zDel_last {L : List Int} {m : Nat} (h0 : 0 < m) (h1 : m ≤ L.length) : zDel (L.take m) ((m : Int) - 1) = L.take (m - 1) := by
  have hl : (L.take m).length = m := by rw [List.length_take]; omega
  rw [zDel_eq (by omega) (by omega), show ((m : Int) - 1).toNat = m - 1 by omega, List.take_take, show min (m - 1) m = m - 1 by omega, List.drop_eq_nil_of_le (by omega), List.append_nil]
theorem zDr_of {a0 q : Nat} (G : zG) (hq : q = a0 ∨ (zDm h q ∧ G.2.2 ≤ q)) (H : zMod G h ma S th) {k : Nat} (ha : a0 = ma (8 + k)) (hk : k < 4) : ∀ i, i < 13 → i ≠ 8 + k → q ≠ ma i := by
  intro i hi hne
  rcases hq with rfl | ⟨x1, -⟩
  · rw [ha]; exact H.inj (by omega) hi (Ne.symm hne)
  · exact H.nq x1 hi
theorem l_Mod_through {k j s q2 : Nat} {h1 : zHp} (H1 : zMod G h1 ma S 0) (fz1 : zMfr ma h h1) (hq2 : zDm h1 q2) (gq2 : G.2.2 ≤ q2) (hk : k < 4) (hj : j < 4) (hs : s < 4) (h16 : ∀ k, k < 4 → (S.1 k).length ≤ 16) :
    ∀ (n m : Nat) (h3 : zHp) (g : Nat → Int), (S.1 j).length - m < n → m ≤ (S.1 j).length → h3 q2 = some (zInts G (S.1 j).length g) → (∀ t : Nat, t < m → (0 ≤ (S.1 j).getD t 0 ∧ (S.1 j).getD t 0 < (S.1 k).length) ∧ g t = zAt (S.1 k) ((S.1 j).getD t 0)) → (∀ z, z ≠ q2 → h3 z = h1 z) →
      zR G l (zMJ G hMod_through 4 (zQm G ma h 1 2 3 (sp_through S (k : Int) (j : Int) (s : Int))) zNo 1 16) 0 0 h3 51 [some (.ref (ma 0)), some (zi (k : Int)), some (zi (j : Int)), some (zi (s : Int)), some (.ref q2), some (zi (m : Int))] [] := by
  intro n
  induction n with
  | zero => intro m h3 g x1 x2 e1 e2 hf; omega
  | succ n ih =>
  intro m h3 g x1 x2 e1 e2 hf
  have H3 : zMod G h3 ma S 0 := H1.keep hq2 hf
  have fz3 : zMfr ma h h3 := fz1.tr (zMfr.new hq2 hf)
  have dq2 : zDm h q2 := hq2.up H1 fz1
  obtain ⟨-, n2, ⟨gg, n3, n3a⟩, n4, ⟨f61, n5, n5a⟩, n6, n7⟩ := id H3
  unfold zMfs at n2
  obtain ⟨frk, rk1, rk2, rk3, rk4⟩ := id (n6 k hk)
  obtain ⟨frj, rj1, rj2, rj3, rj4⟩ := id (n6 j hj)
  have h16k := h16 k hk
  have h16j := h16 j hj
  refine z_iload dMod_through_51 rfl ?_
  refine z_aload dMod_through_53 rfl ?_
  refine z_alenI dMod_through_55 (by assumption) ?_
  refine z_icmp_ge (tgt := 108) dMod_through_56 (by decide) (by omega) (by omega) (fun c56 => ?_) (fun c56 => ?_)
  · have em : m = (S.1 j).length := by omega
    subst em
    have r3 : zAr G h3 q2 (zmk (S.1 j).length (fun t => zAt (S.1 k) ((S.1 j).getD t 0))) := by
      refine ⟨g, by rw [zmk_len]; exact e1, by rw [zmk_len]; omega, fun t ht => ?_, fun t ht => ?_⟩
      · rw [zmk_len] at ht
        rw [zmk_at _ ht]
        exact (e2 t ht).2
      · rw [zmk_len] at ht
        rw [zmk_at _ ht, zAt_eq (e2 t ht).1.1 (e2 t ht).1.2]
        have e2t := (e2 t ht).1
        exact rk4 _ (by omega)
    have hml : (zmk (S.1 j).length (fun t => zAt (S.1 k) ((S.1 j).getD t 0))).length = (S.1 j).length := zmk_len _ _
    refine z_aload_n dMod_through_108 rfl ?_
    refine z_iload_n dMod_through_109 rfl ?_
    refine z_aload dMod_through_110 rfl ?_
    refine z_callV MV_Mod_becomes lk_Mod_95 dMod_through_112 (k_Mod_becomes H3 hs r3 (fun i hi _ => H1.nq hq2 hi)) rfl rfl (Nat.le_of_ble_eq_true rfl) rfl (by assumption) (Nat.le_of_ble_eq_true rfl) (Nat.le_of_ble_eq_true rfl) (Nat.le_of_eq (Nat.zero_add _)) (Nat.le_of_eq (Nat.zero_add _)) (fun _ _ q => q.elim) ?_
    rintro _ h4 ⟨rfl, H4, F4⟩
    have fz4 : zMfr ma h h4 := fz3.tr (zMfr.bec F4)
    refine z_iret rfl rfl dMod_through_115 ?_
    exact zQm.okB H4 (Or.inr ⟨dq2, gq2⟩) rfl fz4 (by unfold sp_through; rw [if_pos (by omega), if_pos (by omega), if_pos (by omega)]; simp only [Int.toNat_natCast]; exact (if_pos (fun t ht => (e2 t ht).1)))
  · have rj4m := rj4 m (by omega)
    refine z_aload_n dMod_through_59 rfl ?_
    refine z_iload_n dMod_through_60 rfl ?_
    refine z_aload_n dMod_through_61 rfl ?_
    refine z_get (k := 0) fd_Mod (by decide) fl_Mod_11 dMod_through_62 (by assumption) (by rfl) ?_
    refine z_iload_n dMod_through_65 rfl ?_
    refine z_aald (t := 4) (ty := .array .int) rfl rfl dMod_through_66 n3 (by refine ⟨?_, ?_, ?_⟩ <;> omega) ?_
    rw [show (j : Int).toNat = j from rfl, n3a j (by omega)]
    refine z_iload dMod_through_67 rfl ?_
    refine z_iald dMod_through_69 (by assumption) (by refine ⟨?_, ?_, ?_⟩ <;> omega) ?_
    rw [Int.toNat_natCast, rj3 m (by omega)]
    refine z_callV MV_Mod_isNoPlace lk_Mod_106 dMod_through_70 (k_Mod_isNoPlace H3 hk (by omega)) rfl rfl (Nat.le_of_ble_eq_true rfl) rfl (by assumption) (Nat.le_of_ble_eq_true rfl) (Nat.le_of_ble_eq_true rfl) (Nat.le_of_eq (Nat.zero_add _)) (Nat.le_of_eq (Nat.zero_add _)) (fun _ _ q => q.elim) ?_
    rintro _ _ ⟨np9, rfl, (⟨rfl, hnp⟩ | ⟨rfl, hnp⟩), rfl⟩
    · refine z_if_eq (tgt := 81) dMod_through_73 (by decide) (by omega) (fun c73 => ?_) (fun c73 => ?_)
      · exfalso; omega
      · refine z_aload_n dMod_through_76 rfl ?_
        refine z_callV MV_Mod_refused lk_Mod_92 dMod_through_77 (k_Mod_refused n2 rfl rfl) rfl rfl (Nat.le_of_ble_eq_true rfl) rfl (by assumption) (Nat.le_of_ble_eq_true rfl) (Nat.le_of_ble_eq_true rfl) (Nat.le_of_eq (Nat.zero_add _)) (Nat.le_of_eq (Nat.zero_add _)) (fun _ _ q => q.elim) ?_
        rintro _ h4 ⟨rfl, p4, g4⟩
        have H4 : zMod G h4 ma (zsRef S) 0 := H3.obj (nu := zup S.2.2.2.2 1 (S.2.2.2.2 1 + 1)) p4 g4
        have fz4 : zMfr ma h h4 := fz3.tr (zMfr.of0 g4)
        refine z_iret rfl rfl dMod_through_80 ?_
        exact zQm.ok H4 rfl fz4 (by unfold sp_through; rw [if_pos (by omega), if_pos (by omega), if_pos (by omega)]; simp only [Int.toNat_natCast]; exact if_neg (fun c => hnp ⟨(c m (by omega)).1, (c m (by omega)).2⟩))
    · refine z_if_eq (tgt := 81) dMod_through_73 (by decide) (by omega) (fun c73 => ?_) (fun c73 => ?_)
      · refine z_aload dMod_through_81 rfl ?_
        refine z_iload dMod_through_83 rfl ?_
        refine z_aload_n dMod_through_85 rfl ?_
        refine z_get (k := 0) fd_Mod (by decide) fl_Mod_11 dMod_through_86 (by assumption) (by rfl) ?_
        refine z_iload_n dMod_through_89 rfl ?_
        refine z_aald (t := 4) (ty := .array .int) rfl rfl dMod_through_90 n3 (by refine ⟨?_, ?_, ?_⟩ <;> omega) ?_
        rw [show (k : Int).toNat = k from rfl, n3a k (by omega)]
        refine z_aload_n dMod_through_91 rfl ?_
        refine z_get (k := 0) fd_Mod (by decide) fl_Mod_11 dMod_through_92 (by assumption) (by rfl) ?_
        refine z_iload_n dMod_through_95 rfl ?_
        refine z_aald (t := 4) (ty := .array .int) rfl rfl dMod_through_96 n3 (by refine ⟨?_, ?_, ?_⟩ <;> omega) ?_
        rw [show (j : Int).toNat = j from rfl, n3a j (by omega)]
        refine z_iload dMod_through_97 rfl ?_
        refine z_iald dMod_through_99 (by assumption) (by refine ⟨?_, ?_, ?_⟩ <;> omega) ?_
        rw [Int.toNat_natCast, rj3 m (by omega)]
        refine z_iald dMod_through_100 (by assumption) (by refine ⟨?_, ?_, ?_⟩ <;> omega) ?_
        rw [rk3 _ (by omega), ← zAt_eq (by omega) (by omega)]
        refine z_iast dMod_through_101 (by assumption) (by refine ⟨?_, ?_, ?_⟩ <;> omega) ?_
        refine z_hx (fun h4 p4 f4 => ?_)
        refine z_iinc dMod_through_102 rfl (Nat.le_of_ble_eq_true rfl) ?_
        refine z_goto (tgt := 51) dMod_through_105 (by decide) ?_
        refine ih (m + 1) h4 _ (by omega) (by omega) p4 (fun t ht => ?_) (fun z hz => (f4 z hz).trans (hf z hz))
        by_cases e9 : t = m
        · subst e9
          rw [Int.toNat_natCast, zup_same]
          exact ⟨by omega, rfl⟩
        · rw [Int.toNat_natCast, zup_ne e9]
          exact e2 t (by omega)
      · exfalso; omega
theorem k_Mod_through {p m i : Int} (H : zMod G h ma S th) (z_p : zI32 p) (z_m : zI32 m) (z_i : zI32 i) (h16 : ∀ k, k < 4 → (S.1 k).length ≤ 16) : zM G l hMod_through yMod_through 4 [.ref (ma 0), zi p, zi m, zi i] h (zQm G ma h (1) (2) (3) (sp_through S p m i)) zNo 1 16 := by
  obtain ⟨m1, m2, ⟨g, m3, m3a⟩, m4, ⟨f6, m5, m5a⟩, m6, m7⟩ := id H
  unfold zMfs at m2
  refine zM.of [some (.ref (ma 0)), some (zi p), some (zi m), some (zi i), none, none] (by decide +kernel) rfl (by decide) rfl (Nat.le_of_ble_eq_true rfl) rfl ?_
  refine z_aload_n dMod_through_0 rfl ?_
  refine z_iload_n dMod_through_1 rfl ?_
  refine z_callS MS_Mod_isNo lk_Mod_81 dMod_through_2 (k_Mod_isNo (by omega)) rfl rfl (Nat.le_of_ble_eq_true rfl)  (Nat.le_of_ble_eq_true rfl) (Nat.le_of_ble_eq_true rfl) (Nat.le_of_eq (Nat.zero_add _)) (Nat.le_of_eq (Nat.zero_add _)) (fun _ _ q => q.elim) ?_
  rintro _ _ ⟨n9k, rfl, (⟨rfl, hn9k⟩ | ⟨rfl, hn9k⟩), rfl⟩
  · refine z_if_ne (tgt := 22) dMod_through_5 (by decide) (by omega) (fun c5 => ?_) (fun c5 => ?_)
    · refine z_iconst dMod_through_22 ?_
      refine z_goto (tgt := 27) dMod_through_23 (by decide) ?_
      refine z_iconst dMod_through_27 ?_
      refine z_iconst dMod_through_28 ?_
      refine z_callV MV_Mod_fails lk_Mod_88 dMod_through_29 (k_Mod_fails (by assumption) rfl (by omega) (by omega) (by omega)) rfl rfl (Nat.le_of_ble_eq_true rfl) rfl (by assumption) (Nat.le_of_ble_eq_true rfl) (Nat.le_of_ble_eq_true rfl) (Nat.le_of_eq (Nat.zero_add _)) (Nat.le_of_eq (Nat.zero_add _)) (fun _ _ q => q.elim) ?_
      rintro _ h1 ⟨t9, b8, rfl, ht, p1, g1⟩
      have H1 : zMod G h1 ma S t9 := H.obj (nu := S.2.2.2.2) (th' := t9) p1 g1
      have fz1 : zMfr ma h h1 := zMfr.of0 g1
      obtain ⟨-, n2, ⟨gg, n3, n3a⟩, n4, ⟨f61, n5, n5a⟩, n6, n7⟩ := id H1
      unfold zMfs at n2
      refine z_if_eq (tgt := 37) dMod_through_32 (by decide) (by omega) (fun c32 => ?_) (fun c32 => ?_)
      · exfalso; omega
      · refine z_iconst dMod_through_35 ?_
        refine z_iret rfl rfl dMod_through_36 ?_
        rcases (show t9 = 0 ∨ t9 = 1 ∨ t9 = 2 ∨ t9 = 3 by omega) with t0 | t0 | t0 | t0
        all_goals first
          | (exfalso; omega)
          | exact zQm.ok H1 (by omega) (by assumption) (by unfold sp_through; (try unfold spPut); (try simp only [Int.toNat_natCast]); (repeat (first | rw [if_pos (by omega)] | rw [if_neg (by omega)] | rw [if_pos (by assumption)] | rw [if_neg (by assumption)] | rw [if_pos (True.intro : True)])); (try (first | rfl | (congr 2; omega) | (congr 1; congr 1; omega))); done)
          | exact zQm.b1 H1 (by omega) (by assumption) (by unfold sp_through; (try unfold spPut); (try simp only [Int.toNat_natCast]); (repeat (first | rw [if_pos (by omega)] | rw [if_neg (by omega)] | rw [if_pos (by assumption)] | rw [if_neg (by assumption)] | rw [if_pos (True.intro : True)])); (try (first | rfl | (congr 2; omega) | (congr 1; congr 1; omega))); done)
          | exact zQm.b2 H1 (by omega) (by assumption) (by unfold sp_through; (try unfold spPut); (try simp only [Int.toNat_natCast]); (repeat (first | rw [if_pos (by omega)] | rw [if_neg (by omega)] | rw [if_pos (by assumption)] | rw [if_neg (by assumption)] | rw [if_pos (True.intro : True)])); (try (first | rfl | (congr 2; omega) | (congr 1; congr 1; omega))); done)
          | exact zQm.b3 H1 (by omega) (by assumption) (by unfold sp_through; (try unfold spPut); (try simp only [Int.toNat_natCast]); (repeat (first | rw [if_pos (by omega)] | rw [if_neg (by omega)] | rw [if_pos (by assumption)] | rw [if_neg (by assumption)] | rw [if_pos (True.intro : True)])); (try (first | rfl | (congr 2; omega) | (congr 1; congr 1; omega))); done)
    · exfalso; omega
  · obtain ⟨k, rfl⟩ := Int.eq_ofNat_of_zero_le (show 0 ≤ p by omega)
    have hkk : k < 4 := by omega
    refine z_if_ne (tgt := 22) dMod_through_5 (by decide) (by omega) (fun c5 => ?_) (fun c5 => ?_)
    · exfalso; omega
    · refine z_iload_n dMod_through_8 rfl ?_
      refine z_callS MS_Mod_isNo lk_Mod_81 dMod_through_9 (k_Mod_isNo (by omega)) rfl rfl (Nat.le_of_ble_eq_true rfl)  (Nat.le_of_ble_eq_true rfl) (Nat.le_of_ble_eq_true rfl) (Nat.le_of_eq (Nat.zero_add _)) (Nat.le_of_eq (Nat.zero_add _)) (fun _ _ q => q.elim) ?_
      rintro _ _ ⟨n9j, rfl, (⟨rfl, hn9j⟩ | ⟨rfl, hn9j⟩), rfl⟩
      · refine z_if_ne (tgt := 22) dMod_through_12 (by decide) (by omega) (fun c12 => ?_) (fun c12 => ?_)
        · refine z_iconst dMod_through_22 ?_
          refine z_goto (tgt := 27) dMod_through_23 (by decide) ?_
          refine z_iconst dMod_through_27 ?_
          refine z_iconst dMod_through_28 ?_
          refine z_callV MV_Mod_fails lk_Mod_88 dMod_through_29 (k_Mod_fails (by assumption) rfl (by omega) (by omega) (by omega)) rfl rfl (Nat.le_of_ble_eq_true rfl) rfl (by assumption) (Nat.le_of_ble_eq_true rfl) (Nat.le_of_ble_eq_true rfl) (Nat.le_of_eq (Nat.zero_add _)) (Nat.le_of_eq (Nat.zero_add _)) (fun _ _ q => q.elim) ?_
          rintro _ h1 ⟨t9, b8, rfl, ht, p1, g1⟩
          have H1 : zMod G h1 ma S t9 := H.obj (nu := S.2.2.2.2) (th' := t9) p1 g1
          have fz1 : zMfr ma h h1 := zMfr.of0 g1
          obtain ⟨-, n2, ⟨gg, n3, n3a⟩, n4, ⟨f61, n5, n5a⟩, n6, n7⟩ := id H1
          unfold zMfs at n2
          refine z_if_eq (tgt := 37) dMod_through_32 (by decide) (by omega) (fun c32 => ?_) (fun c32 => ?_)
          · exfalso; omega
          · refine z_iconst dMod_through_35 ?_
            refine z_iret rfl rfl dMod_through_36 ?_
            rcases (show t9 = 0 ∨ t9 = 1 ∨ t9 = 2 ∨ t9 = 3 by omega) with t0 | t0 | t0 | t0
            all_goals first
              | (exfalso; omega)
              | exact zQm.ok H1 (by omega) (by assumption) (by unfold sp_through; (try unfold spPut); (try simp only [Int.toNat_natCast]); (repeat (first | rw [if_pos (by omega)] | rw [if_neg (by omega)] | rw [if_pos (by assumption)] | rw [if_neg (by assumption)] | rw [if_pos (True.intro : True)])); (try (first | rfl | (congr 2; omega) | (congr 1; congr 1; omega))); done)
              | exact zQm.b1 H1 (by omega) (by assumption) (by unfold sp_through; (try unfold spPut); (try simp only [Int.toNat_natCast]); (repeat (first | rw [if_pos (by omega)] | rw [if_neg (by omega)] | rw [if_pos (by assumption)] | rw [if_neg (by assumption)] | rw [if_pos (True.intro : True)])); (try (first | rfl | (congr 2; omega) | (congr 1; congr 1; omega))); done)
              | exact zQm.b2 H1 (by omega) (by assumption) (by unfold sp_through; (try unfold spPut); (try simp only [Int.toNat_natCast]); (repeat (first | rw [if_pos (by omega)] | rw [if_neg (by omega)] | rw [if_pos (by assumption)] | rw [if_neg (by assumption)] | rw [if_pos (True.intro : True)])); (try (first | rfl | (congr 2; omega) | (congr 1; congr 1; omega))); done)
              | exact zQm.b3 H1 (by omega) (by assumption) (by unfold sp_through; (try unfold spPut); (try simp only [Int.toNat_natCast]); (repeat (first | rw [if_pos (by omega)] | rw [if_neg (by omega)] | rw [if_pos (by assumption)] | rw [if_neg (by assumption)] | rw [if_pos (True.intro : True)])); (try (first | rfl | (congr 2; omega) | (congr 1; congr 1; omega))); done)
        · exfalso; omega
      · obtain ⟨j, rfl⟩ := Int.eq_ofNat_of_zero_le (show 0 ≤ m by omega)
        have hkj : j < 4 := by omega
        refine z_if_ne (tgt := 22) dMod_through_12 (by decide) (by omega) (fun c12 => ?_) (fun c12 => ?_)
        · exfalso; omega
        · refine z_iload_n dMod_through_15 rfl ?_
          refine z_callS MS_Mod_isNo lk_Mod_81 dMod_through_16 (k_Mod_isNo (by omega)) rfl rfl (Nat.le_of_ble_eq_true rfl)  (Nat.le_of_ble_eq_true rfl) (Nat.le_of_ble_eq_true rfl) (Nat.le_of_eq (Nat.zero_add _)) (Nat.le_of_eq (Nat.zero_add _)) (fun _ _ q => q.elim) ?_
          rintro _ _ ⟨n9s, rfl, (⟨rfl, hn9s⟩ | ⟨rfl, hn9s⟩), rfl⟩
          · refine z_if_eq (tgt := 26) dMod_through_19 (by decide) (by omega) (fun c19 => ?_) (fun c19 => ?_)
            · exfalso; omega
            · refine z_iconst dMod_through_22 ?_
              refine z_goto (tgt := 27) dMod_through_23 (by decide) ?_
              refine z_iconst dMod_through_27 ?_
              refine z_iconst dMod_through_28 ?_
              refine z_callV MV_Mod_fails lk_Mod_88 dMod_through_29 (k_Mod_fails (by assumption) rfl (by omega) (by omega) (by omega)) rfl rfl (Nat.le_of_ble_eq_true rfl) rfl (by assumption) (Nat.le_of_ble_eq_true rfl) (Nat.le_of_ble_eq_true rfl) (Nat.le_of_eq (Nat.zero_add _)) (Nat.le_of_eq (Nat.zero_add _)) (fun _ _ q => q.elim) ?_
              rintro _ h1 ⟨t9, b8, rfl, ht, p1, g1⟩
              have H1 : zMod G h1 ma S t9 := H.obj (nu := S.2.2.2.2) (th' := t9) p1 g1
              have fz1 : zMfr ma h h1 := zMfr.of0 g1
              obtain ⟨-, n2, ⟨gg, n3, n3a⟩, n4, ⟨f61, n5, n5a⟩, n6, n7⟩ := id H1
              unfold zMfs at n2
              refine z_if_eq (tgt := 37) dMod_through_32 (by decide) (by omega) (fun c32 => ?_) (fun c32 => ?_)
              · exfalso; omega
              · refine z_iconst dMod_through_35 ?_
                refine z_iret rfl rfl dMod_through_36 ?_
                rcases (show t9 = 0 ∨ t9 = 1 ∨ t9 = 2 ∨ t9 = 3 by omega) with t0 | t0 | t0 | t0
                all_goals first
                  | (exfalso; omega)
                  | exact zQm.ok H1 (by omega) (by assumption) (by unfold sp_through; (try unfold spPut); (try simp only [Int.toNat_natCast]); (repeat (first | rw [if_pos (by omega)] | rw [if_neg (by omega)] | rw [if_pos (by assumption)] | rw [if_neg (by assumption)] | rw [if_pos (True.intro : True)])); (try (first | rfl | (congr 2; omega) | (congr 1; congr 1; omega))); done)
                  | exact zQm.b1 H1 (by omega) (by assumption) (by unfold sp_through; (try unfold spPut); (try simp only [Int.toNat_natCast]); (repeat (first | rw [if_pos (by omega)] | rw [if_neg (by omega)] | rw [if_pos (by assumption)] | rw [if_neg (by assumption)] | rw [if_pos (True.intro : True)])); (try (first | rfl | (congr 2; omega) | (congr 1; congr 1; omega))); done)
                  | exact zQm.b2 H1 (by omega) (by assumption) (by unfold sp_through; (try unfold spPut); (try simp only [Int.toNat_natCast]); (repeat (first | rw [if_pos (by omega)] | rw [if_neg (by omega)] | rw [if_pos (by assumption)] | rw [if_neg (by assumption)] | rw [if_pos (True.intro : True)])); (try (first | rfl | (congr 2; omega) | (congr 1; congr 1; omega))); done)
                  | exact zQm.b3 H1 (by omega) (by assumption) (by unfold sp_through; (try unfold spPut); (try simp only [Int.toNat_natCast]); (repeat (first | rw [if_pos (by omega)] | rw [if_neg (by omega)] | rw [if_pos (by assumption)] | rw [if_neg (by assumption)] | rw [if_pos (True.intro : True)])); (try (first | rfl | (congr 2; omega) | (congr 1; congr 1; omega))); done)
          · obtain ⟨s, rfl⟩ := Int.eq_ofNat_of_zero_le (show 0 ≤ i by omega)
            have hks : s < 4 := by omega
            refine z_if_eq (tgt := 26) dMod_through_19 (by decide) (by omega) (fun c19 => ?_) (fun c19 => ?_)
            · refine z_iconst dMod_through_26 ?_
              refine z_iconst dMod_through_27 ?_
              refine z_iconst dMod_through_28 ?_
              refine z_callV MV_Mod_fails lk_Mod_88 dMod_through_29 (k_Mod_fails (by assumption) rfl (by omega) (by omega) (by omega)) rfl rfl (Nat.le_of_ble_eq_true rfl) rfl (by assumption) (Nat.le_of_ble_eq_true rfl) (Nat.le_of_ble_eq_true rfl) (Nat.le_of_eq (Nat.zero_add _)) (Nat.le_of_eq (Nat.zero_add _)) (fun _ _ q => q.elim) ?_
              rintro _ h1 ⟨t9, b8, rfl, ht, p1, g1⟩
              have H1 : zMod G h1 ma S t9 := H.obj (nu := S.2.2.2.2) (th' := t9) p1 g1
              have fz1 : zMfr ma h h1 := zMfr.of0 g1
              obtain ⟨-, n2, ⟨gg, n3, n3a⟩, n4, ⟨f61, n5, n5a⟩, n6, n7⟩ := id H1
              unfold zMfs at n2
              refine z_if_eq (tgt := 37) dMod_through_32 (by decide) (by omega) (fun c32 => ?_) (fun c32 => ?_)
              · obtain ⟨frk, rk1, rk2, rk3, rk4⟩ := id (n6 k (by omega))
                have h16k := h16 k (by omega)
                have ezk : ∀ i : Int, 0 ≤ i → i < ((S.1 k).length : Int) → frk i.toNat = zAt (S.1 k) i := fun i x1 x2 => by rw [rk3 _ (by omega), zAt_eq x1 x2]
                obtain ⟨frj, rj1, rj2, rj3, rj4⟩ := id (n6 j (by omega))
                have h16j := h16 j (by omega)
                have ezj : ∀ i : Int, 0 ≤ i → i < ((S.1 j).length : Int) → frj i.toNat = zAt (S.1 j) i := fun i x1 x2 => by rw [rj3 _ (by omega), zAt_eq x1 x2]
                have et9 : t9 = 0 := by omega
                subst et9
                refine z_aload_n dMod_through_37 rfl ?_
                refine z_get (k := 0) fd_Mod (by decide) fl_Mod_11 dMod_through_38 (by assumption) (by rfl) ?_
                refine z_iload_n dMod_through_41 rfl ?_
                refine z_aald (t := 4) (ty := .array .int) rfl rfl dMod_through_42 n3 (by refine ⟨?_, ?_, ?_⟩ <;> omega) ?_
                rw [show (j : Int).toNat = j from rfl, n3a j (by omega)]
                refine z_alenI dMod_through_43 (by assumption) ?_
                refine z_newI (n := (S.1 j).length) (bc' := 0) (bs' := 0) rfl dMod_through_44 (by omega) (by decide) (by omega) (fun q2 h2 hq2 gq2 e2 F2 => ?_)
                refine z_astore dMod_through_46 (Nat.le_of_ble_eq_true rfl) ?_
                refine z_iconst dMod_through_48 ?_
                refine z_istore dMod_through_49 (Nat.le_of_ble_eq_true rfl) ?_
                exact l_Mod_through H1 fz1 hq2 gq2 hkk hkj hks h16 ((S.1 j).length + 1) 0 h2 _ (by omega) (by omega) e2 (fun t ht => absurd ht (by omega)) F2
              · refine z_iconst dMod_through_35 ?_
                refine z_iret rfl rfl dMod_through_36 ?_
                rcases (show t9 = 0 ∨ t9 = 1 ∨ t9 = 2 ∨ t9 = 3 by omega) with t0 | t0 | t0 | t0
                all_goals first
                  | (exfalso; omega)
                  | exact zQm.ok H1 (by omega) (by assumption) (by unfold sp_through; (try unfold spPut); (try simp only [Int.toNat_natCast]); (repeat (first | rw [if_pos (by omega)] | rw [if_neg (by omega)] | rw [if_pos (by assumption)] | rw [if_neg (by assumption)] | rw [if_pos (True.intro : True)])); (try (first | rfl | (congr 2; omega) | (congr 1; congr 1; omega))); done)
                  | exact zQm.b1 H1 (by omega) (by assumption) (by unfold sp_through; (try unfold spPut); (try simp only [Int.toNat_natCast]); (repeat (first | rw [if_pos (by omega)] | rw [if_neg (by omega)] | rw [if_pos (by assumption)] | rw [if_neg (by assumption)] | rw [if_pos (True.intro : True)])); (try (first | rfl | (congr 2; omega) | (congr 1; congr 1; omega))); done)
                  | exact zQm.b2 H1 (by omega) (by assumption) (by unfold sp_through; (try unfold spPut); (try simp only [Int.toNat_natCast]); (repeat (first | rw [if_pos (by omega)] | rw [if_neg (by omega)] | rw [if_pos (by assumption)] | rw [if_neg (by assumption)] | rw [if_pos (True.intro : True)])); (try (first | rfl | (congr 2; omega) | (congr 1; congr 1; omega))); done)
                  | exact zQm.b3 H1 (by omega) (by assumption) (by unfold sp_through; (try unfold spPut); (try simp only [Int.toNat_natCast]); (repeat (first | rw [if_pos (by omega)] | rw [if_neg (by omega)] | rw [if_pos (by assumption)] | rw [if_neg (by assumption)] | rw [if_pos (True.intro : True)])); (try (first | rfl | (congr 2; omega) | (congr 1; congr 1; omega))); done)
            · exfalso; omega
theorem l_Mod_thin {mc ms : Nat} {Qn : Option Value → zHp → Prop} {Qx : String → zHp → Prop} {L : List Int} {x : Int} {a0 : Nat} {w0 w1 : Option Value} {w3 : Int} (hx : zI32 x)
    (K : ∀ bc bs (h1 : zHp) q, zAr G h1 q (zFl L x) → (q = a0 ∨ (zDm h q ∧ G.2.2 ≤ q)) → zExt h h1 → zR G l (zMJ G hMod_thin 4 Qn Qx mc ms) bc bs h1 59 [w0, w1, some (zi x), some (zi w3), some (.ref q)] []) :
    ∀ (n bc bs : Nat) (h1 : zHp) (q : Nat) (R : List Int), R.length < n → R.length ≤ bc → 60 * R.length ≤ bs → zAr G h1 q R → zFl R x = zFl L x → R.length ≤ 16 → (q = a0 ∨ (zDm h q ∧ G.2.2 ≤ q)) → zExt h h1 →
      zR G l (zMJ G hMod_thin 4 Qn Qx mc ms) bc bs h1 31 [w0, w1, some (zi x), some (zi w3), some (.ref q)] [] := by
  intro n
  induction n with
  | zero => intro bc bs h1 q R q1 q3 q4 r hfl hl hq hext; omega
  | succ n ih =>
  intro bc bs h1 q R q1 q3 q4 r hfl hl hq hext
  obtain ⟨fr, ra, rb, rc, rd⟩ := id r
  have hfi := zFind_in R x 0
  refine z_aload dMod_thin_31 rfl ?_
  refine z_iload_n dMod_thin_33 rfl ?_
  refine z_iconst dMod_thin_34 ?_
  refine z_callS MS_Mod_find lk_Mod_110 dMod_thin_35 (k_Mod_find r (by omega) (by omega)) rfl rfl (Nat.le_of_ble_eq_true rfl)  (Nat.le_of_ble_eq_true rfl) (Nat.le_of_ble_eq_true rfl) (Nat.le_of_eq (Nat.zero_add _)) (Nat.le_of_eq (Nat.zero_add _)) (fun _ _ q => q.elim) ?_
  rintro _ _ ⟨rfl, rfl⟩
  refine z_iconst dMod_thin_38 ?_
  refine z_icmp_eq (tgt := 59) dMod_thin_39 (by decide) (by omega) (by omega) (fun c39 => ?_) (fun c39 => ?_)
  · exact K _ _ h1 q (by rw [← hfl, zFl_none (by omega)]; exact r) hq hext
  · refine z_aload dMod_thin_42 rfl ?_
    refine z_aload dMod_thin_44 rfl ?_
    refine z_iload_n dMod_thin_46 rfl ?_
    refine z_iconst dMod_thin_47 ?_
    refine z_callS MS_Mod_find lk_Mod_110 dMod_thin_48 (k_Mod_find r (by omega) (by omega)) rfl rfl (Nat.le_of_ble_eq_true rfl)  (Nat.le_of_ble_eq_true rfl) (Nat.le_of_ble_eq_true rfl) (Nat.le_of_eq (Nat.zero_add _)) (Nat.le_of_eq (Nat.zero_add _)) (fun _ _ q => q.elim) ?_
    rintro _ _ ⟨rfl, rfl⟩
    refine z_callS (bc' := bc - 1) (bs' := bs - 60) MS_Mod_without lk_Mod_102 dMod_thin_51 (k_Mod_without r (by omega) (by omega)) rfl rfl (Nat.le_of_ble_eq_true rfl)  (Nat.le_of_ble_eq_true rfl) (Nat.le_of_ble_eq_true rfl) (by omega) (by omega) (fun _ _ q => q.elim) ?_
    rintro _ h2 ⟨q2, rfl, hq2, gq2, r2, F2⟩
    have hdl := zDel_len R (zFind R x 0)
    refine z_astore dMod_thin_54 (Nat.le_of_ble_eq_true rfl) ?_
    refine z_goto (tgt := 31) dMod_thin_56 (by decide) ?_
    exact ih (bc - 1) (bs - 60) h2 q2 (zDel R (zFind R x 0)) (by omega) (by omega) (by omega) r2 ((zFl_del (by omega)).trans hfl) (by omega) (Or.inr ⟨hq2.dn hext, gq2⟩) (hext.tr (zExt.new hq2 F2))
theorem k_Mod_thin {p x : Int} (H : zMod G h ma S th) (z_p : zI32 p) (z_x : zI32 x) (h16 : ∀ k, k < 4 → (S.1 k).length ≤ 16) : zM G l hMod_thin yMod_thin 4 [.ref (ma 0), zi p, zi x] h (zQm G ma h (1) (2) (3) (sp_thin S p x)) zNo 16 960 := by
  obtain ⟨m1, m2, ⟨g, m3, m3a⟩, m4, ⟨f6, m5, m5a⟩, m6, m7⟩ := id H
  unfold zMfs at m2
  refine zM.of [some (.ref (ma 0)), some (zi p), some (zi x), none, none] (by decide +kernel) rfl (by decide) rfl (Nat.le_of_ble_eq_true rfl) rfl ?_
  refine z_aload_n dMod_thin_0 rfl ?_
  refine z_iload_n dMod_thin_1 rfl ?_
  refine z_callS MS_Mod_isNo lk_Mod_81 dMod_thin_2 (k_Mod_isNo (by omega)) rfl rfl (Nat.le_of_ble_eq_true rfl)  (Nat.le_of_ble_eq_true rfl) (Nat.le_of_ble_eq_true rfl) (Nat.le_of_eq (Nat.zero_add _)) (Nat.le_of_eq (Nat.zero_add _)) (fun _ _ q => q.elim) ?_
  rintro _ _ ⟨n9, rfl, hn9, rfl⟩
  refine z_iconst dMod_thin_5 ?_
  refine z_iconst dMod_thin_6 ?_
  refine z_callV MV_Mod_fails lk_Mod_88 dMod_thin_7 (k_Mod_fails (by assumption) rfl (by omega) (by omega) (by omega)) rfl rfl (Nat.le_of_ble_eq_true rfl) rfl (by assumption) (Nat.le_of_ble_eq_true rfl) (Nat.le_of_ble_eq_true rfl) (Nat.le_of_eq (Nat.zero_add _)) (Nat.le_of_eq (Nat.zero_add _)) (fun _ _ q => q.elim) ?_
  rintro _ h1 ⟨t9, b8, rfl, ht, p1, g1⟩
  have H1 : zMod G h1 ma S t9 := H.obj (nu := S.2.2.2.2) (th' := t9) p1 g1
  have fz1 : zMfr ma h h1 := zMfr.of0 g1
  obtain ⟨-, n2, ⟨gg, n3, n3a⟩, n4, ⟨f61, n5, n5a⟩, n6, n7⟩ := id H1
  unfold zMfs at n2
  refine z_if_eq (tgt := 15) dMod_thin_10 (by decide) (by omega) (fun c10 => ?_) (fun c10 => ?_)
  · obtain ⟨k, rfl⟩ := Int.eq_ofNat_of_zero_le (show 0 ≤ p by omega)
    obtain ⟨frk, rk1, rk2, rk3, rk4⟩ := id (n6 k (by omega))
    have h16k := h16 k (by omega)
    have ezk : ∀ i : Int, 0 ≤ i → i < ((S.1 k).length : Int) → frk i.toNat = zAt (S.1 k) i := fun i x1 x2 => by rw [rk3 _ (by omega), zAt_eq x1 x2]
    have hk : k < 4 := by omega
    refine z_aload_n dMod_thin_15 rfl ?_
    refine z_get (k := 0) fd_Mod (by decide) fl_Mod_11 dMod_thin_16 (by assumption) (by rfl) ?_
    refine z_iload_n dMod_thin_19 rfl ?_
    refine z_aald (t := 4) (ty := .array .int) rfl rfl dMod_thin_20 n3 (by refine ⟨?_, ?_, ?_⟩ <;> omega) ?_
    rw [show (k : Int).toNat = k from rfl, n3a k (by omega)]
    refine z_alenI dMod_thin_21 (by assumption) ?_
    refine z_istore_n dMod_thin_22 (Nat.le_of_ble_eq_true rfl) ?_
    refine z_aload_n dMod_thin_23 rfl ?_
    refine z_get (k := 0) fd_Mod (by decide) fl_Mod_11 dMod_thin_24 (by assumption) (by rfl) ?_
    refine z_iload_n dMod_thin_27 rfl ?_
    refine z_aald (t := 4) (ty := .array .int) rfl rfl dMod_thin_28 n3 (by refine ⟨?_, ?_, ?_⟩ <;> omega) ?_
    rw [show (k : Int).toNat = k from rfl, n3a k (by omega)]
    refine z_astore dMod_thin_29 (Nat.le_of_ble_eq_true rfl) ?_
    refine l_Mod_thin (h := h1) (L := S.1 k) (a0 := ma (8 + k)) (by omega) (fun bc bs h2 q2 r2 hq2 hx2 => ?_) ((S.1 k).length + 1) 16 960 h1 (ma (8 + k)) (S.1 k) (by omega) (by omega) (by omega) (n6 k hk) rfl (by omega) (Or.inl rfl) zExt.rf
    have H2 : zMod G h2 ma S t9 := H1.ext hx2
    have oc2 := H2.2.1
    have fz2 : zMfr ma h h2 := fz1.tr (zMfr.ext hx2)
    have hnq := zDr_of G hq2 H1 (k := k) rfl hk
    refine z_iload_n dMod_thin_59 rfl ?_
    refine z_aload_n dMod_thin_60 rfl ?_
    refine z_iload_n dMod_thin_61 rfl ?_
    refine z_aload dMod_thin_62 rfl ?_
    refine z_callV MV_Mod_becomes lk_Mod_95 dMod_thin_64 (k_Mod_becomes H2 hk r2 hnq) rfl rfl (Nat.le_of_ble_eq_true rfl) rfl (by assumption) (Nat.le_of_ble_eq_true rfl) (Nat.le_of_ble_eq_true rfl) (Nat.le_of_eq (Nat.zero_add _)) (Nat.le_of_eq (Nat.zero_add _)) (fun _ _ q => q.elim) ?_
    rintro _ h3 ⟨rfl, H3, F3⟩
    have fz3 : zMfr ma h h3 := fz2.tr (zMfr.bec F3)
    refine z_isub dMod_thin_67 ?_
    refine z_iret rfl rfl dMod_thin_68 ?_
    first
      | (exfalso; omega)
      | exact zQm.okB H3 (hq2.imp id (fun x9 => ⟨x9.1.up H1 fz1, x9.2⟩)) (by omega) (by assumption) (by unfold sp_thin; (try unfold spPut); (try simp only [Int.toNat_natCast]); (repeat (first | rw [if_pos (by omega)] | rw [if_neg (by omega)] | rw [if_pos (by assumption)] | rw [if_neg (by assumption)] | rw [if_pos (True.intro : True)])); (try (first | rfl | (congr 2; omega) | (congr 1; congr 1; omega))); done)
  · refine z_iconst dMod_thin_13 ?_
    refine z_iret rfl rfl dMod_thin_14 ?_
    rcases (show t9 = 0 ∨ t9 = 1 ∨ t9 = 2 ∨ t9 = 3 by omega) with t0 | t0 | t0 | t0
    all_goals first
      | (exfalso; omega)
      | exact zQm.ok H1 (by omega) (by assumption) (by unfold sp_thin; (try unfold spPut); (try simp only [Int.toNat_natCast]); (repeat (first | rw [if_pos (by omega)] | rw [if_neg (by omega)] | rw [if_pos (by assumption)] | rw [if_neg (by assumption)] | rw [if_pos (True.intro : True)])); (try (first | rfl | (congr 2; omega) | (congr 1; congr 1; omega))); done)
      | exact zQm.b1 H1 (by omega) (by assumption) (by unfold sp_thin; (try unfold spPut); (try simp only [Int.toNat_natCast]); (repeat (first | rw [if_pos (by omega)] | rw [if_neg (by omega)] | rw [if_pos (by assumption)] | rw [if_neg (by assumption)] | rw [if_pos (True.intro : True)])); (try (first | rfl | (congr 2; omega) | (congr 1; congr 1; omega))); done)
      | exact zQm.b2 H1 (by omega) (by assumption) (by unfold sp_thin; (try unfold spPut); (try simp only [Int.toNat_natCast]); (repeat (first | rw [if_pos (by omega)] | rw [if_neg (by omega)] | rw [if_pos (by assumption)] | rw [if_neg (by assumption)] | rw [if_pos (True.intro : True)])); (try (first | rfl | (congr 2; omega) | (congr 1; congr 1; omega))); done)
      | exact zQm.b3 H1 (by omega) (by assumption) (by unfold sp_thin; (try unfold spPut); (try simp only [Int.toNat_natCast]); (repeat (first | rw [if_pos (by omega)] | rw [if_neg (by omega)] | rw [if_pos (by assumption)] | rw [if_neg (by assumption)] | rw [if_pos (True.intro : True)])); (try (first | rfl | (congr 2; omega) | (congr 1; congr 1; omega))); done)
theorem l_Mod_trim {mc ms : Nat} {Qn : Option Value → zHp → Prop} {Qx : String → zHp → Prop} {L : List Int} {a0 : Nat} {w0 : Option Value} {w1 : Int} (hL : L.length ≤ 16)
    (K : ∀ bc bs (h1 : zHp) q, zAr G h1 q (L.take (zLnz L + 1).toNat) → (q = a0 ∨ (zDm h q ∧ G.2.2 ≤ q)) → zExt h h1 → zR G l (zMJ G hMod_trim 4 Qn Qx mc ms) bc bs h1 48 [w0, some (zi w1), some (.ref q)] []) :
    ∀ (n m bc bs : Nat) (h1 : zHp) (q : Nat), m < n → m ≤ bc → 60 * m ≤ bs → zAr G h1 q (L.take m) → m ≤ L.length → zLnz L + 1 ≤ m → (q = a0 ∨ (zDm h q ∧ G.2.2 ≤ q)) → zExt h h1 →
      zR G l (zMJ G hMod_trim 4 Qn Qx mc ms) bc bs h1 22 [w0, some (zi w1), some (.ref q)] [] := by
  intro n
  induction n with
  | zero => intro m bc bs h1 q q1 q3 q4 r hm hz hq hext; omega
  | succ n ih =>
  intro m bc bs h1 q q1 q3 q4 r hm hz hq hext
  obtain ⟨fr, ra, rb, rc, rd⟩ := id r
  have hlm : (L.take m).length = m := by rw [List.length_take]; omega
  have hzi := zLnz_in L
  have htk : ∀ i : Nat, i < m → (L.take m).getD i 0 = L.getD i 0 := fun i hi => by simp only [List.getD_eq_getElem?_getD, List.getElem?_take, if_pos hi]
  refine z_aload_n dMod_trim_22 rfl ?_
  refine z_alenI dMod_trim_23 ra ?_
  rw [hlm]
  refine z_if_le (tgt := 48) dMod_trim_24 (by decide) (by omega) (fun c24 => ?_) (fun c24 => ?_)
  · have em : m = (zLnz L + 1).toNat := by
      by_cases c9 : zLnz L + 1 = m
      · omega
      · have ht := zLn9_top L L.length (m - 1) (by show zLnz L < _; omega) (by omega)
        omega
    rw [em] at r
    exact K _ _ h1 q r hq hext
  · refine z_aload_n dMod_trim_27 rfl ?_
    refine z_aload_n dMod_trim_28 rfl ?_
    refine z_alenI dMod_trim_29 ra ?_
    rw [hlm]
    refine z_iconst dMod_trim_30 ?_
    refine z_isub dMod_trim_31 ?_
    refine z_iald dMod_trim_32 (by assumption) (by refine ⟨?_, ?_, ?_⟩ <;> omega) ?_
    rw [show ((m : Int) - 1).toNat = m - 1 by omega, rc (m - 1) (by omega), htk (m - 1) (by omega)]
    have hin := rd (m - 1) (by omega)
    rw [htk (m - 1) (by omega)] at hin
    refine z_if_ne (tgt := 48) dMod_trim_33 (by decide) (by omega) (fun c33 => ?_) (fun c33 => ?_)
    · have em : m = (zLnz L + 1).toNat := by
        by_cases c9 : zLnz L + 1 = m
        · omega
        · have ht := zLn9_top L L.length (m - 1) (by show zLnz L < _; omega) (by omega)
          omega
      rw [em] at r
      exact K _ _ h1 q r hq hext
    · refine z_aload_n dMod_trim_36 rfl ?_
      refine z_aload_n dMod_trim_37 rfl ?_
      refine z_alenI dMod_trim_38 ra ?_
      rw [hlm]
      refine z_iconst dMod_trim_39 ?_
      refine z_isub dMod_trim_40 ?_
      refine z_callS (bc' := bc - 1) (bs' := bs - 60) MS_Mod_without lk_Mod_102 dMod_trim_41 (k_Mod_without r (by omega) (by omega)) rfl rfl (Nat.le_of_ble_eq_true rfl)  (Nat.le_of_ble_eq_true rfl) (Nat.le_of_ble_eq_true rfl) (by omega) (by omega) (fun _ _ q => q.elim) ?_
      rintro _ h2 ⟨q2, rfl, hq2, gq2, r2, F2⟩
      rw [zDel_last (by omega) hm] at r2
      refine z_astore_n dMod_trim_44 (Nat.le_of_ble_eq_true rfl) ?_
      refine z_goto (tgt := 22) dMod_trim_45 (by decide) ?_
      have hz2 : zLnz L + 1 ≤ ((m - 1 : Nat) : Int) := by
        by_cases c9 : zLnz L + 1 = m
        · have hg := zLn9_get L L.length (by show 0 ≤ zLnz L; omega)
          rw [show (zLn9 L L.length).toNat = m - 1 by (show (zLnz L).toNat = m - 1); omega] at hg
          exact absurd c33 hg
        · omega
      exact ih (m - 1) (bc - 1) (bs - 60) h2 q2 (by omega) (by omega) (by omega) r2 (by omega) hz2 (Or.inr ⟨hq2.dn hext, gq2⟩) (hext.tr (zExt.new hq2 F2))
theorem k_Mod_trim {p : Int} (H : zMod G h ma S th) (z_p : zI32 p) (h16 : ∀ k, k < 4 → (S.1 k).length ≤ 16) : zM G l hMod_trim yMod_trim 4 [.ref (ma 0), zi p] h (zQm G ma h (1) (2) (3) (sp_trim S p)) zNo 16 960 := by
  obtain ⟨m1, m2, ⟨g, m3, m3a⟩, m4, ⟨f6, m5, m5a⟩, m6, m7⟩ := id H
  unfold zMfs at m2
  refine zM.of [some (.ref (ma 0)), some (zi p), none] (by decide +kernel) rfl (by decide) rfl (Nat.le_of_ble_eq_true rfl) rfl ?_
  refine z_aload_n dMod_trim_0 rfl ?_
  refine z_iload_n dMod_trim_1 rfl ?_
  refine z_callS MS_Mod_isNo lk_Mod_81 dMod_trim_2 (k_Mod_isNo (by omega)) rfl rfl (Nat.le_of_ble_eq_true rfl)  (Nat.le_of_ble_eq_true rfl) (Nat.le_of_ble_eq_true rfl) (Nat.le_of_eq (Nat.zero_add _)) (Nat.le_of_eq (Nat.zero_add _)) (fun _ _ q => q.elim) ?_
  rintro _ _ ⟨n9, rfl, hn9, rfl⟩
  refine z_iconst dMod_trim_5 ?_
  refine z_iconst dMod_trim_6 ?_
  refine z_callV MV_Mod_fails lk_Mod_88 dMod_trim_7 (k_Mod_fails (by assumption) rfl (by omega) (by omega) (by omega)) rfl rfl (Nat.le_of_ble_eq_true rfl) rfl (by assumption) (Nat.le_of_ble_eq_true rfl) (Nat.le_of_ble_eq_true rfl) (Nat.le_of_eq (Nat.zero_add _)) (Nat.le_of_eq (Nat.zero_add _)) (fun _ _ q => q.elim) ?_
  rintro _ h1 ⟨t9, b8, rfl, ht, p1, g1⟩
  have H1 : zMod G h1 ma S t9 := H.obj (nu := S.2.2.2.2) (th' := t9) p1 g1
  have fz1 : zMfr ma h h1 := zMfr.of0 g1
  obtain ⟨-, n2, ⟨gg, n3, n3a⟩, n4, ⟨f61, n5, n5a⟩, n6, n7⟩ := id H1
  unfold zMfs at n2
  refine z_if_eq (tgt := 15) dMod_trim_10 (by decide) (by omega) (fun c10 => ?_) (fun c10 => ?_)
  · obtain ⟨k, rfl⟩ := Int.eq_ofNat_of_zero_le (show 0 ≤ p by omega)
    obtain ⟨frk, rk1, rk2, rk3, rk4⟩ := id (n6 k (by omega))
    have h16k := h16 k (by omega)
    have ezk : ∀ i : Int, 0 ≤ i → i < ((S.1 k).length : Int) → frk i.toNat = zAt (S.1 k) i := fun i x1 x2 => by rw [rk3 _ (by omega), zAt_eq x1 x2]
    have hk : k < 4 := by omega
    have hzi := zLnz_in (S.1 k)
    have htl : ((S.1 k).take (zLnz (S.1 k) + 1).toNat).length = (zLnz (S.1 k) + 1).toNat := by rw [List.length_take]; omega
    refine z_aload_n dMod_trim_15 rfl ?_
    refine z_get (k := 0) fd_Mod (by decide) fl_Mod_11 dMod_trim_16 (by assumption) (by rfl) ?_
    refine z_iload_n dMod_trim_19 rfl ?_
    refine z_aald (t := 4) (ty := .array .int) rfl rfl dMod_trim_20 n3 (by refine ⟨?_, ?_, ?_⟩ <;> omega) ?_
    rw [show (k : Int).toNat = k from rfl, n3a k (by omega)]
    refine z_astore_n dMod_trim_21 (Nat.le_of_ble_eq_true rfl) ?_
    refine l_Mod_trim (h := h1) (L := S.1 k) (a0 := ma (8 + k)) (by omega) (fun bc bs h2 q2 r2 hq2 hx2 => ?_) ((S.1 k).length + 1) (S.1 k).length 16 960 h1 (ma (8 + k)) (by omega) (by omega) (by omega) (by rw [List.take_length]; exact n6 k hk) (by omega) (by omega) (Or.inl rfl) zExt.rf
    have H2 : zMod G h2 ma S t9 := H1.ext hx2
    have oc2 := H2.2.1
    have fz2 : zMfr ma h h2 := fz1.tr (zMfr.ext hx2)
    have hnq := zDr_of G hq2 H1 (k := k) rfl hk
    obtain ⟨-, u2, ⟨ug, u3, u3a⟩, -, -, u6, -⟩ := id H2
    unfold zMfs at u2
    obtain ⟨fs, rs1, -⟩ := id (u6 k hk)
    refine z_aload_n dMod_trim_48 rfl ?_
    refine z_get (k := 0) fd_Mod (by decide) fl_Mod_11 dMod_trim_49 (by assumption) (by rfl) ?_
    refine z_iload_n dMod_trim_52 rfl ?_
    refine z_aald (t := 4) (ty := .array .int) rfl rfl dMod_trim_53 u3 (by refine ⟨?_, ?_, ?_⟩ <;> omega) ?_
    rw [show (k : Int).toNat = k from rfl, u3a k (by omega)]
    refine z_alenI dMod_trim_54 (by assumption) ?_
    refine z_aload_n dMod_trim_55 rfl ?_
    refine z_iload_n dMod_trim_56 rfl ?_
    refine z_aload_n dMod_trim_57 rfl ?_
    refine z_callV MV_Mod_becomes lk_Mod_95 dMod_trim_58 (k_Mod_becomes H2 hk r2 hnq) rfl rfl (Nat.le_of_ble_eq_true rfl) rfl (by assumption) (Nat.le_of_ble_eq_true rfl) (Nat.le_of_ble_eq_true rfl) (Nat.le_of_eq (Nat.zero_add _)) (Nat.le_of_eq (Nat.zero_add _)) (fun _ _ q => q.elim) ?_
    rintro _ h3 ⟨rfl, H3, F3⟩
    have fz3 : zMfr ma h h3 := fz2.tr (zMfr.bec F3)
    refine z_isub dMod_trim_61 ?_
    refine z_iret rfl rfl dMod_trim_62 ?_
    first
      | (exfalso; omega)
      | exact zQm.okB H3 (hq2.imp id (fun x9 => ⟨x9.1.up H1 fz1, x9.2⟩)) (by omega) (by assumption) (by unfold sp_trim; (try unfold spPut); (try simp only [Int.toNat_natCast]); (repeat (first | rw [if_pos (by omega)] | rw [if_neg (by omega)] | rw [if_pos (by assumption)] | rw [if_neg (by assumption)] | rw [if_pos (True.intro : True)])); (try (first | rfl | (congr 2; omega) | (congr 1; congr 1; omega))); done)
  · refine z_iconst dMod_trim_13 ?_
    refine z_iret rfl rfl dMod_trim_14 ?_
    rcases (show t9 = 0 ∨ t9 = 1 ∨ t9 = 2 ∨ t9 = 3 by omega) with t0 | t0 | t0 | t0
    all_goals first
      | (exfalso; omega)
      | exact zQm.ok H1 (by omega) (by assumption) (by unfold sp_trim; (try unfold spPut); (try simp only [Int.toNat_natCast]); (repeat (first | rw [if_pos (by omega)] | rw [if_neg (by omega)] | rw [if_pos (by assumption)] | rw [if_neg (by assumption)] | rw [if_pos (True.intro : True)])); (try (first | rfl | (congr 2; omega) | (congr 1; congr 1; omega))); done)
      | exact zQm.b1 H1 (by omega) (by assumption) (by unfold sp_trim; (try unfold spPut); (try simp only [Int.toNat_natCast]); (repeat (first | rw [if_pos (by omega)] | rw [if_neg (by omega)] | rw [if_pos (by assumption)] | rw [if_neg (by assumption)] | rw [if_pos (True.intro : True)])); (try (first | rfl | (congr 2; omega) | (congr 1; congr 1; omega))); done)
      | exact zQm.b2 H1 (by omega) (by assumption) (by unfold sp_trim; (try unfold spPut); (try simp only [Int.toNat_natCast]); (repeat (first | rw [if_pos (by omega)] | rw [if_neg (by omega)] | rw [if_pos (by assumption)] | rw [if_neg (by assumption)] | rw [if_pos (True.intro : True)])); (try (first | rfl | (congr 2; omega) | (congr 1; congr 1; omega))); done)
      | exact zQm.b3 H1 (by omega) (by assumption) (by unfold sp_trim; (try unfold spPut); (try simp only [Int.toNat_natCast]); (repeat (first | rw [if_pos (by omega)] | rw [if_neg (by omega)] | rw [if_pos (by assumption)] | rw [if_neg (by assumption)] | rw [if_pos (True.intro : True)])); (try (first | rfl | (congr 2; omega) | (congr 1; congr 1; omega))); done)
end MOD13
