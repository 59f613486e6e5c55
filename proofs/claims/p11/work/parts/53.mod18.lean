section MOD18
variable {G : zG} {l : Launch} {h h' h'' : zHp} {ma : Nat → Nat} {S : zSt} {th : Int}
theorem zAtIn {L : List Int} (h : ∀ j, j < L.length → zIn (L.getD j 0)) (i : Int) : zIn (zAt L i) := by
  unfold zAt
  split
  · exact h _ (by omega)
  · omega
theorem zAt_neg {L : List Int} {i : Int} (h : i < 0) : zAt L i = 0 := by
  unfold zAt
  rw [if_neg (by omega)]
theorem zAt_out {L : List Int} {i : Int} (h : (L.length : Int) ≤ i) : zAt L i = 0 := by
  unfold zAt
  rw [if_neg (by omega)]
theorem zCf_stay {L M : List Int} {p : Int} {n : Nat} (hz : ∀ j : Nat, n ≤ j → zAt L j * zAt M (p - j) = 0) : ∀ i : Nat, zCf L M p (n + i) = zCf L M p n
  | 0 => rfl
  | i + 1 => by
    show zCf L M p (n + i) + zAt L ((n + i : Nat) : Int) * zAt M (p - ((n + i : Nat) : Int)) = _
    rw [zCf_stay hz i, hz (n + i) (by omega)]
    omega
/-- the model's sum over one's places is the class's over the places ahead -/
theorem zCf_all {L M : List Int} (p : Nat) : zCf L M (p : Int) L.length = zCf L M (p : Int) (p + 1) := by
  rcases (show L.length ≤ p + 1 ∨ p + 1 ≤ L.length by omega) with c | c
  · have h := zCf_stay (L := L) (M := M) (p := p) (n := L.length) (fun j hj => by rw [zAt_ge hj]; omega) (p + 1 - L.length)
    rw [show L.length + (p + 1 - L.length) = p + 1 by omega] at h
    exact h.symm
  · have h := zCf_stay (L := L) (M := M) (p := p) (n := p + 1) (fun j hj => by rw [zAt_neg (L := M) (by omega), Int.mul_zero]) (L.length - (p + 1))
    rw [show p + 1 + (L.length - (p + 1)) = L.length by omega] at h
    exact h
theorem l_Mod_plus {mc ms bc bs : Nat} {Qn : Option Value → zHp → Prop} {Qx : String → zHp → Prop} {a b q N : Nat} {L M : List Int} {w0 w1 w2 : Option Value} (hL : zAr G h a L) (hM : zAr G h b M) (hq : zDm h q) (hN : N ≤ 60)
    (K : ∀ (h1 : zHp) (f : Nat → Int) y, h1 q = some (zLongs G N f) → (∀ j, j < N → zI64 (f j) ∧ f j = (fun j => zAt L (j : Int) + zAt M (j : Int)) j) → (∀ z, z ≠ q → h1 z = h z) → zR G l (zMJ G hMod_plus 4 Qn Qx mc ms) bc bs h1 121 [w0, w1, w2, some (.ref a), some (.ref b), some (.ref q), y] []) :
    ∀ (n m : Nat) (h1 : zHp) (f : Nat → Int), N - m < n → m ≤ N → h1 q = some (zLongs G N f) → (∀ j, j < m → zI64 (f j) ∧ f j = (fun j => zAt L (j : Int) + zAt M (j : Int)) j) → (∀ z, z ≠ q → h1 z = h z) →
      zR G l (zMJ G hMod_plus 4 Qn Qx mc ms) bc bs h1 68 [w0, w1, w2, some (.ref a), some (.ref b), some (.ref q), some (zi (m : Int))] [] := by
  intro n
  induction n with
  | zero => intro m h1 f x1 x2 e1 e2 hf; omega
  | succ n ih =>
  intro m h1 f x1 x2 e1 e2 hf
  obtain ⟨fl, d1, d2, d3, d4⟩ := id hL
  obtain ⟨fm, b1, b2, b3, b4⟩ := id hM
  have d1 := (hf a (Nat.ne_of_lt (hq a _ d1))).trans d1
  have b1 := (hf b (Nat.ne_of_lt (hq b _ b1))).trans b1
  have i1 := zAtIn d4 (m : Int)
  have i2 := zAtIn b4 (m : Int)
  refine z_iload dMod_plus_68 rfl ?_
  refine z_aload dMod_plus_70 rfl ?_
  refine z_alenL dMod_plus_72 e1 ?_
  refine z_icmp_ge (tgt := 121) dMod_plus_73 (by decide) (by omega) (by omega) (fun c73 => ?_) (fun c73 => ?_)
  · have em : m = N := by omega
    subst em
    exact K h1 f _ e1 e2 hf
  · refine z_aload dMod_plus_76 rfl ?_
    refine z_iload dMod_plus_78 rfl ?_
    refine z_iload dMod_plus_80 rfl ?_
    refine z_aload_n dMod_plus_82 rfl ?_
    refine z_alenI dMod_plus_83 d1 ?_
    refine z_icmp_ge (tgt := 94) dMod_plus_84 (by decide) (by omega) (by omega) (fun c84 => ?_) (fun c84 => ?_)
    · refine z_iconst dMod_plus_94 ?_
      refine z_iload dMod_plus_95 rfl ?_
      refine z_aload dMod_plus_97 rfl ?_
      refine z_alenI dMod_plus_99 b1 ?_
      refine z_icmp_ge (tgt := 111) dMod_plus_100 (by decide) (by omega) (by omega) (fun c100 => ?_) (fun c100 => ?_)
      · refine z_iconst dMod_plus_111 ?_
        refine z_iadd dMod_plus_112 ?_
        refine z_i2l (by first | omega | omega) dMod_plus_113 ?_
        refine z_last dMod_plus_114 (by assumption) (by refine ⟨?_, ?_, ?_⟩ <;> omega) ?_
        refine z_hx (fun h2 p2 f2 => ?_)
        rw [Int.toNat_natCast] at p2
        refine z_iinc dMod_plus_115 rfl (Nat.le_of_ble_eq_true rfl) ?_
        refine z_goto (tgt := 68) dMod_plus_118 (by decide) ?_
        refine ih (m + 1) h2 _ (by omega) (by omega) p2 (fun t ht => ?_) (fun z hz => (f2 z hz).trans (hf z hz))
        by_cases e9 : t = m
        · subst e9
          rw [zup_same]
          refine ⟨by omega, ?_⟩
          show _ = zAt L (t : Int) + zAt M (t : Int)
          first
            | rfl
            | (rw [zAt_ge (L := L) (j := t) (by omega), zAt_ge (L := M) (j := t) (by omega)])
            | (rw [zAt_ge (L := L) (j := t) (by omega)])
            | (rw [zAt_ge (L := M) (j := t) (by omega)])
        · rw [zup_ne e9]
          exact e2 t (by omega)
      · refine z_aload dMod_plus_103 rfl ?_
        refine z_iload dMod_plus_105 rfl ?_
        refine z_iald dMod_plus_107 (by assumption) (by refine ⟨?_, ?_, ?_⟩ <;> omega) ?_
        rw [Int.toNat_natCast, b3 m (by omega), ← zAt_lt (by omega)]
        refine z_goto (tgt := 112) dMod_plus_108 (by decide) ?_
        refine z_iadd dMod_plus_112 ?_
        refine z_i2l (by first | omega | omega) dMod_plus_113 ?_
        refine z_last dMod_plus_114 (by assumption) (by refine ⟨?_, ?_, ?_⟩ <;> omega) ?_
        refine z_hx (fun h2 p2 f2 => ?_)
        rw [Int.toNat_natCast] at p2
        refine z_iinc dMod_plus_115 rfl (Nat.le_of_ble_eq_true rfl) ?_
        refine z_goto (tgt := 68) dMod_plus_118 (by decide) ?_
        refine ih (m + 1) h2 _ (by omega) (by omega) p2 (fun t ht => ?_) (fun z hz => (f2 z hz).trans (hf z hz))
        by_cases e9 : t = m
        · subst e9
          rw [zup_same]
          refine ⟨by omega, ?_⟩
          show _ = zAt L (t : Int) + zAt M (t : Int)
          first
            | rfl
            | (rw [zAt_ge (L := L) (j := t) (by omega), zAt_ge (L := M) (j := t) (by omega)])
            | (rw [zAt_ge (L := L) (j := t) (by omega)])
            | (rw [zAt_ge (L := M) (j := t) (by omega)])
        · rw [zup_ne e9]
          exact e2 t (by omega)
    · refine z_aload_n dMod_plus_87 rfl ?_
      refine z_iload dMod_plus_88 rfl ?_
      refine z_iald dMod_plus_90 (by assumption) (by refine ⟨?_, ?_, ?_⟩ <;> omega) ?_
      rw [Int.toNat_natCast, d3 m (by omega), ← zAt_lt (by omega)]
      refine z_goto (tgt := 95) dMod_plus_91 (by decide) ?_
      refine z_iload dMod_plus_95 rfl ?_
      refine z_aload dMod_plus_97 rfl ?_
      refine z_alenI dMod_plus_99 b1 ?_
      refine z_icmp_ge (tgt := 111) dMod_plus_100 (by decide) (by omega) (by omega) (fun c100 => ?_) (fun c100 => ?_)
      · refine z_iconst dMod_plus_111 ?_
        refine z_iadd dMod_plus_112 ?_
        refine z_i2l (by first | omega | omega) dMod_plus_113 ?_
        refine z_last dMod_plus_114 (by assumption) (by refine ⟨?_, ?_, ?_⟩ <;> omega) ?_
        refine z_hx (fun h2 p2 f2 => ?_)
        rw [Int.toNat_natCast] at p2
        refine z_iinc dMod_plus_115 rfl (Nat.le_of_ble_eq_true rfl) ?_
        refine z_goto (tgt := 68) dMod_plus_118 (by decide) ?_
        refine ih (m + 1) h2 _ (by omega) (by omega) p2 (fun t ht => ?_) (fun z hz => (f2 z hz).trans (hf z hz))
        by_cases e9 : t = m
        · subst e9
          rw [zup_same]
          refine ⟨by omega, ?_⟩
          show _ = zAt L (t : Int) + zAt M (t : Int)
          first
            | rfl
            | (rw [zAt_ge (L := L) (j := t) (by omega), zAt_ge (L := M) (j := t) (by omega)])
            | (rw [zAt_ge (L := L) (j := t) (by omega)])
            | (rw [zAt_ge (L := M) (j := t) (by omega)])
        · rw [zup_ne e9]
          exact e2 t (by omega)
      · refine z_aload dMod_plus_103 rfl ?_
        refine z_iload dMod_plus_105 rfl ?_
        refine z_iald dMod_plus_107 (by assumption) (by refine ⟨?_, ?_, ?_⟩ <;> omega) ?_
        rw [Int.toNat_natCast, b3 m (by omega), ← zAt_lt (by omega)]
        refine z_goto (tgt := 112) dMod_plus_108 (by decide) ?_
        refine z_iadd dMod_plus_112 ?_
        refine z_i2l (by first | omega | omega) dMod_plus_113 ?_
        refine z_last dMod_plus_114 (by assumption) (by refine ⟨?_, ?_, ?_⟩ <;> omega) ?_
        refine z_hx (fun h2 p2 f2 => ?_)
        rw [Int.toNat_natCast] at p2
        refine z_iinc dMod_plus_115 rfl (Nat.le_of_ble_eq_true rfl) ?_
        refine z_goto (tgt := 68) dMod_plus_118 (by decide) ?_
        refine ih (m + 1) h2 _ (by omega) (by omega) p2 (fun t ht => ?_) (fun z hz => (f2 z hz).trans (hf z hz))
        by_cases e9 : t = m
        · subst e9
          rw [zup_same]
          refine ⟨by omega, ?_⟩
          show _ = zAt L (t : Int) + zAt M (t : Int)
          first
            | rfl
            | (rw [zAt_ge (L := L) (j := t) (by omega), zAt_ge (L := M) (j := t) (by omega)])
            | (rw [zAt_ge (L := L) (j := t) (by omega)])
            | (rw [zAt_ge (L := M) (j := t) (by omega)])
        · rw [zup_ne e9]
          exact e2 t (by omega)
theorem k_Mod_plus {p o : Int} (H : zMod G h ma S th) (z_p : zI32 p) (z_o : zI32 o) (h16 : ∀ k, k < 4 → (S.1 k).length ≤ 16) : zM G l hMod_plus yMod_plus 4 [.ref (ma 0), zi p, zi o] h (zQm G ma h (1) (2) (3) (sp_plus S p o)) zNo 2 47 := by
  obtain ⟨m1, m2, ⟨g, m3, m3a⟩, m4, ⟨f6, m5, m5a⟩, m6, m7⟩ := id H
  unfold zMfs at m2
  refine zM.of [some (.ref (ma 0)), some (zi p), some (zi o), none, none, none, none] (by decide +kernel) rfl (by decide) rfl (Nat.le_of_ble_eq_true rfl) rfl ?_
  refine z_aload_n dMod_plus_0 rfl ?_
  refine z_iload_n dMod_plus_1 rfl ?_
  refine z_callS MS_Mod_isNo lk_Mod_81 dMod_plus_2 (k_Mod_isNo (by omega)) rfl rfl (Nat.le_of_ble_eq_true rfl)  (Nat.le_of_ble_eq_true rfl) (Nat.le_of_ble_eq_true rfl) (Nat.le_of_eq (Nat.zero_add _)) (Nat.le_of_eq (Nat.zero_add _)) (fun _ _ q => q.elim) ?_
  rintro _ _ ⟨n9k, rfl, (⟨rfl, hn9k⟩ | ⟨rfl, hn9k⟩), rfl⟩
  · refine z_if_ne (tgt := 15) dMod_plus_5 (by decide) (by omega) (fun c5 => ?_) (fun c5 => ?_)
    · refine z_iconst dMod_plus_15 ?_
      refine z_goto (tgt := 20) dMod_plus_16 (by decide) ?_
      refine z_iconst dMod_plus_20 ?_
      refine z_iconst dMod_plus_21 ?_
      refine z_callV MV_Mod_fails lk_Mod_88 dMod_plus_22 (k_Mod_fails (by assumption) rfl (by omega) (by omega) (by omega)) rfl rfl (Nat.le_of_ble_eq_true rfl) rfl (by assumption) (Nat.le_of_ble_eq_true rfl) (Nat.le_of_ble_eq_true rfl) (Nat.le_of_eq (Nat.zero_add _)) (Nat.le_of_eq (Nat.zero_add _)) (fun _ _ q => q.elim) ?_
      rintro _ h1 ⟨t9, b8, rfl, ht, p1, g1⟩
      have H1 : zMod G h1 ma S t9 := H.obj (nu := S.2.2.2.2) (th' := t9) p1 g1
      have fz1 : zMfr ma h h1 := zMfr.of0 g1
      obtain ⟨-, n2, ⟨gg, n3, n3a⟩, n4, ⟨f61, n5, n5a⟩, n6, n7⟩ := id H1
      unfold zMfs at n2
      refine z_if_eq (tgt := 30) dMod_plus_25 (by decide) (by omega) (fun c25 => ?_) (fun c25 => ?_)
      · exfalso; omega
      · refine z_iconst dMod_plus_28 ?_
        refine z_iret rfl rfl dMod_plus_29 ?_
        rcases (show t9 = 0 ∨ t9 = 1 ∨ t9 = 2 ∨ t9 = 3 by omega) with t0 | t0 | t0 | t0
        all_goals first
          | (exfalso; omega)
          | exact zQm.ok H1 (by omega) (by assumption) (by unfold sp_plus; (try unfold spPut); (try simp only [Int.toNat_natCast]); (repeat (first | rw [if_pos (by omega)] | rw [if_neg (by omega)] | rw [if_pos (by assumption)] | rw [if_neg (by assumption)] | rw [if_pos (True.intro : True)])); (try (first | rfl | (congr 2; omega) | (congr 1; congr 1; omega))); done)
          | exact zQm.b1 H1 (by omega) (by assumption) (by unfold sp_plus; (try unfold spPut); (try simp only [Int.toNat_natCast]); (repeat (first | rw [if_pos (by omega)] | rw [if_neg (by omega)] | rw [if_pos (by assumption)] | rw [if_neg (by assumption)] | rw [if_pos (True.intro : True)])); (try (first | rfl | (congr 2; omega) | (congr 1; congr 1; omega))); done)
          | exact zQm.b2 H1 (by omega) (by assumption) (by unfold sp_plus; (try unfold spPut); (try simp only [Int.toNat_natCast]); (repeat (first | rw [if_pos (by omega)] | rw [if_neg (by omega)] | rw [if_pos (by assumption)] | rw [if_neg (by assumption)] | rw [if_pos (True.intro : True)])); (try (first | rfl | (congr 2; omega) | (congr 1; congr 1; omega))); done)
          | exact zQm.b3 H1 (by omega) (by assumption) (by unfold sp_plus; (try unfold spPut); (try simp only [Int.toNat_natCast]); (repeat (first | rw [if_pos (by omega)] | rw [if_neg (by omega)] | rw [if_pos (by assumption)] | rw [if_neg (by assumption)] | rw [if_pos (True.intro : True)])); (try (first | rfl | (congr 2; omega) | (congr 1; congr 1; omega))); done)
    · exfalso; omega
  · obtain ⟨k, rfl⟩ := Int.eq_ofNat_of_zero_le (show 0 ≤ p by omega)
    have hkk : k < 4 := by omega
    refine z_if_ne (tgt := 15) dMod_plus_5 (by decide) (by omega) (fun c5 => ?_) (fun c5 => ?_)
    · exfalso; omega
    · refine z_iload_n dMod_plus_8 rfl ?_
      refine z_callS MS_Mod_isNo lk_Mod_81 dMod_plus_9 (k_Mod_isNo (by omega)) rfl rfl (Nat.le_of_ble_eq_true rfl)  (Nat.le_of_ble_eq_true rfl) (Nat.le_of_ble_eq_true rfl) (Nat.le_of_eq (Nat.zero_add _)) (Nat.le_of_eq (Nat.zero_add _)) (fun _ _ q => q.elim) ?_
      rintro _ _ ⟨n9j, rfl, (⟨rfl, hn9j⟩ | ⟨rfl, hn9j⟩), rfl⟩
      · refine z_if_eq (tgt := 19) dMod_plus_12 (by decide) (by omega) (fun c12 => ?_) (fun c12 => ?_)
        · refine z_iconst dMod_plus_19 ?_
          refine z_iconst dMod_plus_20 ?_
          refine z_iconst dMod_plus_21 ?_
          refine z_callV MV_Mod_fails lk_Mod_88 dMod_plus_22 (k_Mod_fails (by assumption) rfl (by omega) (by omega) (by omega)) rfl rfl (Nat.le_of_ble_eq_true rfl) rfl (by assumption) (Nat.le_of_ble_eq_true rfl) (Nat.le_of_ble_eq_true rfl) (Nat.le_of_eq (Nat.zero_add _)) (Nat.le_of_eq (Nat.zero_add _)) (fun _ _ q => q.elim) ?_
          rintro _ h1 ⟨t9, b8, rfl, ht, p1, g1⟩
          have H1 : zMod G h1 ma S t9 := H.obj (nu := S.2.2.2.2) (th' := t9) p1 g1
          have fz1 : zMfr ma h h1 := zMfr.of0 g1
          obtain ⟨-, n2, ⟨gg, n3, n3a⟩, n4, ⟨f61, n5, n5a⟩, n6, n7⟩ := id H1
          unfold zMfs at n2
          refine z_if_eq (tgt := 30) dMod_plus_25 (by decide) (by omega) (fun c25 => ?_) (fun c25 => ?_)
          · exfalso; omega
          · refine z_iconst dMod_plus_28 ?_
            refine z_iret rfl rfl dMod_plus_29 ?_
            rcases (show t9 = 0 ∨ t9 = 1 ∨ t9 = 2 ∨ t9 = 3 by omega) with t0 | t0 | t0 | t0
            all_goals first
              | (exfalso; omega)
              | exact zQm.ok H1 (by omega) (by assumption) (by unfold sp_plus; (try unfold spPut); (try simp only [Int.toNat_natCast]); (repeat (first | rw [if_pos (by omega)] | rw [if_neg (by omega)] | rw [if_pos (by assumption)] | rw [if_neg (by assumption)] | rw [if_pos (True.intro : True)])); (try (first | rfl | (congr 2; omega) | (congr 1; congr 1; omega))); done)
              | exact zQm.b1 H1 (by omega) (by assumption) (by unfold sp_plus; (try unfold spPut); (try simp only [Int.toNat_natCast]); (repeat (first | rw [if_pos (by omega)] | rw [if_neg (by omega)] | rw [if_pos (by assumption)] | rw [if_neg (by assumption)] | rw [if_pos (True.intro : True)])); (try (first | rfl | (congr 2; omega) | (congr 1; congr 1; omega))); done)
              | exact zQm.b2 H1 (by omega) (by assumption) (by unfold sp_plus; (try unfold spPut); (try simp only [Int.toNat_natCast]); (repeat (first | rw [if_pos (by omega)] | rw [if_neg (by omega)] | rw [if_pos (by assumption)] | rw [if_neg (by assumption)] | rw [if_pos (True.intro : True)])); (try (first | rfl | (congr 2; omega) | (congr 1; congr 1; omega))); done)
              | exact zQm.b3 H1 (by omega) (by assumption) (by unfold sp_plus; (try unfold spPut); (try simp only [Int.toNat_natCast]); (repeat (first | rw [if_pos (by omega)] | rw [if_neg (by omega)] | rw [if_pos (by assumption)] | rw [if_neg (by assumption)] | rw [if_pos (True.intro : True)])); (try (first | rfl | (congr 2; omega) | (congr 1; congr 1; omega))); done)
        · refine z_iconst dMod_plus_15 ?_
          refine z_goto (tgt := 20) dMod_plus_16 (by decide) ?_
          refine z_iconst dMod_plus_20 ?_
          refine z_iconst dMod_plus_21 ?_
          refine z_callV MV_Mod_fails lk_Mod_88 dMod_plus_22 (k_Mod_fails (by assumption) rfl (by omega) (by omega) (by omega)) rfl rfl (Nat.le_of_ble_eq_true rfl) rfl (by assumption) (Nat.le_of_ble_eq_true rfl) (Nat.le_of_ble_eq_true rfl) (Nat.le_of_eq (Nat.zero_add _)) (Nat.le_of_eq (Nat.zero_add _)) (fun _ _ q => q.elim) ?_
          rintro _ h1 ⟨t9, b8, rfl, ht, p1, g1⟩
          have H1 : zMod G h1 ma S t9 := H.obj (nu := S.2.2.2.2) (th' := t9) p1 g1
          have fz1 : zMfr ma h h1 := zMfr.of0 g1
          obtain ⟨-, n2, ⟨gg, n3, n3a⟩, n4, ⟨f61, n5, n5a⟩, n6, n7⟩ := id H1
          unfold zMfs at n2
          refine z_if_eq (tgt := 30) dMod_plus_25 (by decide) (by omega) (fun c25 => ?_) (fun c25 => ?_)
          · exfalso; omega
          · refine z_iconst dMod_plus_28 ?_
            refine z_iret rfl rfl dMod_plus_29 ?_
            rcases (show t9 = 0 ∨ t9 = 1 ∨ t9 = 2 ∨ t9 = 3 by omega) with t0 | t0 | t0 | t0
            all_goals first
              | (exfalso; omega)
              | exact zQm.ok H1 (by omega) (by assumption) (by unfold sp_plus; (try unfold spPut); (try simp only [Int.toNat_natCast]); (repeat (first | rw [if_pos (by omega)] | rw [if_neg (by omega)] | rw [if_pos (by assumption)] | rw [if_neg (by assumption)] | rw [if_pos (True.intro : True)])); (try (first | rfl | (congr 2; omega) | (congr 1; congr 1; omega))); done)
              | exact zQm.b1 H1 (by omega) (by assumption) (by unfold sp_plus; (try unfold spPut); (try simp only [Int.toNat_natCast]); (repeat (first | rw [if_pos (by omega)] | rw [if_neg (by omega)] | rw [if_pos (by assumption)] | rw [if_neg (by assumption)] | rw [if_pos (True.intro : True)])); (try (first | rfl | (congr 2; omega) | (congr 1; congr 1; omega))); done)
              | exact zQm.b2 H1 (by omega) (by assumption) (by unfold sp_plus; (try unfold spPut); (try simp only [Int.toNat_natCast]); (repeat (first | rw [if_pos (by omega)] | rw [if_neg (by omega)] | rw [if_pos (by assumption)] | rw [if_neg (by assumption)] | rw [if_pos (True.intro : True)])); (try (first | rfl | (congr 2; omega) | (congr 1; congr 1; omega))); done)
              | exact zQm.b3 H1 (by omega) (by assumption) (by unfold sp_plus; (try unfold spPut); (try simp only [Int.toNat_natCast]); (repeat (first | rw [if_pos (by omega)] | rw [if_neg (by omega)] | rw [if_pos (by assumption)] | rw [if_neg (by assumption)] | rw [if_pos (True.intro : True)])); (try (first | rfl | (congr 2; omega) | (congr 1; congr 1; omega))); done)
      · obtain ⟨j, rfl⟩ := Int.eq_ofNat_of_zero_le (show 0 ≤ o by omega)
        have hkj : j < 4 := by omega
        refine z_if_eq (tgt := 19) dMod_plus_12 (by decide) (by omega) (fun c12 => ?_) (fun c12 => ?_)
        · refine z_iconst dMod_plus_19 ?_
          refine z_iconst dMod_plus_20 ?_
          refine z_iconst dMod_plus_21 ?_
          refine z_callV MV_Mod_fails lk_Mod_88 dMod_plus_22 (k_Mod_fails (by assumption) rfl (by omega) (by omega) (by omega)) rfl rfl (Nat.le_of_ble_eq_true rfl) rfl (by assumption) (Nat.le_of_ble_eq_true rfl) (Nat.le_of_ble_eq_true rfl) (Nat.le_of_eq (Nat.zero_add _)) (Nat.le_of_eq (Nat.zero_add _)) (fun _ _ q => q.elim) ?_
          rintro _ h1 ⟨t9, b8, rfl, ht, p1, g1⟩
          have H1 : zMod G h1 ma S t9 := H.obj (nu := S.2.2.2.2) (th' := t9) p1 g1
          have fz1 : zMfr ma h h1 := zMfr.of0 g1
          obtain ⟨-, n2, ⟨gg, n3, n3a⟩, n4, ⟨f61, n5, n5a⟩, n6, n7⟩ := id H1
          unfold zMfs at n2
          refine z_if_eq (tgt := 30) dMod_plus_25 (by decide) (by omega) (fun c25 => ?_) (fun c25 => ?_)
          · obtain ⟨frk, rk1, rk2, rk3, rk4⟩ := id (n6 k (by omega))
            have h16k := h16 k (by omega)
            have ezk : ∀ i : Int, 0 ≤ i → i < ((S.1 k).length : Int) → frk i.toNat = zAt (S.1 k) i := fun i x1 x2 => by rw [rk3 _ (by omega), zAt_eq x1 x2]
            obtain ⟨frj, rj1, rj2, rj3, rj4⟩ := id (n6 j (by omega))
            have h16j := h16 j (by omega)
            have ezj : ∀ i : Int, 0 ≤ i → i < ((S.1 j).length : Int) → frj i.toNat = zAt (S.1 j) i := fun i x1 x2 => by rw [rj3 _ (by omega), zAt_eq x1 x2]
            have et9 : t9 = 0 := by omega
            subst et9
            have hN16 : (if ((S.1 k).length : Int) < (S.1 j).length then (S.1 j).length else (S.1 k).length) ≤ 16 := by split <;> omega
            refine z_aload_n dMod_plus_30 rfl ?_
            refine z_get (k := 0) fd_Mod (by decide) fl_Mod_11 dMod_plus_31 (by assumption) (by rfl) ?_
            refine z_iload_n dMod_plus_34 rfl ?_
            refine z_aald (t := 4) (ty := .array .int) rfl rfl dMod_plus_35 n3 (by refine ⟨?_, ?_, ?_⟩ <;> omega) ?_
            rw [show (k : Int).toNat = k from rfl, n3a k (by omega)]
            refine z_astore_n dMod_plus_36 (Nat.le_of_ble_eq_true rfl) ?_
            refine z_aload_n dMod_plus_37 rfl ?_
            refine z_get (k := 0) fd_Mod (by decide) fl_Mod_11 dMod_plus_38 (by assumption) (by rfl) ?_
            refine z_iload_n dMod_plus_41 rfl ?_
            refine z_aald (t := 4) (ty := .array .int) rfl rfl dMod_plus_42 n3 (by refine ⟨?_, ?_, ?_⟩ <;> omega) ?_
            rw [show (j : Int).toNat = j from rfl, n3a j (by omega)]
            refine z_astore dMod_plus_43 (Nat.le_of_ble_eq_true rfl) ?_
            refine z_aload_n dMod_plus_45 rfl ?_
            refine z_alenI dMod_plus_46 (by assumption) ?_
            refine z_aload dMod_plus_47 rfl ?_
            refine z_alenI dMod_plus_49 (by assumption) ?_
            refine z_icmp_le (tgt := 58) dMod_plus_50 (by decide) (by omega) (by omega) (fun c50 => ?_) (fun c50 => ?_)
            · refine z_aload dMod_plus_58 rfl ?_
              refine z_alenI dMod_plus_60 (by assumption) ?_
              refine z_newL (n := (if ((S.1 k).length : Int) < (S.1 j).length then (S.1 j).length else (S.1 k).length)) (bc' := 1) (bs' := 16) (by split <;> omega) dMod_plus_61 (by omega) (by decide) (by omega) (fun q2 h2 hq2 gq2 e2 F2 => ?_)
              refine z_astore dMod_plus_63 (Nat.le_of_ble_eq_true rfl) ?_
              refine z_iconst dMod_plus_65 ?_
              refine z_istore dMod_plus_66 (Nat.le_of_ble_eq_true rfl) ?_
              refine l_Mod_plus (h := h1) (N := (if ((S.1 k).length : Int) < (S.1 j).length then (S.1 j).length else (S.1 k).length)) (n6 k hkk) (n6 j hkj) hq2 (by omega) (fun h3 f3 y e3 v3 F3 => ?_) 61 0 h2 _ (by omega) (by omega) e2 (fun j hj => absurd hj (by omega)) F2
              have H3 : zMod G h3 ma S 0 := H1.keep hq2 F3
              have fz3 : zMfr ma h h3 := fz1.tr (zMfr.new hq2 F3)
              have oc3 := H3.2.1
              refine z_aload_n dMod_plus_121 rfl ?_
              refine z_iload_n dMod_plus_122 rfl ?_
              refine z_aload dMod_plus_123 rfl ?_
              refine z_callV (bc' := 0) (bs' := 0) MV_Mod_fits lk_Mod_166 dMod_plus_125 (k_Mod_fits H3 hkk e3 (by omega) v3) rfl rfl (Nat.le_of_ble_eq_true rfl) rfl (by assumption) (Nat.le_of_ble_eq_true rfl) (Nat.le_of_ble_eq_true rfl) (by decide) (by decide) (fun _ _ q => q.elim) ?_
              rintro _ h9 ⟨fj, (⟨hfit, rfl, q9, hq9, H9⟩ | ⟨hfit, rfl, H9⟩)⟩
              all_goals have fz9 : zMfr ma h h9 := fz3.tr fj
              · refine z_iret rfl rfl dMod_plus_128 ?_
                exact zQm.okB H9 (Or.inr ⟨zDm.up hq9.1 H3 fz3, hq9.2⟩) rfl fz9 (by unfold sp_plus; rw [if_pos (by omega), if_pos (by omega)]; simp only [Int.toNat_natCast]; exact if_pos hfit.2)
              · refine z_iret rfl rfl dMod_plus_128 ?_
                exact zQm.ok H9 rfl fz9 (by unfold sp_plus; rw [if_pos (by omega), if_pos (by omega)]; simp only [Int.toNat_natCast]; exact if_neg (fun c => hfit ⟨hN16, c⟩))
            · refine z_aload_n dMod_plus_53 rfl ?_
              refine z_alenI dMod_plus_54 (by assumption) ?_
              refine z_goto (tgt := 61) dMod_plus_55 (by decide) ?_
              refine z_newL (n := (if ((S.1 k).length : Int) < (S.1 j).length then (S.1 j).length else (S.1 k).length)) (bc' := 1) (bs' := 16) (by split <;> omega) dMod_plus_61 (by omega) (by decide) (by omega) (fun q2 h2 hq2 gq2 e2 F2 => ?_)
              refine z_astore dMod_plus_63 (Nat.le_of_ble_eq_true rfl) ?_
              refine z_iconst dMod_plus_65 ?_
              refine z_istore dMod_plus_66 (Nat.le_of_ble_eq_true rfl) ?_
              refine l_Mod_plus (h := h1) (N := (if ((S.1 k).length : Int) < (S.1 j).length then (S.1 j).length else (S.1 k).length)) (n6 k hkk) (n6 j hkj) hq2 (by omega) (fun h3 f3 y e3 v3 F3 => ?_) 61 0 h2 _ (by omega) (by omega) e2 (fun j hj => absurd hj (by omega)) F2
              have H3 : zMod G h3 ma S 0 := H1.keep hq2 F3
              have fz3 : zMfr ma h h3 := fz1.tr (zMfr.new hq2 F3)
              have oc3 := H3.2.1
              refine z_aload_n dMod_plus_121 rfl ?_
              refine z_iload_n dMod_plus_122 rfl ?_
              refine z_aload dMod_plus_123 rfl ?_
              refine z_callV (bc' := 0) (bs' := 0) MV_Mod_fits lk_Mod_166 dMod_plus_125 (k_Mod_fits H3 hkk e3 (by omega) v3) rfl rfl (Nat.le_of_ble_eq_true rfl) rfl (by assumption) (Nat.le_of_ble_eq_true rfl) (Nat.le_of_ble_eq_true rfl) (by decide) (by decide) (fun _ _ q => q.elim) ?_
              rintro _ h9 ⟨fj, (⟨hfit, rfl, q9, hq9, H9⟩ | ⟨hfit, rfl, H9⟩)⟩
              all_goals have fz9 : zMfr ma h h9 := fz3.tr fj
              · refine z_iret rfl rfl dMod_plus_128 ?_
                exact zQm.okB H9 (Or.inr ⟨zDm.up hq9.1 H3 fz3, hq9.2⟩) rfl fz9 (by unfold sp_plus; rw [if_pos (by omega), if_pos (by omega)]; simp only [Int.toNat_natCast]; exact if_pos hfit.2)
              · refine z_iret rfl rfl dMod_plus_128 ?_
                exact zQm.ok H9 rfl fz9 (by unfold sp_plus; rw [if_pos (by omega), if_pos (by omega)]; simp only [Int.toNat_natCast]; exact if_neg (fun c => hfit ⟨hN16, c⟩))
          · refine z_iconst dMod_plus_28 ?_
            refine z_iret rfl rfl dMod_plus_29 ?_
            rcases (show t9 = 0 ∨ t9 = 1 ∨ t9 = 2 ∨ t9 = 3 by omega) with t0 | t0 | t0 | t0
            all_goals first
              | (exfalso; omega)
              | exact zQm.ok H1 (by omega) (by assumption) (by unfold sp_plus; (try unfold spPut); (try simp only [Int.toNat_natCast]); (repeat (first | rw [if_pos (by omega)] | rw [if_neg (by omega)] | rw [if_pos (by assumption)] | rw [if_neg (by assumption)] | rw [if_pos (True.intro : True)])); (try (first | rfl | (congr 2; omega) | (congr 1; congr 1; omega))); done)
              | exact zQm.b1 H1 (by omega) (by assumption) (by unfold sp_plus; (try unfold spPut); (try simp only [Int.toNat_natCast]); (repeat (first | rw [if_pos (by omega)] | rw [if_neg (by omega)] | rw [if_pos (by assumption)] | rw [if_neg (by assumption)] | rw [if_pos (True.intro : True)])); (try (first | rfl | (congr 2; omega) | (congr 1; congr 1; omega))); done)
              | exact zQm.b2 H1 (by omega) (by assumption) (by unfold sp_plus; (try unfold spPut); (try simp only [Int.toNat_natCast]); (repeat (first | rw [if_pos (by omega)] | rw [if_neg (by omega)] | rw [if_pos (by assumption)] | rw [if_neg (by assumption)] | rw [if_pos (True.intro : True)])); (try (first | rfl | (congr 2; omega) | (congr 1; congr 1; omega))); done)
              | exact zQm.b3 H1 (by omega) (by assumption) (by unfold sp_plus; (try unfold spPut); (try simp only [Int.toNat_natCast]); (repeat (first | rw [if_pos (by omega)] | rw [if_neg (by omega)] | rw [if_pos (by assumption)] | rw [if_neg (by assumption)] | rw [if_pos (True.intro : True)])); (try (first | rfl | (congr 2; omega) | (congr 1; congr 1; omega))); done)
        · exfalso; omega
theorem l_Mod_times2 {mc ms bc bs : Nat} {Qn : Option Value → zHp → Prop} {Qx : String → zHp → Prop} {a b q N K : Nat} {L M : List Int} {w0 w1 w2 : Option Value} {f0 : Nat → Int} (hL : zAr G h a L) (hM : zAr G h b M) (na : a ≠ q) (nb : b ≠ q) (hK : K < N) (hN : N ≤ 99)
    (KK : ∀ (h1 : zHp) (f : Nat → Int) y, h1 q = some (zLongs G N f) → f K = zCf L M (K : Int) L.length → (∀ j, j ≠ K → f j = f0 j) → (∀ z, z ≠ q → h1 z = h z) → zR G l (zMJ G hMod_times 4 Qn Qx mc ms) bc bs h1 141 [w0, w1, w2, some (.ref a), some (.ref b), some (.ref q), some (zi (K : Int)), y] []) :
    ∀ (n m : Nat) (h1 : zHp) (f : Nat → Int), L.length - m < n → m ≤ L.length → h1 q = some (zLongs G N f) → f K = zCf L M (K : Int) m → (∀ j, j ≠ K → f j = f0 j) → (∀ z, z ≠ q → h1 z = h z) →
      zR G l (zMJ G hMod_times 4 Qn Qx mc ms) bc bs h1 86 [w0, w1, w2, some (.ref a), some (.ref b), some (.ref q), some (zi (K : Int)), some (zi (m : Int))] [] := by
  intro n
  induction n with
  | zero => intro m h1 f x1 x2 e1 e2 e3 hf; omega
  | succ n ih =>
  intro m h1 f x1 x2 e1 e2 e3 hf
  obtain ⟨fl, d1, d2, d3, d4⟩ := id hL
  obtain ⟨fm, b1, b2, b3, b4⟩ := id hM
  have d1 := (hf a na).trans d1
  have b1 := (hf b nb).trans b1
  have hst : zCf L M (K : Int) (m + 1) = zCf L M (K : Int) m + zAt L m * zAt M ((K : Int) - m) := rfl
  have hl16 := d4
  refine z_iload dMod_times_86 rfl ?_
  refine z_aload_n dMod_times_88 rfl ?_
  refine z_alenI dMod_times_89 d1 ?_
  refine z_icmp_ge (tgt := 141) dMod_times_90 (by decide) (by omega) (by omega) (fun c90 => ?_) (fun c90 => ?_)
  · have em : m = L.length := by omega
    subst em
    exact KK h1 f _ e1 e2 e3 hf
  · refine z_iload dMod_times_93 rfl ?_
    refine z_iload dMod_times_95 rfl ?_
    refine z_isub dMod_times_97 ?_
    refine z_if_lt (tgt := 135) dMod_times_98 (by decide) (by omega) (fun c98 => ?_) (fun c98 => ?_)
    · refine z_iinc dMod_times_135 rfl (Nat.le_of_ble_eq_true rfl) ?_
      refine z_goto (tgt := 86) dMod_times_138 (by decide) ?_
      first
        | exact ih (m + 1) h2 _ (by omega) (by omega) p2 (by rw [zup_same, hst, zAt_lt (L := L) (by omega), zAt_eq (L := M) (by omega) (by omega)]) (fun j hj => (zup_ne hj).trans (e3 j hj)) (fun z hz => (f2 z hz).trans (hf z hz))
        | exact ih (m + 1) h1 f (by omega) (by omega) e1 (e2.trans (by rw [hst, zAt_neg (L := M) (by omega), Int.mul_zero, Int.add_zero])) e3 hf
        | exact ih (m + 1) h1 f (by omega) (by omega) e1 (e2.trans (by rw [hst, zAt_out (L := M) (by omega), Int.mul_zero, Int.add_zero])) e3 hf
    · refine z_iload dMod_times_101 rfl ?_
      refine z_iload dMod_times_103 rfl ?_
      refine z_isub dMod_times_105 ?_
      refine z_aload dMod_times_106 rfl ?_
      refine z_alenI dMod_times_108 b1 ?_
      refine z_icmp_ge (tgt := 135) dMod_times_109 (by decide) (by omega) (by omega) (fun c109 => ?_) (fun c109 => ?_)
      · refine z_iinc dMod_times_135 rfl (Nat.le_of_ble_eq_true rfl) ?_
        refine z_goto (tgt := 86) dMod_times_138 (by decide) ?_
        first
          | exact ih (m + 1) h2 _ (by omega) (by omega) p2 (by rw [zup_same, hst, zAt_lt (L := L) (by omega), zAt_eq (L := M) (by omega) (by omega)]) (fun j hj => (zup_ne hj).trans (e3 j hj)) (fun z hz => (f2 z hz).trans (hf z hz))
          | exact ih (m + 1) h1 f (by omega) (by omega) e1 (e2.trans (by rw [hst, zAt_neg (L := M) (by omega), Int.mul_zero, Int.add_zero])) e3 hf
          | exact ih (m + 1) h1 f (by omega) (by omega) e1 (e2.trans (by rw [hst, zAt_out (L := M) (by omega), Int.mul_zero, Int.add_zero])) e3 hf
      · have d4m := d4 m (by omega)
        have b4m := b4 ((K : Int) - m).toNat (by omega)
        refine z_aload dMod_times_112 rfl ?_
        refine z_iload dMod_times_114 rfl ?_
        refine z_dup2 rfl rfl dMod_times_116 ?_
        refine z_lald dMod_times_117 (by assumption) (by refine ⟨?_, ?_, ?_⟩ <;> omega) ?_
        rw [Int.toNat_natCast, e2]
        refine z_aload_n dMod_times_118 rfl ?_
        refine z_iload dMod_times_119 rfl ?_
        refine z_iald dMod_times_121 (by assumption) (by refine ⟨?_, ?_, ?_⟩ <;> omega) ?_
        rw [Int.toNat_natCast, d3 m (by omega)]
        refine z_i2l (by first | omega | omega) dMod_times_122 ?_
        refine z_aload dMod_times_123 rfl ?_
        refine z_iload dMod_times_125 rfl ?_
        refine z_iload dMod_times_127 rfl ?_
        refine z_isub dMod_times_129 ?_
        refine z_iald dMod_times_130 (by assumption) (by refine ⟨?_, ?_, ?_⟩ <;> omega) ?_
        rw [b3 _ (by omega)]
        refine z_i2l (by first | omega | omega) dMod_times_131 ?_
        refine z_lmul dMod_times_132 ?_
        refine z_ladd dMod_times_133 ?_
        refine z_last dMod_times_134 (by assumption) (by refine ⟨?_, ?_, ?_⟩ <;> omega) ?_
        refine z_hx (fun h2 p2 f2 => ?_)
        rw [Int.toNat_natCast] at p2
        refine z_iinc dMod_times_135 rfl (Nat.le_of_ble_eq_true rfl) ?_
        refine z_goto (tgt := 86) dMod_times_138 (by decide) ?_
        first
          | exact ih (m + 1) h2 _ (by omega) (by omega) p2 (by rw [zup_same, hst, zAt_lt (L := L) (by omega), zAt_eq (L := M) (by omega) (by omega)]) (fun j hj => (zup_ne hj).trans (e3 j hj)) (fun z hz => (f2 z hz).trans (hf z hz))
          | exact ih (m + 1) h1 f (by omega) (by omega) e1 (e2.trans (by rw [hst, zAt_neg (L := M) (by omega), Int.mul_zero, Int.add_zero])) e3 hf
          | exact ih (m + 1) h1 f (by omega) (by omega) e1 (e2.trans (by rw [hst, zAt_out (L := M) (by omega), Int.mul_zero, Int.add_zero])) e3 hf
theorem l_Mod_times {mc ms bc bs : Nat} {Qn : Option Value → zHp → Prop} {Qx : String → zHp → Prop} {a b q N : Nat} {L M : List Int} {w0 w1 w2 : Option Value} (hL : zAr G h a L) (hM : zAr G h b M) (hq : zDm h q) (hN : N ≤ 31)
    (KK : ∀ (h1 : zHp) (f : Nat → Int) y6 y, h1 q = some (zLongs G N f) → (∀ j : Nat, j < N → zI64 (f j) ∧ f j = zCf L M (j : Int) (j + 1)) → (∀ z, z ≠ q → h1 z = h z) → zR G l (zMJ G hMod_times 4 Qn Qx mc ms) bc bs h1 147 [w0, w1, w2, some (.ref a), some (.ref b), some (.ref q), y6, y] []) :
    ∀ (n m : Nat) (h1 : zHp) (f : Nat → Int) (y : Option Value), N - m < n → m ≤ N → h1 q = some (zLongs G N f) → (∀ j : Nat, j < m → f j = zCf L M (j : Int) (j + 1)) → (∀ j : Nat, m ≤ j → j < N → f j = 0) → (∀ z, z ≠ q → h1 z = h z) →
      zR G l (zMJ G hMod_times 4 Qn Qx mc ms) bc bs h1 75 [w0, w1, w2, some (.ref a), some (.ref b), some (.ref q), some (zi (m : Int)), y] [] := by
  intro n
  induction n with
  | zero => intro m h1 f y x1 x2 e1 e2 e3 hf; omega
  | succ n ih =>
  intro m h1 f y x1 x2 e1 e2 e3 hf
  obtain ⟨fl, d1, d2, d3, d4⟩ := id hL
  obtain ⟨fm, b1, b2, b3, b4⟩ := id hM
  have na : a ≠ q := Nat.ne_of_lt (hq a _ d1)
  have nb : b ≠ q := Nat.ne_of_lt (hq b _ b1)
  refine z_iload dMod_times_75 rfl ?_
  refine z_aload dMod_times_77 rfl ?_
  refine z_alenL dMod_times_79 e1 ?_
  refine z_icmp_ge (tgt := 147) dMod_times_80 (by decide) (by omega) (by omega) (fun c80 => ?_) (fun c80 => ?_)
  · have em : m = N := by omega
    subst em
    exact KK h1 f _ _ e1 (fun j hj => ⟨by rw [e2 j hj]; have := zCf_in (j : Int) (zAtIn d4) (zAtIn b4) (j + 1); omega, e2 j hj⟩) hf
  · refine z_iconst dMod_times_83 ?_
    refine z_istore dMod_times_84 (Nat.le_of_ble_eq_true rfl) ?_
    refine l_Mod_times2 (h := h1) (f0 := f) (hL.kept (hf a na)) (hM.kept (hf b nb)) na nb (by omega) (by omega) (fun h2 f2 y2 g1 g2 g3 g4 => ?_) (L.length + 1) 0 h1 f (by omega) (by omega) e1 (e3 m (Nat.le_refl _) (by omega)) (fun _ _ => rfl) (fun _ _ => rfl)
    refine z_iinc dMod_times_141 rfl (Nat.le_of_ble_eq_true rfl) ?_
    refine z_goto (tgt := 75) dMod_times_144 (by decide) ?_
    refine ih (m + 1) h2 f2 _ (by omega) (by omega) g1 (fun j hj => ?_) (fun j hj1 hj2 => ?_) (fun z hz => (g4 z hz).trans (hf z hz))
    · by_cases e9 : j = m
      · subst e9
        rw [g2, zCf_all]
      · rw [g3 j e9]
        exact e2 j (by omega)
    · rw [g3 j (by omega)]
      exact e3 j (by omega) hj2
theorem k_Mod_times {p o : Int} (H : zMod G h ma S th) (z_p : zI32 p) (z_o : zI32 o) (h16 : ∀ k, k < 4 → (S.1 k).length ≤ 16) : zM G l hMod_times yMod_times 4 [.ref (ma 0), zi p, zi o] h (zQm G ma h (1) (2) (3) (sp_times S p o)) zNo 2 47 := by
  obtain ⟨m1, m2, ⟨g, m3, m3a⟩, m4, ⟨f6, m5, m5a⟩, m6, m7⟩ := id H
  unfold zMfs at m2
  refine zM.of [some (.ref (ma 0)), some (zi p), some (zi o), none, none, none, none, none] (by decide +kernel) rfl (by decide) rfl (Nat.le_of_ble_eq_true rfl) rfl ?_
  refine z_aload_n dMod_times_0 rfl ?_
  refine z_iload_n dMod_times_1 rfl ?_
  refine z_callS MS_Mod_isNo lk_Mod_81 dMod_times_2 (k_Mod_isNo (by omega)) rfl rfl (Nat.le_of_ble_eq_true rfl)  (Nat.le_of_ble_eq_true rfl) (Nat.le_of_ble_eq_true rfl) (Nat.le_of_eq (Nat.zero_add _)) (Nat.le_of_eq (Nat.zero_add _)) (fun _ _ q => q.elim) ?_
  rintro _ _ ⟨n9k, rfl, (⟨rfl, hn9k⟩ | ⟨rfl, hn9k⟩), rfl⟩
  · refine z_if_ne (tgt := 15) dMod_times_5 (by decide) (by omega) (fun c5 => ?_) (fun c5 => ?_)
    · refine z_iconst dMod_times_15 ?_
      refine z_goto (tgt := 20) dMod_times_16 (by decide) ?_
      refine z_iconst dMod_times_20 ?_
      refine z_iconst dMod_times_21 ?_
      refine z_callV MV_Mod_fails lk_Mod_88 dMod_times_22 (k_Mod_fails (by assumption) rfl (by omega) (by omega) (by omega)) rfl rfl (Nat.le_of_ble_eq_true rfl) rfl (by assumption) (Nat.le_of_ble_eq_true rfl) (Nat.le_of_ble_eq_true rfl) (Nat.le_of_eq (Nat.zero_add _)) (Nat.le_of_eq (Nat.zero_add _)) (fun _ _ q => q.elim) ?_
      rintro _ h1 ⟨t9, b8, rfl, ht, p1, g1⟩
      have H1 : zMod G h1 ma S t9 := H.obj (nu := S.2.2.2.2) (th' := t9) p1 g1
      have fz1 : zMfr ma h h1 := zMfr.of0 g1
      obtain ⟨-, n2, ⟨gg, n3, n3a⟩, n4, ⟨f61, n5, n5a⟩, n6, n7⟩ := id H1
      unfold zMfs at n2
      refine z_if_eq (tgt := 30) dMod_times_25 (by decide) (by omega) (fun c25 => ?_) (fun c25 => ?_)
      · exfalso; omega
      · refine z_iconst dMod_times_28 ?_
        refine z_iret rfl rfl dMod_times_29 ?_
        rcases (show t9 = 0 ∨ t9 = 1 ∨ t9 = 2 ∨ t9 = 3 by omega) with t0 | t0 | t0 | t0
        all_goals first
          | (exfalso; omega)
          | exact zQm.ok H1 (by omega) (by assumption) (by unfold sp_times; (try unfold spPut); (try simp only [Int.toNat_natCast]); (repeat (first | rw [if_pos (by omega)] | rw [if_neg (by omega)] | rw [if_pos (by assumption)] | rw [if_neg (by assumption)] | rw [if_pos (True.intro : True)])); (try (first | rfl | (congr 2; omega) | (congr 1; congr 1; omega))); done)
          | exact zQm.b1 H1 (by omega) (by assumption) (by unfold sp_times; (try unfold spPut); (try simp only [Int.toNat_natCast]); (repeat (first | rw [if_pos (by omega)] | rw [if_neg (by omega)] | rw [if_pos (by assumption)] | rw [if_neg (by assumption)] | rw [if_pos (True.intro : True)])); (try (first | rfl | (congr 2; omega) | (congr 1; congr 1; omega))); done)
          | exact zQm.b2 H1 (by omega) (by assumption) (by unfold sp_times; (try unfold spPut); (try simp only [Int.toNat_natCast]); (repeat (first | rw [if_pos (by omega)] | rw [if_neg (by omega)] | rw [if_pos (by assumption)] | rw [if_neg (by assumption)] | rw [if_pos (True.intro : True)])); (try (first | rfl | (congr 2; omega) | (congr 1; congr 1; omega))); done)
          | exact zQm.b3 H1 (by omega) (by assumption) (by unfold sp_times; (try unfold spPut); (try simp only [Int.toNat_natCast]); (repeat (first | rw [if_pos (by omega)] | rw [if_neg (by omega)] | rw [if_pos (by assumption)] | rw [if_neg (by assumption)] | rw [if_pos (True.intro : True)])); (try (first | rfl | (congr 2; omega) | (congr 1; congr 1; omega))); done)
    · exfalso; omega
  · obtain ⟨k, rfl⟩ := Int.eq_ofNat_of_zero_le (show 0 ≤ p by omega)
    have hkk : k < 4 := by omega
    refine z_if_ne (tgt := 15) dMod_times_5 (by decide) (by omega) (fun c5 => ?_) (fun c5 => ?_)
    · exfalso; omega
    · refine z_iload_n dMod_times_8 rfl ?_
      refine z_callS MS_Mod_isNo lk_Mod_81 dMod_times_9 (k_Mod_isNo (by omega)) rfl rfl (Nat.le_of_ble_eq_true rfl)  (Nat.le_of_ble_eq_true rfl) (Nat.le_of_ble_eq_true rfl) (Nat.le_of_eq (Nat.zero_add _)) (Nat.le_of_eq (Nat.zero_add _)) (fun _ _ q => q.elim) ?_
      rintro _ _ ⟨n9j, rfl, (⟨rfl, hn9j⟩ | ⟨rfl, hn9j⟩), rfl⟩
      · refine z_if_eq (tgt := 19) dMod_times_12 (by decide) (by omega) (fun c12 => ?_) (fun c12 => ?_)
        · refine z_iconst dMod_times_19 ?_
          refine z_iconst dMod_times_20 ?_
          refine z_iconst dMod_times_21 ?_
          refine z_callV MV_Mod_fails lk_Mod_88 dMod_times_22 (k_Mod_fails (by assumption) rfl (by omega) (by omega) (by omega)) rfl rfl (Nat.le_of_ble_eq_true rfl) rfl (by assumption) (Nat.le_of_ble_eq_true rfl) (Nat.le_of_ble_eq_true rfl) (Nat.le_of_eq (Nat.zero_add _)) (Nat.le_of_eq (Nat.zero_add _)) (fun _ _ q => q.elim) ?_
          rintro _ h1 ⟨t9, b8, rfl, ht, p1, g1⟩
          have H1 : zMod G h1 ma S t9 := H.obj (nu := S.2.2.2.2) (th' := t9) p1 g1
          have fz1 : zMfr ma h h1 := zMfr.of0 g1
          obtain ⟨-, n2, ⟨gg, n3, n3a⟩, n4, ⟨f61, n5, n5a⟩, n6, n7⟩ := id H1
          unfold zMfs at n2
          refine z_if_eq (tgt := 30) dMod_times_25 (by decide) (by omega) (fun c25 => ?_) (fun c25 => ?_)
          · exfalso; omega
          · refine z_iconst dMod_times_28 ?_
            refine z_iret rfl rfl dMod_times_29 ?_
            rcases (show t9 = 0 ∨ t9 = 1 ∨ t9 = 2 ∨ t9 = 3 by omega) with t0 | t0 | t0 | t0
            all_goals first
              | (exfalso; omega)
              | exact zQm.ok H1 (by omega) (by assumption) (by unfold sp_times; (try unfold spPut); (try simp only [Int.toNat_natCast]); (repeat (first | rw [if_pos (by omega)] | rw [if_neg (by omega)] | rw [if_pos (by assumption)] | rw [if_neg (by assumption)] | rw [if_pos (True.intro : True)])); (try (first | rfl | (congr 2; omega) | (congr 1; congr 1; omega))); done)
              | exact zQm.b1 H1 (by omega) (by assumption) (by unfold sp_times; (try unfold spPut); (try simp only [Int.toNat_natCast]); (repeat (first | rw [if_pos (by omega)] | rw [if_neg (by omega)] | rw [if_pos (by assumption)] | rw [if_neg (by assumption)] | rw [if_pos (True.intro : True)])); (try (first | rfl | (congr 2; omega) | (congr 1; congr 1; omega))); done)
              | exact zQm.b2 H1 (by omega) (by assumption) (by unfold sp_times; (try unfold spPut); (try simp only [Int.toNat_natCast]); (repeat (first | rw [if_pos (by omega)] | rw [if_neg (by omega)] | rw [if_pos (by assumption)] | rw [if_neg (by assumption)] | rw [if_pos (True.intro : True)])); (try (first | rfl | (congr 2; omega) | (congr 1; congr 1; omega))); done)
              | exact zQm.b3 H1 (by omega) (by assumption) (by unfold sp_times; (try unfold spPut); (try simp only [Int.toNat_natCast]); (repeat (first | rw [if_pos (by omega)] | rw [if_neg (by omega)] | rw [if_pos (by assumption)] | rw [if_neg (by assumption)] | rw [if_pos (True.intro : True)])); (try (first | rfl | (congr 2; omega) | (congr 1; congr 1; omega))); done)
        · refine z_iconst dMod_times_15 ?_
          refine z_goto (tgt := 20) dMod_times_16 (by decide) ?_
          refine z_iconst dMod_times_20 ?_
          refine z_iconst dMod_times_21 ?_
          refine z_callV MV_Mod_fails lk_Mod_88 dMod_times_22 (k_Mod_fails (by assumption) rfl (by omega) (by omega) (by omega)) rfl rfl (Nat.le_of_ble_eq_true rfl) rfl (by assumption) (Nat.le_of_ble_eq_true rfl) (Nat.le_of_ble_eq_true rfl) (Nat.le_of_eq (Nat.zero_add _)) (Nat.le_of_eq (Nat.zero_add _)) (fun _ _ q => q.elim) ?_
          rintro _ h1 ⟨t9, b8, rfl, ht, p1, g1⟩
          have H1 : zMod G h1 ma S t9 := H.obj (nu := S.2.2.2.2) (th' := t9) p1 g1
          have fz1 : zMfr ma h h1 := zMfr.of0 g1
          obtain ⟨-, n2, ⟨gg, n3, n3a⟩, n4, ⟨f61, n5, n5a⟩, n6, n7⟩ := id H1
          unfold zMfs at n2
          refine z_if_eq (tgt := 30) dMod_times_25 (by decide) (by omega) (fun c25 => ?_) (fun c25 => ?_)
          · exfalso; omega
          · refine z_iconst dMod_times_28 ?_
            refine z_iret rfl rfl dMod_times_29 ?_
            rcases (show t9 = 0 ∨ t9 = 1 ∨ t9 = 2 ∨ t9 = 3 by omega) with t0 | t0 | t0 | t0
            all_goals first
              | (exfalso; omega)
              | exact zQm.ok H1 (by omega) (by assumption) (by unfold sp_times; (try unfold spPut); (try simp only [Int.toNat_natCast]); (repeat (first | rw [if_pos (by omega)] | rw [if_neg (by omega)] | rw [if_pos (by assumption)] | rw [if_neg (by assumption)] | rw [if_pos (True.intro : True)])); (try (first | rfl | (congr 2; omega) | (congr 1; congr 1; omega))); done)
              | exact zQm.b1 H1 (by omega) (by assumption) (by unfold sp_times; (try unfold spPut); (try simp only [Int.toNat_natCast]); (repeat (first | rw [if_pos (by omega)] | rw [if_neg (by omega)] | rw [if_pos (by assumption)] | rw [if_neg (by assumption)] | rw [if_pos (True.intro : True)])); (try (first | rfl | (congr 2; omega) | (congr 1; congr 1; omega))); done)
              | exact zQm.b2 H1 (by omega) (by assumption) (by unfold sp_times; (try unfold spPut); (try simp only [Int.toNat_natCast]); (repeat (first | rw [if_pos (by omega)] | rw [if_neg (by omega)] | rw [if_pos (by assumption)] | rw [if_neg (by assumption)] | rw [if_pos (True.intro : True)])); (try (first | rfl | (congr 2; omega) | (congr 1; congr 1; omega))); done)
              | exact zQm.b3 H1 (by omega) (by assumption) (by unfold sp_times; (try unfold spPut); (try simp only [Int.toNat_natCast]); (repeat (first | rw [if_pos (by omega)] | rw [if_neg (by omega)] | rw [if_pos (by assumption)] | rw [if_neg (by assumption)] | rw [if_pos (True.intro : True)])); (try (first | rfl | (congr 2; omega) | (congr 1; congr 1; omega))); done)
      · obtain ⟨j, rfl⟩ := Int.eq_ofNat_of_zero_le (show 0 ≤ o by omega)
        have hkj : j < 4 := by omega
        refine z_if_eq (tgt := 19) dMod_times_12 (by decide) (by omega) (fun c12 => ?_) (fun c12 => ?_)
        · refine z_iconst dMod_times_19 ?_
          refine z_iconst dMod_times_20 ?_
          refine z_iconst dMod_times_21 ?_
          refine z_callV MV_Mod_fails lk_Mod_88 dMod_times_22 (k_Mod_fails (by assumption) rfl (by omega) (by omega) (by omega)) rfl rfl (Nat.le_of_ble_eq_true rfl) rfl (by assumption) (Nat.le_of_ble_eq_true rfl) (Nat.le_of_ble_eq_true rfl) (Nat.le_of_eq (Nat.zero_add _)) (Nat.le_of_eq (Nat.zero_add _)) (fun _ _ q => q.elim) ?_
          rintro _ h1 ⟨t9, b8, rfl, ht, p1, g1⟩
          have H1 : zMod G h1 ma S t9 := H.obj (nu := S.2.2.2.2) (th' := t9) p1 g1
          have fz1 : zMfr ma h h1 := zMfr.of0 g1
          obtain ⟨-, n2, ⟨gg, n3, n3a⟩, n4, ⟨f61, n5, n5a⟩, n6, n7⟩ := id H1
          unfold zMfs at n2
          refine z_if_eq (tgt := 30) dMod_times_25 (by decide) (by omega) (fun c25 => ?_) (fun c25 => ?_)
          · obtain ⟨frk, rk1, rk2, rk3, rk4⟩ := id (n6 k (by omega))
            have h16k := h16 k (by omega)
            have ezk : ∀ i : Int, 0 ≤ i → i < ((S.1 k).length : Int) → frk i.toNat = zAt (S.1 k) i := fun i x1 x2 => by rw [rk3 _ (by omega), zAt_eq x1 x2]
            obtain ⟨frj, rj1, rj2, rj3, rj4⟩ := id (n6 j (by omega))
            have h16j := h16 j (by omega)
            have ezj : ∀ i : Int, 0 ≤ i → i < ((S.1 j).length : Int) → frj i.toNat = zAt (S.1 j) i := fun i x1 x2 => by rw [rj3 _ (by omega), zAt_eq x1 x2]
            have et9 : t9 = 0 := by omega
            subst et9
            have hN31 : (zPn (S.1 k) (S.1 j)) ≤ 31 := by unfold zPn; split <;> omega
            refine z_aload_n dMod_times_30 rfl ?_
            refine z_get (k := 0) fd_Mod (by decide) fl_Mod_11 dMod_times_31 (by assumption) (by rfl) ?_
            refine z_iload_n dMod_times_34 rfl ?_
            refine z_aald (t := 4) (ty := .array .int) rfl rfl dMod_times_35 n3 (by refine ⟨?_, ?_, ?_⟩ <;> omega) ?_
            rw [show (k : Int).toNat = k from rfl, n3a k (by omega)]
            refine z_astore_n dMod_times_36 (Nat.le_of_ble_eq_true rfl) ?_
            refine z_aload_n dMod_times_37 rfl ?_
            refine z_get (k := 0) fd_Mod (by decide) fl_Mod_11 dMod_times_38 (by assumption) (by rfl) ?_
            refine z_iload_n dMod_times_41 rfl ?_
            refine z_aald (t := 4) (ty := .array .int) rfl rfl dMod_times_42 n3 (by refine ⟨?_, ?_, ?_⟩ <;> omega) ?_
            rw [show (j : Int).toNat = j from rfl, n3a j (by omega)]
            refine z_astore dMod_times_43 (Nat.le_of_ble_eq_true rfl) ?_
            refine z_aload_n dMod_times_45 rfl ?_
            refine z_alenI dMod_times_46 (by assumption) ?_
            refine z_if_eq (tgt := 56) dMod_times_47 (by decide) (by omega) (fun c47 => ?_) (fun c47 => ?_)
            · refine z_iconst dMod_times_56 ?_
              refine z_goto (tgt := 68) dMod_times_57 (by decide) ?_
              refine z_newL (n := (zPn (S.1 k) (S.1 j))) (bc' := 1) (bs' := 16) (by unfold zPn; first | (rw [if_pos (by omega)]; rfl) | (rw [if_neg (by omega)]; omega)) dMod_times_68 (by omega) (by decide) (by omega) (fun q2 h2 hq2 gq2 e2 F2 => ?_)
              refine z_astore dMod_times_70 (Nat.le_of_ble_eq_true rfl) ?_
              refine z_iconst dMod_times_72 ?_
              refine z_istore dMod_times_73 (Nat.le_of_ble_eq_true rfl) ?_
              refine l_Mod_times (h := h1) (N := (zPn (S.1 k) (S.1 j))) (n6 k hkk) (n6 j hkj) hq2 (by omega) (fun h3 f3 y6 y e3 v3 F3 => ?_) 32 0 h2 _ _ (by omega) (by omega) e2 (fun j hj => absurd hj (by omega)) (fun _ _ _ => rfl) F2
              have H3 : zMod G h3 ma S 0 := H1.keep hq2 F3
              have fz3 : zMfr ma h h3 := fz1.tr (zMfr.new hq2 F3)
              have oc3 := H3.2.1
              refine z_aload_n dMod_times_147 rfl ?_
              refine z_iload_n dMod_times_148 rfl ?_
              refine z_aload dMod_times_149 rfl ?_
              refine z_callV (bc' := 0) (bs' := 0) MV_Mod_fits lk_Mod_166 dMod_times_151 (k_Mod_fits H3 hkk e3 (by omega) v3) rfl rfl (Nat.le_of_ble_eq_true rfl) rfl (by assumption) (Nat.le_of_ble_eq_true rfl) (Nat.le_of_ble_eq_true rfl) (by decide) (by decide) (fun _ _ q => q.elim) ?_
              rintro _ h9 ⟨fj, (⟨hfit, rfl, q9, hq9, H9⟩ | ⟨hfit, rfl, H9⟩)⟩
              all_goals have fz9 : zMfr ma h h9 := fz3.tr fj
              · refine z_iret rfl rfl dMod_times_154 ?_
                exact zQm.okB H9 (Or.inr ⟨zDm.up hq9.1 H3 fz3, hq9.2⟩) rfl fz9 (by unfold sp_times; rw [if_pos (by omega), if_pos (by omega)]; simp only [Int.toNat_natCast]; exact if_pos hfit)
              · refine z_iret rfl rfl dMod_times_154 ?_
                exact zQm.ok H9 rfl fz9 (by unfold sp_times; rw [if_pos (by omega), if_pos (by omega)]; simp only [Int.toNat_natCast]; exact if_neg hfit)
            · refine z_aload dMod_times_50 rfl ?_
              refine z_alenI dMod_times_52 (by assumption) ?_
              refine z_if_ne (tgt := 60) dMod_times_53 (by decide) (by omega) (fun c53 => ?_) (fun c53 => ?_)
              · refine z_aload_n dMod_times_60 rfl ?_
                refine z_alenI dMod_times_61 (by assumption) ?_
                refine z_aload dMod_times_62 rfl ?_
                refine z_alenI dMod_times_64 (by assumption) ?_
                refine z_iadd dMod_times_65 ?_
                refine z_iconst dMod_times_66 ?_
                refine z_isub dMod_times_67 ?_
                refine z_newL (n := (zPn (S.1 k) (S.1 j))) (bc' := 1) (bs' := 16) (by unfold zPn; first | (rw [if_pos (by omega)]; rfl) | (rw [if_neg (by omega)]; omega)) dMod_times_68 (by omega) (by decide) (by omega) (fun q2 h2 hq2 gq2 e2 F2 => ?_)
                refine z_astore dMod_times_70 (Nat.le_of_ble_eq_true rfl) ?_
                refine z_iconst dMod_times_72 ?_
                refine z_istore dMod_times_73 (Nat.le_of_ble_eq_true rfl) ?_
                refine l_Mod_times (h := h1) (N := (zPn (S.1 k) (S.1 j))) (n6 k hkk) (n6 j hkj) hq2 (by omega) (fun h3 f3 y6 y e3 v3 F3 => ?_) 32 0 h2 _ _ (by omega) (by omega) e2 (fun j hj => absurd hj (by omega)) (fun _ _ _ => rfl) F2
                have H3 : zMod G h3 ma S 0 := H1.keep hq2 F3
                have fz3 : zMfr ma h h3 := fz1.tr (zMfr.new hq2 F3)
                have oc3 := H3.2.1
                refine z_aload_n dMod_times_147 rfl ?_
                refine z_iload_n dMod_times_148 rfl ?_
                refine z_aload dMod_times_149 rfl ?_
                refine z_callV (bc' := 0) (bs' := 0) MV_Mod_fits lk_Mod_166 dMod_times_151 (k_Mod_fits H3 hkk e3 (by omega) v3) rfl rfl (Nat.le_of_ble_eq_true rfl) rfl (by assumption) (Nat.le_of_ble_eq_true rfl) (Nat.le_of_ble_eq_true rfl) (by decide) (by decide) (fun _ _ q => q.elim) ?_
                rintro _ h9 ⟨fj, (⟨hfit, rfl, q9, hq9, H9⟩ | ⟨hfit, rfl, H9⟩)⟩
                all_goals have fz9 : zMfr ma h h9 := fz3.tr fj
                · refine z_iret rfl rfl dMod_times_154 ?_
                  exact zQm.okB H9 (Or.inr ⟨zDm.up hq9.1 H3 fz3, hq9.2⟩) rfl fz9 (by unfold sp_times; rw [if_pos (by omega), if_pos (by omega)]; simp only [Int.toNat_natCast]; exact if_pos hfit)
                · refine z_iret rfl rfl dMod_times_154 ?_
                  exact zQm.ok H9 rfl fz9 (by unfold sp_times; rw [if_pos (by omega), if_pos (by omega)]; simp only [Int.toNat_natCast]; exact if_neg hfit)
              · refine z_iconst dMod_times_56 ?_
                refine z_goto (tgt := 68) dMod_times_57 (by decide) ?_
                refine z_newL (n := (zPn (S.1 k) (S.1 j))) (bc' := 1) (bs' := 16) (by unfold zPn; first | (rw [if_pos (by omega)]; rfl) | (rw [if_neg (by omega)]; omega)) dMod_times_68 (by omega) (by decide) (by omega) (fun q2 h2 hq2 gq2 e2 F2 => ?_)
                refine z_astore dMod_times_70 (Nat.le_of_ble_eq_true rfl) ?_
                refine z_iconst dMod_times_72 ?_
                refine z_istore dMod_times_73 (Nat.le_of_ble_eq_true rfl) ?_
                refine l_Mod_times (h := h1) (N := (zPn (S.1 k) (S.1 j))) (n6 k hkk) (n6 j hkj) hq2 (by omega) (fun h3 f3 y6 y e3 v3 F3 => ?_) 32 0 h2 _ _ (by omega) (by omega) e2 (fun j hj => absurd hj (by omega)) (fun _ _ _ => rfl) F2
                have H3 : zMod G h3 ma S 0 := H1.keep hq2 F3
                have fz3 : zMfr ma h h3 := fz1.tr (zMfr.new hq2 F3)
                have oc3 := H3.2.1
                refine z_aload_n dMod_times_147 rfl ?_
                refine z_iload_n dMod_times_148 rfl ?_
                refine z_aload dMod_times_149 rfl ?_
                refine z_callV (bc' := 0) (bs' := 0) MV_Mod_fits lk_Mod_166 dMod_times_151 (k_Mod_fits H3 hkk e3 (by omega) v3) rfl rfl (Nat.le_of_ble_eq_true rfl) rfl (by assumption) (Nat.le_of_ble_eq_true rfl) (Nat.le_of_ble_eq_true rfl) (by decide) (by decide) (fun _ _ q => q.elim) ?_
                rintro _ h9 ⟨fj, (⟨hfit, rfl, q9, hq9, H9⟩ | ⟨hfit, rfl, H9⟩)⟩
                all_goals have fz9 : zMfr ma h h9 := fz3.tr fj
                · refine z_iret rfl rfl dMod_times_154 ?_
                  exact zQm.okB H9 (Or.inr ⟨zDm.up hq9.1 H3 fz3, hq9.2⟩) rfl fz9 (by unfold sp_times; rw [if_pos (by omega), if_pos (by omega)]; simp only [Int.toNat_natCast]; exact if_pos hfit)
                · refine z_iret rfl rfl dMod_times_154 ?_
                  exact zQm.ok H9 rfl fz9 (by unfold sp_times; rw [if_pos (by omega), if_pos (by omega)]; simp only [Int.toNat_natCast]; exact if_neg hfit)
          · refine z_iconst dMod_times_28 ?_
            refine z_iret rfl rfl dMod_times_29 ?_
            rcases (show t9 = 0 ∨ t9 = 1 ∨ t9 = 2 ∨ t9 = 3 by omega) with t0 | t0 | t0 | t0
            all_goals first
              | (exfalso; omega)
              | exact zQm.ok H1 (by omega) (by assumption) (by unfold sp_times; (try unfold spPut); (try simp only [Int.toNat_natCast]); (repeat (first | rw [if_pos (by omega)] | rw [if_neg (by omega)] | rw [if_pos (by assumption)] | rw [if_neg (by assumption)] | rw [if_pos (True.intro : True)])); (try (first | rfl | (congr 2; omega) | (congr 1; congr 1; omega))); done)
              | exact zQm.b1 H1 (by omega) (by assumption) (by unfold sp_times; (try unfold spPut); (try simp only [Int.toNat_natCast]); (repeat (first | rw [if_pos (by omega)] | rw [if_neg (by omega)] | rw [if_pos (by assumption)] | rw [if_neg (by assumption)] | rw [if_pos (True.intro : True)])); (try (first | rfl | (congr 2; omega) | (congr 1; congr 1; omega))); done)
              | exact zQm.b2 H1 (by omega) (by assumption) (by unfold sp_times; (try unfold spPut); (try simp only [Int.toNat_natCast]); (repeat (first | rw [if_pos (by omega)] | rw [if_neg (by omega)] | rw [if_pos (by assumption)] | rw [if_neg (by assumption)] | rw [if_pos (True.intro : True)])); (try (first | rfl | (congr 2; omega) | (congr 1; congr 1; omega))); done)
              | exact zQm.b3 H1 (by omega) (by assumption) (by unfold sp_times; (try unfold spPut); (try simp only [Int.toNat_natCast]); (repeat (first | rw [if_pos (by omega)] | rw [if_neg (by omega)] | rw [if_pos (by assumption)] | rw [if_neg (by assumption)] | rw [if_pos (True.intro : True)])); (try (first | rfl | (congr 2; omega) | (congr 1; congr 1; omega))); done)
        · exfalso; omega
end MOD18
