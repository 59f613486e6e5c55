section
section MOD16
variable {G : zG} {l : Launch} {h h' h'' : zHp} {ma : Nat → Nat} {S : zSt} {th : Int}
theorem zMod.cuE {S' : zSt} (H : zMod G h ma S th) (e1 : S'.1 = S.1) (e2 : S'.2.2 = S.2.2) (e : ∀ c, c < 3 → ∀ f, f < 5 → S'.2.1 c f = S.2.1 c f) : zMod G h ma S' th := by
  obtain ⟨m1, m2, m3, ⟨⟨f1, a1, b1⟩, ⟨f2, a2, b2⟩, ⟨f3, a3, b3⟩, ⟨f4, a4, b4⟩, ⟨f5, a5, b5⟩⟩, m5, m6, m7⟩ := id H
  obtain ⟨L', cu', r'⟩ := S'
  obtain ⟨L0, cu0, r0⟩ := S
  simp only at e1 e2
  subst e1 e2
  refine ⟨m1, m2, m3, ⟨⟨f1, a1, fun c hc => ?_⟩, ⟨f2, a2, fun c hc => ?_⟩, ⟨f3, a3, fun c hc => ?_⟩, ⟨f4, a4, fun c hc => ?_⟩, ⟨f5, a5, fun c hc => ?_⟩⟩, m5, m6, m7⟩
  · rw [e c hc 0 (by omega)]; exact b1 c hc
  · rw [e c hc 0 (by omega), e c hc 1 (by omega)]; exact b2 c hc
  · rw [e c hc 0 (by omega), e c hc 2 (by omega)]; exact b3 c hc
  · rw [e c hc 0 (by omega), e c hc 3 (by omega)]; exact b4 c hc
  · rw [e c hc 0 (by omega), e c hc 4 (by omega)]; exact b5 c hc
theorem zMt_dist {L : List Int} {ia la ib lb : Int} : ∀ m : Nat, (zMt L ia la ib lb m).2.1 < (zMt L ia la ib lb m).2.2.2.1 → (zMt L ia la ib lb m).2.2.2.1 - (zMt L ia la ib lb m).2.1 + m ≤ ib - ia
  | 0, _ => by unfold zMt; dsimp only; omega
  | m + 1, hs => by
    have ih := zMt_dist (L := L) (ia := ia) (la := la) (ib := ib) (lb := lb) m
    unfold zMt at hs ⊢
    split at hs
    · rename_i q
      rw [if_pos q]
      split at hs
      · rename_i q2
        rw [if_pos q2]
        dsimp only at hs ⊢
        omega
      · rename_i q2
        rw [if_neg q2]
        dsimp only at hs ⊢
        omega
    · rename_i q
      exact absurd hs q
theorem zMe_c {c o : Nat} {M : Int × Int × Int × Int × Int} (hne : c ≠ o) (f : Nat) : (zMeet S c o M).2.1 c f = zCv (S.2.1 c 0) (S.2.1 c 1) (S.2.1 c 2) M.2.1 M.2.2.1 f := by
  show zup (zup S.2.1 c _) o _ c f = _
  rw [zup_ne hne, zup_same]
theorem zMe_o {c o : Nat} {M : Int × Int × Int × Int × Int} (f : Nat) : (zMeet S c o M).2.1 o f = zCv (S.2.1 o 0) (S.2.1 o 1) (S.2.1 o 2) M.2.2.2.1 M.2.2.2.2 f := by
  show zup (zup S.2.1 c _) o _ o f = _
  rw [zup_same]
theorem zMe_uc {c o : Nat} {M : Int × Int × Int × Int × Int} {s ia la : Int} (hne : c ≠ o) : zsC (zMeet S c o M) (zup (zMeet S c o M).2.1 c (zCv (S.2.1 c 0) (S.2.1 c 1) (S.2.1 c 2) ia la)) = zMeet S c o (s, ia, la, M.2.2.2.1, M.2.2.2.2) := by
  have e : zup (zMeet S c o M).2.1 c (zCv (S.2.1 c 0) (S.2.1 c 1) (S.2.1 c 2) ia la) = (zMeet S c o (s, ia, la, M.2.2.2.1, M.2.2.2.2)).2.1 := by
    funext j
    by_cases e1 : j = c
    · subst e1
      rw [zup_same]
      show _ = zup (zup S.2.1 j _) o _ j
      rw [zup_ne hne, zup_same]
    · rw [zup_ne e1]
      show zup (zup S.2.1 c _) o _ j = zup (zup S.2.1 c _) o _ j
      by_cases e2 : j = o
      · subst e2
        rw [zup_same, zup_same]
      · rw [zup_ne e2, zup_ne e2, zup_ne e1, zup_ne e1]
  rw [e]
  rfl
theorem zMe_uo {c o : Nat} {M : Int × Int × Int × Int × Int} {s ib lb : Int} : zsC (zMeet S c o M) (zup (zMeet S c o M).2.1 o (zCv (S.2.1 o 0) (S.2.1 o 1) (S.2.1 o 2) ib lb)) = zMeet S c o (s, M.2.1, M.2.2.1, ib, lb) := by
  have e : zup (zMeet S c o M).2.1 o (zCv (S.2.1 o 0) (S.2.1 o 1) (S.2.1 o 2) ib lb) = (zMeet S c o (s, M.2.1, M.2.2.1, ib, lb)).2.1 := by
    funext j
    by_cases e1 : j = o
    · subst e1
      rw [zup_same]
      show _ = zup (zup S.2.1 c _) j _ j
      rw [zup_same]
    · rw [zup_ne e1]
      show zup (zup S.2.1 c _) o _ j = zup (zup S.2.1 c _) o _ j
      rw [zup_ne e1, zup_ne e1]
  rw [e]
  rfl
theorem l_Mod_meet {mc ms bc bs : Nat} {Qn : Option Value → zHp → Prop} {Qx : String → zHp → Prop} {c o kk : Nat} {n3 : Int} (hc : c < 3) (ho : o < 3) (hne : c ≠ o) (t1 : S.2.1 c 0 = 1) (t2 : S.2.1 o 0 = 1) (k1 : S.2.1 c 2 = (kk : Int)) (k2 : S.2.1 o 2 = (kk : Int)) (hkk : kk < 4) (h16 : ∀ k, k < 4 → (S.1 k).length ≤ 16) (h0 : 0 ≤ S.2.1 c 3 ∧ S.2.1 c 3 ≤ S.2.1 o 3 ∧ S.2.1 o 3 ≤ 16) (hl : S.2.1 o 3 ≤ (S.1 kk).length) (hla : -1 ≤ S.2.1 c 4 ∧ S.2.1 c 4 ≤ 15) (hlb : -1 ≤ S.2.1 o 4 ∧ S.2.1 o 4 ≤ 15)
    (K : ∀ (h1 : zHp) y, zMod G h1 ma (zMeet S c o (zMt (S.1 kk) (S.2.1 c 3) (S.2.1 c 4) (S.2.1 o 3) (S.2.1 o 4) 16)) th → (∀ z, z ≠ ma 5 → z ≠ ma 6 → h1 z = h z) → zR G l (zMJ G hMod_meet 4 Qn Qx mc ms) bc bs h1 179 [some (.ref (ma 0)), some (zi (c : Int)), some (zi (o : Int)), some (zi n3), some (zi (zMt (S.1 kk) (S.2.1 c 3) (S.2.1 c 4) (S.2.1 o 3) (S.2.1 o 4) 16).1), y] []) :
    ∀ (n m : Nat) (h1 : zHp), 16 - m < n → m ≤ 16 → zMod G h1 ma (zMeet S c o (zMt (S.1 kk) (S.2.1 c 3) (S.2.1 c 4) (S.2.1 o 3) (S.2.1 o 4) m)) th → (∀ z, z ≠ ma 5 → z ≠ ma 6 → h1 z = h z) → zR G l (zMJ G hMod_meet 4 Qn Qx mc ms) bc bs h1 124 [some (.ref (ma 0)), some (zi (c : Int)), some (zi (o : Int)), some (zi n3), some (zi (zMt (S.1 kk) (S.2.1 c 3) (S.2.1 c 4) (S.2.1 o 3) (S.2.1 o 4) m).1), some (zi (if m % 2 = 0 then 1 else 0))] [] := by
  intro n
  induction n with
  | zero => intro m h1 q1 q2 Hm hf; omega
  | succ n ih =>
  intro m h1 q1 q2 Hm hf
  have hin := zMt_in (L := S.1 kk) h0 hla hlb m
  have hdist := zMt_dist (L := S.1 kk) (ia := S.2.1 c 3) (la := S.2.1 c 4) (ib := S.2.1 o 3) (lb := S.2.1 o 4) m
  obtain ⟨-, m2, ⟨g, m3, m3a⟩, m4, -⟩ := id Hm
  unfold zMfs at m2
  have zc0 := zMe_c (S := S) (M := zMt (S.1 kk) (S.2.1 c 3) (S.2.1 c 4) (S.2.1 o 3) (S.2.1 o 4) m) hne 0
  have zc1 := zMe_c (S := S) (M := zMt (S.1 kk) (S.2.1 c 3) (S.2.1 c 4) (S.2.1 o 3) (S.2.1 o 4) m) hne 1
  have zc2 := zMe_c (S := S) (M := zMt (S.1 kk) (S.2.1 c 3) (S.2.1 c 4) (S.2.1 o 3) (S.2.1 o 4) m) hne 2
  have zc3 := zMe_c (S := S) (M := zMt (S.1 kk) (S.2.1 c 3) (S.2.1 c 4) (S.2.1 o 3) (S.2.1 o 4) m) hne 3
  have zo0 := zMe_o (S := S) (c := c) (o := o) (M := zMt (S.1 kk) (S.2.1 c 3) (S.2.1 c 4) (S.2.1 o 3) (S.2.1 o 4) m) 0
  have zo1 := zMe_o (S := S) (c := c) (o := o) (M := zMt (S.1 kk) (S.2.1 c 3) (S.2.1 c 4) (S.2.1 o 3) (S.2.1 o 4) m) 1
  have zo2 := zMe_o (S := S) (c := c) (o := o) (M := zMt (S.1 kk) (S.2.1 c 3) (S.2.1 c 4) (S.2.1 o 3) (S.2.1 o 4) m) 2
  have zo3 := zMe_o (S := S) (c := c) (o := o) (M := zMt (S.1 kk) (S.2.1 c 3) (S.2.1 c 4) (S.2.1 o 3) (S.2.1 o 4) m) 3
  simp only [zCv] at zc0 zc1 zc2 zc3 zo0 zo1 zo2 zo3
  obtain ⟨⟨v1, a1, b1⟩, ⟨v2, a2, b2⟩, ⟨v3, a3, b3⟩, ⟨v4, a4, b4⟩, ⟨v5, a5, b5⟩⟩ := id m4
  have y4c := ((b4 c hc).2 (zc0.trans t1)).trans zc3
  have y4o := ((b4 o ho).2 (zo0.trans t2)).trans zo3
  by_cases hev : m % 2 = 0
  · rw [if_pos hev]
    refine z_aload_n dMod_meet_124 rfl ?_
    refine z_get (k := 4) fd_Mod (by decide) fl_Mod_25 dMod_meet_125 (by assumption) (by rfl) ?_
    refine z_iload_n dMod_meet_128 rfl ?_
    refine z_iald dMod_meet_129 (by assumption) (by refine ⟨?_, ?_, ?_⟩ <;> omega) ?_
    rw [Int.toNat_natCast]
    rw [y4c]
    refine z_aload_n dMod_meet_130 rfl ?_
    refine z_get (k := 4) fd_Mod (by decide) fl_Mod_25 dMod_meet_131 (by assumption) (by rfl) ?_
    refine z_iload_n dMod_meet_134 rfl ?_
    refine z_iald dMod_meet_135 (by assumption) (by refine ⟨?_, ?_, ?_⟩ <;> omega) ?_
    rw [Int.toNat_natCast]
    rw [y4o]
    refine z_icmp_ge (tgt := 179) dMod_meet_136 (by decide) (by omega) (by omega) (fun c136 => ?_) (fun c136 => ?_)
    · have e9 := zMt_stay (L := S.1 kk) (ia := S.2.1 c 3) (la := S.2.1 c 4) (ib := S.2.1 o 3) (lb := S.2.1 o 4) (m := m) (by omega) (16 - m)
      rw [show m + (16 - m) = 16 by omega] at e9
      rw [← e9]
      exact K h1 _ (by rw [e9]; exact Hm) hf
    · refine z_iload dMod_meet_139 rfl ?_
      refine z_iload dMod_meet_141 rfl ?_
      refine z_if_eq (tgt := 155) dMod_meet_143 (by decide) (by omega) (fun c143 => ?_) (fun c143 => ?_)
      · exact absurd c143 (by decide)
      · refine z_aload_n dMod_meet_146 rfl ?_
        refine z_iload_n dMod_meet_147 rfl ?_
        refine z_iconst dMod_meet_148 ?_
        refine z_callV MV_Mod_goes lk_Mod_147 dMod_meet_149 (k_Mod_goesF Hm hc (zc0.trans t1) (zc2.trans k1) hkk h16 (by rw [zc3]; omega)) rfl rfl (Nat.le_of_ble_eq_true rfl) rfl (by assumption) (Nat.le_of_ble_eq_true rfl) (Nat.le_of_ble_eq_true rfl) (Nat.le_of_eq (Nat.zero_add _)) (Nat.le_of_eq (Nat.zero_add _)) (fun _ _ q => q.elim) ?_
        rintro _ h2 (⟨hP, rfl, H2, g2⟩ | ⟨hP, rfl, rfl⟩)
        rotate_left
        · rw [zc3, zc2, k1, Int.toNat_natCast] at hP
          have hP2 : ¬ (0 ≤ (zMt (S.1 kk) (S.2.1 c 3) (S.2.1 c 4) (S.2.1 o 3) (S.2.1 o 4) m).2.1 ∧ (zMt (S.1 kk) (S.2.1 c 3) (S.2.1 c 4) (S.2.1 o 3) (S.2.1 o 4) m).2.1 < ((S.1 kk).length : Int)) := hP
          omega
        rw [zc0, zc1, zc2, zc3, k1, ← k1, zMe_uc (s := (zMt (S.1 kk) (S.2.1 c 3) (S.2.1 c 4) (S.2.1 o 3) (S.2.1 o 4) m).1 + zAt (S.1 kk) (zMt (S.1 kk) (S.2.1 c 3) (S.2.1 c 4) (S.2.1 o 3) (S.2.1 o 4) m).2.1) hne, ← zMt_evn (by omega) hev] at H2
        rw [zc3, zc2, k1, Int.toNat_natCast]
        have ihE := ih (m + 1) h2 (by omega) (by omega) H2 (fun z z5 z6 => (g2 z z5 z6).trans (hf z z5 z6))
        rw [if_neg (by omega), zMt_evn (by omega) hev] at ihE
        refine z_goto (tgt := 161) dMod_meet_152 (by decide) ?_
        refine z_iadd dMod_meet_161 ?_
        refine z_istore dMod_meet_162 (Nat.le_of_ble_eq_true rfl) ?_
        refine z_iload dMod_meet_164 rfl ?_
        refine z_if_ne (tgt := 173) dMod_meet_166 (by decide) (by omega) (fun c166 => ?_) (fun c166 => absurd c166 (by decide))
        refine z_iconst dMod_meet_173 ?_
        refine z_istore dMod_meet_174 (Nat.le_of_ble_eq_true rfl) ?_
        refine z_goto (tgt := 124) dMod_meet_176 (by decide) ?_
        exact ihE
  · rw [if_neg hev]
    refine z_aload_n dMod_meet_124 rfl ?_
    refine z_get (k := 4) fd_Mod (by decide) fl_Mod_25 dMod_meet_125 (by assumption) (by rfl) ?_
    refine z_iload_n dMod_meet_128 rfl ?_
    refine z_iald dMod_meet_129 (by assumption) (by refine ⟨?_, ?_, ?_⟩ <;> omega) ?_
    rw [Int.toNat_natCast]
    rw [y4c]
    refine z_aload_n dMod_meet_130 rfl ?_
    refine z_get (k := 4) fd_Mod (by decide) fl_Mod_25 dMod_meet_131 (by assumption) (by rfl) ?_
    refine z_iload_n dMod_meet_134 rfl ?_
    refine z_iald dMod_meet_135 (by assumption) (by refine ⟨?_, ?_, ?_⟩ <;> omega) ?_
    rw [Int.toNat_natCast]
    rw [y4o]
    refine z_icmp_ge (tgt := 179) dMod_meet_136 (by decide) (by omega) (by omega) (fun c136 => ?_) (fun c136 => ?_)
    · have e9 := zMt_stay (L := S.1 kk) (ia := S.2.1 c 3) (la := S.2.1 c 4) (ib := S.2.1 o 3) (lb := S.2.1 o 4) (m := m) (by omega) (16 - m)
      rw [show m + (16 - m) = 16 by omega] at e9
      rw [← e9]
      exact K h1 _ (by rw [e9]; exact Hm) hf
    · refine z_iload dMod_meet_139 rfl ?_
      refine z_iload dMod_meet_141 rfl ?_
      refine z_if_eq (tgt := 155) dMod_meet_143 (by decide) (by omega) (fun c143 => ?_) (fun c143 => ?_)
      · refine z_aload_n dMod_meet_155 rfl ?_
        refine z_iload_n dMod_meet_156 rfl ?_
        refine z_iconst dMod_meet_157 ?_
        refine z_callV MV_Mod_goes lk_Mod_147 dMod_meet_158 (k_Mod_goesB Hm ho (zo0.trans t2) (zo2.trans k2) hkk h16 (by rw [zo3]; omega)) rfl rfl (Nat.le_of_ble_eq_true rfl) rfl (by assumption) (Nat.le_of_ble_eq_true rfl) (Nat.le_of_ble_eq_true rfl) (Nat.le_of_eq (Nat.zero_add _)) (Nat.le_of_eq (Nat.zero_add _)) (fun _ _ q => q.elim) ?_
        rintro _ h2 (⟨hP, rfl, H2, g2⟩ | ⟨hP, rfl, rfl⟩)
        rotate_left
        · rw [zo3, zo2, k2, Int.toNat_natCast] at hP
          have hP2 : ¬ (0 ≤ (zMt (S.1 kk) (S.2.1 c 3) (S.2.1 c 4) (S.2.1 o 3) (S.2.1 o 4) m).2.2.2.1 - 1 ∧ (zMt (S.1 kk) (S.2.1 c 3) (S.2.1 c 4) (S.2.1 o 3) (S.2.1 o 4) m).2.2.2.1 - 1 < ((S.1 kk).length : Int)) := hP
          omega
        rw [zo0, zo1, zo2, zo3, zMe_uo (s := (zMt (S.1 kk) (S.2.1 c 3) (S.2.1 c 4) (S.2.1 o 3) (S.2.1 o 4) m).1 + zAt (S.1 kk) ((zMt (S.1 kk) (S.2.1 c 3) (S.2.1 c 4) (S.2.1 o 3) (S.2.1 o 4) m).2.2.2.1 - 1)), ← zMt_odd (by omega) hev] at H2
        rw [zo3, zo2, k2, Int.toNat_natCast]
        have ihE := ih (m + 1) h2 (by omega) (by omega) H2 (fun z z5 z6 => (g2 z z5 z6).trans (hf z z5 z6))
        rw [if_pos (by omega), zMt_odd (by omega) hev] at ihE
        refine z_iadd dMod_meet_161 ?_
        refine z_istore dMod_meet_162 (Nat.le_of_ble_eq_true rfl) ?_
        refine z_iload dMod_meet_164 rfl ?_
        refine z_if_ne (tgt := 173) dMod_meet_166 (by decide) (by omega) (fun c166 => absurd rfl c166) (fun c166 => ?_)
        refine z_iconst dMod_meet_169 ?_
        refine z_goto (tgt := 174) dMod_meet_170 (by decide) ?_
        refine z_istore dMod_meet_174 (Nat.le_of_ble_eq_true rfl) ?_
        refine z_goto (tgt := 124) dMod_meet_176 (by decide) ?_
        exact ihE
      · exact absurd rfl c143
theorem l_Mod_meet65 {c o : Nat} {n3 : Int} {h1 : zHp} (H1 : zMod G h1 ma S 0) (fz1 : zMfr ma h h1) (hc : c < 3) (ho : o < 3) (hne : c ≠ o) (t1 : S.2.1 c 0 = 1) (t2 : S.2.1 o 0 = 1) (hO : zOk S) (h16 : ∀ k, k < 4 → (S.1 k).length ≤ 16) : zR G l (zMJ G hMod_meet 4 (zQm G ma h 1 2 3 (sp_meet S (c : Int) (o : Int))) zNo 0 0) 0 0 h1 65 [some (.ref (ma 0)), some (zi (c : Int)), some (zi (o : Int)), some (zi n3), none, none] [] := by
  obtain ⟨-, n2, ⟨g, n3a, n3b⟩, n4, -⟩ := id H1
  unfold zMfs at n2
  obtain ⟨⟨v1, a1, b1⟩, ⟨v2, a2, b2⟩, ⟨v3, a3, b3⟩, ⟨v4, a4, b4⟩, ⟨v5, a5, b5⟩⟩ := id n4
  have x1 := b1 c hc
  have y1 := b1 o ho
  have x2 := (b2 c hc).2 t1
  have y2 := (b2 o ho).2 t2
  have x3 := (b3 c hc).2 t1
  have y3 := (b3 o ho).2 t2
  have x4 := (b4 c hc).2 t1
  have y4 := (b4 o ho).2 t2
  have okc := hO.1 c hc t1
  have oko := hO.1 o ho t2
  obtain ⟨kk, ek⟩ := Int.eq_ofNat_of_zero_le okc.1.1
  have hkk : kk < 4 := by omega
  have b2c := (b2 c hc).1
  have b2o := (b2 o ho).1
  refine z_aload_n dMod_meet_65 rfl ?_
  refine z_get (k := 2) fd_Mod (by decide) fl_Mod_18 dMod_meet_66 (by assumption) (by rfl) ?_
  refine z_iload_n dMod_meet_69 rfl ?_
  refine z_zald dMod_meet_70 (by assumption) (by refine ⟨?_, ?_, ?_⟩ <;> omega) ?_
  rw [Int.toNat_natCast]
  rw [x2]
  refine z_if_ne (tgt := 113) dMod_meet_71 (by decide) (by omega) (fun c71 => ?_) (fun c71 => ?_)
  · refine z_aload_n dMod_meet_113 rfl ?_
    refine z_callV MV_Mod_refused lk_Mod_92 dMod_meet_114 (k_Mod_refused n2 rfl rfl) rfl rfl (Nat.le_of_ble_eq_true rfl) rfl (by assumption) (Nat.le_of_ble_eq_true rfl) (Nat.le_of_ble_eq_true rfl) (Nat.le_of_eq (Nat.zero_add _)) (Nat.le_of_eq (Nat.zero_add _)) (fun _ _ q => q.elim) ?_
    rintro _ h2 ⟨rfl, p2, g2⟩
    have H2 : zMod G h2 ma (zsRef S) 0 := H1.obj (nu := zup S.2.2.2.2 1 (S.2.2.2.2 1 + 1)) p2 g2
    have fz2 : zMfr ma h h2 := fz1.tr (zMfr.of0 g2)
    refine z_iret rfl rfl dMod_meet_117 ?_
    exact zQm.ok H2 rfl fz2 (by unfold sp_meet; (try simp only [Int.toNat_natCast]); (try simp only [ek, Int.toNat_natCast]); (repeat (first | rw [if_pos (by omega)] | rw [if_neg (by omega)])); (try rfl))
  · refine z_aload_n dMod_meet_74 rfl ?_
    refine z_get (k := 2) fd_Mod (by decide) fl_Mod_18 dMod_meet_75 (by assumption) (by rfl) ?_
    refine z_iload_n dMod_meet_78 rfl ?_
    refine z_zald dMod_meet_79 (by assumption) (by refine ⟨?_, ?_, ?_⟩ <;> omega) ?_
    rw [Int.toNat_natCast]
    rw [y2]
    refine z_if_ne (tgt := 113) dMod_meet_80 (by decide) (by omega) (fun c80 => ?_) (fun c80 => ?_)
    · refine z_aload_n dMod_meet_113 rfl ?_
      refine z_callV MV_Mod_refused lk_Mod_92 dMod_meet_114 (k_Mod_refused n2 rfl rfl) rfl rfl (Nat.le_of_ble_eq_true rfl) rfl (by assumption) (Nat.le_of_ble_eq_true rfl) (Nat.le_of_ble_eq_true rfl) (Nat.le_of_eq (Nat.zero_add _)) (Nat.le_of_eq (Nat.zero_add _)) (fun _ _ q => q.elim) ?_
      rintro _ h2 ⟨rfl, p2, g2⟩
      have H2 : zMod G h2 ma (zsRef S) 0 := H1.obj (nu := zup S.2.2.2.2 1 (S.2.2.2.2 1 + 1)) p2 g2
      have fz2 : zMfr ma h h2 := fz1.tr (zMfr.of0 g2)
      refine z_iret rfl rfl dMod_meet_117 ?_
      exact zQm.ok H2 rfl fz2 (by unfold sp_meet; (try simp only [Int.toNat_natCast]); (try simp only [ek, Int.toNat_natCast]); (repeat (first | rw [if_pos (by omega)] | rw [if_neg (by omega)])); (try rfl))
    · refine z_aload_n dMod_meet_83 rfl ?_
      refine z_get (k := 3) fd_Mod (by decide) fl_Mod_21 dMod_meet_84 (by assumption) (by rfl) ?_
      refine z_iload_n dMod_meet_87 rfl ?_
      refine z_iald dMod_meet_88 (by assumption) (by refine ⟨?_, ?_, ?_⟩ <;> omega) ?_
      rw [Int.toNat_natCast]
      rw [x3]
      refine z_aload_n dMod_meet_89 rfl ?_
      refine z_get (k := 3) fd_Mod (by decide) fl_Mod_21 dMod_meet_90 (by assumption) (by rfl) ?_
      refine z_iload_n dMod_meet_93 rfl ?_
      refine z_iald dMod_meet_94 (by assumption) (by refine ⟨?_, ?_, ?_⟩ <;> omega) ?_
      rw [Int.toNat_natCast]
      rw [y3]
      refine z_icmp_ne (tgt := 113) dMod_meet_95 (by decide) (by omega) (by omega) (fun c95 => ?_) (fun c95 => ?_)
      · refine z_aload_n dMod_meet_113 rfl ?_
        refine z_callV MV_Mod_refused lk_Mod_92 dMod_meet_114 (k_Mod_refused n2 rfl rfl) rfl rfl (Nat.le_of_ble_eq_true rfl) rfl (by assumption) (Nat.le_of_ble_eq_true rfl) (Nat.le_of_ble_eq_true rfl) (Nat.le_of_eq (Nat.zero_add _)) (Nat.le_of_eq (Nat.zero_add _)) (fun _ _ q => q.elim) ?_
        rintro _ h2 ⟨rfl, p2, g2⟩
        have H2 : zMod G h2 ma (zsRef S) 0 := H1.obj (nu := zup S.2.2.2.2 1 (S.2.2.2.2 1 + 1)) p2 g2
        have fz2 : zMfr ma h h2 := fz1.tr (zMfr.of0 g2)
        refine z_iret rfl rfl dMod_meet_117 ?_
        exact zQm.ok H2 rfl fz2 (by unfold sp_meet; (try simp only [Int.toNat_natCast]); (try simp only [ek, Int.toNat_natCast]); (repeat (first | rw [if_pos (by omega)] | rw [if_neg (by omega)])); (try rfl))
      · refine z_aload_n dMod_meet_98 rfl ?_
        refine z_get (k := 4) fd_Mod (by decide) fl_Mod_25 dMod_meet_99 (by assumption) (by rfl) ?_
        refine z_iload_n dMod_meet_102 rfl ?_
        refine z_iald dMod_meet_103 (by assumption) (by refine ⟨?_, ?_, ?_⟩ <;> omega) ?_
        rw [Int.toNat_natCast]
        rw [x4]
        refine z_aload_n dMod_meet_104 rfl ?_
        refine z_get (k := 4) fd_Mod (by decide) fl_Mod_25 dMod_meet_105 (by assumption) (by rfl) ?_
        refine z_iload_n dMod_meet_108 rfl ?_
        refine z_iald dMod_meet_109 (by assumption) (by refine ⟨?_, ?_, ?_⟩ <;> omega) ?_
        rw [Int.toNat_natCast]
        rw [y4]
        refine z_icmp_le (tgt := 118) dMod_meet_110 (by decide) (by omega) (by omega) (fun c110 => ?_) (fun c110 => ?_)
        · refine z_iconst dMod_meet_118 ?_
          refine z_istore dMod_meet_119 (Nat.le_of_ble_eq_true rfl) ?_
          refine z_iconst dMod_meet_121 ?_
          refine z_istore dMod_meet_122 (Nat.le_of_ble_eq_true rfl) ?_
          have k2 : S.2.1 o 2 = (kk : Int) := by omega
          have hl9 := (oko.2.2.2 (by omega)).1
          rw [k2, Int.toNat_natCast] at hl9
          refine l_Mod_meet (h := h1) (th := 0) hc ho hne t1 t2 ek k2 hkk h16 (by omega) (by omega) (by omega) (by omega) (fun h2 y H2 g2 => ?_) 17 0 h1 (by omega) (by omega) (H1.cuE rfl rfl (fun j hj f hf => ?_)) (fun z _ _ => rfl)
          · have fz2 : zMfr ma h h2 := fz1.tr (zMfr.of2 (i := 5) (j := 6) (by omega) (by omega) g2)
            refine z_iload dMod_meet_179 rfl ?_
            refine z_iret rfl rfl dMod_meet_181 ?_
            exact zQm.ok H2 rfl fz2 (by unfold sp_meet; (try simp only [Int.toNat_natCast]); (try simp only [ek, Int.toNat_natCast]); (repeat (first | rw [if_pos (by omega)] | rw [if_neg (by omega)])); (try rfl))
          · by_cases e1 : j = c
            · subst e1
              rw [zMe_c hne]
              rcases (show f = 0 ∨ f = 1 ∨ f = 2 ∨ f = 3 ∨ f = 4 by omega) with rfl | rfl | rfl | rfl | rfl <;> rfl
            · by_cases e2 : j = o
              · subst e2
                rw [zMe_o]
                rcases (show f = 0 ∨ f = 1 ∨ f = 2 ∨ f = 3 ∨ f = 4 by omega) with rfl | rfl | rfl | rfl | rfl <;> rfl
              · show zup (zup S.2.1 c _) o _ j f = _
                rw [zup_ne e2, zup_ne e1]
        · refine z_aload_n dMod_meet_113 rfl ?_
          refine z_callV MV_Mod_refused lk_Mod_92 dMod_meet_114 (k_Mod_refused n2 rfl rfl) rfl rfl (Nat.le_of_ble_eq_true rfl) rfl (by assumption) (Nat.le_of_ble_eq_true rfl) (Nat.le_of_ble_eq_true rfl) (Nat.le_of_eq (Nat.zero_add _)) (Nat.le_of_eq (Nat.zero_add _)) (fun _ _ q => q.elim) ?_
          rintro _ h2 ⟨rfl, p2, g2⟩
          have H2 : zMod G h2 ma (zsRef S) 0 := H1.obj (nu := zup S.2.2.2.2 1 (S.2.2.2.2 1 + 1)) p2 g2
          have fz2 : zMfr ma h h2 := fz1.tr (zMfr.of0 g2)
          refine z_iret rfl rfl dMod_meet_117 ?_
          exact zQm.ok H2 rfl fz2 (by unfold sp_meet; (try simp only [Int.toNat_natCast]); (try simp only [ek, Int.toNat_natCast]); (repeat (first | rw [if_pos (by omega)] | rw [if_neg (by omega)])); (try rfl))
theorem k_Mod_meet {p q : Int} (H : zMod G h ma S th) (z_p : zI32 p) (z_q : zI32 q) (hO : zOk S) (h16 : ∀ k, k < 4 → (S.1 k).length ≤ 16) : zM G l hMod_meet yMod_meet 4 [.ref (ma 0), zi p, zi q] h (zQm G ma h (1) (2) (3) (sp_meet S p q)) zNo 0 0 := by
  obtain ⟨m1, m2, ⟨g, m3, m3a⟩, m4, ⟨f6, m5, m5a⟩, m6, m7⟩ := id H
  unfold zMfs at m2
  refine zM.of [some (.ref (ma 0)), some (zi p), some (zi q), none, none, none] (by decide +kernel) rfl (by decide) rfl (Nat.le_of_ble_eq_true rfl) rfl ?_
  refine z_iload_n dMod_meet_0 rfl ?_
  refine z_callS MS_Mod_isNoCursor lk_Mod_141 dMod_meet_1 (k_Mod_isNoCursor (by omega)) rfl rfl (Nat.le_of_ble_eq_true rfl)  (Nat.le_of_ble_eq_true rfl) (Nat.le_of_ble_eq_true rfl) (Nat.le_of_eq (Nat.zero_add _)) (Nat.le_of_eq (Nat.zero_add _)) (fun _ _ q => q.elim) ?_
  rintro _ _ ⟨n9c, rfl, (⟨rfl, hn9c⟩ | ⟨rfl, hn9c⟩), rfl⟩
  · refine z_if_ne (tgt := 14) dMod_meet_4 (by decide) (by omega) (fun c4 => ?_) (fun c4 => ?_)
    · refine z_iconst dMod_meet_14 ?_
      refine z_goto (tgt := 19) dMod_meet_15 (by decide) ?_
      refine z_istore_n dMod_meet_19 (Nat.le_of_ble_eq_true rfl) ?_
      refine z_aload_n dMod_meet_20 rfl ?_
      refine z_iload_n dMod_meet_21 rfl ?_
      refine z_iload_n dMod_meet_22 rfl ?_
      refine z_iload_n dMod_meet_23 rfl ?_
      refine z_icmp_ne (tgt := 31) dMod_meet_24 (by decide) (by omega) (by omega) (fun c24 => ?_) (fun c24 => ?_)
      · refine z_iconst dMod_meet_31 ?_
        refine z_iload_n dMod_meet_32 rfl ?_
        refine z_if_ne (tgt := 56) dMod_meet_33 (by decide) (by omega) (fun c33 => ?_) (fun c33 => ?_)
        · refine z_iconst dMod_meet_56 ?_
          refine z_callV MV_Mod_fails lk_Mod_88 dMod_meet_57 (k_Mod_fails (by assumption) rfl (by omega) (by omega) (by omega)) rfl rfl (Nat.le_of_ble_eq_true rfl) rfl (by assumption) (Nat.le_of_ble_eq_true rfl) (Nat.le_of_ble_eq_true rfl) (Nat.le_of_eq (Nat.zero_add _)) (Nat.le_of_eq (Nat.zero_add _)) (fun _ _ q => q.elim) ?_
          rintro _ h1 ⟨t9, b8, rfl, ht, p1, g1⟩
          have H1 : zMod G h1 ma S t9 := H.obj (nu := S.2.2.2.2) (th' := t9) p1 g1
          have fz1 : zMfr ma h h1 := zMfr.of0 g1
          obtain ⟨-, n2, ⟨gg, n3, n3a⟩, n4, ⟨f61, n5, n5a⟩, n6, n7⟩ := id H1
          unfold zMfs at n2
          refine z_if_eq (tgt := 65) dMod_meet_60 (by decide) (by omega) (fun c60 => ?_) (fun c60 => ?_)
          · exfalso; omega
          · refine z_iconst dMod_meet_63 ?_
            refine z_iret rfl rfl dMod_meet_64 ?_
            rcases (show t9 = 0 ∨ t9 = 1 ∨ t9 = 2 ∨ t9 = 3 by omega) with t0 | t0 | t0 | t0
            all_goals first
              | (exfalso; omega)
              | exact zQm.ok H1 (by omega) (by assumption) (by unfold sp_meet; (try unfold spPut); (try simp only [Int.toNat_natCast]); (repeat (first | rw [if_pos (by omega)] | rw [if_neg (by omega)] | rw [if_pos (by assumption)] | rw [if_neg (by assumption)] | rw [if_pos (True.intro : True)])); (try (first | rfl | (congr 2; omega) | (congr 1; congr 1; omega))); done)
              | exact zQm.b1 H1 (by omega) (by assumption) (by unfold sp_meet; (try unfold spPut); (try simp only [Int.toNat_natCast]); (repeat (first | rw [if_pos (by omega)] | rw [if_neg (by omega)] | rw [if_pos (by assumption)] | rw [if_neg (by assumption)] | rw [if_pos (True.intro : True)])); (try (first | rfl | (congr 2; omega) | (congr 1; congr 1; omega))); done)
              | exact zQm.b2 H1 (by omega) (by assumption) (by unfold sp_meet; (try unfold spPut); (try simp only [Int.toNat_natCast]); (repeat (first | rw [if_pos (by omega)] | rw [if_neg (by omega)] | rw [if_pos (by assumption)] | rw [if_neg (by assumption)] | rw [if_pos (True.intro : True)])); (try (first | rfl | (congr 2; omega) | (congr 1; congr 1; omega))); done)
              | exact zQm.b3 H1 (by omega) (by assumption) (by unfold sp_meet; (try unfold spPut); (try simp only [Int.toNat_natCast]); (repeat (first | rw [if_pos (by omega)] | rw [if_neg (by omega)] | rw [if_pos (by assumption)] | rw [if_neg (by assumption)] | rw [if_pos (True.intro : True)])); (try (first | rfl | (congr 2; omega) | (congr 1; congr 1; omega))); done)
        · exfalso; omega
      · refine z_iconst dMod_meet_27 ?_
        refine z_goto (tgt := 32) dMod_meet_28 (by decide) ?_
        refine z_iload_n dMod_meet_32 rfl ?_
        refine z_if_ne (tgt := 56) dMod_meet_33 (by decide) (by omega) (fun c33 => ?_) (fun c33 => ?_)
        · refine z_iconst dMod_meet_56 ?_
          refine z_callV MV_Mod_fails lk_Mod_88 dMod_meet_57 (k_Mod_fails (by assumption) rfl (by omega) (by omega) (by omega)) rfl rfl (Nat.le_of_ble_eq_true rfl) rfl (by assumption) (Nat.le_of_ble_eq_true rfl) (Nat.le_of_ble_eq_true rfl) (Nat.le_of_eq (Nat.zero_add _)) (Nat.le_of_eq (Nat.zero_add _)) (fun _ _ q => q.elim) ?_
          rintro _ h1 ⟨t9, b8, rfl, ht, p1, g1⟩
          have H1 : zMod G h1 ma S t9 := H.obj (nu := S.2.2.2.2) (th' := t9) p1 g1
          have fz1 : zMfr ma h h1 := zMfr.of0 g1
          obtain ⟨-, n2, ⟨gg, n3, n3a⟩, n4, ⟨f61, n5, n5a⟩, n6, n7⟩ := id H1
          unfold zMfs at n2
          refine z_if_eq (tgt := 65) dMod_meet_60 (by decide) (by omega) (fun c60 => ?_) (fun c60 => ?_)
          · exfalso; omega
          · refine z_iconst dMod_meet_63 ?_
            refine z_iret rfl rfl dMod_meet_64 ?_
            rcases (show t9 = 0 ∨ t9 = 1 ∨ t9 = 2 ∨ t9 = 3 by omega) with t0 | t0 | t0 | t0
            all_goals first
              | (exfalso; omega)
              | exact zQm.ok H1 (by omega) (by assumption) (by unfold sp_meet; (try unfold spPut); (try simp only [Int.toNat_natCast]); (repeat (first | rw [if_pos (by omega)] | rw [if_neg (by omega)] | rw [if_pos (by assumption)] | rw [if_neg (by assumption)] | rw [if_pos (True.intro : True)])); (try (first | rfl | (congr 2; omega) | (congr 1; congr 1; omega))); done)
              | exact zQm.b1 H1 (by omega) (by assumption) (by unfold sp_meet; (try unfold spPut); (try simp only [Int.toNat_natCast]); (repeat (first | rw [if_pos (by omega)] | rw [if_neg (by omega)] | rw [if_pos (by assumption)] | rw [if_neg (by assumption)] | rw [if_pos (True.intro : True)])); (try (first | rfl | (congr 2; omega) | (congr 1; congr 1; omega))); done)
              | exact zQm.b2 H1 (by omega) (by assumption) (by unfold sp_meet; (try unfold spPut); (try simp only [Int.toNat_natCast]); (repeat (first | rw [if_pos (by omega)] | rw [if_neg (by omega)] | rw [if_pos (by assumption)] | rw [if_neg (by assumption)] | rw [if_pos (True.intro : True)])); (try (first | rfl | (congr 2; omega) | (congr 1; congr 1; omega))); done)
              | exact zQm.b3 H1 (by omega) (by assumption) (by unfold sp_meet; (try unfold spPut); (try simp only [Int.toNat_natCast]); (repeat (first | rw [if_pos (by omega)] | rw [if_neg (by omega)] | rw [if_pos (by assumption)] | rw [if_neg (by assumption)] | rw [if_pos (True.intro : True)])); (try (first | rfl | (congr 2; omega) | (congr 1; congr 1; omega))); done)
        · exfalso; omega
    · exfalso; omega
  · obtain ⟨c, rfl⟩ := Int.eq_ofNat_of_zero_le (show 0 ≤ p by omega)
    have hc : c < 3 := by omega
    refine z_if_ne (tgt := 14) dMod_meet_4 (by decide) (by omega) (fun c4 => ?_) (fun c4 => ?_)
    · exfalso; omega
    · refine z_iload_n dMod_meet_7 rfl ?_
      refine z_callS MS_Mod_isNoCursor lk_Mod_141 dMod_meet_8 (k_Mod_isNoCursor (by omega)) rfl rfl (Nat.le_of_ble_eq_true rfl)  (Nat.le_of_ble_eq_true rfl) (Nat.le_of_ble_eq_true rfl) (Nat.le_of_eq (Nat.zero_add _)) (Nat.le_of_eq (Nat.zero_add _)) (fun _ _ q => q.elim) ?_
      rintro _ _ ⟨n9o, rfl, (⟨rfl, hn9o⟩ | ⟨rfl, hn9o⟩), rfl⟩
      · refine z_if_eq (tgt := 18) dMod_meet_11 (by decide) (by omega) (fun c11 => ?_) (fun c11 => ?_)
        · exfalso; omega
        · refine z_iconst dMod_meet_14 ?_
          refine z_goto (tgt := 19) dMod_meet_15 (by decide) ?_
          refine z_istore_n dMod_meet_19 (Nat.le_of_ble_eq_true rfl) ?_
          refine z_aload_n dMod_meet_20 rfl ?_
          refine z_iload_n dMod_meet_21 rfl ?_
          refine z_iload_n dMod_meet_22 rfl ?_
          refine z_iload_n dMod_meet_23 rfl ?_
          refine z_icmp_ne (tgt := 31) dMod_meet_24 (by decide) (by omega) (by omega) (fun c24 => ?_) (fun c24 => ?_)
          · refine z_iconst dMod_meet_31 ?_
            refine z_iload_n dMod_meet_32 rfl ?_
            refine z_if_ne (tgt := 56) dMod_meet_33 (by decide) (by omega) (fun c33 => ?_) (fun c33 => ?_)
            · refine z_iconst dMod_meet_56 ?_
              refine z_callV MV_Mod_fails lk_Mod_88 dMod_meet_57 (k_Mod_fails (by assumption) rfl (by omega) (by omega) (by omega)) rfl rfl (Nat.le_of_ble_eq_true rfl) rfl (by assumption) (Nat.le_of_ble_eq_true rfl) (Nat.le_of_ble_eq_true rfl) (Nat.le_of_eq (Nat.zero_add _)) (Nat.le_of_eq (Nat.zero_add _)) (fun _ _ q => q.elim) ?_
              rintro _ h1 ⟨t9, b8, rfl, ht, p1, g1⟩
              have H1 : zMod G h1 ma S t9 := H.obj (nu := S.2.2.2.2) (th' := t9) p1 g1
              have fz1 : zMfr ma h h1 := zMfr.of0 g1
              obtain ⟨-, n2, ⟨gg, n3, n3a⟩, n4, ⟨f61, n5, n5a⟩, n6, n7⟩ := id H1
              unfold zMfs at n2
              refine z_if_eq (tgt := 65) dMod_meet_60 (by decide) (by omega) (fun c60 => ?_) (fun c60 => ?_)
              · exfalso; omega
              · refine z_iconst dMod_meet_63 ?_
                refine z_iret rfl rfl dMod_meet_64 ?_
                rcases (show t9 = 0 ∨ t9 = 1 ∨ t9 = 2 ∨ t9 = 3 by omega) with t0 | t0 | t0 | t0
                all_goals first
                  | (exfalso; omega)
                  | exact zQm.ok H1 (by omega) (by assumption) (by unfold sp_meet; (try unfold spPut); (try simp only [Int.toNat_natCast]); (repeat (first | rw [if_pos (by omega)] | rw [if_neg (by omega)] | rw [if_pos (by assumption)] | rw [if_neg (by assumption)] | rw [if_pos (True.intro : True)])); (try (first | rfl | (congr 2; omega) | (congr 1; congr 1; omega))); done)
                  | exact zQm.b1 H1 (by omega) (by assumption) (by unfold sp_meet; (try unfold spPut); (try simp only [Int.toNat_natCast]); (repeat (first | rw [if_pos (by omega)] | rw [if_neg (by omega)] | rw [if_pos (by assumption)] | rw [if_neg (by assumption)] | rw [if_pos (True.intro : True)])); (try (first | rfl | (congr 2; omega) | (congr 1; congr 1; omega))); done)
                  | exact zQm.b2 H1 (by omega) (by assumption) (by unfold sp_meet; (try unfold spPut); (try simp only [Int.toNat_natCast]); (repeat (first | rw [if_pos (by omega)] | rw [if_neg (by omega)] | rw [if_pos (by assumption)] | rw [if_neg (by assumption)] | rw [if_pos (True.intro : True)])); (try (first | rfl | (congr 2; omega) | (congr 1; congr 1; omega))); done)
                  | exact zQm.b3 H1 (by omega) (by assumption) (by unfold sp_meet; (try unfold spPut); (try simp only [Int.toNat_natCast]); (repeat (first | rw [if_pos (by omega)] | rw [if_neg (by omega)] | rw [if_pos (by assumption)] | rw [if_neg (by assumption)] | rw [if_pos (True.intro : True)])); (try (first | rfl | (congr 2; omega) | (congr 1; congr 1; omega))); done)
            · exfalso; omega
          · refine z_iconst dMod_meet_27 ?_
            refine z_goto (tgt := 32) dMod_meet_28 (by decide) ?_
            refine z_iload_n dMod_meet_32 rfl ?_
            refine z_if_ne (tgt := 56) dMod_meet_33 (by decide) (by omega) (fun c33 => ?_) (fun c33 => ?_)
            · refine z_iconst dMod_meet_56 ?_
              refine z_callV MV_Mod_fails lk_Mod_88 dMod_meet_57 (k_Mod_fails (by assumption) rfl (by omega) (by omega) (by omega)) rfl rfl (Nat.le_of_ble_eq_true rfl) rfl (by assumption) (Nat.le_of_ble_eq_true rfl) (Nat.le_of_ble_eq_true rfl) (Nat.le_of_eq (Nat.zero_add _)) (Nat.le_of_eq (Nat.zero_add _)) (fun _ _ q => q.elim) ?_
              rintro _ h1 ⟨t9, b8, rfl, ht, p1, g1⟩
              have H1 : zMod G h1 ma S t9 := H.obj (nu := S.2.2.2.2) (th' := t9) p1 g1
              have fz1 : zMfr ma h h1 := zMfr.of0 g1
              obtain ⟨-, n2, ⟨gg, n3, n3a⟩, n4, ⟨f61, n5, n5a⟩, n6, n7⟩ := id H1
              unfold zMfs at n2
              refine z_if_eq (tgt := 65) dMod_meet_60 (by decide) (by omega) (fun c60 => ?_) (fun c60 => ?_)
              · exfalso; omega
              · refine z_iconst dMod_meet_63 ?_
                refine z_iret rfl rfl dMod_meet_64 ?_
                rcases (show t9 = 0 ∨ t9 = 1 ∨ t9 = 2 ∨ t9 = 3 by omega) with t0 | t0 | t0 | t0
                all_goals first
                  | (exfalso; omega)
                  | exact zQm.ok H1 (by omega) (by assumption) (by unfold sp_meet; (try unfold spPut); (try simp only [Int.toNat_natCast]); (repeat (first | rw [if_pos (by omega)] | rw [if_neg (by omega)] | rw [if_pos (by assumption)] | rw [if_neg (by assumption)] | rw [if_pos (True.intro : True)])); (try (first | rfl | (congr 2; omega) | (congr 1; congr 1; omega))); done)
                  | exact zQm.b1 H1 (by omega) (by assumption) (by unfold sp_meet; (try unfold spPut); (try simp only [Int.toNat_natCast]); (repeat (first | rw [if_pos (by omega)] | rw [if_neg (by omega)] | rw [if_pos (by assumption)] | rw [if_neg (by assumption)] | rw [if_pos (True.intro : True)])); (try (first | rfl | (congr 2; omega) | (congr 1; congr 1; omega))); done)
                  | exact zQm.b2 H1 (by omega) (by assumption) (by unfold sp_meet; (try unfold spPut); (try simp only [Int.toNat_natCast]); (repeat (first | rw [if_pos (by omega)] | rw [if_neg (by omega)] | rw [if_pos (by assumption)] | rw [if_neg (by assumption)] | rw [if_pos (True.intro : True)])); (try (first | rfl | (congr 2; omega) | (congr 1; congr 1; omega))); done)
                  | exact zQm.b3 H1 (by omega) (by assumption) (by unfold sp_meet; (try unfold spPut); (try simp only [Int.toNat_natCast]); (repeat (first | rw [if_pos (by omega)] | rw [if_neg (by omega)] | rw [if_pos (by assumption)] | rw [if_neg (by assumption)] | rw [if_pos (True.intro : True)])); (try (first | rfl | (congr 2; omega) | (congr 1; congr 1; omega))); done)
            · exfalso; omega
      · obtain ⟨o, rfl⟩ := Int.eq_ofNat_of_zero_le (show 0 ≤ q by omega)
        have ho : o < 3 := by omega
        refine z_if_eq (tgt := 18) dMod_meet_11 (by decide) (by omega) (fun c11 => ?_) (fun c11 => ?_)
        · refine z_iconst dMod_meet_18 ?_
          refine z_istore_n dMod_meet_19 (Nat.le_of_ble_eq_true rfl) ?_
          refine z_aload_n dMod_meet_20 rfl ?_
          refine z_iload_n dMod_meet_21 rfl ?_
          refine z_iload_n dMod_meet_22 rfl ?_
          refine z_iload_n dMod_meet_23 rfl ?_
          refine z_icmp_ne (tgt := 31) dMod_meet_24 (by decide) (by omega) (by omega) (fun c24 => ?_) (fun c24 => ?_)
          · refine z_iconst dMod_meet_31 ?_
            refine z_iload_n dMod_meet_32 rfl ?_
            refine z_if_ne (tgt := 56) dMod_meet_33 (by decide) (by omega) (fun c33 => ?_) (fun c33 => ?_)
            · refine z_iconst dMod_meet_56 ?_
              refine z_callV MV_Mod_fails lk_Mod_88 dMod_meet_57 (k_Mod_fails (by assumption) rfl (by omega) (by omega) (by omega)) rfl rfl (Nat.le_of_ble_eq_true rfl) rfl (by assumption) (Nat.le_of_ble_eq_true rfl) (Nat.le_of_ble_eq_true rfl) (Nat.le_of_eq (Nat.zero_add _)) (Nat.le_of_eq (Nat.zero_add _)) (fun _ _ q => q.elim) ?_
              rintro _ h1 ⟨t9, b8, rfl, ht, p1, g1⟩
              have H1 : zMod G h1 ma S t9 := H.obj (nu := S.2.2.2.2) (th' := t9) p1 g1
              have fz1 : zMfr ma h h1 := zMfr.of0 g1
              obtain ⟨-, n2, ⟨gg, n3, n3a⟩, n4, ⟨f61, n5, n5a⟩, n6, n7⟩ := id H1
              unfold zMfs at n2
              refine z_if_eq (tgt := 65) dMod_meet_60 (by decide) (by omega) (fun c60 => ?_) (fun c60 => ?_)
              · first
                  | (exfalso; omega)
                  | (have et9 : t9 = 0 := by omega
                     subst et9
                     exact l_Mod_meet65 H1 fz1 hc ho (by omega) (by omega) (by omega) hO h16)
              · refine z_iconst dMod_meet_63 ?_
                refine z_iret rfl rfl dMod_meet_64 ?_
                rcases (show t9 = 0 ∨ t9 = 1 ∨ t9 = 2 ∨ t9 = 3 by omega) with t0 | t0 | t0 | t0
                all_goals first
                  | (exfalso; omega)
                  | exact zQm.ok H1 (by omega) (by assumption) (by unfold sp_meet; (try unfold spPut); (try simp only [Int.toNat_natCast]); (repeat (first | rw [if_pos (by omega)] | rw [if_neg (by omega)] | rw [if_pos (by assumption)] | rw [if_neg (by assumption)] | rw [if_pos (True.intro : True)])); (try (first | rfl | (congr 2; omega) | (congr 1; congr 1; omega))); done)
                  | exact zQm.b1 H1 (by omega) (by assumption) (by unfold sp_meet; (try unfold spPut); (try simp only [Int.toNat_natCast]); (repeat (first | rw [if_pos (by omega)] | rw [if_neg (by omega)] | rw [if_pos (by assumption)] | rw [if_neg (by assumption)] | rw [if_pos (True.intro : True)])); (try (first | rfl | (congr 2; omega) | (congr 1; congr 1; omega))); done)
                  | exact zQm.b2 H1 (by omega) (by assumption) (by unfold sp_meet; (try unfold spPut); (try simp only [Int.toNat_natCast]); (repeat (first | rw [if_pos (by omega)] | rw [if_neg (by omega)] | rw [if_pos (by assumption)] | rw [if_neg (by assumption)] | rw [if_pos (True.intro : True)])); (try (first | rfl | (congr 2; omega) | (congr 1; congr 1; omega))); done)
                  | exact zQm.b3 H1 (by omega) (by assumption) (by unfold sp_meet; (try unfold spPut); (try simp only [Int.toNat_natCast]); (repeat (first | rw [if_pos (by omega)] | rw [if_neg (by omega)] | rw [if_pos (by assumption)] | rw [if_neg (by assumption)] | rw [if_pos (True.intro : True)])); (try (first | rfl | (congr 2; omega) | (congr 1; congr 1; omega))); done)
            · refine z_aload_n dMod_meet_36 rfl ?_
              refine z_iload_n dMod_meet_37 rfl ?_
              refine z_callV MV_Mod_isNotThere lk_Mod_144 dMod_meet_38 (k_Mod_isNotThere H (by omega)) rfl rfl (Nat.le_of_ble_eq_true rfl) rfl (by assumption) (Nat.le_of_ble_eq_true rfl) (Nat.le_of_ble_eq_true rfl) (Nat.le_of_eq (Nat.zero_add _)) (Nat.le_of_eq (Nat.zero_add _)) (fun _ _ q => q.elim) ?_
              rintro _ _ ⟨t8a, rfl, ht8a, rfl⟩
              try simp only [Int.toNat_natCast] at ht8a
              refine z_if_ne (tgt := 52) dMod_meet_41 (by decide) (by omega) (fun c41 => ?_) (fun c41 => ?_)
              · refine z_iconst dMod_meet_52 ?_
                refine z_goto (tgt := 57) dMod_meet_53 (by decide) ?_
                refine z_callV MV_Mod_fails lk_Mod_88 dMod_meet_57 (k_Mod_fails (by assumption) rfl (by omega) (by omega) (by omega)) rfl rfl (Nat.le_of_ble_eq_true rfl) rfl (by assumption) (Nat.le_of_ble_eq_true rfl) (Nat.le_of_ble_eq_true rfl) (Nat.le_of_eq (Nat.zero_add _)) (Nat.le_of_eq (Nat.zero_add _)) (fun _ _ q => q.elim) ?_
                rintro _ h1 ⟨t9, b8, rfl, ht, p1, g1⟩
                have H1 : zMod G h1 ma S t9 := H.obj (nu := S.2.2.2.2) (th' := t9) p1 g1
                have fz1 : zMfr ma h h1 := zMfr.of0 g1
                obtain ⟨-, n2, ⟨gg, n3, n3a⟩, n4, ⟨f61, n5, n5a⟩, n6, n7⟩ := id H1
                unfold zMfs at n2
                refine z_if_eq (tgt := 65) dMod_meet_60 (by decide) (by omega) (fun c60 => ?_) (fun c60 => ?_)
                · first
                    | (exfalso; omega)
                    | (have et9 : t9 = 0 := by omega
                       subst et9
                       exact l_Mod_meet65 H1 fz1 hc ho (by omega) (by omega) (by omega) hO h16)
                · refine z_iconst dMod_meet_63 ?_
                  refine z_iret rfl rfl dMod_meet_64 ?_
                  rcases (show t9 = 0 ∨ t9 = 1 ∨ t9 = 2 ∨ t9 = 3 by omega) with t0 | t0 | t0 | t0
                  all_goals first
                    | (exfalso; omega)
                    | exact zQm.ok H1 (by omega) (by assumption) (by unfold sp_meet; (try unfold spPut); (try simp only [Int.toNat_natCast]); (repeat (first | rw [if_pos (by omega)] | rw [if_neg (by omega)] | rw [if_pos (by assumption)] | rw [if_neg (by assumption)] | rw [if_pos (True.intro : True)])); (try (first | rfl | (congr 2; omega) | (congr 1; congr 1; omega))); done)
                    | exact zQm.b1 H1 (by omega) (by assumption) (by unfold sp_meet; (try unfold spPut); (try simp only [Int.toNat_natCast]); (repeat (first | rw [if_pos (by omega)] | rw [if_neg (by omega)] | rw [if_pos (by assumption)] | rw [if_neg (by assumption)] | rw [if_pos (True.intro : True)])); (try (first | rfl | (congr 2; omega) | (congr 1; congr 1; omega))); done)
                    | exact zQm.b2 H1 (by omega) (by assumption) (by unfold sp_meet; (try unfold spPut); (try simp only [Int.toNat_natCast]); (repeat (first | rw [if_pos (by omega)] | rw [if_neg (by omega)] | rw [if_pos (by assumption)] | rw [if_neg (by assumption)] | rw [if_pos (True.intro : True)])); (try (first | rfl | (congr 2; omega) | (congr 1; congr 1; omega))); done)
                    | exact zQm.b3 H1 (by omega) (by assumption) (by unfold sp_meet; (try unfold spPut); (try simp only [Int.toNat_natCast]); (repeat (first | rw [if_pos (by omega)] | rw [if_neg (by omega)] | rw [if_pos (by assumption)] | rw [if_neg (by assumption)] | rw [if_pos (True.intro : True)])); (try (first | rfl | (congr 2; omega) | (congr 1; congr 1; omega))); done)
              · refine z_aload_n dMod_meet_44 rfl ?_
                refine z_iload_n dMod_meet_45 rfl ?_
                refine z_callV MV_Mod_isNotThere lk_Mod_144 dMod_meet_46 (k_Mod_isNotThere H (by omega)) rfl rfl (Nat.le_of_ble_eq_true rfl) rfl (by assumption) (Nat.le_of_ble_eq_true rfl) (Nat.le_of_ble_eq_true rfl) (Nat.le_of_eq (Nat.zero_add _)) (Nat.le_of_eq (Nat.zero_add _)) (fun _ _ q => q.elim) ?_
                rintro _ _ ⟨t8b, rfl, ht8b, rfl⟩
                try simp only [Int.toNat_natCast] at ht8b
                refine z_if_eq (tgt := 56) dMod_meet_49 (by decide) (by omega) (fun c49 => ?_) (fun c49 => ?_)
                · refine z_iconst dMod_meet_56 ?_
                  refine z_callV MV_Mod_fails lk_Mod_88 dMod_meet_57 (k_Mod_fails (by assumption) rfl (by omega) (by omega) (by omega)) rfl rfl (Nat.le_of_ble_eq_true rfl) rfl (by assumption) (Nat.le_of_ble_eq_true rfl) (Nat.le_of_ble_eq_true rfl) (Nat.le_of_eq (Nat.zero_add _)) (Nat.le_of_eq (Nat.zero_add _)) (fun _ _ q => q.elim) ?_
                  rintro _ h1 ⟨t9, b8, rfl, ht, p1, g1⟩
                  have H1 : zMod G h1 ma S t9 := H.obj (nu := S.2.2.2.2) (th' := t9) p1 g1
                  have fz1 : zMfr ma h h1 := zMfr.of0 g1
                  obtain ⟨-, n2, ⟨gg, n3, n3a⟩, n4, ⟨f61, n5, n5a⟩, n6, n7⟩ := id H1
                  unfold zMfs at n2
                  refine z_if_eq (tgt := 65) dMod_meet_60 (by decide) (by omega) (fun c60 => ?_) (fun c60 => ?_)
                  · first
                      | (exfalso; omega)
                      | (have et9 : t9 = 0 := by omega
                         subst et9
                         exact l_Mod_meet65 H1 fz1 hc ho (by omega) (by omega) (by omega) hO h16)
                  · refine z_iconst dMod_meet_63 ?_
                    refine z_iret rfl rfl dMod_meet_64 ?_
                    rcases (show t9 = 0 ∨ t9 = 1 ∨ t9 = 2 ∨ t9 = 3 by omega) with t0 | t0 | t0 | t0
                    all_goals first
                      | (exfalso; omega)
                      | exact zQm.ok H1 (by omega) (by assumption) (by unfold sp_meet; (try unfold spPut); (try simp only [Int.toNat_natCast]); (repeat (first | rw [if_pos (by omega)] | rw [if_neg (by omega)] | rw [if_pos (by assumption)] | rw [if_neg (by assumption)] | rw [if_pos (True.intro : True)])); (try (first | rfl | (congr 2; omega) | (congr 1; congr 1; omega))); done)
                      | exact zQm.b1 H1 (by omega) (by assumption) (by unfold sp_meet; (try unfold spPut); (try simp only [Int.toNat_natCast]); (repeat (first | rw [if_pos (by omega)] | rw [if_neg (by omega)] | rw [if_pos (by assumption)] | rw [if_neg (by assumption)] | rw [if_pos (True.intro : True)])); (try (first | rfl | (congr 2; omega) | (congr 1; congr 1; omega))); done)
                      | exact zQm.b2 H1 (by omega) (by assumption) (by unfold sp_meet; (try unfold spPut); (try simp only [Int.toNat_natCast]); (repeat (first | rw [if_pos (by omega)] | rw [if_neg (by omega)] | rw [if_pos (by assumption)] | rw [if_neg (by assumption)] | rw [if_pos (True.intro : True)])); (try (first | rfl | (congr 2; omega) | (congr 1; congr 1; omega))); done)
                      | exact zQm.b3 H1 (by omega) (by assumption) (by unfold sp_meet; (try unfold spPut); (try simp only [Int.toNat_natCast]); (repeat (first | rw [if_pos (by omega)] | rw [if_neg (by omega)] | rw [if_pos (by assumption)] | rw [if_neg (by assumption)] | rw [if_pos (True.intro : True)])); (try (first | rfl | (congr 2; omega) | (congr 1; congr 1; omega))); done)
                · refine z_iconst dMod_meet_52 ?_
                  refine z_goto (tgt := 57) dMod_meet_53 (by decide) ?_
                  refine z_callV MV_Mod_fails lk_Mod_88 dMod_meet_57 (k_Mod_fails (by assumption) rfl (by omega) (by omega) (by omega)) rfl rfl (Nat.le_of_ble_eq_true rfl) rfl (by assumption) (Nat.le_of_ble_eq_true rfl) (Nat.le_of_ble_eq_true rfl) (Nat.le_of_eq (Nat.zero_add _)) (Nat.le_of_eq (Nat.zero_add _)) (fun _ _ q => q.elim) ?_
                  rintro _ h1 ⟨t9, b8, rfl, ht, p1, g1⟩
                  have H1 : zMod G h1 ma S t9 := H.obj (nu := S.2.2.2.2) (th' := t9) p1 g1
                  have fz1 : zMfr ma h h1 := zMfr.of0 g1
                  obtain ⟨-, n2, ⟨gg, n3, n3a⟩, n4, ⟨f61, n5, n5a⟩, n6, n7⟩ := id H1
                  unfold zMfs at n2
                  refine z_if_eq (tgt := 65) dMod_meet_60 (by decide) (by omega) (fun c60 => ?_) (fun c60 => ?_)
                  · first
                      | (exfalso; omega)
                      | (have et9 : t9 = 0 := by omega
                         subst et9
                         exact l_Mod_meet65 H1 fz1 hc ho (by omega) (by omega) (by omega) hO h16)
                  · refine z_iconst dMod_meet_63 ?_
                    refine z_iret rfl rfl dMod_meet_64 ?_
                    rcases (show t9 = 0 ∨ t9 = 1 ∨ t9 = 2 ∨ t9 = 3 by omega) with t0 | t0 | t0 | t0
                    all_goals first
                      | (exfalso; omega)
                      | exact zQm.ok H1 (by omega) (by assumption) (by unfold sp_meet; (try unfold spPut); (try simp only [Int.toNat_natCast]); (repeat (first | rw [if_pos (by omega)] | rw [if_neg (by omega)] | rw [if_pos (by assumption)] | rw [if_neg (by assumption)] | rw [if_pos (True.intro : True)])); (try (first | rfl | (congr 2; omega) | (congr 1; congr 1; omega))); done)
                      | exact zQm.b1 H1 (by omega) (by assumption) (by unfold sp_meet; (try unfold spPut); (try simp only [Int.toNat_natCast]); (repeat (first | rw [if_pos (by omega)] | rw [if_neg (by omega)] | rw [if_pos (by assumption)] | rw [if_neg (by assumption)] | rw [if_pos (True.intro : True)])); (try (first | rfl | (congr 2; omega) | (congr 1; congr 1; omega))); done)
                      | exact zQm.b2 H1 (by omega) (by assumption) (by unfold sp_meet; (try unfold spPut); (try simp only [Int.toNat_natCast]); (repeat (first | rw [if_pos (by omega)] | rw [if_neg (by omega)] | rw [if_pos (by assumption)] | rw [if_neg (by assumption)] | rw [if_pos (True.intro : True)])); (try (first | rfl | (congr 2; omega) | (congr 1; congr 1; omega))); done)
                      | exact zQm.b3 H1 (by omega) (by assumption) (by unfold sp_meet; (try unfold spPut); (try simp only [Int.toNat_natCast]); (repeat (first | rw [if_pos (by omega)] | rw [if_neg (by omega)] | rw [if_pos (by assumption)] | rw [if_neg (by assumption)] | rw [if_pos (True.intro : True)])); (try (first | rfl | (congr 2; omega) | (congr 1; congr 1; omega))); done)
          · refine z_iconst dMod_meet_27 ?_
            refine z_goto (tgt := 32) dMod_meet_28 (by decide) ?_
            refine z_iload_n dMod_meet_32 rfl ?_
            refine z_if_ne (tgt := 56) dMod_meet_33 (by decide) (by omega) (fun c33 => ?_) (fun c33 => ?_)
            · refine z_iconst dMod_meet_56 ?_
              refine z_callV MV_Mod_fails lk_Mod_88 dMod_meet_57 (k_Mod_fails (by assumption) rfl (by omega) (by omega) (by omega)) rfl rfl (Nat.le_of_ble_eq_true rfl) rfl (by assumption) (Nat.le_of_ble_eq_true rfl) (Nat.le_of_ble_eq_true rfl) (Nat.le_of_eq (Nat.zero_add _)) (Nat.le_of_eq (Nat.zero_add _)) (fun _ _ q => q.elim) ?_
              rintro _ h1 ⟨t9, b8, rfl, ht, p1, g1⟩
              have H1 : zMod G h1 ma S t9 := H.obj (nu := S.2.2.2.2) (th' := t9) p1 g1
              have fz1 : zMfr ma h h1 := zMfr.of0 g1
              obtain ⟨-, n2, ⟨gg, n3, n3a⟩, n4, ⟨f61, n5, n5a⟩, n6, n7⟩ := id H1
              unfold zMfs at n2
              refine z_if_eq (tgt := 65) dMod_meet_60 (by decide) (by omega) (fun c60 => ?_) (fun c60 => ?_)
              · first
                  | (exfalso; omega)
                  | (have et9 : t9 = 0 := by omega
                     subst et9
                     exact l_Mod_meet65 H1 fz1 hc ho (by omega) (by omega) (by omega) hO h16)
              · refine z_iconst dMod_meet_63 ?_
                refine z_iret rfl rfl dMod_meet_64 ?_
                rcases (show t9 = 0 ∨ t9 = 1 ∨ t9 = 2 ∨ t9 = 3 by omega) with t0 | t0 | t0 | t0
                all_goals first
                  | (exfalso; omega)
                  | exact zQm.ok H1 (by omega) (by assumption) (by unfold sp_meet; (try unfold spPut); (try simp only [Int.toNat_natCast]); (repeat (first | rw [if_pos (by omega)] | rw [if_neg (by omega)] | rw [if_pos (by assumption)] | rw [if_neg (by assumption)] | rw [if_pos (True.intro : True)])); (try (first | rfl | (congr 2; omega) | (congr 1; congr 1; omega))); done)
                  | exact zQm.b1 H1 (by omega) (by assumption) (by unfold sp_meet; (try unfold spPut); (try simp only [Int.toNat_natCast]); (repeat (first | rw [if_pos (by omega)] | rw [if_neg (by omega)] | rw [if_pos (by assumption)] | rw [if_neg (by assumption)] | rw [if_pos (True.intro : True)])); (try (first | rfl | (congr 2; omega) | (congr 1; congr 1; omega))); done)
                  | exact zQm.b2 H1 (by omega) (by assumption) (by unfold sp_meet; (try unfold spPut); (try simp only [Int.toNat_natCast]); (repeat (first | rw [if_pos (by omega)] | rw [if_neg (by omega)] | rw [if_pos (by assumption)] | rw [if_neg (by assumption)] | rw [if_pos (True.intro : True)])); (try (first | rfl | (congr 2; omega) | (congr 1; congr 1; omega))); done)
                  | exact zQm.b3 H1 (by omega) (by assumption) (by unfold sp_meet; (try unfold spPut); (try simp only [Int.toNat_natCast]); (repeat (first | rw [if_pos (by omega)] | rw [if_neg (by omega)] | rw [if_pos (by assumption)] | rw [if_neg (by assumption)] | rw [if_pos (True.intro : True)])); (try (first | rfl | (congr 2; omega) | (congr 1; congr 1; omega))); done)
            · refine z_aload_n dMod_meet_36 rfl ?_
              refine z_iload_n dMod_meet_37 rfl ?_
              refine z_callV MV_Mod_isNotThere lk_Mod_144 dMod_meet_38 (k_Mod_isNotThere H (by omega)) rfl rfl (Nat.le_of_ble_eq_true rfl) rfl (by assumption) (Nat.le_of_ble_eq_true rfl) (Nat.le_of_ble_eq_true rfl) (Nat.le_of_eq (Nat.zero_add _)) (Nat.le_of_eq (Nat.zero_add _)) (fun _ _ q => q.elim) ?_
              rintro _ _ ⟨t8a, rfl, ht8a, rfl⟩
              try simp only [Int.toNat_natCast] at ht8a
              refine z_if_ne (tgt := 52) dMod_meet_41 (by decide) (by omega) (fun c41 => ?_) (fun c41 => ?_)
              · refine z_iconst dMod_meet_52 ?_
                refine z_goto (tgt := 57) dMod_meet_53 (by decide) ?_
                refine z_callV MV_Mod_fails lk_Mod_88 dMod_meet_57 (k_Mod_fails (by assumption) rfl (by omega) (by omega) (by omega)) rfl rfl (Nat.le_of_ble_eq_true rfl) rfl (by assumption) (Nat.le_of_ble_eq_true rfl) (Nat.le_of_ble_eq_true rfl) (Nat.le_of_eq (Nat.zero_add _)) (Nat.le_of_eq (Nat.zero_add _)) (fun _ _ q => q.elim) ?_
                rintro _ h1 ⟨t9, b8, rfl, ht, p1, g1⟩
                have H1 : zMod G h1 ma S t9 := H.obj (nu := S.2.2.2.2) (th' := t9) p1 g1
                have fz1 : zMfr ma h h1 := zMfr.of0 g1
                obtain ⟨-, n2, ⟨gg, n3, n3a⟩, n4, ⟨f61, n5, n5a⟩, n6, n7⟩ := id H1
                unfold zMfs at n2
                refine z_if_eq (tgt := 65) dMod_meet_60 (by decide) (by omega) (fun c60 => ?_) (fun c60 => ?_)
                · first
                    | (exfalso; omega)
                    | (have et9 : t9 = 0 := by omega
                       subst et9
                       exact l_Mod_meet65 H1 fz1 hc ho (by omega) (by omega) (by omega) hO h16)
                · refine z_iconst dMod_meet_63 ?_
                  refine z_iret rfl rfl dMod_meet_64 ?_
                  rcases (show t9 = 0 ∨ t9 = 1 ∨ t9 = 2 ∨ t9 = 3 by omega) with t0 | t0 | t0 | t0
                  all_goals first
                    | (exfalso; omega)
                    | exact zQm.ok H1 (by omega) (by assumption) (by unfold sp_meet; (try unfold spPut); (try simp only [Int.toNat_natCast]); (repeat (first | rw [if_pos (by omega)] | rw [if_neg (by omega)] | rw [if_pos (by assumption)] | rw [if_neg (by assumption)] | rw [if_pos (True.intro : True)])); (try (first | rfl | (congr 2; omega) | (congr 1; congr 1; omega))); done)
                    | exact zQm.b1 H1 (by omega) (by assumption) (by unfold sp_meet; (try unfold spPut); (try simp only [Int.toNat_natCast]); (repeat (first | rw [if_pos (by omega)] | rw [if_neg (by omega)] | rw [if_pos (by assumption)] | rw [if_neg (by assumption)] | rw [if_pos (True.intro : True)])); (try (first | rfl | (congr 2; omega) | (congr 1; congr 1; omega))); done)
                    | exact zQm.b2 H1 (by omega) (by assumption) (by unfold sp_meet; (try unfold spPut); (try simp only [Int.toNat_natCast]); (repeat (first | rw [if_pos (by omega)] | rw [if_neg (by omega)] | rw [if_pos (by assumption)] | rw [if_neg (by assumption)] | rw [if_pos (True.intro : True)])); (try (first | rfl | (congr 2; omega) | (congr 1; congr 1; omega))); done)
                    | exact zQm.b3 H1 (by omega) (by assumption) (by unfold sp_meet; (try unfold spPut); (try simp only [Int.toNat_natCast]); (repeat (first | rw [if_pos (by omega)] | rw [if_neg (by omega)] | rw [if_pos (by assumption)] | rw [if_neg (by assumption)] | rw [if_pos (True.intro : True)])); (try (first | rfl | (congr 2; omega) | (congr 1; congr 1; omega))); done)
              · refine z_aload_n dMod_meet_44 rfl ?_
                refine z_iload_n dMod_meet_45 rfl ?_
                refine z_callV MV_Mod_isNotThere lk_Mod_144 dMod_meet_46 (k_Mod_isNotThere H (by omega)) rfl rfl (Nat.le_of_ble_eq_true rfl) rfl (by assumption) (Nat.le_of_ble_eq_true rfl) (Nat.le_of_ble_eq_true rfl) (Nat.le_of_eq (Nat.zero_add _)) (Nat.le_of_eq (Nat.zero_add _)) (fun _ _ q => q.elim) ?_
                rintro _ _ ⟨t8b, rfl, ht8b, rfl⟩
                try simp only [Int.toNat_natCast] at ht8b
                refine z_if_eq (tgt := 56) dMod_meet_49 (by decide) (by omega) (fun c49 => ?_) (fun c49 => ?_)
                · refine z_iconst dMod_meet_56 ?_
                  refine z_callV MV_Mod_fails lk_Mod_88 dMod_meet_57 (k_Mod_fails (by assumption) rfl (by omega) (by omega) (by omega)) rfl rfl (Nat.le_of_ble_eq_true rfl) rfl (by assumption) (Nat.le_of_ble_eq_true rfl) (Nat.le_of_ble_eq_true rfl) (Nat.le_of_eq (Nat.zero_add _)) (Nat.le_of_eq (Nat.zero_add _)) (fun _ _ q => q.elim) ?_
                  rintro _ h1 ⟨t9, b8, rfl, ht, p1, g1⟩
                  have H1 : zMod G h1 ma S t9 := H.obj (nu := S.2.2.2.2) (th' := t9) p1 g1
                  have fz1 : zMfr ma h h1 := zMfr.of0 g1
                  obtain ⟨-, n2, ⟨gg, n3, n3a⟩, n4, ⟨f61, n5, n5a⟩, n6, n7⟩ := id H1
                  unfold zMfs at n2
                  refine z_if_eq (tgt := 65) dMod_meet_60 (by decide) (by omega) (fun c60 => ?_) (fun c60 => ?_)
                  · first
                      | (exfalso; omega)
                      | (have et9 : t9 = 0 := by omega
                         subst et9
                         exact l_Mod_meet65 H1 fz1 hc ho (by omega) (by omega) (by omega) hO h16)
                  · refine z_iconst dMod_meet_63 ?_
                    refine z_iret rfl rfl dMod_meet_64 ?_
                    rcases (show t9 = 0 ∨ t9 = 1 ∨ t9 = 2 ∨ t9 = 3 by omega) with t0 | t0 | t0 | t0
                    all_goals first
                      | (exfalso; omega)
                      | exact zQm.ok H1 (by omega) (by assumption) (by unfold sp_meet; (try unfold spPut); (try simp only [Int.toNat_natCast]); (repeat (first | rw [if_pos (by omega)] | rw [if_neg (by omega)] | rw [if_pos (by assumption)] | rw [if_neg (by assumption)] | rw [if_pos (True.intro : True)])); (try (first | rfl | (congr 2; omega) | (congr 1; congr 1; omega))); done)
                      | exact zQm.b1 H1 (by omega) (by assumption) (by unfold sp_meet; (try unfold spPut); (try simp only [Int.toNat_natCast]); (repeat (first | rw [if_pos (by omega)] | rw [if_neg (by omega)] | rw [if_pos (by assumption)] | rw [if_neg (by assumption)] | rw [if_pos (True.intro : True)])); (try (first | rfl | (congr 2; omega) | (congr 1; congr 1; omega))); done)
                      | exact zQm.b2 H1 (by omega) (by assumption) (by unfold sp_meet; (try unfold spPut); (try simp only [Int.toNat_natCast]); (repeat (first | rw [if_pos (by omega)] | rw [if_neg (by omega)] | rw [if_pos (by assumption)] | rw [if_neg (by assumption)] | rw [if_pos (True.intro : True)])); (try (first | rfl | (congr 2; omega) | (congr 1; congr 1; omega))); done)
                      | exact zQm.b3 H1 (by omega) (by assumption) (by unfold sp_meet; (try unfold spPut); (try simp only [Int.toNat_natCast]); (repeat (first | rw [if_pos (by omega)] | rw [if_neg (by omega)] | rw [if_pos (by assumption)] | rw [if_neg (by assumption)] | rw [if_pos (True.intro : True)])); (try (first | rfl | (congr 2; omega) | (congr 1; congr 1; omega))); done)
                · refine z_iconst dMod_meet_52 ?_
                  refine z_goto (tgt := 57) dMod_meet_53 (by decide) ?_
                  refine z_callV MV_Mod_fails lk_Mod_88 dMod_meet_57 (k_Mod_fails (by assumption) rfl (by omega) (by omega) (by omega)) rfl rfl (Nat.le_of_ble_eq_true rfl) rfl (by assumption) (Nat.le_of_ble_eq_true rfl) (Nat.le_of_ble_eq_true rfl) (Nat.le_of_eq (Nat.zero_add _)) (Nat.le_of_eq (Nat.zero_add _)) (fun _ _ q => q.elim) ?_
                  rintro _ h1 ⟨t9, b8, rfl, ht, p1, g1⟩
                  have H1 : zMod G h1 ma S t9 := H.obj (nu := S.2.2.2.2) (th' := t9) p1 g1
                  have fz1 : zMfr ma h h1 := zMfr.of0 g1
                  obtain ⟨-, n2, ⟨gg, n3, n3a⟩, n4, ⟨f61, n5, n5a⟩, n6, n7⟩ := id H1
                  unfold zMfs at n2
                  refine z_if_eq (tgt := 65) dMod_meet_60 (by decide) (by omega) (fun c60 => ?_) (fun c60 => ?_)
                  · first
                      | (exfalso; omega)
                      | (have et9 : t9 = 0 := by omega
                         subst et9
                         exact l_Mod_meet65 H1 fz1 hc ho (by omega) (by omega) (by omega) hO h16)
                  · refine z_iconst dMod_meet_63 ?_
                    refine z_iret rfl rfl dMod_meet_64 ?_
                    rcases (show t9 = 0 ∨ t9 = 1 ∨ t9 = 2 ∨ t9 = 3 by omega) with t0 | t0 | t0 | t0
                    all_goals first
                      | (exfalso; omega)
                      | exact zQm.ok H1 (by omega) (by assumption) (by unfold sp_meet; (try unfold spPut); (try simp only [Int.toNat_natCast]); (repeat (first | rw [if_pos (by omega)] | rw [if_neg (by omega)] | rw [if_pos (by assumption)] | rw [if_neg (by assumption)] | rw [if_pos (True.intro : True)])); (try (first | rfl | (congr 2; omega) | (congr 1; congr 1; omega))); done)
                      | exact zQm.b1 H1 (by omega) (by assumption) (by unfold sp_meet; (try unfold spPut); (try simp only [Int.toNat_natCast]); (repeat (first | rw [if_pos (by omega)] | rw [if_neg (by omega)] | rw [if_pos (by assumption)] | rw [if_neg (by assumption)] | rw [if_pos (True.intro : True)])); (try (first | rfl | (congr 2; omega) | (congr 1; congr 1; omega))); done)
                      | exact zQm.b2 H1 (by omega) (by assumption) (by unfold sp_meet; (try unfold spPut); (try simp only [Int.toNat_natCast]); (repeat (first | rw [if_pos (by omega)] | rw [if_neg (by omega)] | rw [if_pos (by assumption)] | rw [if_neg (by assumption)] | rw [if_pos (True.intro : True)])); (try (first | rfl | (congr 2; omega) | (congr 1; congr 1; omega))); done)
                      | exact zQm.b3 H1 (by omega) (by assumption) (by unfold sp_meet; (try unfold spPut); (try simp only [Int.toNat_natCast]); (repeat (first | rw [if_pos (by omega)] | rw [if_neg (by omega)] | rw [if_pos (by assumption)] | rw [if_neg (by assumption)] | rw [if_pos (True.intro : True)])); (try (first | rfl | (congr 2; omega) | (congr 1; congr 1; omega))); done)
        · exfalso; omega
end MOD16
end
section
section MOD17
variable {G : zG} {l : Launch} {h h' h'' : zHp} {ma : Nat → Nat} {S : zSt} {th : Int}
theorem z_alenL {J : zJ} {bc bs pc a n : Nat} {f : Nat → Int} {ls : List (Option Value)} {st : List Value} (hd : decode J.1.2.1 pc = .ok (.arraylength, 1)) (hh : h a = some (zLongs G n f)) (kk : zR G l J bc bs h (pc + 1) ls (zi (n : Int) :: st)) : zR G l J bc bs h pc ls (.ref a :: st) := z_alen (i := 3) rfl hd hh kk
theorem z_newL {J : zJ} {bc bs pc : Nat} {n : Nat} {ls : List (Option Value)} {st : List Value} {bc' bs' : Nat} {m : Int} (hm : m = n) (hd : decode J.1.2.1 pc = .ok (.newarray .long, 2)) (hn : n ≤ 1000) (hb1 : bc' + 1 ≤ bc) (hb2 : bs' + n ≤ bs)
    (kk : ∀ (q : Nat) (h1 : zHp), zDm h q → G.2.2 ≤ q → h1 q = some (zLongs G n (fun _ => 0)) → (∀ x, x ≠ q → h1 x = h x) → zR G l J bc' bs' h1 (pc + 2) ls (.ref q :: st)) : zR G l J bc bs h pc ls (zi m :: st) := by
  subst hm
  refine z_newa (at9 := .long) (ty := .long) (t := 3) (x := .inr (.inl (fun _ => zL 0))) rfl trivial rfl ac_long (fun cA => by rw [vp_cell_l]; rfl) ⟨by omega, by rw [Int.toNat_natCast]; show n * 8 ≤ 536870912; omega, by omega⟩ hd hb1 (by rw [Int.toNat_natCast]; exact hb2) (fun q hq hg => ?_)
  rw [Int.toNat_natCast]
  exact kk q _ hq hg (zup_same _ _ _) (fun x hx => zup_ne hx)
def zSg (a b : Int) : Int := if b < a then 1 else if a = b then 0 else -1
theorem zSg_spec (a b : Int) : (zSg a b < 0 ↔ a < b) ∧ (0 < zSg a b ↔ b < a) ∧ -1 ≤ zSg a b ∧ zSg a b ≤ 1 := by
  unfold zSg
  split
  · omega
  · split <;> omega
abbrev zI64 (a : Int) : Prop := -9223372036854775808 ≤ a ∧ a ≤ 9223372036854775807
theorem z_lcmpI {J : zJ} {bc bs pc : Nat} {a b : Int} {ls : List (Option Value)} {st : List Value} (ha : zI64 a) (hb : zI64 b) (hd : decode J.1.2.1 pc = .ok (.lcmp, 1)) (k : zR G l J bc bs h (pc + 1) ls (zi (zSg a b) :: st)) : zR G l J bc bs h pc ls (zl b :: zl a :: st) := by
  refine z_lcmp hd ?_
  have e : lg_cmp (zL a) (zL b) = zI (zSg a b) := by
    unfold lg_cmp zSg
    by_cases c : b < a
    · rw [if_pos ((zL_lt hb ha).mpr c), if_pos c]; rfl
    · rw [if_neg (fun q => c ((zL_lt hb ha).mp q)), if_neg c]
      by_cases c2 : a = b
      · rw [if_pos ((zL_eq ha hb).mpr c2), if_pos c2]; rfl
      · rw [if_neg (fun q => c2 ((zL_eq ha hb).mp q)), if_neg c2]; rfl
  rw [e]
  exact k
theorem zmk_congr {n : Nat} {f g : Nat → Int} (e : ∀ j, j < n → f j = g j) : zmk n f = zmk n g := by
  apply zl_ext (by rw [zmk_len, zmk_len])
  intro j hj
  rw [zmk_len] at hj
  rw [zmk_at _ hj, zmk_at _ hj, e j hj]
theorem zAt_ge {L : List Int} {j : Nat} (h : L.length ≤ j) : zAt L (j : Int) = 0 := by
  unfold zAt
  rw [if_neg (by omega)]
theorem zAt_lt {L : List Int} {j : Nat} (h : j < L.length) : zAt L (j : Int) = L.getD j 0 := by
  unfold zAt
  rw [if_pos (by omega), Int.toNat_natCast]
theorem l_Mod_fitting {a n : Nat} {g g0 : Nat → Int} {q : Nat} (e : h a = some (zLongs G n g)) (hn : n ≤ 16) (hr : ∀ j, j < n → zI64 (g j) ∧ g j = g0 j) (hq : zDm h q) (gq : G.2.2 ≤ q) :
    ∀ (n9 m : Nat) (h1 : zHp) (f : Nat → Int), n - m < n9 → m ≤ n → h1 q = some (zInts G n f) → (∀ j, j < m → zIn (g0 j) ∧ f j = g0 j) → (∀ z, z ≠ q → h1 z = h z) →
      zR G l (zMJ G hMod_fitting 1 (fun v h' => (¬ (n ≤ 16 ∧ ∀ j : Nat, j < n → zIn (g0 j)) ∧ v = some .null ∧ zExt h h') ∨ ((n ≤ 16 ∧ ∀ j : Nat, j < n → zIn (g0 j)) ∧ ∃ q, v = some (.ref q) ∧ zDm h q ∧ G.2.2 ≤ q ∧ zAr G h' q (zmk n g0) ∧ zExt h h')) zNo 1 16) 0 0 h1 16 [some (.ref a), some (.ref q), some (zi (m : Int))] [] := by
  intro n9
  induction n9 with
  | zero => intro m h1 f x1 x2 e1 e2 hf; omega
  | succ n9 ih =>
  intro m h1 f x1 x2 e1 e2 hf
  have haq : a ≠ q := Nat.ne_of_lt (hq a _ e)
  have ea := (hf a haq).trans e
  refine z_iload_n dMod_fitting_16 rfl ?_
  refine z_aload_n dMod_fitting_17 rfl ?_
  refine z_alenI dMod_fitting_18 (by assumption) ?_
  refine z_icmp_ge (tgt := 57) dMod_fitting_19 (by decide) (by omega) (by omega) (fun c19 => ?_) (fun c19 => ?_)
  · refine z_aload_n dMod_fitting_57 rfl ?_
    refine z_aret rfl (Or.inr ⟨_, rfl⟩) (Or.inr ⟨_, rfl⟩) dMod_fitting_58 ?_
    have em : m = n := by omega
    subst em
    exact Or.inr ⟨⟨hn, fun j hj => (e2 j hj).1⟩, q, rfl, hq, gq, ⟨f, by rw [zmk_len]; exact e1, by rw [zmk_len]; omega, fun j hj => by rw [zmk_len] at hj; rw [zmk_at _ hj]; exact (e2 j hj).2, fun j hj => by rw [zmk_len] at hj; rw [zmk_at _ hj]; exact (e2 j hj).1⟩, zExt.new hq hf⟩
  · refine z_aload_n dMod_fitting_22 rfl ?_
    refine z_iload_n dMod_fitting_23 rfl ?_
    refine z_lald dMod_fitting_24 (by assumption) (by refine ⟨?_, ?_, ?_⟩ <;> omega) ?_
    rw [Int.toNat_natCast]
    refine z_ldc2 (v := (-9999 : Int64)) dMod_fitting_25 (-9999) (by decide) ct_Mod_158 ?_
    refine z_lcmpI (hr m (by omega)).1 (by omega) dMod_fitting_28 ?_
    have hs28 := zSg_spec (g m) (-9999)
    refine z_if_lt (tgt := 42) dMod_fitting_29 (by decide) (by omega) (fun c29 => ?_) (fun c29 => ?_)
    · refine z_null dMod_fitting_42 ?_
      refine z_aret rfl (Or.inr ⟨_, rfl⟩) (Or.inl rfl) dMod_fitting_43 ?_
      exact Or.inl ⟨fun c => by have c2 := c.2 m (by omega); have c3 := (hr m (by omega)).2; omega, rfl, zExt.new hq hf⟩
    · refine z_aload_n dMod_fitting_32 rfl ?_
      refine z_iload_n dMod_fitting_33 rfl ?_
      refine z_lald dMod_fitting_34 (by assumption) (by refine ⟨?_, ?_, ?_⟩ <;> omega) ?_
      rw [Int.toNat_natCast]
      refine z_ldc2 (v := (9999 : Int64)) dMod_fitting_35 (9999) (by decide) ct_Mod_160 ?_
      refine z_lcmpI (hr m (by omega)).1 (by omega) dMod_fitting_38 ?_
      have hs38 := zSg_spec (g m) 9999
      refine z_if_le (tgt := 44) dMod_fitting_39 (by decide) (by omega) (fun c39 => ?_) (fun c39 => ?_)
      · refine z_aload_n dMod_fitting_44 rfl ?_
        refine z_iload_n dMod_fitting_45 rfl ?_
        refine z_aload_n dMod_fitting_46 rfl ?_
        refine z_iload_n dMod_fitting_47 rfl ?_
        refine z_lald dMod_fitting_48 (by assumption) (by refine ⟨?_, ?_, ?_⟩ <;> omega) ?_
        rw [Int.toNat_natCast]
        refine z_l2i dMod_fitting_49 ?_
        refine z_iast dMod_fitting_50 (by assumption) (by refine ⟨?_, ?_, ?_⟩ <;> omega) ?_
        refine z_hx (fun h2 p2 f2 => ?_)
        rw [Int.toNat_natCast] at p2
        have hrm := (hr m (by omega)).2
        refine z_iinc dMod_fitting_51 rfl (Nat.le_of_ble_eq_true rfl) ?_
        refine z_goto (tgt := 16) dMod_fitting_54 (by decide) ?_
        refine ih (m + 1) h2 _ (by omega) (by omega) p2 (fun t ht => ?_) (fun z hz => (f2 z hz).trans (hf z hz))
        by_cases e9 : t = m
        · subst e9
          rw [zup_same]
          exact ⟨by omega, hrm⟩
        · rw [zup_ne e9]
          exact e2 t (by omega)
      · refine z_null dMod_fitting_42 ?_
        refine z_aret rfl (Or.inr ⟨_, rfl⟩) (Or.inl rfl) dMod_fitting_43 ?_
        exact Or.inl ⟨fun c => by have c2 := c.2 m (by omega); have c3 := (hr m (by omega)).2; omega, rfl, zExt.new hq hf⟩
theorem k_Mod_fitting {a n : Nat} {g g0 : Nat → Int} (e : h a = some (zLongs G n g)) (hn : n ≤ 99) (hr : ∀ j, j < n → zI64 (g j) ∧ g j = g0 j) : zM G l hMod_fitting yMod_fitting 1 [.ref a] h (fun v h' => (¬ (n ≤ 16 ∧ ∀ j : Nat, j < n → zIn (g0 j)) ∧ v = some .null ∧ zExt h h') ∨ ((n ≤ 16 ∧ ∀ j : Nat, j < n → zIn (g0 j)) ∧ ∃ q, v = some (.ref q) ∧ zDm h q ∧ G.2.2 ≤ q ∧ zAr G h' q (zmk n g0) ∧ zExt h h')) zNo 1 16 := by
  refine zM.of [some (.ref a), none, none] (by decide +kernel) rfl (by decide) rfl (Nat.le_of_ble_eq_true rfl) rfl ?_
  refine z_aload_n dMod_fitting_0 rfl ?_
  refine z_alenL dMod_fitting_1 e ?_
  refine z_bipush dMod_fitting_2 rfl ?_
  refine z_icmp_le (tgt := 9) dMod_fitting_4 (by decide) (by omega) (by omega) (fun c4 => ?_) (fun c4 => ?_)
  · refine z_aload_n dMod_fitting_9 rfl ?_
    refine z_alenL dMod_fitting_10 e ?_
    refine z_newI (n := n) (bc' := 0) (bs' := 0) rfl dMod_fitting_11 (by omega) (by decide) (by omega) (fun q h1 hq gq e1 f1 => ?_)
    refine z_astore_n dMod_fitting_13 (Nat.le_of_ble_eq_true rfl) ?_
    refine z_iconst dMod_fitting_14 ?_
    refine z_istore_n dMod_fitting_15 (Nat.le_of_ble_eq_true rfl) ?_
    exact l_Mod_fitting e (by omega) hr hq gq (n + 1) 0 h1 _ (by omega) (by omega) e1 (fun j hj => absurd hj (by omega)) f1
  · refine z_null dMod_fitting_7 ?_
    refine z_aret rfl (Or.inr ⟨_, rfl⟩) (Or.inl rfl) dMod_fitting_8 ?_
    exact Or.inl ⟨fun c => by omega, rfl, zExt.rf⟩
theorem k_Mod_fits {k a n : Nat} {g g0 : Nat → Int} (H : zMod G h ma S th) (hk : k < 4) (e : h a = some (zLongs G n g)) (hn : n ≤ 99) (hr : ∀ j, j < n → zI64 (g j) ∧ g j = g0 j) : zM G l hMod_fits yMod_fits 3 [.ref (ma 0), zi (k : Int), .ref a] h (fun v h' => zMfr ma h h' ∧ (((n ≤ 16 ∧ ∀ j : Nat, j < n → zIn (g0 j)) ∧ v = some (zi ((zmk n g0).length : Int)) ∧ ∃ q9, (zDm h q9 ∧ G.2.2 ≤ q9) ∧ zMod G h' (zup ma (8 + k) q9) (zsStale (zsL S k (zmk n g0)) k (-1)) th) ∨ (¬ (n ≤ 16 ∧ ∀ j : Nat, j < n → zIn (g0 j)) ∧ v = some (zi (-1000009)) ∧ zMod G h' ma (zsRef S) th))) zNo 1 16 := by
  obtain ⟨m1, m2, ⟨g, m3, m3a⟩, m4, ⟨f6, m5, m5a⟩, m6, m7⟩ := id H
  unfold zMfs at m2
  refine zM.of [some (.ref (ma 0)), some (zi (k : Int)), some (.ref a), none] (by decide +kernel) rfl (by decide) rfl (Nat.le_of_ble_eq_true rfl) rfl ?_
  refine z_aload_n dMod_fits_0 rfl ?_
  refine z_callS (bc' := 0) (bs' := 0) MS_Mod_fitting lk_Mod_162 dMod_fits_1 (k_Mod_fitting (g0 := g0) e hn hr) rfl rfl (Nat.le_of_ble_eq_true rfl)  (Nat.le_of_ble_eq_true rfl) (Nat.le_of_ble_eq_true rfl) (by decide) (by decide) (fun _ _ q => q.elim) ?_
  rintro _ h2 (⟨hno, rfl, hx2⟩ | ⟨hyes, q2, rfl, hq2, gq2, r2, hx2⟩)
  all_goals have H2 : zMod G h2 ma S th := H.ext hx2
  all_goals have oc2 := H2.2.1
  · refine z_astore_nN dMod_fits_4 (Nat.le_of_ble_eq_true rfl) ?_
    refine z_aload_nN dMod_fits_5 rfl ?_
    refine z_ifnonnullN dMod_fits_6 ?_
    refine z_aload_n dMod_fits_9 rfl ?_
    refine z_callV MV_Mod_refused lk_Mod_92 dMod_fits_10 (k_Mod_refused oc2 rfl rfl) rfl rfl (Nat.le_of_ble_eq_true rfl) rfl (by assumption) (Nat.le_of_ble_eq_true rfl) (Nat.le_of_ble_eq_true rfl) (Nat.le_of_eq (Nat.zero_add _)) (Nat.le_of_eq (Nat.zero_add _)) (fun _ _ q => q.elim) ?_
    rintro _ h3 ⟨rfl, p3, g3⟩
    have H3 : zMod G h3 ma (zsRef S) th := H2.obj (nu := zup S.2.2.2.2 1 (S.2.2.2.2 1 + 1)) p3 g3
    refine z_goto (tgt := 22) dMod_fits_13 (by decide) ?_
    refine z_iret rfl rfl dMod_fits_22 ?_
    exact ⟨(zMfr.ext hx2).tr (zMfr.of0 g3), Or.inr ⟨hno, rfl, H3⟩⟩
  · refine z_astore_n dMod_fits_4 (Nat.le_of_ble_eq_true rfl) ?_
    refine z_aload_n dMod_fits_5 rfl ?_
    refine z_ifnonnull (tgt := 16) dMod_fits_6 (by decide) ?_
    refine z_aload_n dMod_fits_16 rfl ?_
    refine z_iload_n dMod_fits_17 rfl ?_
    refine z_aload_n dMod_fits_18 rfl ?_
    refine z_callV MV_Mod_becomes lk_Mod_95 dMod_fits_19 (k_Mod_becomes H2 hk r2 (fun i hi _ => H.nq hq2 hi)) rfl rfl (Nat.le_of_ble_eq_true rfl) rfl (by assumption) (Nat.le_of_ble_eq_true rfl) (Nat.le_of_ble_eq_true rfl) (Nat.le_of_eq (Nat.zero_add _)) (Nat.le_of_eq (Nat.zero_add _)) (fun _ _ q => q.elim) ?_
    rintro _ h3 ⟨rfl, H3, F3⟩
    refine z_iret rfl rfl dMod_fits_22 ?_
    exact ⟨(zMfr.ext hx2).tr (zMfr.bec F3), Or.inl ⟨hyes, rfl, q2, ⟨hq2, gq2⟩, H3⟩⟩
theorem l_Mod_derive {mc ms bc bs : Nat} {Qn : Option Value → zHp → Prop} {Qx : String → zHp → Prop} {k q : Nat} (H : zMod G h ma S th) (hq : zDm h q) (hk : k < 4) (h16 : ∀ k, k < 4 → (S.1 k).length ≤ 16)
    (K : ∀ (h1 : zHp) (f : Nat → Int) y, h1 q = some (zLongs G ((S.1 k).length - 1) f) → (∀ j, j < (S.1 k).length - 1 → zI64 (f j) ∧ f j = (fun j => (S.1 k).getD (j + 1) 0 * ((j : Int) + 1)) j) → (∀ z, z ≠ q → h1 z = h z) → zR G l (zMJ G hMod_derive 4 Qn Qx mc ms) bc bs h1 74 [some (.ref (ma 0)), some (zi (k : Int)), some (.ref q), y] []) :
    ∀ (n m : Nat) (h1 : zHp) (f : Nat → Int), (S.1 k).length - 1 - m < n → m ≤ (S.1 k).length - 1 → h1 q = some (zLongs G ((S.1 k).length - 1) f) → (∀ j, j < m → zI64 (f j) ∧ f j = (fun j => (S.1 k).getD (j + 1) 0 * ((j : Int) + 1)) j) → (∀ z, z ≠ q → h1 z = h z) →
      zR G l (zMJ G hMod_derive 4 Qn Qx mc ms) bc bs h1 43 [some (.ref (ma 0)), some (zi (k : Int)), some (.ref q), some (zi (m : Int))] [] := by
  intro n
  induction n with
  | zero => intro m h1 f x1 x2 e1 e2 hf; omega
  | succ n ih =>
  intro m h1 f x1 x2 e1 e2 hf
  have H1 : zMod G h1 ma S th := H.keep hq hf
  obtain ⟨-, n2, ⟨gg, n3, n3a⟩, -, -, n6, -⟩ := id H1
  unfold zMfs at n2
  obtain ⟨frk, rk1, rk2, rk3, rk4⟩ := id (n6 k hk)
  have h16k := h16 k hk
  refine z_iload_n dMod_derive_43 rfl ?_
  refine z_aload_n dMod_derive_44 rfl ?_
  refine z_alenL dMod_derive_45 e1 ?_
  refine z_icmp_ge (tgt := 74) dMod_derive_46 (by decide) (by omega) (by omega) (fun c46 => ?_) (fun c46 => ?_)
  · have em : m = (S.1 k).length - 1 := by omega
    subst em
    exact K h1 f _ e1 e2 hf
  · have rk4m := rk4 (m + 1) (by omega)
    have hmul : (S.1 k).getD (m + 1) 0 * ((m : Int) + 1) ≤ 9999 * 16 ∧ -(9999 * 16) ≤ (S.1 k).getD (m + 1) 0 * ((m : Int) + 1) := by
      have p1 : (S.1 k).getD (m + 1) 0 * ((m : Int) + 1) ≤ 9999 * ((m : Int) + 1) := Int.mul_le_mul_of_nonneg_right (by omega) (by omega)
      have p2 : (-9999) * ((m : Int) + 1) ≤ (S.1 k).getD (m + 1) 0 * ((m : Int) + 1) := Int.mul_le_mul_of_nonneg_right (by omega) (by omega)
      omega
    refine z_aload_n dMod_derive_49 rfl ?_
    refine z_iload_n dMod_derive_50 rfl ?_
    refine z_aload_n dMod_derive_51 rfl ?_
    refine z_get (k := 0) fd_Mod (by decide) fl_Mod_11 dMod_derive_52 (by assumption) (by rfl) ?_
    refine z_iload_n dMod_derive_55 rfl ?_
    refine z_aald (t := 4) (ty := .array .int) rfl rfl dMod_derive_56 n3 (by refine ⟨?_, ?_, ?_⟩ <;> omega) ?_
    rw [show (k : Int).toNat = k from rfl, n3a k (by omega)]
    refine z_iload_n dMod_derive_57 rfl ?_
    refine z_iconst dMod_derive_58 ?_
    refine z_iadd dMod_derive_59 ?_
    refine z_iald dMod_derive_60 (by assumption) (by refine ⟨?_, ?_, ?_⟩ <;> omega) ?_
    rw [show ((m : Int) + 1).toNat = m + 1 by omega, rk3 (m + 1) (by omega)]
    refine z_i2l (by first | omega | omega) dMod_derive_61 ?_
    refine z_iload_n dMod_derive_62 rfl ?_
    refine z_iconst dMod_derive_63 ?_
    refine z_iadd dMod_derive_64 ?_
    refine z_i2l (by first | omega | omega) dMod_derive_65 ?_
    refine z_lmul dMod_derive_66 ?_
    refine z_last dMod_derive_67 (by assumption) (by refine ⟨?_, ?_, ?_⟩ <;> omega) ?_
    refine z_hx (fun h2 p2 f2 => ?_)
    rw [Int.toNat_natCast] at p2
    refine z_iinc dMod_derive_68 rfl (Nat.le_of_ble_eq_true rfl) ?_
    refine z_goto (tgt := 43) dMod_derive_71 (by decide) ?_
    refine ih (m + 1) h2 _ (by omega) (by omega) p2 (fun t ht => ?_) (fun z hz => (f2 z hz).trans (hf z hz))
    by_cases e9 : t = m
    · subst e9
      rw [zup_same]
      exact ⟨by omega, rfl⟩
    · rw [zup_ne e9]
      exact e2 t (by omega)
theorem k_Mod_derive {p : Int} (H : zMod G h ma S th) (z_p : zI32 p) (h16 : ∀ k, k < 4 → (S.1 k).length ≤ 16) : zM G l hMod_derive yMod_derive 4 [.ref (ma 0), zi p] h (zQm G ma h (1) (2) (3) (sp_derive S p)) zNo 2 31 := by
  obtain ⟨m1, m2, ⟨g, m3, m3a⟩, m4, ⟨f6, m5, m5a⟩, m6, m7⟩ := id H
  unfold zMfs at m2
  refine zM.of [some (.ref (ma 0)), some (zi p), none, none] (by decide +kernel) rfl (by decide) rfl (Nat.le_of_ble_eq_true rfl) rfl ?_
  refine z_aload_n dMod_derive_0 rfl ?_
  refine z_iload_n dMod_derive_1 rfl ?_
  refine z_callS MS_Mod_isNo lk_Mod_81 dMod_derive_2 (k_Mod_isNo (by omega)) rfl rfl (Nat.le_of_ble_eq_true rfl)  (Nat.le_of_ble_eq_true rfl) (Nat.le_of_ble_eq_true rfl) (Nat.le_of_eq (Nat.zero_add _)) (Nat.le_of_eq (Nat.zero_add _)) (fun _ _ q => q.elim) ?_
  rintro _ _ ⟨n9, rfl, hn9, rfl⟩
  refine z_iconst dMod_derive_5 ?_
  refine z_iconst dMod_derive_6 ?_
  refine z_callV MV_Mod_fails lk_Mod_88 dMod_derive_7 (k_Mod_fails (by assumption) rfl (by omega) (by omega) (by omega)) rfl rfl (Nat.le_of_ble_eq_true rfl) rfl (by assumption) (Nat.le_of_ble_eq_true rfl) (Nat.le_of_ble_eq_true rfl) (Nat.le_of_eq (Nat.zero_add _)) (Nat.le_of_eq (Nat.zero_add _)) (fun _ _ q => q.elim) ?_
  rintro _ h1 ⟨t9, b8, rfl, ht, p1, g1⟩
  have H1 : zMod G h1 ma S t9 := H.obj (nu := S.2.2.2.2) (th' := t9) p1 g1
  have fz1 : zMfr ma h h1 := zMfr.of0 g1
  obtain ⟨-, n2, ⟨gg, n3, n3a⟩, n4, ⟨f61, n5, n5a⟩, n6, n7⟩ := id H1
  unfold zMfs at n2
  refine z_if_eq (tgt := 15) dMod_derive_10 (by decide) (by omega) (fun c10 => ?_) (fun c10 => ?_)
  · obtain ⟨k, rfl⟩ := Int.eq_ofNat_of_zero_le (show 0 ≤ p by omega)
    obtain ⟨frk, rk1, rk2, rk3, rk4⟩ := id (n6 k (by omega))
    have h16k := h16 k (by omega)
    have ezk : ∀ i : Int, 0 ≤ i → i < ((S.1 k).length : Int) → frk i.toNat = zAt (S.1 k) i := fun i x1 x2 => by rw [rk3 _ (by omega), zAt_eq x1 x2]
    have hk : k < 4 := by omega
    have et9 : t9 = 0 := by omega
    subst et9
    refine z_aload_n dMod_derive_15 rfl ?_
    refine z_get (k := 0) fd_Mod (by decide) fl_Mod_11 dMod_derive_16 (by assumption) (by rfl) ?_
    refine z_iload_n dMod_derive_19 rfl ?_
    refine z_aald (t := 4) (ty := .array .int) rfl rfl dMod_derive_20 n3 (by refine ⟨?_, ?_, ?_⟩ <;> omega) ?_
    rw [show (k : Int).toNat = k from rfl, n3a k (by omega)]
    refine z_alenI dMod_derive_21 (by assumption) ?_
    refine z_if_ne (tgt := 29) dMod_derive_22 (by decide) (by omega) (fun c22 => ?_) (fun c22 => ?_)
    · refine z_aload_n dMod_derive_29 rfl ?_
      refine z_get (k := 0) fd_Mod (by decide) fl_Mod_11 dMod_derive_30 (by assumption) (by rfl) ?_
      refine z_iload_n dMod_derive_33 rfl ?_
      refine z_aald (t := 4) (ty := .array .int) rfl rfl dMod_derive_34 n3 (by refine ⟨?_, ?_, ?_⟩ <;> omega) ?_
      rw [show (k : Int).toNat = k from rfl, n3a k (by omega)]
      refine z_alenI dMod_derive_35 (by assumption) ?_
      refine z_iconst dMod_derive_36 ?_
      refine z_isub dMod_derive_37 ?_
      refine z_newL (n := (S.1 k).length - 1) (bc' := 1) (bs' := 16) (by omega) dMod_derive_38 (by omega) (by decide) (by omega) (fun q2 h2 hq2 gq2 e2 F2 => ?_)
      refine z_astore_n dMod_derive_40 (Nat.le_of_ble_eq_true rfl) ?_
      refine z_iconst dMod_derive_41 ?_
      refine z_istore_n dMod_derive_42 (Nat.le_of_ble_eq_true rfl) ?_
      refine l_Mod_derive (h := h1) H1 hq2 hk h16 (fun h3 f3 y e3 v3 F3 => ?_) ((S.1 k).length + 1) 0 h2 _ (by omega) (by omega) e2 (fun j hj => absurd hj (by omega)) F2
      have H3 : zMod G h3 ma S 0 := H1.keep hq2 F3
      have fz3 : zMfr ma h h3 := fz1.tr (zMfr.new hq2 F3)
      have oc3 := H3.2.1
      refine z_aload_n dMod_derive_74 rfl ?_
      refine z_iload_n dMod_derive_75 rfl ?_
      refine z_aload_n dMod_derive_76 rfl ?_
      refine z_callV (bc' := 0) (bs' := 0) MV_Mod_fits lk_Mod_166 dMod_derive_77 (k_Mod_fits H3 hk e3 (by omega) v3) rfl rfl (Nat.le_of_ble_eq_true rfl) rfl (by assumption) (Nat.le_of_ble_eq_true rfl) (Nat.le_of_ble_eq_true rfl) (by decide) (by decide) (fun _ _ q => q.elim) ?_
      rintro _ h9 ⟨fj, (⟨hfit, rfl, q9, hq9, H9⟩ | ⟨hfit, rfl, H9⟩)⟩
      all_goals have fz9 : zMfr ma h h9 := fz3.tr fj
      · refine z_iret rfl rfl dMod_derive_80 ?_
        exact zQm.okB H9 (Or.inr ⟨zDm.up hq9.1 H3 fz3, hq9.2⟩) rfl fz9 (by unfold sp_derive; rw [if_pos (by omega)]; simp only [Int.toNat_natCast]; exact if_pos hfit.2)
      · refine z_iret rfl rfl dMod_derive_80 ?_
        exact zQm.ok H9 rfl fz9 (by unfold sp_derive; rw [if_pos (by omega)]; simp only [Int.toNat_natCast]; exact if_neg (fun c => hfit ⟨by omega, c⟩))
    · refine z_iconst dMod_derive_25 ?_
      refine z_goto (tgt := 38) dMod_derive_26 (by decide) ?_
      refine z_newL (n := (S.1 k).length - 1) (bc' := 1) (bs' := 16) (by omega) dMod_derive_38 (by omega) (by decide) (by omega) (fun q2 h2 hq2 gq2 e2 F2 => ?_)
      refine z_astore_n dMod_derive_40 (Nat.le_of_ble_eq_true rfl) ?_
      refine z_iconst dMod_derive_41 ?_
      refine z_istore_n dMod_derive_42 (Nat.le_of_ble_eq_true rfl) ?_
      refine l_Mod_derive (h := h1) H1 hq2 hk h16 (fun h3 f3 y e3 v3 F3 => ?_) ((S.1 k).length + 1) 0 h2 _ (by omega) (by omega) e2 (fun j hj => absurd hj (by omega)) F2
      have H3 : zMod G h3 ma S 0 := H1.keep hq2 F3
      have fz3 : zMfr ma h h3 := fz1.tr (zMfr.new hq2 F3)
      have oc3 := H3.2.1
      refine z_aload_n dMod_derive_74 rfl ?_
      refine z_iload_n dMod_derive_75 rfl ?_
      refine z_aload_n dMod_derive_76 rfl ?_
      refine z_callV (bc' := 0) (bs' := 0) MV_Mod_fits lk_Mod_166 dMod_derive_77 (k_Mod_fits H3 hk e3 (by omega) v3) rfl rfl (Nat.le_of_ble_eq_true rfl) rfl (by assumption) (Nat.le_of_ble_eq_true rfl) (Nat.le_of_ble_eq_true rfl) (by decide) (by decide) (fun _ _ q => q.elim) ?_
      rintro _ h9 ⟨fj, (⟨hfit, rfl, q9, hq9, H9⟩ | ⟨hfit, rfl, H9⟩)⟩
      all_goals have fz9 : zMfr ma h h9 := fz3.tr fj
      · refine z_iret rfl rfl dMod_derive_80 ?_
        exact zQm.okB H9 (Or.inr ⟨zDm.up hq9.1 H3 fz3, hq9.2⟩) rfl fz9 (by unfold sp_derive; rw [if_pos (by omega)]; simp only [Int.toNat_natCast]; exact if_pos hfit.2)
      · refine z_iret rfl rfl dMod_derive_80 ?_
        exact zQm.ok H9 rfl fz9 (by unfold sp_derive; rw [if_pos (by omega)]; simp only [Int.toNat_natCast]; exact if_neg (fun c => hfit ⟨by omega, c⟩))
  · refine z_iconst dMod_derive_13 ?_
    refine z_iret rfl rfl dMod_derive_14 ?_
    rcases (show t9 = 0 ∨ t9 = 1 ∨ t9 = 2 ∨ t9 = 3 by omega) with t0 | t0 | t0 | t0
    all_goals first
      | (exfalso; omega)
      | exact zQm.ok H1 (by omega) (by assumption) (by unfold sp_derive; (try unfold spPut); (try simp only [Int.toNat_natCast]); (repeat (first | rw [if_pos (by omega)] | rw [if_neg (by omega)] | rw [if_pos (by assumption)] | rw [if_neg (by assumption)] | rw [if_pos (True.intro : True)])); (try (first | rfl | (congr 2; omega) | (congr 1; congr 1; omega))); done)
      | exact zQm.b1 H1 (by omega) (by assumption) (by unfold sp_derive; (try unfold spPut); (try simp only [Int.toNat_natCast]); (repeat (first | rw [if_pos (by omega)] | rw [if_neg (by omega)] | rw [if_pos (by assumption)] | rw [if_neg (by assumption)] | rw [if_pos (True.intro : True)])); (try (first | rfl | (congr 2; omega) | (congr 1; congr 1; omega))); done)
      | exact zQm.b2 H1 (by omega) (by assumption) (by unfold sp_derive; (try unfold spPut); (try simp only [Int.toNat_natCast]); (repeat (first | rw [if_pos (by omega)] | rw [if_neg (by omega)] | rw [if_pos (by assumption)] | rw [if_neg (by assumption)] | rw [if_pos (True.intro : True)])); (try (first | rfl | (congr 2; omega) | (congr 1; congr 1; omega))); done)
      | exact zQm.b3 H1 (by omega) (by assumption) (by unfold sp_derive; (try unfold spPut); (try simp only [Int.toNat_natCast]); (repeat (first | rw [if_pos (by omega)] | rw [if_neg (by omega)] | rw [if_pos (by assumption)] | rw [if_neg (by assumption)] | rw [if_pos (True.intro : True)])); (try (first | rfl | (congr 2; omega) | (congr 1; congr 1; omega))); done)
end MOD17
end
section
section MOD18
variable {G : zG} {l : Launch} {h h' h'' : zHp} {ma : Nat → Nat} {S : zSt} {th : Int}
theorem zAtIn {L : List Int} (h : ∀ j, j < L.length → zIn (L.getD j 0)) (i : Int) : zIn (zAt L i) := by
  unfold zAt
  split
  · exact h _ (by omega)
  · omega
theorem zAt_neg {L : List Int} {i : Int} (h : i < 0) : zAt L i = 0 := by
  unfold zAt
  rw [if_neg (by omega)]
theorem zAt_out {L : List Int} {i : Int} (h : (L.length : Int) ≤ i) : zAt L i = 0 := by
  unfold zAt
  rw [if_neg (by omega)]
theorem zCf_stay {L M : List Int} {p : Int} {n : Nat} (hz : ∀ j : Nat, n ≤ j → zAt L j * zAt M (p - j) = 0) : ∀ i : Nat, zCf L M p (n + i) = zCf L M p n
  | 0 => rfl
  | i + 1 => by
    show zCf L M p (n + i) + zAt L ((n + i : Nat) : Int) * zAt M (p - ((n + i : Nat) : Int)) = _
    rw [zCf_stay hz i, hz (n + i) (by omega)]
    omega
/-- the model's sum over one's places is the class's over the places ahead -/
theorem zCf_all {L M : List Int} (p : Nat) : zCf L M (p : Int) L.length = zCf L M (p : Int) (p + 1) := by
  rcases (show L.length ≤ p + 1 ∨ p + 1 ≤ L.length by omega) with c | c
  · have h := zCf_stay (L := L) (M := M) (p := p) (n := L.length) (fun j hj => by rw [zAt_ge hj]; omega) (p + 1 - L.length)
    rw [show L.length + (p + 1 - L.length) = p + 1 by omega] at h
    exact h.symm
  · have h := zCf_stay (L := L) (M := M) (p := p) (n := p + 1) (fun j hj => by rw [zAt_neg (L := M) (by omega), Int.mul_zero]) (L.length - (p + 1))
    rw [show p + 1 + (L.length - (p + 1)) = L.length by omega] at h
    exact h
theorem l_Mod_plus {mc ms bc bs : Nat} {Qn : Option Value → zHp → Prop} {Qx : String → zHp → Prop} {a b q N : Nat} {L M : List Int} {w0 w1 w2 : Option Value} (hL : zAr G h a L) (hM : zAr G h b M) (hq : zDm h q) (hN : N ≤ 60)
    (K : ∀ (h1 : zHp) (f : Nat → Int) y, h1 q = some (zLongs G N f) → (∀ j, j < N → zI64 (f j) ∧ f j = (fun j => zAt L (j : Int) + zAt M (j : Int)) j) → (∀ z, z ≠ q → h1 z = h z) → zR G l (zMJ G hMod_plus 4 Qn Qx mc ms) bc bs h1 121 [w0, w1, w2, some (.ref a), some (.ref b), some (.ref q), y] []) :
    ∀ (n m : Nat) (h1 : zHp) (f : Nat → Int), N - m < n → m ≤ N → h1 q = some (zLongs G N f) → (∀ j, j < m → zI64 (f j) ∧ f j = (fun j => zAt L (j : Int) + zAt M (j : Int)) j) → (∀ z, z ≠ q → h1 z = h z) →
      zR G l (zMJ G hMod_plus 4 Qn Qx mc ms) bc bs h1 68 [w0, w1, w2, some (.ref a), some (.ref b), some (.ref q), some (zi (m : Int))] [] := by
  intro n
  induction n with
  | zero => intro m h1 f x1 x2 e1 e2 hf; omega
  | succ n ih =>
  intro m h1 f x1 x2 e1 e2 hf
  obtain ⟨fl, d1, d2, d3, d4⟩ := id hL
  obtain ⟨fm, b1, b2, b3, b4⟩ := id hM
  have d1 := (hf a (Nat.ne_of_lt (hq a _ d1))).trans d1
  have b1 := (hf b (Nat.ne_of_lt (hq b _ b1))).trans b1
  have i1 := zAtIn d4 (m : Int)
  have i2 := zAtIn b4 (m : Int)
  refine z_iload dMod_plus_68 rfl ?_
  refine z_aload dMod_plus_70 rfl ?_
  refine z_alenL dMod_plus_72 e1 ?_
  refine z_icmp_ge (tgt := 121) dMod_plus_73 (by decide) (by omega) (by omega) (fun c73 => ?_) (fun c73 => ?_)
  · have em : m = N := by omega
    subst em
    exact K h1 f _ e1 e2 hf
  · refine z_aload dMod_plus_76 rfl ?_
    refine z_iload dMod_plus_78 rfl ?_
    refine z_iload dMod_plus_80 rfl ?_
    refine z_aload_n dMod_plus_82 rfl ?_
    refine z_alenI dMod_plus_83 d1 ?_
    refine z_icmp_ge (tgt := 94) dMod_plus_84 (by decide) (by omega) (by omega) (fun c84 => ?_) (fun c84 => ?_)
    · refine z_iconst dMod_plus_94 ?_
      refine z_iload dMod_plus_95 rfl ?_
      refine z_aload dMod_plus_97 rfl ?_
      refine z_alenI dMod_plus_99 b1 ?_
      refine z_icmp_ge (tgt := 111) dMod_plus_100 (by decide) (by omega) (by omega) (fun c100 => ?_) (fun c100 => ?_)
      · refine z_iconst dMod_plus_111 ?_
        refine z_iadd dMod_plus_112 ?_
        refine z_i2l (by first | omega | omega) dMod_plus_113 ?_
        refine z_last dMod_plus_114 (by assumption) (by refine ⟨?_, ?_, ?_⟩ <;> omega) ?_
        refine z_hx (fun h2 p2 f2 => ?_)
        rw [Int.toNat_natCast] at p2
        refine z_iinc dMod_plus_115 rfl (Nat.le_of_ble_eq_true rfl) ?_
        refine z_goto (tgt := 68) dMod_plus_118 (by decide) ?_
        refine ih (m + 1) h2 _ (by omega) (by omega) p2 (fun t ht => ?_) (fun z hz => (f2 z hz).trans (hf z hz))
        by_cases e9 : t = m
        · subst e9
          rw [zup_same]
          refine ⟨by omega, ?_⟩
          show _ = zAt L (t : Int) + zAt M (t : Int)
          first
            | rfl
            | (rw [zAt_ge (L := L) (j := t) (by omega), zAt_ge (L := M) (j := t) (by omega)])
            | (rw [zAt_ge (L := L) (j := t) (by omega)])
            | (rw [zAt_ge (L := M) (j := t) (by omega)])
        · rw [zup_ne e9]
          exact e2 t (by omega)
      · refine z_aload dMod_plus_103 rfl ?_
        refine z_iload dMod_plus_105 rfl ?_
        refine z_iald dMod_plus_107 (by assumption) (by refine ⟨?_, ?_, ?_⟩ <;> omega) ?_
        rw [Int.toNat_natCast, b3 m (by omega), ← zAt_lt (by omega)]
        refine z_goto (tgt := 112) dMod_plus_108 (by decide) ?_
        refine z_iadd dMod_plus_112 ?_
        refine z_i2l (by first | omega | omega) dMod_plus_113 ?_
        refine z_last dMod_plus_114 (by assumption) (by refine ⟨?_, ?_, ?_⟩ <;> omega) ?_
        refine z_hx (fun h2 p2 f2 => ?_)
        rw [Int.toNat_natCast] at p2
        refine z_iinc dMod_plus_115 rfl (Nat.le_of_ble_eq_true rfl) ?_
        refine z_goto (tgt := 68) dMod_plus_118 (by decide) ?_
        refine ih (m + 1) h2 _ (by omega) (by omega) p2 (fun t ht => ?_) (fun z hz => (f2 z hz).trans (hf z hz))
        by_cases e9 : t = m
        · subst e9
          rw [zup_same]
          refine ⟨by omega, ?_⟩
          show _ = zAt L (t : Int) + zAt M (t : Int)
          first
            | rfl
            | (rw [zAt_ge (L := L) (j := t) (by omega), zAt_ge (L := M) (j := t) (by omega)])
            | (rw [zAt_ge (L := L) (j := t) (by omega)])
            | (rw [zAt_ge (L := M) (j := t) (by omega)])
        · rw [zup_ne e9]
          exact e2 t (by omega)
    · refine z_aload_n dMod_plus_87 rfl ?_
      refine z_iload dMod_plus_88 rfl ?_
      refine z_iald dMod_plus_90 (by assumption) (by refine ⟨?_, ?_, ?_⟩ <;> omega) ?_
      rw [Int.toNat_natCast, d3 m (by omega), ← zAt_lt (by omega)]
      refine z_goto (tgt := 95) dMod_plus_91 (by decide) ?_
      refine z_iload dMod_plus_95 rfl ?_
      refine z_aload dMod_plus_97 rfl ?_
      refine z_alenI dMod_plus_99 b1 ?_
      refine z_icmp_ge (tgt := 111) dMod_plus_100 (by decide) (by omega) (by omega) (fun c100 => ?_) (fun c100 => ?_)
      · refine z_iconst dMod_plus_111 ?_
        refine z_iadd dMod_plus_112 ?_
        refine z_i2l (by first | omega | omega) dMod_plus_113 ?_
        refine z_last dMod_plus_114 (by assumption) (by refine ⟨?_, ?_, ?_⟩ <;> omega) ?_
        refine z_hx (fun h2 p2 f2 => ?_)
        rw [Int.toNat_natCast] at p2
        refine z_iinc dMod_plus_115 rfl (Nat.le_of_ble_eq_true rfl) ?_
        refine z_goto (tgt := 68) dMod_plus_118 (by decide) ?_
        refine ih (m + 1) h2 _ (by omega) (by omega) p2 (fun t ht => ?_) (fun z hz => (f2 z hz).trans (hf z hz))
        by_cases e9 : t = m
        · subst e9
          rw [zup_same]
          refine ⟨by omega, ?_⟩
          show _ = zAt L (t : Int) + zAt M (t : Int)
          first
            | rfl
            | (rw [zAt_ge (L := L) (j := t) (by omega), zAt_ge (L := M) (j := t) (by omega)])
            | (rw [zAt_ge (L := L) (j := t) (by omega)])
            | (rw [zAt_ge (L := M) (j := t) (by omega)])
        · rw [zup_ne e9]
          exact e2 t (by omega)
      · refine z_aload dMod_plus_103 rfl ?_
        refine z_iload dMod_plus_105 rfl ?_
        refine z_iald dMod_plus_107 (by assumption) (by refine ⟨?_, ?_, ?_⟩ <;> omega) ?_
        rw [Int.toNat_natCast, b3 m (by omega), ← zAt_lt (by omega)]
        refine z_goto (tgt := 112) dMod_plus_108 (by decide) ?_
        refine z_iadd dMod_plus_112 ?_
        refine z_i2l (by first | omega | omega) dMod_plus_113 ?_
        refine z_last dMod_plus_114 (by assumption) (by refine ⟨?_, ?_, ?_⟩ <;> omega) ?_
        refine z_hx (fun h2 p2 f2 => ?_)
        rw [Int.toNat_natCast] at p2
        refine z_iinc dMod_plus_115 rfl (Nat.le_of_ble_eq_true rfl) ?_
        refine z_goto (tgt := 68) dMod_plus_118 (by decide) ?_
        refine ih (m + 1) h2 _ (by omega) (by omega) p2 (fun t ht => ?_) (fun z hz => (f2 z hz).trans (hf z hz))
        by_cases e9 : t = m
        · subst e9
          rw [zup_same]
          refine ⟨by omega, ?_⟩
          show _ = zAt L (t : Int) + zAt M (t : Int)
          first
            | rfl
            | (rw [zAt_ge (L := L) (j := t) (by omega), zAt_ge (L := M) (j := t) (by omega)])
            | (rw [zAt_ge (L := L) (j := t) (by omega)])
            | (rw [zAt_ge (L := M) (j := t) (by omega)])
        · rw [zup_ne e9]
          exact e2 t (by omega)
theorem k_Mod_plus {p o : Int} (H : zMod G h ma S th) (z_p : zI32 p) (z_o : zI32 o) (h16 : ∀ k, k < 4 → (S.1 k).length ≤ 16) : zM G l hMod_plus yMod_plus 4 [.ref (ma 0), zi p, zi o] h (zQm G ma h (1) (2) (3) (sp_plus S p o)) zNo 2 47 := by
  obtain ⟨m1, m2, ⟨g, m3, m3a⟩, m4, ⟨f6, m5, m5a⟩, m6, m7⟩ := id H
  unfold zMfs at m2
  refine zM.of [some (.ref (ma 0)), some (zi p), some (zi o), none, none, none, none] (by decide +kernel) rfl (by decide) rfl (Nat.le_of_ble_eq_true rfl) rfl ?_
  refine z_aload_n dMod_plus_0 rfl ?_
  refine z_iload_n dMod_plus_1 rfl ?_
  refine z_callS MS_Mod_isNo lk_Mod_81 dMod_plus_2 (k_Mod_isNo (by omega)) rfl rfl (Nat.le_of_ble_eq_true rfl)  (Nat.le_of_ble_eq_true rfl) (Nat.le_of_ble_eq_true rfl) (Nat.le_of_eq (Nat.zero_add _)) (Nat.le_of_eq (Nat.zero_add _)) (fun _ _ q => q.elim) ?_
  rintro _ _ ⟨n9k, rfl, (⟨rfl, hn9k⟩ | ⟨rfl, hn9k⟩), rfl⟩
  · refine z_if_ne (tgt := 15) dMod_plus_5 (by decide) (by omega) (fun c5 => ?_) (fun c5 => ?_)
    · refine z_iconst dMod_plus_15 ?_
      refine z_goto (tgt := 20) dMod_plus_16 (by decide) ?_
      refine z_iconst dMod_plus_20 ?_
      refine z_iconst dMod_plus_21 ?_
      refine z_callV MV_Mod_fails lk_Mod_88 dMod_plus_22 (k_Mod_fails (by assumption) rfl (by omega) (by omega) (by omega)) rfl rfl (Nat.le_of_ble_eq_true rfl) rfl (by assumption) (Nat.le_of_ble_eq_true rfl) (Nat.le_of_ble_eq_true rfl) (Nat.le_of_eq (Nat.zero_add _)) (Nat.le_of_eq (Nat.zero_add _)) (fun _ _ q => q.elim) ?_
      rintro _ h1 ⟨t9, b8, rfl, ht, p1, g1⟩
      have H1 : zMod G h1 ma S t9 := H.obj (nu := S.2.2.2.2) (th' := t9) p1 g1
      have fz1 : zMfr ma h h1 := zMfr.of0 g1
      obtain ⟨-, n2, ⟨gg, n3, n3a⟩, n4, ⟨f61, n5, n5a⟩, n6, n7⟩ := id H1
      unfold zMfs at n2
      refine z_if_eq (tgt := 30) dMod_plus_25 (by decide) (by omega) (fun c25 => ?_) (fun c25 => ?_)
      · exfalso; omega
      · refine z_iconst dMod_plus_28 ?_
        refine z_iret rfl rfl dMod_plus_29 ?_
        rcases (show t9 = 0 ∨ t9 = 1 ∨ t9 = 2 ∨ t9 = 3 by omega) with t0 | t0 | t0 | t0
        all_goals first
          | (exfalso; omega)
          | exact zQm.ok H1 (by omega) (by assumption) (by unfold sp_plus; (try unfold spPut); (try simp only [Int.toNat_natCast]); (repeat (first | rw [if_pos (by omega)] | rw [if_neg (by omega)] | rw [if_pos (by assumption)] | rw [if_neg (by assumption)] | rw [if_pos (True.intro : True)])); (try (first | rfl | (congr 2; omega) | (congr 1; congr 1; omega))); done)
          | exact zQm.b1 H1 (by omega) (by assumption) (by unfold sp_plus; (try unfold spPut); (try simp only [Int.toNat_natCast]); (repeat (first | rw [if_pos (by omega)] | rw [if_neg (by omega)] | rw [if_pos (by assumption)] | rw [if_neg (by assumption)] | rw [if_pos (True.intro : True)])); (try (first | rfl | (congr 2; omega) | (congr 1; congr 1; omega))); done)
          | exact zQm.b2 H1 (by omega) (by assumption) (by unfold sp_plus; (try unfold spPut); (try simp only [Int.toNat_natCast]); (repeat (first | rw [if_pos (by omega)] | rw [if_neg (by omega)] | rw [if_pos (by assumption)] | rw [if_neg (by assumption)] | rw [if_pos (True.intro : True)])); (try (first | rfl | (congr 2; omega) | (congr 1; congr 1; omega))); done)
          | exact zQm.b3 H1 (by omega) (by assumption) (by unfold sp_plus; (try unfold spPut); (try simp only [Int.toNat_natCast]); (repeat (first | rw [if_pos (by omega)] | rw [if_neg (by omega)] | rw [if_pos (by assumption)] | rw [if_neg (by assumption)] | rw [if_pos (True.intro : True)])); (try (first | rfl | (congr 2; omega) | (congr 1; congr 1; omega))); done)
    · exfalso; omega
  · obtain ⟨k, rfl⟩ := Int.eq_ofNat_of_zero_le (show 0 ≤ p by omega)
    have hkk : k < 4 := by omega
    refine z_if_ne (tgt := 15) dMod_plus_5 (by decide) (by omega) (fun c5 => ?_) (fun c5 => ?_)
    · exfalso; omega
    · refine z_iload_n dMod_plus_8 rfl ?_
      refine z_callS MS_Mod_isNo lk_Mod_81 dMod_plus_9 (k_Mod_isNo (by omega)) rfl rfl (Nat.le_of_ble_eq_true rfl)  (Nat.le_of_ble_eq_true rfl) (Nat.le_of_ble_eq_true rfl) (Nat.le_of_eq (Nat.zero_add _)) (Nat.le_of_eq (Nat.zero_add _)) (fun _ _ q => q.elim) ?_
      rintro _ _ ⟨n9j, rfl, (⟨rfl, hn9j⟩ | ⟨rfl, hn9j⟩), rfl⟩
      · refine z_if_eq (tgt := 19) dMod_plus_12 (by decide) (by omega) (fun c12 => ?_) (fun c12 => ?_)
        · refine z_iconst dMod_plus_19 ?_
          refine z_iconst dMod_plus_20 ?_
          refine z_iconst dMod_plus_21 ?_
          refine z_callV MV_Mod_fails lk_Mod_88 dMod_plus_22 (k_Mod_fails (by assumption) rfl (by omega) (by omega) (by omega)) rfl rfl (Nat.le_of_ble_eq_true rfl) rfl (by assumption) (Nat.le_of_ble_eq_true rfl) (Nat.le_of_ble_eq_true rfl) (Nat.le_of_eq (Nat.zero_add _)) (Nat.le_of_eq (Nat.zero_add _)) (fun _ _ q => q.elim) ?_
          rintro _ h1 ⟨t9, b8, rfl, ht, p1, g1⟩
          have H1 : zMod G h1 ma S t9 := H.obj (nu := S.2.2.2.2) (th' := t9) p1 g1
          have fz1 : zMfr ma h h1 := zMfr.of0 g1
          obtain ⟨-, n2, ⟨gg, n3, n3a⟩, n4, ⟨f61, n5, n5a⟩, n6, n7⟩ := id H1
          unfold zMfs at n2
          refine z_if_eq (tgt := 30) dMod_plus_25 (by decide) (by omega) (fun c25 => ?_) (fun c25 => ?_)
          · exfalso; omega
          · refine z_iconst dMod_plus_28 ?_
            refine z_iret rfl rfl dMod_plus_29 ?_
            rcases (show t9 = 0 ∨ t9 = 1 ∨ t9 = 2 ∨ t9 = 3 by omega) with t0 | t0 | t0 | t0
            all_goals first
              | (exfalso; omega)
              | exact zQm.ok H1 (by omega) (by assumption) (by unfold sp_plus; (try unfold spPut); (try simp only [Int.toNat_natCast]); (repeat (first | rw [if_pos (by omega)] | rw [if_neg (by omega)] | rw [if_pos (by assumption)] | rw [if_neg (by assumption)] | rw [if_pos (True.intro : True)])); (try (first | rfl | (congr 2; omega) | (congr 1; congr 1; omega))); done)
              | exact zQm.b1 H1 (by omega) (by assumption) (by unfold sp_plus; (try unfold spPut); (try simp only [Int.toNat_natCast]); (repeat (first | rw [if_pos (by omega)] | rw [if_neg (by omega)] | rw [if_pos (by assumption)] | rw [if_neg (by assumption)] | rw [if_pos (True.intro : True)])); (try (first | rfl | (congr 2; omega) | (congr 1; congr 1; omega))); done)
              | exact zQm.b2 H1 (by omega) (by assumption) (by unfold sp_plus; (try unfold spPut); (try simp only [Int.toNat_natCast]); (repeat (first | rw [if_pos (by omega)] | rw [if_neg (by omega)] | rw [if_pos (by assumption)] | rw [if_neg (by assumption)] | rw [if_pos (True.intro : True)])); (try (first | rfl | (congr 2; omega) | (congr 1; congr 1; omega))); done)
              | exact zQm.b3 H1 (by omega) (by assumption) (by unfold sp_plus; (try unfold spPut); (try simp only [Int.toNat_natCast]); (repeat (first | rw [if_pos (by omega)] | rw [if_neg (by omega)] | rw [if_pos (by assumption)] | rw [if_neg (by assumption)] | rw [if_pos (True.intro : True)])); (try (first | rfl | (congr 2; omega) | (congr 1; congr 1; omega))); done)
        · refine z_iconst dMod_plus_15 ?_
          refine z_goto (tgt := 20) dMod_plus_16 (by decide) ?_
          refine z_iconst dMod_plus_20 ?_
          refine z_iconst dMod_plus_21 ?_
          refine z_callV MV_Mod_fails lk_Mod_88 dMod_plus_22 (k_Mod_fails (by assumption) rfl (by omega) (by omega) (by omega)) rfl rfl (Nat.le_of_ble_eq_true rfl) rfl (by assumption) (Nat.le_of_ble_eq_true rfl) (Nat.le_of_ble_eq_true rfl) (Nat.le_of_eq (Nat.zero_add _)) (Nat.le_of_eq (Nat.zero_add _)) (fun _ _ q => q.elim) ?_
          rintro _ h1 ⟨t9, b8, rfl, ht, p1, g1⟩
          have H1 : zMod G h1 ma S t9 := H.obj (nu := S.2.2.2.2) (th' := t9) p1 g1
          have fz1 : zMfr ma h h1 := zMfr.of0 g1
          obtain ⟨-, n2, ⟨gg, n3, n3a⟩, n4, ⟨f61, n5, n5a⟩, n6, n7⟩ := id H1
          unfold zMfs at n2
          refine z_if_eq (tgt := 30) dMod_plus_25 (by decide) (by omega) (fun c25 => ?_) (fun c25 => ?_)
          · exfalso; omega
          · refine z_iconst dMod_plus_28 ?_
            refine z_iret rfl rfl dMod_plus_29 ?_
            rcases (show t9 = 0 ∨ t9 = 1 ∨ t9 = 2 ∨ t9 = 3 by omega) with t0 | t0 | t0 | t0
            all_goals first
              | (exfalso; omega)
              | exact zQm.ok H1 (by omega) (by assumption) (by unfold sp_plus; (try unfold spPut); (try simp only [Int.toNat_natCast]); (repeat (first | rw [if_pos (by omega)] | rw [if_neg (by omega)] | rw [if_pos (by assumption)] | rw [if_neg (by assumption)] | rw [if_pos (True.intro : True)])); (try (first | rfl | (congr 2; omega) | (congr 1; congr 1; omega))); done)
              | exact zQm.b1 H1 (by omega) (by assumption) (by unfold sp_plus; (try unfold spPut); (try simp only [Int.toNat_natCast]); (repeat (first | rw [if_pos (by omega)] | rw [if_neg (by omega)] | rw [if_pos (by assumption)] | rw [if_neg (by assumption)] | rw [if_pos (True.intro : True)])); (try (first | rfl | (congr 2; omega) | (congr 1; congr 1; omega))); done)
              | exact zQm.b2 H1 (by omega) (by assumption) (by unfold sp_plus; (try unfold spPut); (try simp only [Int.toNat_natCast]); (repeat (first | rw [if_pos (by omega)] | rw [if_neg (by omega)] | rw [if_pos (by assumption)] | rw [if_neg (by assumption)] | rw [if_pos (True.intro : True)])); (try (first | rfl | (congr 2; omega) | (congr 1; congr 1; omega))); done)
              | exact zQm.b3 H1 (by omega) (by assumption) (by unfold sp_plus; (try unfold spPut); (try simp only [Int.toNat_natCast]); (repeat (first | rw [if_pos (by omega)] | rw [if_neg (by omega)] | rw [if_pos (by assumption)] | rw [if_neg (by assumption)] | rw [if_pos (True.intro : True)])); (try (first | rfl | (congr 2; omega) | (congr 1; congr 1; omega))); done)
      · obtain ⟨j, rfl⟩ := Int.eq_ofNat_of_zero_le (show 0 ≤ o by omega)
        have hkj : j < 4 := by omega
        refine z_if_eq (tgt := 19) dMod_plus_12 (by decide) (by omega) (fun c12 => ?_) (fun c12 => ?_)
        · refine z_iconst dMod_plus_19 ?_
          refine z_iconst dMod_plus_20 ?_
          refine z_iconst dMod_plus_21 ?_
          refine z_callV MV_Mod_fails lk_Mod_88 dMod_plus_22 (k_Mod_fails (by assumption) rfl (by omega) (by omega) (by omega)) rfl rfl (Nat.le_of_ble_eq_true rfl) rfl (by assumption) (Nat.le_of_ble_eq_true rfl) (Nat.le_of_ble_eq_true rfl) (Nat.le_of_eq (Nat.zero_add _)) (Nat.le_of_eq (Nat.zero_add _)) (fun _ _ q => q.elim) ?_
          rintro _ h1 ⟨t9, b8, rfl, ht, p1, g1⟩
          have H1 : zMod G h1 ma S t9 := H.obj (nu := S.2.2.2.2) (th' := t9) p1 g1
          have fz1 : zMfr ma h h1 := zMfr.of0 g1
          obtain ⟨-, n2, ⟨gg, n3, n3a⟩, n4, ⟨f61, n5, n5a⟩, n6, n7⟩ := id H1
          unfold zMfs at n2
          refine z_if_eq (tgt := 30) dMod_plus_25 (by decide) (by omega) (fun c25 => ?_) (fun c25 => ?_)
          · obtain ⟨frk, rk1, rk2, rk3, rk4⟩ := id (n6 k (by omega))
            have h16k := h16 k (by omega)
            have ezk : ∀ i : Int, 0 ≤ i → i < ((S.1 k).length : Int) → frk i.toNat = zAt (S.1 k) i := fun i x1 x2 => by rw [rk3 _ (by omega), zAt_eq x1 x2]
            obtain ⟨frj, rj1, rj2, rj3, rj4⟩ := id (n6 j (by omega))
            have h16j := h16 j (by omega)
            have ezj : ∀ i : Int, 0 ≤ i → i < ((S.1 j).length : Int) → frj i.toNat = zAt (S.1 j) i := fun i x1 x2 => by rw [rj3 _ (by omega), zAt_eq x1 x2]
            have et9 : t9 = 0 := by omega
            subst et9
            have hN16 : (if ((S.1 k).length : Int) < (S.1 j).length then (S.1 j).length else (S.1 k).length) ≤ 16 := by split <;> omega
            refine z_aload_n dMod_plus_30 rfl ?_
            refine z_get (k := 0) fd_Mod (by decide) fl_Mod_11 dMod_plus_31 (by assumption) (by rfl) ?_
            refine z_iload_n dMod_plus_34 rfl ?_
            refine z_aald (t := 4) (ty := .array .int) rfl rfl dMod_plus_35 n3 (by refine ⟨?_, ?_, ?_⟩ <;> omega) ?_
            rw [show (k : Int).toNat = k from rfl, n3a k (by omega)]
            refine z_astore_n dMod_plus_36 (Nat.le_of_ble_eq_true rfl) ?_
            refine z_aload_n dMod_plus_37 rfl ?_
            refine z_get (k := 0) fd_Mod (by decide) fl_Mod_11 dMod_plus_38 (by assumption) (by rfl) ?_
            refine z_iload_n dMod_plus_41 rfl ?_
            refine z_aald (t := 4) (ty := .array .int) rfl rfl dMod_plus_42 n3 (by refine ⟨?_, ?_, ?_⟩ <;> omega) ?_
            rw [show (j : Int).toNat = j from rfl, n3a j (by omega)]
            refine z_astore dMod_plus_43 (Nat.le_of_ble_eq_true rfl) ?_
            refine z_aload_n dMod_plus_45 rfl ?_
            refine z_alenI dMod_plus_46 (by assumption) ?_
            refine z_aload dMod_plus_47 rfl ?_
            refine z_alenI dMod_plus_49 (by assumption) ?_
            refine z_icmp_le (tgt := 58) dMod_plus_50 (by decide) (by omega) (by omega) (fun c50 => ?_) (fun c50 => ?_)
            · refine z_aload dMod_plus_58 rfl ?_
              refine z_alenI dMod_plus_60 (by assumption) ?_
              refine z_newL (n := (if ((S.1 k).length : Int) < (S.1 j).length then (S.1 j).length else (S.1 k).length)) (bc' := 1) (bs' := 16) (by split <;> omega) dMod_plus_61 (by omega) (by decide) (by omega) (fun q2 h2 hq2 gq2 e2 F2 => ?_)
              refine z_astore dMod_plus_63 (Nat.le_of_ble_eq_true rfl) ?_
              refine z_iconst dMod_plus_65 ?_
              refine z_istore dMod_plus_66 (Nat.le_of_ble_eq_true rfl) ?_
              refine l_Mod_plus (h := h1) (N := (if ((S.1 k).length : Int) < (S.1 j).length then (S.1 j).length else (S.1 k).length)) (n6 k hkk) (n6 j hkj) hq2 (by omega) (fun h3 f3 y e3 v3 F3 => ?_) 61 0 h2 _ (by omega) (by omega) e2 (fun j hj => absurd hj (by omega)) F2
              have H3 : zMod G h3 ma S 0 := H1.keep hq2 F3
              have fz3 : zMfr ma h h3 := fz1.tr (zMfr.new hq2 F3)
              have oc3 := H3.2.1
              refine z_aload_n dMod_plus_121 rfl ?_
              refine z_iload_n dMod_plus_122 rfl ?_
              refine z_aload dMod_plus_123 rfl ?_
              refine z_callV (bc' := 0) (bs' := 0) MV_Mod_fits lk_Mod_166 dMod_plus_125 (k_Mod_fits H3 hkk e3 (by omega) v3) rfl rfl (Nat.le_of_ble_eq_true rfl) rfl (by assumption) (Nat.le_of_ble_eq_true rfl) (Nat.le_of_ble_eq_true rfl) (by decide) (by decide) (fun _ _ q => q.elim) ?_
              rintro _ h9 ⟨fj, (⟨hfit, rfl, q9, hq9, H9⟩ | ⟨hfit, rfl, H9⟩)⟩
              all_goals have fz9 : zMfr ma h h9 := fz3.tr fj
              · refine z_iret rfl rfl dMod_plus_128 ?_
                exact zQm.okB H9 (Or.inr ⟨zDm.up hq9.1 H3 fz3, hq9.2⟩) rfl fz9 (by unfold sp_plus; rw [if_pos (by omega), if_pos (by omega)]; simp only [Int.toNat_natCast]; exact if_pos hfit.2)
              · refine z_iret rfl rfl dMod_plus_128 ?_
                exact zQm.ok H9 rfl fz9 (by unfold sp_plus; rw [if_pos (by omega), if_pos (by omega)]; simp only [Int.toNat_natCast]; exact if_neg (fun c => hfit ⟨hN16, c⟩))
            · refine z_aload_n dMod_plus_53 rfl ?_
              refine z_alenI dMod_plus_54 (by assumption) ?_
              refine z_goto (tgt := 61) dMod_plus_55 (by decide) ?_
              refine z_newL (n := (if ((S.1 k).length : Int) < (S.1 j).length then (S.1 j).length else (S.1 k).length)) (bc' := 1) (bs' := 16) (by split <;> omega) dMod_plus_61 (by omega) (by decide) (by omega) (fun q2 h2 hq2 gq2 e2 F2 => ?_)
              refine z_astore dMod_plus_63 (Nat.le_of_ble_eq_true rfl) ?_
              refine z_iconst dMod_plus_65 ?_
              refine z_istore dMod_plus_66 (Nat.le_of_ble_eq_true rfl) ?_
              refine l_Mod_plus (h := h1) (N := (if ((S.1 k).length : Int) < (S.1 j).length then (S.1 j).length else (S.1 k).length)) (n6 k hkk) (n6 j hkj) hq2 (by omega) (fun h3 f3 y e3 v3 F3 => ?_) 61 0 h2 _ (by omega) (by omega) e2 (fun j hj => absurd hj (by omega)) F2
              have H3 : zMod G h3 ma S 0 := H1.keep hq2 F3
              have fz3 : zMfr ma h h3 := fz1.tr (zMfr.new hq2 F3)
              have oc3 := H3.2.1
              refine z_aload_n dMod_plus_121 rfl ?_
              refine z_iload_n dMod_plus_122 rfl ?_
              refine z_aload dMod_plus_123 rfl ?_
              refine z_callV (bc' := 0) (bs' := 0) MV_Mod_fits lk_Mod_166 dMod_plus_125 (k_Mod_fits H3 hkk e3 (by omega) v3) rfl rfl (Nat.le_of_ble_eq_true rfl) rfl (by assumption) (Nat.le_of_ble_eq_true rfl) (Nat.le_of_ble_eq_true rfl) (by decide) (by decide) (fun _ _ q => q.elim) ?_
              rintro _ h9 ⟨fj, (⟨hfit, rfl, q9, hq9, H9⟩ | ⟨hfit, rfl, H9⟩)⟩
              all_goals have fz9 : zMfr ma h h9 := fz3.tr fj
              · refine z_iret rfl rfl dMod_plus_128 ?_
                exact zQm.okB H9 (Or.inr ⟨zDm.up hq9.1 H3 fz3, hq9.2⟩) rfl fz9 (by unfold sp_plus; rw [if_pos (by omega), if_pos (by omega)]; simp only [Int.toNat_natCast]; exact if_pos hfit.2)
              · refine z_iret rfl rfl dMod_plus_128 ?_
                exact zQm.ok H9 rfl fz9 (by unfold sp_plus; rw [if_pos (by omega), if_pos (by omega)]; simp only [Int.toNat_natCast]; exact if_neg (fun c => hfit ⟨hN16, c⟩))
          · refine z_iconst dMod_plus_28 ?_
            refine z_iret rfl rfl dMod_plus_29 ?_
            rcases (show t9 = 0 ∨ t9 = 1 ∨ t9 = 2 ∨ t9 = 3 by omega) with t0 | t0 | t0 | t0
            all_goals first
              | (exfalso; omega)
              | exact zQm.ok H1 (by omega) (by assumption) (by unfold sp_plus; (try unfold spPut); (try simp only [Int.toNat_natCast]); (repeat (first | rw [if_pos (by omega)] | rw [if_neg (by omega)] | rw [if_pos (by assumption)] | rw [if_neg (by assumption)] | rw [if_pos (True.intro : True)])); (try (first | rfl | (congr 2; omega) | (congr 1; congr 1; omega))); done)
              | exact zQm.b1 H1 (by omega) (by assumption) (by unfold sp_plus; (try unfold spPut); (try simp only [Int.toNat_natCast]); (repeat (first | rw [if_pos (by omega)] | rw [if_neg (by omega)] | rw [if_pos (by assumption)] | rw [if_neg (by assumption)] | rw [if_pos (True.intro : True)])); (try (first | rfl | (congr 2; omega) | (congr 1; congr 1; omega))); done)
              | exact zQm.b2 H1 (by omega) (by assumption) (by unfold sp_plus; (try unfold spPut); (try simp only [Int.toNat_natCast]); (repeat (first | rw [if_pos (by omega)] | rw [if_neg (by omega)] | rw [if_pos (by assumption)] | rw [if_neg (by assumption)] | rw [if_pos (True.intro : True)])); (try (first | rfl | (congr 2; omega) | (congr 1; congr 1; omega))); done)
              | exact zQm.b3 H1 (by omega) (by assumption) (by unfold sp_plus; (try unfold spPut); (try simp only [Int.toNat_natCast]); (repeat (first | rw [if_pos (by omega)] | rw [if_neg (by omega)] | rw [if_pos (by assumption)] | rw [if_neg (by assumption)] | rw [if_pos (True.intro : True)])); (try (first | rfl | (congr 2; omega) | (congr 1; congr 1; omega))); done)
        · exfalso; omega
theorem l_Mod_times2 {mc ms bc bs : Nat} {Qn : Option Value → zHp → Prop} {Qx : String → zHp → Prop} {a b q N K : Nat} {L M : List Int} {w0 w1 w2 : Option Value} {f0 : Nat → Int} (hL : zAr G h a L) (hM : zAr G h b M) (na : a ≠ q) (nb : b ≠ q) (hK : K < N) (hN : N ≤ 99)
    (KK : ∀ (h1 : zHp) (f : Nat → Int) y, h1 q = some (zLongs G N f) → f K = zCf L M (K : Int) L.length → (∀ j, j ≠ K → f j = f0 j) → (∀ z, z ≠ q → h1 z = h z) → zR G l (zMJ G hMod_times 4 Qn Qx mc ms) bc bs h1 141 [w0, w1, w2, some (.ref a), some (.ref b), some (.ref q), some (zi (K : Int)), y] []) :
    ∀ (n m : Nat) (h1 : zHp) (f : Nat → Int), L.length - m < n → m ≤ L.length → h1 q = some (zLongs G N f) → f K = zCf L M (K : Int) m → (∀ j, j ≠ K → f j = f0 j) → (∀ z, z ≠ q → h1 z = h z) →
      zR G l (zMJ G hMod_times 4 Qn Qx mc ms) bc bs h1 86 [w0, w1, w2, some (.ref a), some (.ref b), some (.ref q), some (zi (K : Int)), some (zi (m : Int))] [] := by
  intro n
  induction n with
  | zero => intro m h1 f x1 x2 e1 e2 e3 hf; omega
  | succ n ih =>
  intro m h1 f x1 x2 e1 e2 e3 hf
  obtain ⟨fl, d1, d2, d3, d4⟩ := id hL
  obtain ⟨fm, b1, b2, b3, b4⟩ := id hM
  have d1 := (hf a na).trans d1
  have b1 := (hf b nb).trans b1
  have hst : zCf L M (K : Int) (m + 1) = zCf L M (K : Int) m + zAt L m * zAt M ((K : Int) - m) := rfl
  have hl16 := d4
  refine z_iload dMod_times_86 rfl ?_
  refine z_aload_n dMod_times_88 rfl ?_
  refine z_alenI dMod_times_89 d1 ?_
  refine z_icmp_ge (tgt := 141) dMod_times_90 (by decide) (by omega) (by omega) (fun c90 => ?_) (fun c90 => ?_)
  · have em : m = L.length := by omega
    subst em
    exact KK h1 f _ e1 e2 e3 hf
  · refine z_iload dMod_times_93 rfl ?_
    refine z_iload dMod_times_95 rfl ?_
    refine z_isub dMod_times_97 ?_
    refine z_if_lt (tgt := 135) dMod_times_98 (by decide) (by omega) (fun c98 => ?_) (fun c98 => ?_)
    · refine z_iinc dMod_times_135 rfl (Nat.le_of_ble_eq_true rfl) ?_
      refine z_goto (tgt := 86) dMod_times_138 (by decide) ?_
      first
        | exact ih (m + 1) h2 _ (by omega) (by omega) p2 (by rw [zup_same, hst, zAt_lt (L := L) (by omega), zAt_eq (L := M) (by omega) (by omega)]) (fun j hj => (zup_ne hj).trans (e3 j hj)) (fun z hz => (f2 z hz).trans (hf z hz))
        | exact ih (m + 1) h1 f (by omega) (by omega) e1 (e2.trans (by rw [hst, zAt_neg (L := M) (by omega), Int.mul_zero, Int.add_zero])) e3 hf
        | exact ih (m + 1) h1 f (by omega) (by omega) e1 (e2.trans (by rw [hst, zAt_out (L := M) (by omega), Int.mul_zero, Int.add_zero])) e3 hf
    · refine z_iload dMod_times_101 rfl ?_
      refine z_iload dMod_times_103 rfl ?_
      refine z_isub dMod_times_105 ?_
      refine z_aload dMod_times_106 rfl ?_
      refine z_alenI dMod_times_108 b1 ?_
      refine z_icmp_ge (tgt := 135) dMod_times_109 (by decide) (by omega) (by omega) (fun c109 => ?_) (fun c109 => ?_)
      · refine z_iinc dMod_times_135 rfl (Nat.le_of_ble_eq_true rfl) ?_
        refine z_goto (tgt := 86) dMod_times_138 (by decide) ?_
        first
          | exact ih (m + 1) h2 _ (by omega) (by omega) p2 (by rw [zup_same, hst, zAt_lt (L := L) (by omega), zAt_eq (L := M) (by omega) (by omega)]) (fun j hj => (zup_ne hj).trans (e3 j hj)) (fun z hz => (f2 z hz).trans (hf z hz))
          | exact ih (m + 1) h1 f (by omega) (by omega) e1 (e2.trans (by rw [hst, zAt_neg (L := M) (by omega), Int.mul_zero, Int.add_zero])) e3 hf
          | exact ih (m + 1) h1 f (by omega) (by omega) e1 (e2.trans (by rw [hst, zAt_out (L := M) (by omega), Int.mul_zero, Int.add_zero])) e3 hf
      · have d4m := d4 m (by omega)
        have b4m := b4 ((K : Int) - m).toNat (by omega)
        refine z_aload dMod_times_112 rfl ?_
        refine z_iload dMod_times_114 rfl ?_
        refine z_dup2 rfl rfl dMod_times_116 ?_
        refine z_lald dMod_times_117 (by assumption) (by refine ⟨?_, ?_, ?_⟩ <;> omega) ?_
        rw [Int.toNat_natCast, e2]
        refine z_aload_n dMod_times_118 rfl ?_
        refine z_iload dMod_times_119 rfl ?_
        refine z_iald dMod_times_121 (by assumption) (by refine ⟨?_, ?_, ?_⟩ <;> omega) ?_
        rw [Int.toNat_natCast, d3 m (by omega)]
        refine z_i2l (by first | omega | omega) dMod_times_122 ?_
        refine z_aload dMod_times_123 rfl ?_
        refine z_iload dMod_times_125 rfl ?_
        refine z_iload dMod_times_127 rfl ?_
        refine z_isub dMod_times_129 ?_
        refine z_iald dMod_times_130 (by assumption) (by refine ⟨?_, ?_, ?_⟩ <;> omega) ?_
        rw [b3 _ (by omega)]
        refine z_i2l (by first | omega | omega) dMod_times_131 ?_
        refine z_lmul dMod_times_132 ?_
        refine z_ladd dMod_times_133 ?_
        refine z_last dMod_times_134 (by assumption) (by refine ⟨?_, ?_, ?_⟩ <;> omega) ?_
        refine z_hx (fun h2 p2 f2 => ?_)
        rw [Int.toNat_natCast] at p2
        refine z_iinc dMod_times_135 rfl (Nat.le_of_ble_eq_true rfl) ?_
        refine z_goto (tgt := 86) dMod_times_138 (by decide) ?_
        first
          | exact ih (m + 1) h2 _ (by omega) (by omega) p2 (by rw [zup_same, hst, zAt_lt (L := L) (by omega), zAt_eq (L := M) (by omega) (by omega)]) (fun j hj => (zup_ne hj).trans (e3 j hj)) (fun z hz => (f2 z hz).trans (hf z hz))
          | exact ih (m + 1) h1 f (by omega) (by omega) e1 (e2.trans (by rw [hst, zAt_neg (L := M) (by omega), Int.mul_zero, Int.add_zero])) e3 hf
          | exact ih (m + 1) h1 f (by omega) (by omega) e1 (e2.trans (by rw [hst, zAt_out (L := M) (by omega), Int.mul_zero, Int.add_zero])) e3 hf
theorem l_Mod_times {mc ms bc bs : Nat} {Qn : Option Value → zHp → Prop} {Qx : String → zHp → Prop} {a b q N : Nat} {L M : List Int} {w0 w1 w2 : Option Value} (hL : zAr G h a L) (hM : zAr G h b M) (hq : zDm h q) (hN : N ≤ 31)
    (KK : ∀ (h1 : zHp) (f : Nat → Int) y6 y, h1 q = some (zLongs G N f) → (∀ j : Nat, j < N → zI64 (f j) ∧ f j = zCf L M (j : Int) (j + 1)) → (∀ z, z ≠ q → h1 z = h z) → zR G l (zMJ G hMod_times 4 Qn Qx mc ms) bc bs h1 147 [w0, w1, w2, some (.ref a), some (.ref b), some (.ref q), y6, y] []) :
    ∀ (n m : Nat) (h1 : zHp) (f : Nat → Int) (y : Option Value), N - m < n → m ≤ N → h1 q = some (zLongs G N f) → (∀ j : Nat, j < m → f j = zCf L M (j : Int) (j + 1)) → (∀ j : Nat, m ≤ j → j < N → f j = 0) → (∀ z, z ≠ q → h1 z = h z) →
      zR G l (zMJ G hMod_times 4 Qn Qx mc ms) bc bs h1 75 [w0, w1, w2, some (.ref a), some (.ref b), some (.ref q), some (zi (m : Int)), y] [] := by
  intro n
  induction n with
  | zero => intro m h1 f y x1 x2 e1 e2 e3 hf; omega
  | succ n ih =>
  intro m h1 f y x1 x2 e1 e2 e3 hf
  obtain ⟨fl, d1, d2, d3, d4⟩ := id hL
  obtain ⟨fm, b1, b2, b3, b4⟩ := id hM
  have na : a ≠ q := Nat.ne_of_lt (hq a _ d1)
  have nb : b ≠ q := Nat.ne_of_lt (hq b _ b1)
  refine z_iload dMod_times_75 rfl ?_
  refine z_aload dMod_times_77 rfl ?_
  refine z_alenL dMod_times_79 e1 ?_
  refine z_icmp_ge (tgt := 147) dMod_times_80 (by decide) (by omega) (by omega) (fun c80 => ?_) (fun c80 => ?_)
  · have em : m = N := by omega
    subst em
    exact KK h1 f _ _ e1 (fun j hj => ⟨by rw [e2 j hj]; have := zCf_in (j : Int) (zAtIn d4) (zAtIn b4) (j + 1); omega, e2 j hj⟩) hf
  · refine z_iconst dMod_times_83 ?_
    refine z_istore dMod_times_84 (Nat.le_of_ble_eq_true rfl) ?_
    refine l_Mod_times2 (h := h1) (f0 := f) (hL.kept (hf a na)) (hM.kept (hf b nb)) na nb (by omega) (by omega) (fun h2 f2 y2 g1 g2 g3 g4 => ?_) (L.length + 1) 0 h1 f (by omega) (by omega) e1 (e3 m (Nat.le_refl _) (by omega)) (fun _ _ => rfl) (fun _ _ => rfl)
    refine z_iinc dMod_times_141 rfl (Nat.le_of_ble_eq_true rfl) ?_
    refine z_goto (tgt := 75) dMod_times_144 (by decide) ?_
    refine ih (m + 1) h2 f2 _ (by omega) (by omega) g1 (fun j hj => ?_) (fun j hj1 hj2 => ?_) (fun z hz => (g4 z hz).trans (hf z hz))
    · by_cases e9 : j = m
      · subst e9
        rw [g2, zCf_all]
      · rw [g3 j e9]
        exact e2 j (by omega)
    · rw [g3 j (by omega)]
      exact e3 j (by omega) hj2
theorem k_Mod_times {p o : Int} (H : zMod G h ma S th) (z_p : zI32 p) (z_o : zI32 o) (h16 : ∀ k, k < 4 → (S.1 k).length ≤ 16) : zM G l hMod_times yMod_times 4 [.ref (ma 0), zi p, zi o] h (zQm G ma h (1) (2) (3) (sp_times S p o)) zNo 2 47 := by
  obtain ⟨m1, m2, ⟨g, m3, m3a⟩, m4, ⟨f6, m5, m5a⟩, m6, m7⟩ := id H
  unfold zMfs at m2
  refine zM.of [some (.ref (ma 0)), some (zi p), some (zi o), none, none, none, none, none] (by decide +kernel) rfl (by decide) rfl (Nat.le_of_ble_eq_true rfl) rfl ?_
  refine z_aload_n dMod_times_0 rfl ?_
  refine z_iload_n dMod_times_1 rfl ?_
  refine z_callS MS_Mod_isNo lk_Mod_81 dMod_times_2 (k_Mod_isNo (by omega)) rfl rfl (Nat.le_of_ble_eq_true rfl)  (Nat.le_of_ble_eq_true rfl) (Nat.le_of_ble_eq_true rfl) (Nat.le_of_eq (Nat.zero_add _)) (Nat.le_of_eq (Nat.zero_add _)) (fun _ _ q => q.elim) ?_
  rintro _ _ ⟨n9k, rfl, (⟨rfl, hn9k⟩ | ⟨rfl, hn9k⟩), rfl⟩
  · refine z_if_ne (tgt := 15) dMod_times_5 (by decide) (by omega) (fun c5 => ?_) (fun c5 => ?_)
    · refine z_iconst dMod_times_15 ?_
      refine z_goto (tgt := 20) dMod_times_16 (by decide) ?_
      refine z_iconst dMod_times_20 ?_
      refine z_iconst dMod_times_21 ?_
      refine z_callV MV_Mod_fails lk_Mod_88 dMod_times_22 (k_Mod_fails (by assumption) rfl (by omega) (by omega) (by omega)) rfl rfl (Nat.le_of_ble_eq_true rfl) rfl (by assumption) (Nat.le_of_ble_eq_true rfl) (Nat.le_of_ble_eq_true rfl) (Nat.le_of_eq (Nat.zero_add _)) (Nat.le_of_eq (Nat.zero_add _)) (fun _ _ q => q.elim) ?_
      rintro _ h1 ⟨t9, b8, rfl, ht, p1, g1⟩
      have H1 : zMod G h1 ma S t9 := H.obj (nu := S.2.2.2.2) (th' := t9) p1 g1
      have fz1 : zMfr ma h h1 := zMfr.of0 g1
      obtain ⟨-, n2, ⟨gg, n3, n3a⟩, n4, ⟨f61, n5, n5a⟩, n6, n7⟩ := id H1
      unfold zMfs at n2
      refine z_if_eq (tgt := 30) dMod_times_25 (by decide) (by omega) (fun c25 => ?_) (fun c25 => ?_)
      · exfalso; omega
      · refine z_iconst dMod_times_28 ?_
        refine z_iret rfl rfl dMod_times_29 ?_
        rcases (show t9 = 0 ∨ t9 = 1 ∨ t9 = 2 ∨ t9 = 3 by omega) with t0 | t0 | t0 | t0
        all_goals first
          | (exfalso; omega)
          | exact zQm.ok H1 (by omega) (by assumption) (by unfold sp_times; (try unfold spPut); (try simp only [Int.toNat_natCast]); (repeat (first | rw [if_pos (by omega)] | rw [if_neg (by omega)] | rw [if_pos (by assumption)] | rw [if_neg (by assumption)] | rw [if_pos (True.intro : True)])); (try (first | rfl | (congr 2; omega) | (congr 1; congr 1; omega))); done)
          | exact zQm.b1 H1 (by omega) (by assumption) (by unfold sp_times; (try unfold spPut); (try simp only [Int.toNat_natCast]); (repeat (first | rw [if_pos (by omega)] | rw [if_neg (by omega)] | rw [if_pos (by assumption)] | rw [if_neg (by assumption)] | rw [if_pos (True.intro : True)])); (try (first | rfl | (congr 2; omega) | (congr 1; congr 1; omega))); done)
          | exact zQm.b2 H1 (by omega) (by assumption) (by unfold sp_times; (try unfold spPut); (try simp only [Int.toNat_natCast]); (repeat (first | rw [if_pos (by omega)] | rw [if_neg (by omega)] | rw [if_pos (by assumption)] | rw [if_neg (by assumption)] | rw [if_pos (True.intro : True)])); (try (first | rfl | (congr 2; omega) | (congr 1; congr 1; omega))); done)
          | exact zQm.b3 H1 (by omega) (by assumption) (by unfold sp_times; (try unfold spPut); (try simp only [Int.toNat_natCast]); (repeat (first | rw [if_pos (by omega)] | rw [if_neg (by omega)] | rw [if_pos (by assumption)] | rw [if_neg (by assumption)] | rw [if_pos (True.intro : True)])); (try (first | rfl | (congr 2; omega) | (congr 1; congr 1; omega))); done)
    · exfalso; omega
  · obtain ⟨k, rfl⟩ := Int.eq_ofNat_of_zero_le (show 0 ≤ p by omega)
    have hkk : k < 4 := by omega
    refine z_if_ne (tgt := 15) dMod_times_5 (by decide) (by omega) (fun c5 => ?_) (fun c5 => ?_)
    · exfalso; omega
    · refine z_iload_n dMod_times_8 rfl ?_
      refine z_callS MS_Mod_isNo lk_Mod_81 dMod_times_9 (k_Mod_isNo (by omega)) rfl rfl (Nat.le_of_ble_eq_true rfl)  (Nat.le_of_ble_eq_true rfl) (Nat.le_of_ble_eq_true rfl) (Nat.le_of_eq (Nat.zero_add _)) (Nat.le_of_eq (Nat.zero_add _)) (fun _ _ q => q.elim) ?_
      rintro _ _ ⟨n9j, rfl, (⟨rfl, hn9j⟩ | ⟨rfl, hn9j⟩), rfl⟩
      · refine z_if_eq (tgt := 19) dMod_times_12 (by decide) (by omega) (fun c12 => ?_) (fun c12 => ?_)
        · refine z_iconst dMod_times_19 ?_
          refine z_iconst dMod_times_20 ?_
          refine z_iconst dMod_times_21 ?_
          refine z_callV MV_Mod_fails lk_Mod_88 dMod_times_22 (k_Mod_fails (by assumption) rfl (by omega) (by omega) (by omega)) rfl rfl (Nat.le_of_ble_eq_true rfl) rfl (by assumption) (Nat.le_of_ble_eq_true rfl) (Nat.le_of_ble_eq_true rfl) (Nat.le_of_eq (Nat.zero_add _)) (Nat.le_of_eq (Nat.zero_add _)) (fun _ _ q => q.elim) ?_
          rintro _ h1 ⟨t9, b8, rfl, ht, p1, g1⟩
          have H1 : zMod G h1 ma S t9 := H.obj (nu := S.2.2.2.2) (th' := t9) p1 g1
          have fz1 : zMfr ma h h1 := zMfr.of0 g1
          obtain ⟨-, n2, ⟨gg, n3, n3a⟩, n4, ⟨f61, n5, n5a⟩, n6, n7⟩ := id H1
          unfold zMfs at n2
          refine z_if_eq (tgt := 30) dMod_times_25 (by decide) (by omega) (fun c25 => ?_) (fun c25 => ?_)
          · exfalso; omega
          · refine z_iconst dMod_times_28 ?_
            refine z_iret rfl rfl dMod_times_29 ?_
            rcases (show t9 = 0 ∨ t9 = 1 ∨ t9 = 2 ∨ t9 = 3 by omega) with t0 | t0 | t0 | t0
            all_goals first
              | (exfalso; omega)
              | exact zQm.ok H1 (by omega) (by assumption) (by unfold sp_times; (try unfold spPut); (try simp only [Int.toNat_natCast]); (repeat (first | rw [if_pos (by omega)] | rw [if_neg (by omega)] | rw [if_pos (by assumption)] | rw [if_neg (by assumption)] | rw [if_pos (True.intro : True)])); (try (first | rfl | (congr 2; omega) | (congr 1; congr 1; omega))); done)
              | exact zQm.b1 H1 (by omega) (by assumption) (by unfold sp_times; (try unfold spPut); (try simp only [Int.toNat_natCast]); (repeat (first | rw [if_pos (by omega)] | rw [if_neg (by omega)] | rw [if_pos (by assumption)] | rw [if_neg (by assumption)] | rw [if_pos (True.intro : True)])); (try (first | rfl | (congr 2; omega) | (congr 1; congr 1; omega))); done)
              | exact zQm.b2 H1 (by omega) (by assumption) (by unfold sp_times; (try unfold spPut); (try simp only [Int.toNat_natCast]); (repeat (first | rw [if_pos (by omega)] | rw [if_neg (by omega)] | rw [if_pos (by assumption)] | rw [if_neg (by assumption)] | rw [if_pos (True.intro : True)])); (try (first | rfl | (congr 2; omega) | (congr 1; congr 1; omega))); done)
              | exact zQm.b3 H1 (by omega) (by assumption) (by unfold sp_times; (try unfold spPut); (try simp only [Int.toNat_natCast]); (repeat (first | rw [if_pos (by omega)] | rw [if_neg (by omega)] | rw [if_pos (by assumption)] | rw [if_neg (by assumption)] | rw [if_pos (True.intro : True)])); (try (first | rfl | (congr 2; omega) | (congr 1; congr 1; omega))); done)
        · refine z_iconst dMod_times_15 ?_
          refine z_goto (tgt := 20) dMod_times_16 (by decide) ?_
          refine z_iconst dMod_times_20 ?_
          refine z_iconst dMod_times_21 ?_
          refine z_callV MV_Mod_fails lk_Mod_88 dMod_times_22 (k_Mod_fails (by assumption) rfl (by omega) (by omega) (by omega)) rfl rfl (Nat.le_of_ble_eq_true rfl) rfl (by assumption) (Nat.le_of_ble_eq_true rfl) (Nat.le_of_ble_eq_true rfl) (Nat.le_of_eq (Nat.zero_add _)) (Nat.le_of_eq (Nat.zero_add _)) (fun _ _ q => q.elim) ?_
          rintro _ h1 ⟨t9, b8, rfl, ht, p1, g1⟩
          have H1 : zMod G h1 ma S t9 := H.obj (nu := S.2.2.2.2) (th' := t9) p1 g1
          have fz1 : zMfr ma h h1 := zMfr.of0 g1
          obtain ⟨-, n2, ⟨gg, n3, n3a⟩, n4, ⟨f61, n5, n5a⟩, n6, n7⟩ := id H1
          unfold zMfs at n2
          refine z_if_eq (tgt := 30) dMod_times_25 (by decide) (by omega) (fun c25 => ?_) (fun c25 => ?_)
          · exfalso; omega
          · refine z_iconst dMod_times_28 ?_
            refine z_iret rfl rfl dMod_times_29 ?_
            rcases (show t9 = 0 ∨ t9 = 1 ∨ t9 = 2 ∨ t9 = 3 by omega) with t0 | t0 | t0 | t0
            all_goals first
              | (exfalso; omega)
              | exact zQm.ok H1 (by omega) (by assumption) (by unfold sp_times; (try unfold spPut); (try simp only [Int.toNat_natCast]); (repeat (first | rw [if_pos (by omega)] | rw [if_neg (by omega)] | rw [if_pos (by assumption)] | rw [if_neg (by assumption)] | rw [if_pos (True.intro : True)])); (try (first | rfl | (congr 2; omega) | (congr 1; congr 1; omega))); done)
              | exact zQm.b1 H1 (by omega) (by assumption) (by unfold sp_times; (try unfold spPut); (try simp only [Int.toNat_natCast]); (repeat (first | rw [if_pos (by omega)] | rw [if_neg (by omega)] | rw [if_pos (by assumption)] | rw [if_neg (by assumption)] | rw [if_pos (True.intro : True)])); (try (first | rfl | (congr 2; omega) | (congr 1; congr 1; omega))); done)
              | exact zQm.b2 H1 (by omega) (by assumption) (by unfold sp_times; (try unfold spPut); (try simp only [Int.toNat_natCast]); (repeat (first | rw [if_pos (by omega)] | rw [if_neg (by omega)] | rw [if_pos (by assumption)] | rw [if_neg (by assumption)] | rw [if_pos (True.intro : True)])); (try (first | rfl | (congr 2; omega) | (congr 1; congr 1; omega))); done)
              | exact zQm.b3 H1 (by omega) (by assumption) (by unfold sp_times; (try unfold spPut); (try simp only [Int.toNat_natCast]); (repeat (first | rw [if_pos (by omega)] | rw [if_neg (by omega)] | rw [if_pos (by assumption)] | rw [if_neg (by assumption)] | rw [if_pos (True.intro : True)])); (try (first | rfl | (congr 2; omega) | (congr 1; congr 1; omega))); done)
      · obtain ⟨j, rfl⟩ := Int.eq_ofNat_of_zero_le (show 0 ≤ o by omega)
        have hkj : j < 4 := by omega
        refine z_if_eq (tgt := 19) dMod_times_12 (by decide) (by omega) (fun c12 => ?_) (fun c12 => ?_)
        · refine z_iconst dMod_times_19 ?_
          refine z_iconst dMod_times_20 ?_
          refine z_iconst dMod_times_21 ?_
          refine z_callV MV_Mod_fails lk_Mod_88 dMod_times_22 (k_Mod_fails (by assumption) rfl (by omega) (by omega) (by omega)) rfl rfl (Nat.le_of_ble_eq_true rfl) rfl (by assumption) (Nat.le_of_ble_eq_true rfl) (Nat.le_of_ble_eq_true rfl) (Nat.le_of_eq (Nat.zero_add _)) (Nat.le_of_eq (Nat.zero_add _)) (fun _ _ q => q.elim) ?_
          rintro _ h1 ⟨t9, b8, rfl, ht, p1, g1⟩
          have H1 : zMod G h1 ma S t9 := H.obj (nu := S.2.2.2.2) (th' := t9) p1 g1
          have fz1 : zMfr ma h h1 := zMfr.of0 g1
          obtain ⟨-, n2, ⟨gg, n3, n3a⟩, n4, ⟨f61, n5, n5a⟩, n6, n7⟩ := id H1
          unfold zMfs at n2
          refine z_if_eq (tgt := 30) dMod_times_25 (by decide) (by omega) (fun c25 => ?_) (fun c25 => ?_)
          · obtain ⟨frk, rk1, rk2, rk3, rk4⟩ := id (n6 k (by omega))
            have h16k := h16 k (by omega)
            have ezk : ∀ i : Int, 0 ≤ i → i < ((S.1 k).length : Int) → frk i.toNat = zAt (S.1 k) i := fun i x1 x2 => by rw [rk3 _ (by omega), zAt_eq x1 x2]
            obtain ⟨frj, rj1, rj2, rj3, rj4⟩ := id (n6 j (by omega))
            have h16j := h16 j (by omega)
            have ezj : ∀ i : Int, 0 ≤ i → i < ((S.1 j).length : Int) → frj i.toNat = zAt (S.1 j) i := fun i x1 x2 => by rw [rj3 _ (by omega), zAt_eq x1 x2]
            have et9 : t9 = 0 := by omega
            subst et9
            have hN31 : (zPn (S.1 k) (S.1 j)) ≤ 31 := by unfold zPn; split <;> omega
            refine z_aload_n dMod_times_30 rfl ?_
            refine z_get (k := 0) fd_Mod (by decide) fl_Mod_11 dMod_times_31 (by assumption) (by rfl) ?_
            refine z_iload_n dMod_times_34 rfl ?_
            refine z_aald (t := 4) (ty := .array .int) rfl rfl dMod_times_35 n3 (by refine ⟨?_, ?_, ?_⟩ <;> omega) ?_
            rw [show (k : Int).toNat = k from rfl, n3a k (by omega)]
            refine z_astore_n dMod_times_36 (Nat.le_of_ble_eq_true rfl) ?_
            refine z_aload_n dMod_times_37 rfl ?_
            refine z_get (k := 0) fd_Mod (by decide) fl_Mod_11 dMod_times_38 (by assumption) (by rfl) ?_
            refine z_iload_n dMod_times_41 rfl ?_
            refine z_aald (t := 4) (ty := .array .int) rfl rfl dMod_times_42 n3 (by refine ⟨?_, ?_, ?_⟩ <;> omega) ?_
            rw [show (j : Int).toNat = j from rfl, n3a j (by omega)]
            refine z_astore dMod_times_43 (Nat.le_of_ble_eq_true rfl) ?_
            refine z_aload_n dMod_times_45 rfl ?_
            refine z_alenI dMod_times_46 (by assumption) ?_
            refine z_if_eq (tgt := 56) dMod_times_47 (by decide) (by omega) (fun c47 => ?_) (fun c47 => ?_)
            · refine z_iconst dMod_times_56 ?_
              refine z_goto (tgt := 68) dMod_times_57 (by decide) ?_
              refine z_newL (n := (zPn (S.1 k) (S.1 j))) (bc' := 1) (bs' := 16) (by unfold zPn; first | (rw [if_pos (by omega)]; rfl) | (rw [if_neg (by omega)]; omega)) dMod_times_68 (by omega) (by decide) (by omega) (fun q2 h2 hq2 gq2 e2 F2 => ?_)
              refine z_astore dMod_times_70 (Nat.le_of_ble_eq_true rfl) ?_
              refine z_iconst dMod_times_72 ?_
              refine z_istore dMod_times_73 (Nat.le_of_ble_eq_true rfl) ?_
              refine l_Mod_times (h := h1) (N := (zPn (S.1 k) (S.1 j))) (n6 k hkk) (n6 j hkj) hq2 (by omega) (fun h3 f3 y6 y e3 v3 F3 => ?_) 32 0 h2 _ _ (by omega) (by omega) e2 (fun j hj => absurd hj (by omega)) (fun _ _ _ => rfl) F2
              have H3 : zMod G h3 ma S 0 := H1.keep hq2 F3
              have fz3 : zMfr ma h h3 := fz1.tr (zMfr.new hq2 F3)
              have oc3 := H3.2.1
              refine z_aload_n dMod_times_147 rfl ?_
              refine z_iload_n dMod_times_148 rfl ?_
              refine z_aload dMod_times_149 rfl ?_
              refine z_callV (bc' := 0) (bs' := 0) MV_Mod_fits lk_Mod_166 dMod_times_151 (k_Mod_fits H3 hkk e3 (by omega) v3) rfl rfl (Nat.le_of_ble_eq_true rfl) rfl (by assumption) (Nat.le_of_ble_eq_true rfl) (Nat.le_of_ble_eq_true rfl) (by decide) (by decide) (fun _ _ q => q.elim) ?_
              rintro _ h9 ⟨fj, (⟨hfit, rfl, q9, hq9, H9⟩ | ⟨hfit, rfl, H9⟩)⟩
              all_goals have fz9 : zMfr ma h h9 := fz3.tr fj
              · refine z_iret rfl rfl dMod_times_154 ?_
                exact zQm.okB H9 (Or.inr ⟨zDm.up hq9.1 H3 fz3, hq9.2⟩) rfl fz9 (by unfold sp_times; rw [if_pos (by omega), if_pos (by omega)]; simp only [Int.toNat_natCast]; exact if_pos hfit)
              · refine z_iret rfl rfl dMod_times_154 ?_
                exact zQm.ok H9 rfl fz9 (by unfold sp_times; rw [if_pos (by omega), if_pos (by omega)]; simp only [Int.toNat_natCast]; exact if_neg hfit)
            · refine z_aload dMod_times_50 rfl ?_
              refine z_alenI dMod_times_52 (by assumption) ?_
              refine z_if_ne (tgt := 60) dMod_times_53 (by decide) (by omega) (fun c53 => ?_) (fun c53 => ?_)
              · refine z_aload_n dMod_times_60 rfl ?_
                refine z_alenI dMod_times_61 (by assumption) ?_
                refine z_aload dMod_times_62 rfl ?_
                refine z_alenI dMod_times_64 (by assumption) ?_
                refine z_iadd dMod_times_65 ?_
                refine z_iconst dMod_times_66 ?_
                refine z_isub dMod_times_67 ?_
                refine z_newL (n := (zPn (S.1 k) (S.1 j))) (bc' := 1) (bs' := 16) (by unfold zPn; first | (rw [if_pos (by omega)]; rfl) | (rw [if_neg (by omega)]; omega)) dMod_times_68 (by omega) (by decide) (by omega) (fun q2 h2 hq2 gq2 e2 F2 => ?_)
                refine z_astore dMod_times_70 (Nat.le_of_ble_eq_true rfl) ?_
                refine z_iconst dMod_times_72 ?_
                refine z_istore dMod_times_73 (Nat.le_of_ble_eq_true rfl) ?_
                refine l_Mod_times (h := h1) (N := (zPn (S.1 k) (S.1 j))) (n6 k hkk) (n6 j hkj) hq2 (by omega) (fun h3 f3 y6 y e3 v3 F3 => ?_) 32 0 h2 _ _ (by omega) (by omega) e2 (fun j hj => absurd hj (by omega)) (fun _ _ _ => rfl) F2
                have H3 : zMod G h3 ma S 0 := H1.keep hq2 F3
                have fz3 : zMfr ma h h3 := fz1.tr (zMfr.new hq2 F3)
                have oc3 := H3.2.1
                refine z_aload_n dMod_times_147 rfl ?_
                refine z_iload_n dMod_times_148 rfl ?_
                refine z_aload dMod_times_149 rfl ?_
                refine z_callV (bc' := 0) (bs' := 0) MV_Mod_fits lk_Mod_166 dMod_times_151 (k_Mod_fits H3 hkk e3 (by omega) v3) rfl rfl (Nat.le_of_ble_eq_true rfl) rfl (by assumption) (Nat.le_of_ble_eq_true rfl) (Nat.le_of_ble_eq_true rfl) (by decide) (by decide) (fun _ _ q => q.elim) ?_
                rintro _ h9 ⟨fj, (⟨hfit, rfl, q9, hq9, H9⟩ | ⟨hfit, rfl, H9⟩)⟩
                all_goals have fz9 : zMfr ma h h9 := fz3.tr fj
                · refine z_iret rfl rfl dMod_times_154 ?_
                  exact zQm.okB H9 (Or.inr ⟨zDm.up hq9.1 H3 fz3, hq9.2⟩) rfl fz9 (by unfold sp_times; rw [if_pos (by omega), if_pos (by omega)]; simp only [Int.toNat_natCast]; exact if_pos hfit)
                · refine z_iret rfl rfl dMod_times_154 ?_
                  exact zQm.ok H9 rfl fz9 (by unfold sp_times; rw [if_pos (by omega), if_pos (by omega)]; simp only [Int.toNat_natCast]; exact if_neg hfit)
              · refine z_iconst dMod_times_56 ?_
                refine z_goto (tgt := 68) dMod_times_57 (by decide) ?_
                refine z_newL (n := (zPn (S.1 k) (S.1 j))) (bc' := 1) (bs' := 16) (by unfold zPn; first | (rw [if_pos (by omega)]; rfl) | (rw [if_neg (by omega)]; omega)) dMod_times_68 (by omega) (by decide) (by omega) (fun q2 h2 hq2 gq2 e2 F2 => ?_)
                refine z_astore dMod_times_70 (Nat.le_of_ble_eq_true rfl) ?_
                refine z_iconst dMod_times_72 ?_
                refine z_istore dMod_times_73 (Nat.le_of_ble_eq_true rfl) ?_
                refine l_Mod_times (h := h1) (N := (zPn (S.1 k) (S.1 j))) (n6 k hkk) (n6 j hkj) hq2 (by omega) (fun h3 f3 y6 y e3 v3 F3 => ?_) 32 0 h2 _ _ (by omega) (by omega) e2 (fun j hj => absurd hj (by omega)) (fun _ _ _ => rfl) F2
                have H3 : zMod G h3 ma S 0 := H1.keep hq2 F3
                have fz3 : zMfr ma h h3 := fz1.tr (zMfr.new hq2 F3)
                have oc3 := H3.2.1
                refine z_aload_n dMod_times_147 rfl ?_
                refine z_iload_n dMod_times_148 rfl ?_
                refine z_aload dMod_times_149 rfl ?_
                refine z_callV (bc' := 0) (bs' := 0) MV_Mod_fits lk_Mod_166 dMod_times_151 (k_Mod_fits H3 hkk e3 (by omega) v3) rfl rfl (Nat.le_of_ble_eq_true rfl) rfl (by assumption) (Nat.le_of_ble_eq_true rfl) (Nat.le_of_ble_eq_true rfl) (by decide) (by decide) (fun _ _ q => q.elim) ?_
                rintro _ h9 ⟨fj, (⟨hfit, rfl, q9, hq9, H9⟩ | ⟨hfit, rfl, H9⟩)⟩
                all_goals have fz9 : zMfr ma h h9 := fz3.tr fj
                · refine z_iret rfl rfl dMod_times_154 ?_
                  exact zQm.okB H9 (Or.inr ⟨zDm.up hq9.1 H3 fz3, hq9.2⟩) rfl fz9 (by unfold sp_times; rw [if_pos (by omega), if_pos (by omega)]; simp only [Int.toNat_natCast]; exact if_pos hfit)
                · refine z_iret rfl rfl dMod_times_154 ?_
                  exact zQm.ok H9 rfl fz9 (by unfold sp_times; rw [if_pos (by omega), if_pos (by omega)]; simp only [Int.toNat_natCast]; exact if_neg hfit)
          · refine z_iconst dMod_times_28 ?_
            refine z_iret rfl rfl dMod_times_29 ?_
            rcases (show t9 = 0 ∨ t9 = 1 ∨ t9 = 2 ∨ t9 = 3 by omega) with t0 | t0 | t0 | t0
            all_goals first
              | (exfalso; omega)
              | exact zQm.ok H1 (by omega) (by assumption) (by unfold sp_times; (try unfold spPut); (try simp only [Int.toNat_natCast]); (repeat (first | rw [if_pos (by omega)] | rw [if_neg (by omega)] | rw [if_pos (by assumption)] | rw [if_neg (by assumption)] | rw [if_pos (True.intro : True)])); (try (first | rfl | (congr 2; omega) | (congr 1; congr 1; omega))); done)
              | exact zQm.b1 H1 (by omega) (by assumption) (by unfold sp_times; (try unfold spPut); (try simp only [Int.toNat_natCast]); (repeat (first | rw [if_pos (by omega)] | rw [if_neg (by omega)] | rw [if_pos (by assumption)] | rw [if_neg (by assumption)] | rw [if_pos (True.intro : True)])); (try (first | rfl | (congr 2; omega) | (congr 1; congr 1; omega))); done)
              | exact zQm.b2 H1 (by omega) (by assumption) (by unfold sp_times; (try unfold spPut); (try simp only [Int.toNat_natCast]); (repeat (first | rw [if_pos (by omega)] | rw [if_neg (by omega)] | rw [if_pos (by assumption)] | rw [if_neg (by assumption)] | rw [if_pos (True.intro : True)])); (try (first | rfl | (congr 2; omega) | (congr 1; congr 1; omega))); done)
              | exact zQm.b3 H1 (by omega) (by assumption) (by unfold sp_times; (try unfold spPut); (try simp only [Int.toNat_natCast]); (repeat (first | rw [if_pos (by omega)] | rw [if_neg (by omega)] | rw [if_pos (by assumption)] | rw [if_neg (by assumption)] | rw [if_pos (True.intro : True)])); (try (first | rfl | (congr 2; omega) | (congr 1; congr 1; omega))); done)
        · exfalso; omega
end MOD18
end
section
section MOD19
variable {G : zG} {l : Launch} {h h' h'' : zHp} {ma : Nat → Nat} {S : zSt} {th : Int}
theorem lrem_eq_mod9 (x y : Int64) : x - (x / y) * y = x % y := by
  apply Int64.toInt_inj.mp
  have h1 := Int64.le_toInt (x % y)
  have h2 := Int64.toInt_lt (x % y)
  rw [Int64.toInt_sub, Int64.toInt_mul, Int64.toInt_div, Int.bmod_mul_bmod, Int.sub_bmod_bmod, Int.mul_comm (x.toInt.tdiv y.toInt), ← Int.tmod_def, ← Int64.toInt_mod]
  exact Int.bmod_eq_of_le_mul_two (by omega) (by omega)
theorem zL_rem {a b : Int} (ha : zI64 a) (hb : 0 < b ∧ b ≤ 9223372036854775807) : zL a - zL a / zL b * zL b = zL (a.tmod b) := by
  rw [lrem_eq_mod9]
  apply Int64.toInt_inj.mp
  have h1 := Int.lt_tmod_of_pos a hb.1
  have h2 := Int.tmod_lt_of_pos a hb.1
  rw [Int64.toInt_mod, zL_toInt ha, zL_toInt (by omega), zL_toInt (by omega)]
theorem zrest_eq (v : Int) : (v.tmod 9973 + 9973).tmod 9973 = v % 9973 := by
  have e := zmod_pos (a := v) (b := 9973) (by decide)
  rw [Int.tmod_eq_emod_of_nonneg (by split at e <;> omega)]
  split at e <;> omega
theorem zEm (a b x : Int) : (a % 9973 * x + b) % 9973 = (a * x + b) % 9973 := by
  have h := Int.mul_ediv_add_emod a 9973
  have e : a * x + b = (a % 9973 * x + b) + 9973 * (a / 9973 * x) := by
    have e1 : a * x = (9973 * (a / 9973) + a % 9973) * x := by rw [h]
    rw [e1, Int.add_mul, Int.mul_assoc]
    omega
  rw [e, Int.add_mul_emod_self_left]
def zVp (x : Int) : Nat → Int
  | 0 => 1
  | n + 1 => (zVp x n * x) % 9973
def zVs (L : List Int) (x : Int) : Nat → Int
  | 0 => 0
  | n + 1 => (zVs L x n + L.getD n 0 * zVp x n) % 9973
theorem zVp_in (x : Int) (n : Nat) : 0 ≤ zVp x n ∧ zVp x n < 9973 := by
  cases n with
  | zero => exact ⟨by show (0 : Int) ≤ 1; decide, by show (1 : Int) < 9973; decide⟩
  | succ n => unfold zVp; omega
theorem zVs_in (L : List Int) (x : Int) (n : Nat) : 0 ≤ zVs L x n ∧ zVs L x n < 9973 := by
  cases n with
  | zero => exact ⟨by show (0 : Int) ≤ 0; decide, by show (0 : Int) < 9973; decide⟩
  | succ n => unfold zVs; omega
def zPo9 (x : Int) : Nat → Int
  | 0 => 1
  | n + 1 => zPo9 x n * x
def zTs (L : List Int) (x : Int) (s : Nat) : Nat → Int
  | 0 => 0
  | n + 1 => zTs L x s n + L.getD (s + n) 0 * zPo9 x n
theorem zVp_eq (x : Int) : ∀ n, zVp x n = zPo9 x n % 9973
  | 0 => by show (1 : Int) = 1 % 9973; decide
  | n + 1 => by
    unfold zVp zPo9
    rw [zVp_eq x n]
    have := zEm (zPo9 x n) 0 x
    simpa using this
theorem zTs_front (L : List Int) (x : Int) : ∀ n s : Nat, zTs L x s (n + 1) = L.getD s 0 + zTs L x (s + 1) n * x
  | 0, s => by simp [zTs, zPo9]
  | n + 1, s => by
    have ih := zTs_front L x n s
    have e1 : zTs L x s (n + 1 + 1) = zTs L x s (n + 1) + L.getD (s + (n + 1)) 0 * zPo9 x (n + 1) := rfl
    have e2 : zTs L x (s + 1) (n + 1) = zTs L x (s + 1) n + L.getD (s + 1 + n) 0 * zPo9 x n := rfl
    rw [e1, e2, ih, Int.add_mul, show s + 1 + n = s + (n + 1) by omega]
    have e3 : L.getD (s + (n + 1)) 0 * zPo9 x (n + 1) = L.getD (s + (n + 1)) 0 * zPo9 x n * x := by
      show L.getD (s + (n + 1)) 0 * (zPo9 x n * x) = _
      rw [Int.mul_assoc]
    rw [e3]
    omega
theorem zVs_eq (L : List Int) (x : Int) : ∀ n, zVs L x n = zTs L x 0 n % 9973
  | 0 => by simp [zVs, zTs]
  | n + 1 => by
    unfold zVs zTs
    rw [zVs_eq L x n, zVp_eq x n, Nat.zero_add]
    have e1 := zEm (zPo9 x n) (zTs L x 0 n % 9973) (L.getD n 0)
    have e2 := zEm (zTs L x 0 n) (zPo9 x n * L.getD n 0) 1
    rw [Int.mul_one, Int.mul_one] at e2
    rw [Int.mul_comm (L.getD n 0), Int.add_comm (zTs L x 0 n % 9973), e1, Int.add_comm (zPo9 x n * L.getD n 0), e2, Int.mul_comm (L.getD n 0)]
theorem zHr_eq (L : List Int) (x : Int) : ∀ n, n ≤ L.length → zHr L x n = zTs L x (L.length - n) n % 9973
  | 0, _ => by simp [zHr, zTs]
  | n + 1, hn => by
    unfold zHr
    rw [zHr_eq L x n (by omega), zEm, zTs_front, show L.length - (n + 1) + 1 = L.length - n by omega, show L.length - (n + 1) = L.length - 1 - n by omega]
    congr 1
    omega
theorem zVs_hr (L : List Int) (x : Int) : zVs L x L.length = zHr L x L.length := by
  rw [zVs_eq, zHr_eq L x _ (Nat.le_refl _), Nat.sub_self]
theorem k_Mod_rest {v : Int} (hv : -1000000000000 ≤ v ∧ v ≤ 1000000000000) : zM G l hMod_rest yMod_rest 1 [zl v] h (fun w h' => w = some (zi (v % 9973)) ∧ h = h') zNo 0 0 := by
  refine zM.of [some (zl v), none] (by decide +kernel) rfl (by decide) rfl (Nat.le_of_ble_eq_true rfl) rfl ?_
  refine z_lload_n dMod_rest_0 rfl ?_
  refine z_ldc2 (v := (9973 : Int64)) dMod_rest_1 (9973) (by decide) ct_Mod_170 ?_
  refine z_lrem (v.tmod 9973) (zL_rem (by omega) (by omega)) (by decide) dMod_rest_4 ?_
  have g1 := Int.lt_tmod_of_pos v (show (0 : Int) < 9973 by decide)
  have g2 := Int.tmod_lt_of_pos v (show (0 : Int) < 9973 by decide)
  refine z_ldc2 (v := (9973 : Int64)) dMod_rest_5 (9973) (by decide) ct_Mod_170 ?_
  refine z_ladd dMod_rest_8 ?_
  refine z_ldc2 (v := (9973 : Int64)) dMod_rest_9 (9973) (by decide) ct_Mod_170 ?_
  refine z_lrem ((v.tmod 9973 + 9973).tmod 9973) (zL_rem (by omega) (by omega)) (by decide) dMod_rest_12 ?_
  rw [zrest_eq]
  refine z_l2i dMod_rest_13 ?_
  refine z_iret rfl rfl dMod_rest_14 ?_
  exact ⟨rfl, rfl⟩
theorem l_Mod_valueOf {mc ms bc bs : Nat} {Qn : Option Value → zHp → Prop} {Qx : String → zHp → Prop} {a : Nat} {L : List Int} {x : Int} (hr : zAr G h a L) (hx : -99 ≤ x ∧ x ≤ 99)
    (K : ∀ p8 y8 y9, zR G l (zMJ G hMod_valueOf 2 Qn Qx mc ms) bc bs h 59 [some (.ref a), some (zi x), some (zl p8), none, some (zl (zVs L x L.length)), none, some (.ref a), some (zi (L.length : Int)), y8, y9] []) :
    ∀ (n m : Nat) (y9 : Option Value), L.length - m < n → m ≤ L.length → zR G l (zMJ G hMod_valueOf 2 Qn Qx mc ms) bc bs h 16 [some (.ref a), some (zi x), some (zl (zVp x m)), none, some (zl (zVs L x m)), none, some (.ref a), some (zi (L.length : Int)), some (zi (m : Int)), y9] [] := by
  intro n
  induction n with
  | zero => intro m y9 x1 x2; omega
  | succ n ih =>
  intro m y9 x1 x2
  obtain ⟨f, d1, d2, d3, d4⟩ := id hr
  have p1 := zVp_in x m
  have s1 := zVs_in L x m
  refine z_iload dMod_valueOf_16 rfl ?_
  refine z_iload dMod_valueOf_18 rfl ?_
  refine z_icmp_ge (tgt := 59) dMod_valueOf_20 (by decide) (by omega) (by omega) (fun c20 => ?_) (fun c20 => ?_)
  · have em : m = L.length := by omega
    subst em
    exact K _ _ _
  · have d4m := d4 m (by omega)
    have m1 : L.getD m 0 * zVp x m ≤ 9999 * 9972 ∧ -(9999 * 9972) ≤ L.getD m 0 * zVp x m := by
      have q1 : L.getD m 0 * zVp x m ≤ 9999 * zVp x m := Int.mul_le_mul_of_nonneg_right (by omega) (by omega)
      have q2 : (-9999) * zVp x m ≤ L.getD m 0 * zVp x m := Int.mul_le_mul_of_nonneg_right (by omega) (by omega)
      omega
    have m2 : zVp x m * x ≤ 9972 * 99 ∧ -(9972 * 99) ≤ zVp x m * x := by
      have q1 : x * zVp x m ≤ 99 * zVp x m := Int.mul_le_mul_of_nonneg_right (by omega) (by omega)
      have q2 : (-99) * zVp x m ≤ x * zVp x m := Int.mul_le_mul_of_nonneg_right (by omega) (by omega)
      rw [Int.mul_comm]
      omega
    refine z_aload dMod_valueOf_23 rfl ?_
    refine z_iload dMod_valueOf_25 rfl ?_
    refine z_iald dMod_valueOf_27 (by assumption) (by refine ⟨?_, ?_, ?_⟩ <;> omega) ?_
    rw [Int.toNat_natCast, d3 m (by omega)]
    refine z_istore dMod_valueOf_28 (Nat.le_of_ble_eq_true rfl) ?_
    refine z_lload dMod_valueOf_30 rfl ?_
    refine z_iload dMod_valueOf_32 rfl ?_
    refine z_i2l (by first | omega | omega) dMod_valueOf_34 ?_
    refine z_lload_n dMod_valueOf_35 rfl ?_
    refine z_lmul dMod_valueOf_36 ?_
    refine z_ladd dMod_valueOf_37 ?_
    refine z_callS MS_Mod_rest lk_Mod_172 dMod_valueOf_38 (k_Mod_rest (by omega)) rfl rfl (Nat.le_of_ble_eq_true rfl)  (Nat.le_of_ble_eq_true rfl) (Nat.le_of_ble_eq_true rfl) (Nat.le_of_eq (Nat.zero_add _)) (Nat.le_of_eq (Nat.zero_add _)) (fun _ _ q => q.elim) ?_
    rintro _ _ ⟨rfl, rfl⟩
    refine z_i2l (by first | omega | omega) dMod_valueOf_41 ?_
    refine z_lstore dMod_valueOf_42 (Nat.le_of_ble_eq_true rfl) ?_
    refine z_lload_n dMod_valueOf_44 rfl ?_
    refine z_iload_n dMod_valueOf_45 rfl ?_
    refine z_i2l (by first | omega | omega) dMod_valueOf_46 ?_
    refine z_lmul dMod_valueOf_47 ?_
    refine z_callS MS_Mod_rest lk_Mod_172 dMod_valueOf_48 (k_Mod_rest (by omega)) rfl rfl (Nat.le_of_ble_eq_true rfl)  (Nat.le_of_ble_eq_true rfl) (Nat.le_of_ble_eq_true rfl) (Nat.le_of_eq (Nat.zero_add _)) (Nat.le_of_eq (Nat.zero_add _)) (fun _ _ q => q.elim) ?_
    rintro _ _ ⟨rfl, rfl⟩
    refine z_i2l (by first | omega | omega) dMod_valueOf_51 ?_
    refine z_lstore_n dMod_valueOf_52 (Nat.le_of_ble_eq_true rfl) ?_
    refine z_iinc dMod_valueOf_53 rfl (Nat.le_of_ble_eq_true rfl) ?_
    refine z_goto (tgt := 16) dMod_valueOf_56 (by decide) ?_
    exact ih (m + 1) _ (by omega) (by omega)
theorem k_Mod_valueOf {a : Nat} {L : List Int} {x : Int} (hr : zAr G h a L) (hx : -99 ≤ x ∧ x ≤ 99) : zM G l hMod_valueOf yMod_valueOf 2 [.ref a, zi x] h (fun v h' => v = some (zi (zHr L x L.length)) ∧ h = h') zNo 0 0 := by
  obtain ⟨f, d1, d2, d3, d4⟩ := id hr
  refine zM.of [some (.ref a), some (zi x), none, none, none, none, none, none, none, none] (by decide +kernel) rfl (by decide) rfl (Nat.le_of_ble_eq_true rfl) rfl ?_
  refine z_lconst dMod_valueOf_0 1 rfl ?_
  refine z_lstore_n dMod_valueOf_1 (Nat.le_of_ble_eq_true rfl) ?_
  refine z_lconst dMod_valueOf_2 0 rfl ?_
  refine z_lstore dMod_valueOf_3 (Nat.le_of_ble_eq_true rfl) ?_
  refine z_aload_n dMod_valueOf_5 rfl ?_
  refine z_astore dMod_valueOf_6 (Nat.le_of_ble_eq_true rfl) ?_
  refine z_aload dMod_valueOf_8 rfl ?_
  refine z_alenI dMod_valueOf_10 (by assumption) ?_
  refine z_istore dMod_valueOf_11 (Nat.le_of_ble_eq_true rfl) ?_
  refine z_iconst dMod_valueOf_13 ?_
  refine z_istore dMod_valueOf_14 (Nat.le_of_ble_eq_true rfl) ?_
  refine l_Mod_valueOf hr hx (fun p8 y8 y9 => ?_) (L.length + 1) 0 _ (by omega) (by omega)
  refine z_lload dMod_valueOf_59 rfl ?_
  refine z_l2i dMod_valueOf_61 ?_
  refine z_iret rfl rfl dMod_valueOf_62 ?_
  exact ⟨by rw [zVs_hr], rfl⟩
theorem k_Mod_value {p x : Int} (H : zMod G h ma S th) (z_p : zI32 p) (z_x : zI32 x)  : zM G l hMod_value yMod_value 4 [.ref (ma 0), zi p, zi x] h (zQm G ma h (1) (2) (3) (sp_value S p x)) zNo 0 0 := by
  obtain ⟨m1, m2, ⟨g, m3, m3a⟩, m4, ⟨f6, m5, m5a⟩, m6, m7⟩ := id H
  unfold zMfs at m2
  refine zM.of [some (.ref (ma 0)), some (zi p), some (zi x)] (by decide +kernel) rfl (by decide) rfl (Nat.le_of_ble_eq_true rfl) rfl ?_
  refine z_aload_n dMod_value_0 rfl ?_
  refine z_iload_n dMod_value_1 rfl ?_
  refine z_callS MS_Mod_isNo lk_Mod_81 dMod_value_2 (k_Mod_isNo (by omega)) rfl rfl (Nat.le_of_ble_eq_true rfl)  (Nat.le_of_ble_eq_true rfl) (Nat.le_of_ble_eq_true rfl) (Nat.le_of_eq (Nat.zero_add _)) (Nat.le_of_eq (Nat.zero_add _)) (fun _ _ q => q.elim) ?_
  rintro _ _ ⟨n9, rfl, hn9, rfl⟩
  refine z_iload_n dMod_value_5 rfl ?_
  refine z_bipush dMod_value_6 rfl ?_
  refine z_bipush dMod_value_8 rfl ?_
  refine z_callS MS_Mod_isOut lk_Mod_41 dMod_value_10 (k_Mod_isOut (by omega) (by omega) (by omega)) rfl rfl (Nat.le_of_ble_eq_true rfl)  (Nat.le_of_ble_eq_true rfl) (Nat.le_of_ble_eq_true rfl) (Nat.le_of_eq (Nat.zero_add _)) (Nat.le_of_eq (Nat.zero_add _)) (fun _ _ q => q.elim) ?_
  rintro _ _ ⟨o9, rfl, ho9, rfl⟩
  refine z_iconst dMod_value_13 ?_
  refine z_callV MV_Mod_fails lk_Mod_88 dMod_value_14 (k_Mod_fails (by assumption) rfl (by omega) (by omega) (by omega)) rfl rfl (Nat.le_of_ble_eq_true rfl) rfl (by assumption) (Nat.le_of_ble_eq_true rfl) (Nat.le_of_ble_eq_true rfl) (Nat.le_of_eq (Nat.zero_add _)) (Nat.le_of_eq (Nat.zero_add _)) (fun _ _ q => q.elim) ?_
  rintro _ h1 ⟨t9, b8, rfl, ht, p1, g1⟩
  have H1 : zMod G h1 ma S t9 := H.obj (nu := S.2.2.2.2) (th' := t9) p1 g1
  have fz1 : zMfr ma h h1 := zMfr.of0 g1
  obtain ⟨-, n2, ⟨gg, n3, n3a⟩, n4, ⟨f61, n5, n5a⟩, n6, n7⟩ := id H1
  unfold zMfs at n2
  refine z_if_eq (tgt := 24) dMod_value_17 (by decide) (by omega) (fun c17 => ?_) (fun c17 => ?_)
  · obtain ⟨k, rfl⟩ := Int.eq_ofNat_of_zero_le (show 0 ≤ p by omega)
    obtain ⟨frk, rk1, rk2, rk3, rk4⟩ := id (n6 k (by omega))
    refine z_aload_n dMod_value_24 rfl ?_
    refine z_get (k := 0) fd_Mod (by decide) fl_Mod_11 dMod_value_25 (by assumption) (by rfl) ?_
    refine z_iload_n dMod_value_28 rfl ?_
    refine z_aald (t := 4) (ty := .array .int) rfl rfl dMod_value_29 n3 (by refine ⟨?_, ?_, ?_⟩ <;> omega) ?_
    rw [show (k : Int).toNat = k from rfl, n3a k (by omega)]
    refine z_iload_n dMod_value_30 rfl ?_
    refine z_callS MS_Mod_valueOf lk_Mod_176 dMod_value_31 (k_Mod_valueOf (n6 k (by omega)) (by omega)) rfl rfl (Nat.le_of_ble_eq_true rfl)  (Nat.le_of_ble_eq_true rfl) (Nat.le_of_ble_eq_true rfl) (Nat.le_of_eq (Nat.zero_add _)) (Nat.le_of_eq (Nat.zero_add _)) (fun _ _ q => q.elim) ?_
    rintro _ _ ⟨rfl, rfl⟩
    refine z_iret rfl rfl dMod_value_34 ?_
    rcases (show t9 = 0 ∨ t9 = 1 ∨ t9 = 2 ∨ t9 = 3 by omega) with t0 | t0 | t0 | t0
    all_goals first
      | (exfalso; omega)
      | exact zQm.ok H1 (by omega) (by assumption) (by unfold sp_value; (try unfold spPut); (try simp only [Int.toNat_natCast]); (repeat (first | rw [if_pos (by omega)] | rw [if_neg (by omega)] | rw [if_pos (by assumption)] | rw [if_neg (by assumption)] | rw [if_pos (True.intro : True)])); (try (first | rfl | (congr 2; omega) | (congr 1; congr 1; omega))); done)
      | exact zQm.b1 H1 (by omega) (by assumption) (by unfold sp_value; (try unfold spPut); (try simp only [Int.toNat_natCast]); (repeat (first | rw [if_pos (by omega)] | rw [if_neg (by omega)] | rw [if_pos (by assumption)] | rw [if_neg (by assumption)] | rw [if_pos (True.intro : True)])); (try (first | rfl | (congr 2; omega) | (congr 1; congr 1; omega))); done)
      | exact zQm.b2 H1 (by omega) (by assumption) (by unfold sp_value; (try unfold spPut); (try simp only [Int.toNat_natCast]); (repeat (first | rw [if_pos (by omega)] | rw [if_neg (by omega)] | rw [if_pos (by assumption)] | rw [if_neg (by assumption)] | rw [if_pos (True.intro : True)])); (try (first | rfl | (congr 2; omega) | (congr 1; congr 1; omega))); done)
      | exact zQm.b3 H1 (by omega) (by assumption) (by unfold sp_value; (try unfold spPut); (try simp only [Int.toNat_natCast]); (repeat (first | rw [if_pos (by omega)] | rw [if_neg (by omega)] | rw [if_pos (by assumption)] | rw [if_neg (by assumption)] | rw [if_pos (True.intro : True)])); (try (first | rfl | (congr 2; omega) | (congr 1; congr 1; omega))); done)
  · refine z_iconst dMod_value_20 ?_
    refine z_goto (tgt := 34) dMod_value_21 (by decide) ?_
    refine z_iret rfl rfl dMod_value_34 ?_
    rcases (show t9 = 0 ∨ t9 = 1 ∨ t9 = 2 ∨ t9 = 3 by omega) with t0 | t0 | t0 | t0
    all_goals first
      | (exfalso; omega)
      | exact zQm.ok H1 (by omega) (by assumption) (by unfold sp_value; (try unfold spPut); (try simp only [Int.toNat_natCast]); (repeat (first | rw [if_pos (by omega)] | rw [if_neg (by omega)] | rw [if_pos (by assumption)] | rw [if_neg (by assumption)] | rw [if_pos (True.intro : True)])); (try (first | rfl | (congr 2; omega) | (congr 1; congr 1; omega))); done)
      | exact zQm.b1 H1 (by omega) (by assumption) (by unfold sp_value; (try unfold spPut); (try simp only [Int.toNat_natCast]); (repeat (first | rw [if_pos (by omega)] | rw [if_neg (by omega)] | rw [if_pos (by assumption)] | rw [if_neg (by assumption)] | rw [if_pos (True.intro : True)])); (try (first | rfl | (congr 2; omega) | (congr 1; congr 1; omega))); done)
      | exact zQm.b2 H1 (by omega) (by assumption) (by unfold sp_value; (try unfold spPut); (try simp only [Int.toNat_natCast]); (repeat (first | rw [if_pos (by omega)] | rw [if_neg (by omega)] | rw [if_pos (by assumption)] | rw [if_neg (by assumption)] | rw [if_pos (True.intro : True)])); (try (first | rfl | (congr 2; omega) | (congr 1; congr 1; omega))); done)
      | exact zQm.b3 H1 (by omega) (by assumption) (by unfold sp_value; (try unfold spPut); (try simp only [Int.toNat_natCast]); (repeat (first | rw [if_pos (by omega)] | rw [if_neg (by omega)] | rw [if_pos (by assumption)] | rw [if_neg (by assumption)] | rw [if_pos (True.intro : True)])); (try (first | rfl | (congr 2; omega) | (congr 1; congr 1; omega))); done)
theorem k_Mod_ofCursorNow {c : Nat} {w : Int} (H : zMod G h ma S th) (hc : c < 3) (hw : 0 ≤ w ∧ w ≤ 5) (hO : zOk S) (h16 : ∀ k, k < 4 → (S.1 k).length ≤ 16) : zM G l hMod_ofCursorNow yMod_ofCursorNow 1 [.ref (ma 0), zi (c : Int), zi w] h (fun v h' => v = some (zi (zCuV S c w)) ∧ zExt h h') zNo 1 6 := by
  obtain ⟨m1, m2, ⟨g, m3, m3a⟩, m4, ⟨f6, m5, m5a⟩, m6, m7⟩ := id H
  unfold zMfs at m2
  obtain ⟨⟨v1, a1, b1⟩, ⟨v2, a2, b2⟩, ⟨v3, a3, b3⟩, ⟨v4, a4, b4⟩, ⟨v5, a5, b5⟩⟩ := id m4
  have b1c := b1 c hc
  refine zM.of [some (.ref (ma 0)), some (zi (c : Int)), some (zi w), none, none] (by decide +kernel) rfl (by decide) rfl (Nat.le_of_ble_eq_true rfl) rfl ?_
  refine z_aload_n dMod_ofCursorNow_0 rfl ?_
  refine z_get (k := 1) fd_Mod (by decide) fl_Mod_14 dMod_ofCursorNow_1 (by assumption) (by rfl) ?_
  refine z_iload_n dMod_ofCursorNow_4 rfl ?_
  refine z_zald dMod_ofCursorNow_5 (by assumption) (by refine ⟨?_, ?_, ?_⟩ <;> omega) ?_
  rw [Int.toNat_natCast]
  rw [b1c.1]
  refine z_if_ne (tgt := 11) dMod_ofCursorNow_6 (by decide) (by omega) (fun c6 => ?_) (fun c6 => ?_)
  · have hth : S.2.1 c 0 = 1 := by omega
    have b2c := (b2 c hc).1
    have e2 := (b2 c hc).2 hth
    have e3 := (b3 c hc).2 hth
    have e4 := (b4 c hc).2 hth
    have ok9 := hO.1 c hc hth
    obtain ⟨kk, ek⟩ := Int.eq_ofNat_of_zero_le ok9.1.1
    have hkk : kk < 4 := by omega
    have h16k := h16 kk hkk
    obtain ⟨frkk, rkk1, rkk2, rkk3, rkk4⟩ := id (m6 kk hkk)
    refine z_aload_n dMod_ofCursorNow_11 rfl ?_
    refine z_get (k := 0) fd_Mod (by decide) fl_Mod_11 dMod_ofCursorNow_12 (by assumption) (by rfl) ?_
    refine z_aload_n dMod_ofCursorNow_15 rfl ?_
    refine z_get (k := 3) fd_Mod (by decide) fl_Mod_21 dMod_ofCursorNow_16 (by assumption) (by rfl) ?_
    refine z_iload_n dMod_ofCursorNow_19 rfl ?_
    refine z_iald dMod_ofCursorNow_20 (by assumption) (by refine ⟨?_, ?_, ?_⟩ <;> omega) ?_
    rw [Int.toNat_natCast]
    rw [e3, ek]
    refine z_aald (t := 4) (ty := .array .int) rfl rfl dMod_ofCursorNow_21 m3 (by refine ⟨?_, ?_, ?_⟩ <;> omega) ?_
    rw [show (kk : Int).toNat = kk from rfl, m3a kk (by omega)]
    refine z_alenI dMod_ofCursorNow_22 (by assumption) ?_
    refine z_istore_n dMod_ofCursorNow_23 (Nat.le_of_ble_eq_true rfl) ?_
    refine z_aload_n dMod_ofCursorNow_24 rfl ?_
    refine z_get (k := 2) fd_Mod (by decide) fl_Mod_18 dMod_ofCursorNow_25 (by assumption) (by rfl) ?_
    refine z_iload_n dMod_ofCursorNow_28 rfl ?_
    refine z_zald dMod_ofCursorNow_29 (by assumption) (by refine ⟨?_, ?_, ?_⟩ <;> omega) ?_
    rw [Int.toNat_natCast]
    rw [e2]
    refine z_if_eq (tgt := 57) dMod_ofCursorNow_30 (by decide) (by omega) (fun c30 => ?_) (fun c30 => ?_)
    · refine z_bipush dMod_ofCursorNow_57 rfl ?_
      refine z_newI (n := 6) (bc' := 0) (bs' := 0) rfl dMod_ofCursorNow_59 (by decide) (by decide) (by decide) (fun qa h1 hqa gqa p1 F1 => ?_)
      have n0 : ma 0 ≠ qa := (H.nq hqa (i := 0) (by omega)).symm
      have n4 : ma 4 ≠ qa := (H.nq hqa (i := 4) (by omega)).symm
      have n5 : ma 5 ≠ qa := (H.nq hqa (i := 5) (by omega)).symm
      have m2 := (F1 _ n0).trans m2
      have a3 := (F1 _ n4).trans a3
      have a4 := (F1 _ n5).trans a4
      refine z_dup rfl dMod_ofCursorNow_61 ?_
      refine z_iconst dMod_ofCursorNow_62 ?_
      refine z_aload_n dMod_ofCursorNow_63 rfl ?_
      refine z_get (k := 3) fd_Mod (by decide) fl_Mod_21 dMod_ofCursorNow_64 (by assumption) (by rfl) ?_
      refine z_iload_n dMod_ofCursorNow_67 rfl ?_
      refine z_iald dMod_ofCursorNow_68 (by assumption) (by refine ⟨?_, ?_, ?_⟩ <;> omega) ?_
      rw [Int.toNat_natCast]
      rw [e3]
      refine z_iast dMod_ofCursorNow_69 (by assumption) (by refine ⟨?_, ?_, ?_⟩ <;> omega) ?_
      refine z_hx (fun h2 p2 g2 => ?_)
      have F2 : ∀ z, z ≠ qa → h2 z = h z := fun z hz => (g2 z hz).trans (F1 z hz)
      have m2 := (g2 _ n0).trans m2
      have a3 := (g2 _ n4).trans a3
      have a4 := (g2 _ n5).trans a4
      refine z_dup rfl dMod_ofCursorNow_70 ?_
      refine z_iconst dMod_ofCursorNow_71 ?_
      refine z_aload_n dMod_ofCursorNow_72 rfl ?_
      refine z_get (k := 4) fd_Mod (by decide) fl_Mod_25 dMod_ofCursorNow_73 (by assumption) (by rfl) ?_
      refine z_iload_n dMod_ofCursorNow_76 rfl ?_
      refine z_iald dMod_ofCursorNow_77 (by assumption) (by refine ⟨?_, ?_, ?_⟩ <;> omega) ?_
      rw [Int.toNat_natCast]
      rw [e4]
      refine z_iast dMod_ofCursorNow_78 (by assumption) (by refine ⟨?_, ?_, ?_⟩ <;> omega) ?_
      refine z_hx (fun h3 p3 g3 => ?_)
      have F3 : ∀ z, z ≠ qa → h3 z = h z := fun z hz => (g3 z hz).trans (F2 z hz)
      have m2 := (g3 _ n0).trans m2
      have a3 := (g3 _ n4).trans a3
      have a4 := (g3 _ n5).trans a4
      refine z_dup rfl dMod_ofCursorNow_79 ?_
      refine z_iconst dMod_ofCursorNow_80 ?_
      refine z_aload_n dMod_ofCursorNow_81 rfl ?_
      refine z_get (k := 4) fd_Mod (by decide) fl_Mod_25 dMod_ofCursorNow_82 (by assumption) (by rfl) ?_
      refine z_iload_n dMod_ofCursorNow_85 rfl ?_
      refine z_iald dMod_ofCursorNow_86 (by assumption) (by refine ⟨?_, ?_, ?_⟩ <;> omega) ?_
      rw [Int.toNat_natCast]
      rw [e4]
      refine z_iconst dMod_ofCursorNow_87 ?_
      refine z_isub dMod_ofCursorNow_88 ?_
      refine z_iast dMod_ofCursorNow_89 (by assumption) (by refine ⟨?_, ?_, ?_⟩ <;> omega) ?_
      refine z_hx (fun h4 p4 g4 => ?_)
      have F4 : ∀ z, z ≠ qa → h4 z = h z := fun z hz => (g4 z hz).trans (F3 z hz)
      have m2 := (g4 _ n0).trans m2
      have a3 := (g4 _ n4).trans a3
      have a4 := (g4 _ n5).trans a4
      refine z_dup rfl dMod_ofCursorNow_90 ?_
      refine z_iconst dMod_ofCursorNow_91 ?_
      refine z_aload_n dMod_ofCursorNow_92 rfl ?_
      refine z_get (k := 4) fd_Mod (by decide) fl_Mod_25 dMod_ofCursorNow_93 (by assumption) (by rfl) ?_
      refine z_iload_n dMod_ofCursorNow_96 rfl ?_
      refine z_iald dMod_ofCursorNow_97 (by assumption) (by refine ⟨?_, ?_, ?_⟩ <;> omega) ?_
      rw [Int.toNat_natCast]
      rw [e4]
      refine z_iload_n dMod_ofCursorNow_98 rfl ?_
      refine z_icmp_ge (tgt := 106) dMod_ofCursorNow_99 (by decide) (by omega) (by omega) (fun c99 => ?_) (fun c99 => ?_)
      · refine z_iconst dMod_ofCursorNow_106 ?_
        refine z_iast dMod_ofCursorNow_107 (by assumption) (by refine ⟨?_, ?_, ?_⟩ <;> omega) ?_
        refine z_hx (fun h5 p5 g5 => ?_)
        have F5 : ∀ z, z ≠ qa → h5 z = h z := fun z hz => (g5 z hz).trans (F4 z hz)
        have m2 := (g5 _ n0).trans m2
        have a3 := (g5 _ n4).trans a3
        have a4 := (g5 _ n5).trans a4
        refine z_dup rfl dMod_ofCursorNow_108 ?_
        refine z_iconst dMod_ofCursorNow_109 ?_
        refine z_aload_n dMod_ofCursorNow_110 rfl ?_
        refine z_get (k := 4) fd_Mod (by decide) fl_Mod_25 dMod_ofCursorNow_111 (by assumption) (by rfl) ?_
        refine z_iload_n dMod_ofCursorNow_114 rfl ?_
        refine z_iald dMod_ofCursorNow_115 (by assumption) (by refine ⟨?_, ?_, ?_⟩ <;> omega) ?_
        rw [Int.toNat_natCast]
        rw [e4]
        refine z_if_le (tgt := 123) dMod_ofCursorNow_116 (by decide) (by omega) (fun c116 => ?_) (fun c116 => ?_)
        · refine z_iconst dMod_ofCursorNow_123 ?_
          refine z_iast dMod_ofCursorNow_124 (by assumption) (by refine ⟨?_, ?_, ?_⟩ <;> omega) ?_
          refine z_hx (fun h6 p6 g6 => ?_)
          have F6 : ∀ z, z ≠ qa → h6 z = h z := fun z hz => (g6 z hz).trans (F5 z hz)
          have m2 := (g6 _ n0).trans m2
          have a3 := (g6 _ n4).trans a3
          have a4 := (g6 _ n5).trans a4
          refine z_dup rfl dMod_ofCursorNow_125 ?_
          refine z_iconst dMod_ofCursorNow_126 ?_
          refine z_iconst dMod_ofCursorNow_127 ?_
          refine z_iast dMod_ofCursorNow_128 (by assumption) (by refine ⟨?_, ?_, ?_⟩ <;> omega) ?_
          refine z_hx (fun h7 p7 g7 => ?_)
          have F7 : ∀ z, z ≠ qa → h7 z = h z := fun z hz => (g7 z hz).trans (F6 z hz)
          have m2 := (g7 _ n0).trans m2
          have a3 := (g7 _ n4).trans a3
          have a4 := (g7 _ n5).trans a4
          refine z_astore dMod_ofCursorNow_129 (Nat.le_of_ble_eq_true rfl) ?_
          refine z_aload dMod_ofCursorNow_131 rfl ?_
          refine z_iload_n dMod_ofCursorNow_133 rfl ?_
          refine z_iald dMod_ofCursorNow_134 (by assumption) (by refine ⟨?_, ?_, ?_⟩ <;> omega) ?_
          refine z_iret rfl rfl dMod_ofCursorNow_135 ?_
          first
            | exact ⟨congrArg (fun z => some (zi z)) (by unfold zCuV; rw [if_pos (by omega)]), zExt.rf⟩
            | exact ⟨congrArg (fun z => some (zi z)) (by unfold zCuV; rw [if_neg (by omega), if_pos (by omega)]), zExt.rf⟩
            | exact ⟨congrArg (fun z => some (zi z)) (by unfold zCuV; rw [if_neg (by omega), if_neg (by omega), if_pos (by omega)]; omega), zExt.rf⟩
            | exact ⟨congrArg (fun z => some (zi z)) (by unfold zCuV; rw [if_neg (by omega), if_neg (by omega), if_neg (by omega), if_pos (by omega)]), zExt.rf⟩
            | (refine ⟨congrArg (fun z => some (zi z)) ?_, zExt.new hqa F7⟩
               unfold zCuV zWv
               rw [ek, Int.toNat_natCast]
               rcases (show w = 0 ∨ w = 1 ∨ w = 2 ∨ w = 3 ∨ w = 4 ∨ w = 5 by omega) with rfl | rfl | rfl | rfl | rfl | rfl
               · (repeat (first | rw [if_pos (by omega)] | rw [if_neg (by omega)])); rfl
               · (repeat (first | rw [if_pos (by omega)] | rw [if_neg (by omega)])); rfl
               · (repeat (first | rw [if_pos (by omega)] | rw [if_neg (by omega)])); rfl
               · (repeat (first | rw [if_pos (by omega)] | rw [if_neg (by omega)])); rfl
               · (repeat (first | rw [if_pos (by omega)] | rw [if_neg (by omega)])); rfl
               · (repeat (first | rw [if_pos (by omega)] | rw [if_neg (by omega)])); exact (show (0 : Int) = _ by omega))
        · refine z_iconst dMod_ofCursorNow_119 ?_
          refine z_goto (tgt := 124) dMod_ofCursorNow_120 (by decide) ?_
          refine z_iast dMod_ofCursorNow_124 (by assumption) (by refine ⟨?_, ?_, ?_⟩ <;> omega) ?_
          refine z_hx (fun h6 p6 g6 => ?_)
          have F6 : ∀ z, z ≠ qa → h6 z = h z := fun z hz => (g6 z hz).trans (F5 z hz)
          have m2 := (g6 _ n0).trans m2
          have a3 := (g6 _ n4).trans a3
          have a4 := (g6 _ n5).trans a4
          refine z_dup rfl dMod_ofCursorNow_125 ?_
          refine z_iconst dMod_ofCursorNow_126 ?_
          refine z_iconst dMod_ofCursorNow_127 ?_
          refine z_iast dMod_ofCursorNow_128 (by assumption) (by refine ⟨?_, ?_, ?_⟩ <;> omega) ?_
          refine z_hx (fun h7 p7 g7 => ?_)
          have F7 : ∀ z, z ≠ qa → h7 z = h z := fun z hz => (g7 z hz).trans (F6 z hz)
          have m2 := (g7 _ n0).trans m2
          have a3 := (g7 _ n4).trans a3
          have a4 := (g7 _ n5).trans a4
          refine z_astore dMod_ofCursorNow_129 (Nat.le_of_ble_eq_true rfl) ?_
          refine z_aload dMod_ofCursorNow_131 rfl ?_
          refine z_iload_n dMod_ofCursorNow_133 rfl ?_
          refine z_iald dMod_ofCursorNow_134 (by assumption) (by refine ⟨?_, ?_, ?_⟩ <;> omega) ?_
          refine z_iret rfl rfl dMod_ofCursorNow_135 ?_
          first
            | exact ⟨congrArg (fun z => some (zi z)) (by unfold zCuV; rw [if_pos (by omega)]), zExt.rf⟩
            | exact ⟨congrArg (fun z => some (zi z)) (by unfold zCuV; rw [if_neg (by omega), if_pos (by omega)]), zExt.rf⟩
            | exact ⟨congrArg (fun z => some (zi z)) (by unfold zCuV; rw [if_neg (by omega), if_neg (by omega), if_pos (by omega)]; omega), zExt.rf⟩
            | exact ⟨congrArg (fun z => some (zi z)) (by unfold zCuV; rw [if_neg (by omega), if_neg (by omega), if_neg (by omega), if_pos (by omega)]), zExt.rf⟩
            | (refine ⟨congrArg (fun z => some (zi z)) ?_, zExt.new hqa F7⟩
               unfold zCuV zWv
               rw [ek, Int.toNat_natCast]
               rcases (show w = 0 ∨ w = 1 ∨ w = 2 ∨ w = 3 ∨ w = 4 ∨ w = 5 by omega) with rfl | rfl | rfl | rfl | rfl | rfl
               · (repeat (first | rw [if_pos (by omega)] | rw [if_neg (by omega)])); rfl
               · (repeat (first | rw [if_pos (by omega)] | rw [if_neg (by omega)])); rfl
               · (repeat (first | rw [if_pos (by omega)] | rw [if_neg (by omega)])); rfl
               · (repeat (first | rw [if_pos (by omega)] | rw [if_neg (by omega)])); rfl
               · (repeat (first | rw [if_pos (by omega)] | rw [if_neg (by omega)])); rfl
               · (repeat (first | rw [if_pos (by omega)] | rw [if_neg (by omega)])); exact (show (0 : Int) = _ by omega))
      · refine z_iconst dMod_ofCursorNow_102 ?_
        refine z_goto (tgt := 107) dMod_ofCursorNow_103 (by decide) ?_
        refine z_iast dMod_ofCursorNow_107 (by assumption) (by refine ⟨?_, ?_, ?_⟩ <;> omega) ?_
        refine z_hx (fun h5 p5 g5 => ?_)
        have F5 : ∀ z, z ≠ qa → h5 z = h z := fun z hz => (g5 z hz).trans (F4 z hz)
        have m2 := (g5 _ n0).trans m2
        have a3 := (g5 _ n4).trans a3
        have a4 := (g5 _ n5).trans a4
        refine z_dup rfl dMod_ofCursorNow_108 ?_
        refine z_iconst dMod_ofCursorNow_109 ?_
        refine z_aload_n dMod_ofCursorNow_110 rfl ?_
        refine z_get (k := 4) fd_Mod (by decide) fl_Mod_25 dMod_ofCursorNow_111 (by assumption) (by rfl) ?_
        refine z_iload_n dMod_ofCursorNow_114 rfl ?_
        refine z_iald dMod_ofCursorNow_115 (by assumption) (by refine ⟨?_, ?_, ?_⟩ <;> omega) ?_
        rw [Int.toNat_natCast]
        rw [e4]
        refine z_if_le (tgt := 123) dMod_ofCursorNow_116 (by decide) (by omega) (fun c116 => ?_) (fun c116 => ?_)
        · refine z_iconst dMod_ofCursorNow_123 ?_
          refine z_iast dMod_ofCursorNow_124 (by assumption) (by refine ⟨?_, ?_, ?_⟩ <;> omega) ?_
          refine z_hx (fun h6 p6 g6 => ?_)
          have F6 : ∀ z, z ≠ qa → h6 z = h z := fun z hz => (g6 z hz).trans (F5 z hz)
          have m2 := (g6 _ n0).trans m2
          have a3 := (g6 _ n4).trans a3
          have a4 := (g6 _ n5).trans a4
          refine z_dup rfl dMod_ofCursorNow_125 ?_
          refine z_iconst dMod_ofCursorNow_126 ?_
          refine z_iconst dMod_ofCursorNow_127 ?_
          refine z_iast dMod_ofCursorNow_128 (by assumption) (by refine ⟨?_, ?_, ?_⟩ <;> omega) ?_
          refine z_hx (fun h7 p7 g7 => ?_)
          have F7 : ∀ z, z ≠ qa → h7 z = h z := fun z hz => (g7 z hz).trans (F6 z hz)
          have m2 := (g7 _ n0).trans m2
          have a3 := (g7 _ n4).trans a3
          have a4 := (g7 _ n5).trans a4
          refine z_astore dMod_ofCursorNow_129 (Nat.le_of_ble_eq_true rfl) ?_
          refine z_aload dMod_ofCursorNow_131 rfl ?_
          refine z_iload_n dMod_ofCursorNow_133 rfl ?_
          refine z_iald dMod_ofCursorNow_134 (by assumption) (by refine ⟨?_, ?_, ?_⟩ <;> omega) ?_
          refine z_iret rfl rfl dMod_ofCursorNow_135 ?_
          first
            | exact ⟨congrArg (fun z => some (zi z)) (by unfold zCuV; rw [if_pos (by omega)]), zExt.rf⟩
            | exact ⟨congrArg (fun z => some (zi z)) (by unfold zCuV; rw [if_neg (by omega), if_pos (by omega)]), zExt.rf⟩
            | exact ⟨congrArg (fun z => some (zi z)) (by unfold zCuV; rw [if_neg (by omega), if_neg (by omega), if_pos (by omega)]; omega), zExt.rf⟩
            | exact ⟨congrArg (fun z => some (zi z)) (by unfold zCuV; rw [if_neg (by omega), if_neg (by omega), if_neg (by omega), if_pos (by omega)]), zExt.rf⟩
            | (refine ⟨congrArg (fun z => some (zi z)) ?_, zExt.new hqa F7⟩
               unfold zCuV zWv
               rw [ek, Int.toNat_natCast]
               rcases (show w = 0 ∨ w = 1 ∨ w = 2 ∨ w = 3 ∨ w = 4 ∨ w = 5 by omega) with rfl | rfl | rfl | rfl | rfl | rfl
               · (repeat (first | rw [if_pos (by omega)] | rw [if_neg (by omega)])); rfl
               · (repeat (first | rw [if_pos (by omega)] | rw [if_neg (by omega)])); rfl
               · (repeat (first | rw [if_pos (by omega)] | rw [if_neg (by omega)])); rfl
               · (repeat (first | rw [if_pos (by omega)] | rw [if_neg (by omega)])); rfl
               · (repeat (first | rw [if_pos (by omega)] | rw [if_neg (by omega)])); rfl
               · (repeat (first | rw [if_pos (by omega)] | rw [if_neg (by omega)])); exact (show (0 : Int) = _ by omega))
        · refine z_iconst dMod_ofCursorNow_119 ?_
          refine z_goto (tgt := 124) dMod_ofCursorNow_120 (by decide) ?_
          refine z_iast dMod_ofCursorNow_124 (by assumption) (by refine ⟨?_, ?_, ?_⟩ <;> omega) ?_
          refine z_hx (fun h6 p6 g6 => ?_)
          have F6 : ∀ z, z ≠ qa → h6 z = h z := fun z hz => (g6 z hz).trans (F5 z hz)
          have m2 := (g6 _ n0).trans m2
          have a3 := (g6 _ n4).trans a3
          have a4 := (g6 _ n5).trans a4
          refine z_dup rfl dMod_ofCursorNow_125 ?_
          refine z_iconst dMod_ofCursorNow_126 ?_
          refine z_iconst dMod_ofCursorNow_127 ?_
          refine z_iast dMod_ofCursorNow_128 (by assumption) (by refine ⟨?_, ?_, ?_⟩ <;> omega) ?_
          refine z_hx (fun h7 p7 g7 => ?_)
          have F7 : ∀ z, z ≠ qa → h7 z = h z := fun z hz => (g7 z hz).trans (F6 z hz)
          have m2 := (g7 _ n0).trans m2
          have a3 := (g7 _ n4).trans a3
          have a4 := (g7 _ n5).trans a4
          refine z_astore dMod_ofCursorNow_129 (Nat.le_of_ble_eq_true rfl) ?_
          refine z_aload dMod_ofCursorNow_131 rfl ?_
          refine z_iload_n dMod_ofCursorNow_133 rfl ?_
          refine z_iald dMod_ofCursorNow_134 (by assumption) (by refine ⟨?_, ?_, ?_⟩ <;> omega) ?_
          refine z_iret rfl rfl dMod_ofCursorNow_135 ?_
          first
            | exact ⟨congrArg (fun z => some (zi z)) (by unfold zCuV; rw [if_pos (by omega)]), zExt.rf⟩
            | exact ⟨congrArg (fun z => some (zi z)) (by unfold zCuV; rw [if_neg (by omega), if_pos (by omega)]), zExt.rf⟩
            | exact ⟨congrArg (fun z => some (zi z)) (by unfold zCuV; rw [if_neg (by omega), if_neg (by omega), if_pos (by omega)]; omega), zExt.rf⟩
            | exact ⟨congrArg (fun z => some (zi z)) (by unfold zCuV; rw [if_neg (by omega), if_neg (by omega), if_neg (by omega), if_pos (by omega)]), zExt.rf⟩
            | (refine ⟨congrArg (fun z => some (zi z)) ?_, zExt.new hqa F7⟩
               unfold zCuV zWv
               rw [ek, Int.toNat_natCast]
               rcases (show w = 0 ∨ w = 1 ∨ w = 2 ∨ w = 3 ∨ w = 4 ∨ w = 5 by omega) with rfl | rfl | rfl | rfl | rfl | rfl
               · (repeat (first | rw [if_pos (by omega)] | rw [if_neg (by omega)])); rfl
               · (repeat (first | rw [if_pos (by omega)] | rw [if_neg (by omega)])); rfl
               · (repeat (first | rw [if_pos (by omega)] | rw [if_neg (by omega)])); rfl
               · (repeat (first | rw [if_pos (by omega)] | rw [if_neg (by omega)])); rfl
               · (repeat (first | rw [if_pos (by omega)] | rw [if_neg (by omega)])); rfl
               · (repeat (first | rw [if_pos (by omega)] | rw [if_neg (by omega)])); exact (show (0 : Int) = _ by omega))
    · refine z_iload_n dMod_ofCursorNow_33 rfl ?_
      refine z_if_ne (tgt := 46) dMod_ofCursorNow_34 (by decide) (by omega) (fun c34 => ?_) (fun c34 => ?_)
      · refine z_iload_n dMod_ofCursorNow_46 rfl ?_
        refine z_iconst dMod_ofCursorNow_47 ?_
        refine z_icmp_ne (tgt := 55) dMod_ofCursorNow_48 (by decide) (by omega) (by omega) (fun c48 => ?_) (fun c48 => ?_)
        · refine z_iconst dMod_ofCursorNow_55 ?_
          refine z_iret rfl rfl dMod_ofCursorNow_56 ?_
          first
            | exact ⟨congrArg (fun z => some (zi z)) (by unfold zCuV; rw [if_pos (by omega)]), zExt.rf⟩
            | exact ⟨congrArg (fun z => some (zi z)) (by unfold zCuV; rw [if_neg (by omega), if_pos (by omega)]), zExt.rf⟩
            | exact ⟨congrArg (fun z => some (zi z)) (by unfold zCuV; rw [if_neg (by omega), if_neg (by omega), if_pos (by omega)]; omega), zExt.rf⟩
            | exact ⟨congrArg (fun z => some (zi z)) (by unfold zCuV; rw [if_neg (by omega), if_neg (by omega), if_neg (by omega), if_pos (by omega)]), zExt.rf⟩
            | (refine ⟨congrArg (fun z => some (zi z)) ?_, zExt.new hqa F7⟩
               unfold zCuV zWv
               rw [ek, Int.toNat_natCast]
               rcases (show w = 0 ∨ w = 1 ∨ w = 2 ∨ w = 3 ∨ w = 4 ∨ w = 5 by omega) with rfl | rfl | rfl | rfl | rfl | rfl
               · (repeat (first | rw [if_pos (by omega)] | rw [if_neg (by omega)])); rfl
               · (repeat (first | rw [if_pos (by omega)] | rw [if_neg (by omega)])); rfl
               · (repeat (first | rw [if_pos (by omega)] | rw [if_neg (by omega)])); rfl
               · (repeat (first | rw [if_pos (by omega)] | rw [if_neg (by omega)])); rfl
               · (repeat (first | rw [if_pos (by omega)] | rw [if_neg (by omega)])); rfl
               · (repeat (first | rw [if_pos (by omega)] | rw [if_neg (by omega)])); exact (show (0 : Int) = _ by omega))
        · refine z_iconst dMod_ofCursorNow_51 ?_
          refine z_goto (tgt := 56) dMod_ofCursorNow_52 (by decide) ?_
          refine z_iret rfl rfl dMod_ofCursorNow_56 ?_
          first
            | exact ⟨congrArg (fun z => some (zi z)) (by unfold zCuV; rw [if_pos (by omega)]), zExt.rf⟩
            | exact ⟨congrArg (fun z => some (zi z)) (by unfold zCuV; rw [if_neg (by omega), if_pos (by omega)]), zExt.rf⟩
            | exact ⟨congrArg (fun z => some (zi z)) (by unfold zCuV; rw [if_neg (by omega), if_neg (by omega), if_pos (by omega)]; omega), zExt.rf⟩
            | exact ⟨congrArg (fun z => some (zi z)) (by unfold zCuV; rw [if_neg (by omega), if_neg (by omega), if_neg (by omega), if_pos (by omega)]), zExt.rf⟩
            | (refine ⟨congrArg (fun z => some (zi z)) ?_, zExt.new hqa F7⟩
               unfold zCuV zWv
               rw [ek, Int.toNat_natCast]
               rcases (show w = 0 ∨ w = 1 ∨ w = 2 ∨ w = 3 ∨ w = 4 ∨ w = 5 by omega) with rfl | rfl | rfl | rfl | rfl | rfl
               · (repeat (first | rw [if_pos (by omega)] | rw [if_neg (by omega)])); rfl
               · (repeat (first | rw [if_pos (by omega)] | rw [if_neg (by omega)])); rfl
               · (repeat (first | rw [if_pos (by omega)] | rw [if_neg (by omega)])); rfl
               · (repeat (first | rw [if_pos (by omega)] | rw [if_neg (by omega)])); rfl
               · (repeat (first | rw [if_pos (by omega)] | rw [if_neg (by omega)])); rfl
               · (repeat (first | rw [if_pos (by omega)] | rw [if_neg (by omega)])); exact (show (0 : Int) = _ by omega))
      · refine z_aload_n dMod_ofCursorNow_37 rfl ?_
        refine z_get (k := 3) fd_Mod (by decide) fl_Mod_21 dMod_ofCursorNow_38 (by assumption) (by rfl) ?_
        refine z_iload_n dMod_ofCursorNow_41 rfl ?_
        refine z_iald dMod_ofCursorNow_42 (by assumption) (by refine ⟨?_, ?_, ?_⟩ <;> omega) ?_
        rw [Int.toNat_natCast]
        rw [e3]
        refine z_goto (tgt := 56) dMod_ofCursorNow_43 (by decide) ?_
        refine z_iret rfl rfl dMod_ofCursorNow_56 ?_
        first
          | exact ⟨congrArg (fun z => some (zi z)) (by unfold zCuV; rw [if_pos (by omega)]), zExt.rf⟩
          | exact ⟨congrArg (fun z => some (zi z)) (by unfold zCuV; rw [if_neg (by omega), if_pos (by omega)]), zExt.rf⟩
          | exact ⟨congrArg (fun z => some (zi z)) (by unfold zCuV; rw [if_neg (by omega), if_neg (by omega), if_pos (by omega)]; omega), zExt.rf⟩
          | exact ⟨congrArg (fun z => some (zi z)) (by unfold zCuV; rw [if_neg (by omega), if_neg (by omega), if_neg (by omega), if_pos (by omega)]), zExt.rf⟩
          | (refine ⟨congrArg (fun z => some (zi z)) ?_, zExt.new hqa F7⟩
             unfold zCuV zWv
             rw [ek, Int.toNat_natCast]
             rcases (show w = 0 ∨ w = 1 ∨ w = 2 ∨ w = 3 ∨ w = 4 ∨ w = 5 by omega) with rfl | rfl | rfl | rfl | rfl | rfl
             · (repeat (first | rw [if_pos (by omega)] | rw [if_neg (by omega)])); rfl
             · (repeat (first | rw [if_pos (by omega)] | rw [if_neg (by omega)])); rfl
             · (repeat (first | rw [if_pos (by omega)] | rw [if_neg (by omega)])); rfl
             · (repeat (first | rw [if_pos (by omega)] | rw [if_neg (by omega)])); rfl
             · (repeat (first | rw [if_pos (by omega)] | rw [if_neg (by omega)])); rfl
             · (repeat (first | rw [if_pos (by omega)] | rw [if_neg (by omega)])); exact (show (0 : Int) = _ by omega))
  · refine z_iconst dMod_ofCursorNow_9 ?_
    refine z_iret rfl rfl dMod_ofCursorNow_10 ?_
    first
      | exact ⟨congrArg (fun z => some (zi z)) (by unfold zCuV; rw [if_pos (by omega)]), zExt.rf⟩
      | exact ⟨congrArg (fun z => some (zi z)) (by unfold zCuV; rw [if_neg (by omega), if_pos (by omega)]), zExt.rf⟩
      | exact ⟨congrArg (fun z => some (zi z)) (by unfold zCuV; rw [if_neg (by omega), if_neg (by omega), if_pos (by omega)]; omega), zExt.rf⟩
      | exact ⟨congrArg (fun z => some (zi z)) (by unfold zCuV; rw [if_neg (by omega), if_neg (by omega), if_neg (by omega), if_pos (by omega)]), zExt.rf⟩
      | (refine ⟨congrArg (fun z => some (zi z)) ?_, zExt.new hqa F7⟩
         unfold zCuV zWv
         rw [ek, Int.toNat_natCast]
         rcases (show w = 0 ∨ w = 1 ∨ w = 2 ∨ w = 3 ∨ w = 4 ∨ w = 5 by omega) with rfl | rfl | rfl | rfl | rfl | rfl
         · (repeat (first | rw [if_pos (by omega)] | rw [if_neg (by omega)])); rfl
         · (repeat (first | rw [if_pos (by omega)] | rw [if_neg (by omega)])); rfl
         · (repeat (first | rw [if_pos (by omega)] | rw [if_neg (by omega)])); rfl
         · (repeat (first | rw [if_pos (by omega)] | rw [if_neg (by omega)])); rfl
         · (repeat (first | rw [if_pos (by omega)] | rw [if_neg (by omega)])); rfl
         · (repeat (first | rw [if_pos (by omega)] | rw [if_neg (by omega)])); exact (show (0 : Int) = _ by omega))
end MOD19
end
section
section MOD20
variable {G : zG} {l : Launch} {h h' h'' : zHp} {ma : Nat → Nat} {S : zSt} {th : Int}
theorem zup_id {α : Type} (g : Nat → α) (k : Nat) : zup g k (g k) = g := by
  funext j
  unfold zup
  split
  · rename_i e; rw [e]
  · rfl
/-- the keys, the askings and the numbers change -/
theorem zMod.rec {q : Nat} {K' A' : List Int} {nu' f' : Nat → Int} {th' : Int} (H : zMod G h ma S th) (hq : zAr G h' q K') (nq : ∀ i, i < 13 → i ≠ 12 → q ≠ ma i)
    (e0 : h' (ma 0) = some (.inr (zkMod, [.ref (ma 1), .ref (ma 2), .ref (ma 3), .ref (ma 4), .ref (ma 5), .ref (ma 6), .ref q, .ref (ma 7), zi (A'.length : Int), zi (nu' 0), zi (nu' 1), zi (nu' 2), zi th'])))
    (e7 : h' (ma 7) = some (zInts G 60 f')) (f7 : ∀ j, j < A'.length → f' j = A'.getD j 0) (hf : ∀ i, i < 13 → i ≠ 0 → i ≠ 7 → i ≠ 12 → h' (ma i) = h (ma i)) : zMod G h' (zup ma 12 q) (S.1, S.2.1, K', A', nu') th' := by
  obtain ⟨m1, m2, ⟨g, m3, m3'⟩, ⟨⟨f1, a1, b1⟩, ⟨f2, a2, b2⟩, ⟨f3, a3, b3⟩, ⟨f4, a4, b4⟩, ⟨f5, a5, b5⟩⟩, ⟨f6, m5, m5'⟩, m6, m7⟩ := id H
  have zn : ∀ i, i ≠ 12 → zup ma 12 q i = ma i := fun i hi => zup_ne hi
  refine ⟨fun i j hi hj e => ?_, ?_, ⟨g, ?_, fun k hk => ?_⟩, ⟨⟨f1, ?_, b1⟩, ⟨f2, ?_, b2⟩, ⟨f3, ?_, b3⟩, ⟨f4, ?_, b4⟩, ⟨f5, ?_, b5⟩⟩, ⟨f', ?_, f7⟩, fun k hk => ?_, ?_⟩
  · by_cases c1 : i = 12
    · by_cases c2 : j = 12
      · omega
      · rw [c1, zup_same, zn j c2] at e
        exact absurd e (nq j hj c2)
    · by_cases c2 : j = 12
      · rw [c2, zup_same, zn i c1] at e
        exact absurd e.symm (nq i hi c1)
      · rw [zn i c1, zn j c2] at e
        exact m1 i j hi hj e
  · rw [zn 0 (by omega)]
    refine e0.trans ?_
    unfold zMfs
    rw [zn 1 (by omega), zn 2 (by omega), zn 3 (by omega), zn 4 (by omega), zn 5 (by omega), zn 6 (by omega), zup_same, zn 7 (by omega)]
  · rw [zn 1 (by omega)]; exact (hf 1 (by omega) (by omega) (by omega) (by omega)).trans m3
  · rw [zn _ (by omega)]; exact m3' k hk
  · rw [zn 2 (by omega)]; exact (hf 2 (by omega) (by omega) (by omega) (by omega)).trans a1
  · rw [zn 3 (by omega)]; exact (hf 3 (by omega) (by omega) (by omega) (by omega)).trans a2
  · rw [zn 4 (by omega)]; exact (hf 4 (by omega) (by omega) (by omega) (by omega)).trans a3
  · rw [zn 5 (by omega)]; exact (hf 5 (by omega) (by omega) (by omega) (by omega)).trans a4
  · rw [zn 6 (by omega)]; exact (hf 6 (by omega) (by omega) (by omega) (by omega)).trans a5
  · rw [zn 7 (by omega)]; exact e7
  · rw [zn _ (by omega)]; exact (m6 k hk).kept (hf _ (by omega) (by omega) (by omega) (by omega))
  · rw [zup_same]; exact hq
theorem k_Mod_ofCursor {c w : Int} (H : zMod G h ma S th) (z_c : zI32 c) (z_w : zI32 w) (hO : zOk S) (h16 : ∀ k, k < 4 → (S.1 k).length ≤ 16) : zM G l hMod_ofCursor yMod_ofCursor 4 [.ref (ma 0), zi c, zi w] h (zQm G ma h (1) (2) (3) (sp_ofCursor S c w)) zNo 1 6 := by
  obtain ⟨m1, m2, ⟨g, m3, m3a⟩, m4, ⟨f6, m5, m5a⟩, m6, m7⟩ := id H
  unfold zMfs at m2
  refine zM.of [some (.ref (ma 0)), some (zi c), some (zi w)] (by decide +kernel) rfl (by decide) rfl (Nat.le_of_ble_eq_true rfl) rfl ?_
  refine z_aload_n dMod_ofCursor_0 rfl ?_
  refine z_iload_n dMod_ofCursor_1 rfl ?_
  refine z_callS MS_Mod_isNoCursor lk_Mod_141 dMod_ofCursor_2 (k_Mod_isNoCursor (by omega)) rfl rfl (Nat.le_of_ble_eq_true rfl)  (Nat.le_of_ble_eq_true rfl) (Nat.le_of_ble_eq_true rfl) (Nat.le_of_eq (Nat.zero_add _)) (Nat.le_of_eq (Nat.zero_add _)) (fun _ _ q => q.elim) ?_
  rintro _ _ ⟨n9c, rfl, (⟨rfl, hn9c⟩ | ⟨rfl, hn9c⟩), rfl⟩
  · refine z_iload_n dMod_ofCursor_5 rfl ?_
    refine z_iconst dMod_ofCursor_6 ?_
    refine z_iconst dMod_ofCursor_7 ?_
    refine z_callS MS_Mod_isOut lk_Mod_41 dMod_ofCursor_8 (k_Mod_isOut (by omega) (by omega) (by omega)) rfl rfl (Nat.le_of_ble_eq_true rfl)  (Nat.le_of_ble_eq_true rfl) (Nat.le_of_ble_eq_true rfl) (Nat.le_of_eq (Nat.zero_add _)) (Nat.le_of_eq (Nat.zero_add _)) (fun _ _ q => q.elim) ?_
    rintro _ _ ⟨o9, rfl, ho9, rfl⟩
    refine z_iconst dMod_ofCursor_11 ?_
    refine z_callV MV_Mod_fails lk_Mod_88 dMod_ofCursor_12 (k_Mod_fails (by assumption) rfl (by omega) (by omega) (by omega)) rfl rfl (Nat.le_of_ble_eq_true rfl) rfl (by assumption) (Nat.le_of_ble_eq_true rfl) (Nat.le_of_ble_eq_true rfl) (Nat.le_of_eq (Nat.zero_add _)) (Nat.le_of_eq (Nat.zero_add _)) (fun _ _ q => q.elim) ?_
    rintro _ h1 ⟨t9, b8, rfl, ht, p1, g1⟩
    have H1 : zMod G h1 ma S t9 := H.obj (nu := S.2.2.2.2) (th' := t9) p1 g1
    have fz1 : zMfr ma h h1 := zMfr.of0 g1
    obtain ⟨-, n2, ⟨gg, n3, n3a⟩, n4, ⟨f61, n5, n5a⟩, n6, n7⟩ := id H1
    unfold zMfs at n2
    refine z_if_eq (tgt := 22) dMod_ofCursor_15 (by decide) (by omega) (fun c15 => ?_) (fun c15 => ?_)
    · exfalso; omega
    · refine z_iconst dMod_ofCursor_18 ?_
      refine z_goto (tgt := 28) dMod_ofCursor_19 (by decide) ?_
      refine z_iret rfl rfl dMod_ofCursor_28 ?_
      rcases (show t9 = 0 ∨ t9 = 1 ∨ t9 = 2 ∨ t9 = 3 by omega) with t0 | t0 | t0 | t0
      all_goals first
        | (exfalso; omega)
        | (refine zQm.ok H2 (by omega) (by assumption) ?_
           unfold sp_ofCursor zCuV zWv
           rw [if_pos (by omega), if_pos (by omega), Int.toNat_natCast]
           (repeat' split)
           all_goals first
             | rfl
             | (exfalso; omega))
        | exact zQm.ok H1 (by omega) (by assumption) (by unfold sp_ofCursor; (try unfold spPut); (try simp only [Int.toNat_natCast]); (repeat (first | rw [if_pos (by omega)] | rw [if_neg (by omega)] | rw [if_pos (by assumption)] | rw [if_neg (by assumption)] | rw [if_pos (True.intro : True)])); (try (first | rfl | (congr 2; omega) | (congr 1; congr 1; omega))); done)
        | exact zQm.b1 H1 (by omega) (by assumption) (by unfold sp_ofCursor; (try unfold spPut); (try simp only [Int.toNat_natCast]); (repeat (first | rw [if_pos (by omega)] | rw [if_neg (by omega)] | rw [if_pos (by assumption)] | rw [if_neg (by assumption)] | rw [if_pos (True.intro : True)])); (try (first | rfl | (congr 2; omega) | (congr 1; congr 1; omega))); done)
        | exact zQm.b2 H1 (by omega) (by assumption) (by unfold sp_ofCursor; (try unfold spPut); (try simp only [Int.toNat_natCast]); (repeat (first | rw [if_pos (by omega)] | rw [if_neg (by omega)] | rw [if_pos (by assumption)] | rw [if_neg (by assumption)] | rw [if_pos (True.intro : True)])); (try (first | rfl | (congr 2; omega) | (congr 1; congr 1; omega))); done)
        | exact zQm.b3 H1 (by omega) (by assumption) (by unfold sp_ofCursor; (try unfold spPut); (try simp only [Int.toNat_natCast]); (repeat (first | rw [if_pos (by omega)] | rw [if_neg (by omega)] | rw [if_pos (by assumption)] | rw [if_neg (by assumption)] | rw [if_pos (True.intro : True)])); (try (first | rfl | (congr 2; omega) | (congr 1; congr 1; omega))); done)
  · obtain ⟨cc, rfl⟩ := Int.eq_ofNat_of_zero_le (show 0 ≤ c by omega)
    have hcc : cc < 3 := by omega
    refine z_iload_n dMod_ofCursor_5 rfl ?_
    refine z_iconst dMod_ofCursor_6 ?_
    refine z_iconst dMod_ofCursor_7 ?_
    refine z_callS MS_Mod_isOut lk_Mod_41 dMod_ofCursor_8 (k_Mod_isOut (by omega) (by omega) (by omega)) rfl rfl (Nat.le_of_ble_eq_true rfl)  (Nat.le_of_ble_eq_true rfl) (Nat.le_of_ble_eq_true rfl) (Nat.le_of_eq (Nat.zero_add _)) (Nat.le_of_eq (Nat.zero_add _)) (fun _ _ q => q.elim) ?_
    rintro _ _ ⟨o9, rfl, ho9, rfl⟩
    refine z_iconst dMod_ofCursor_11 ?_
    refine z_callV MV_Mod_fails lk_Mod_88 dMod_ofCursor_12 (k_Mod_fails (by assumption) rfl (by omega) (by omega) (by omega)) rfl rfl (Nat.le_of_ble_eq_true rfl) rfl (by assumption) (Nat.le_of_ble_eq_true rfl) (Nat.le_of_ble_eq_true rfl) (Nat.le_of_eq (Nat.zero_add _)) (Nat.le_of_eq (Nat.zero_add _)) (fun _ _ q => q.elim) ?_
    rintro _ h1 ⟨t9, b8, rfl, ht, p1, g1⟩
    have H1 : zMod G h1 ma S t9 := H.obj (nu := S.2.2.2.2) (th' := t9) p1 g1
    have fz1 : zMfr ma h h1 := zMfr.of0 g1
    obtain ⟨-, n2, ⟨gg, n3, n3a⟩, n4, ⟨f61, n5, n5a⟩, n6, n7⟩ := id H1
    unfold zMfs at n2
    refine z_if_eq (tgt := 22) dMod_ofCursor_15 (by decide) (by omega) (fun c15 => ?_) (fun c15 => ?_)
    · refine z_aload_n dMod_ofCursor_22 rfl ?_
      refine z_iload_n dMod_ofCursor_23 rfl ?_
      refine z_iload_n dMod_ofCursor_24 rfl ?_
      refine z_callV (bc' := 0) (bs' := 0) MV_Mod_ofCursorNow lk_Mod_154 dMod_ofCursor_25 (k_Mod_ofCursorNow H1 hcc (by omega) hO h16) rfl rfl (Nat.le_of_ble_eq_true rfl) rfl (by assumption) (Nat.le_of_ble_eq_true rfl) (Nat.le_of_ble_eq_true rfl) (by decide) (by decide) (fun _ _ q => q.elim) ?_
      rintro _ h2 ⟨rfl, hx2⟩
      have H2 : zMod G h2 ma S t9 := H1.ext hx2
      have fz2 : zMfr ma h h2 := fz1.tr (zMfr.ext hx2)
      refine z_iret rfl rfl dMod_ofCursor_28 ?_
      rcases (show t9 = 0 ∨ t9 = 1 ∨ t9 = 2 ∨ t9 = 3 by omega) with t0 | t0 | t0 | t0
      all_goals first
        | (exfalso; omega)
        | (refine zQm.ok H2 (by omega) (by assumption) ?_
           unfold sp_ofCursor zCuV zWv
           rw [if_pos (by omega), if_pos (by omega), Int.toNat_natCast]
           (repeat' split)
           all_goals first
             | rfl
             | (exfalso; omega))
        | exact zQm.ok H1 (by omega) (by assumption) (by unfold sp_ofCursor; (try unfold spPut); (try simp only [Int.toNat_natCast]); (repeat (first | rw [if_pos (by omega)] | rw [if_neg (by omega)] | rw [if_pos (by assumption)] | rw [if_neg (by assumption)] | rw [if_pos (True.intro : True)])); (try (first | rfl | (congr 2; omega) | (congr 1; congr 1; omega))); done)
        | exact zQm.b1 H1 (by omega) (by assumption) (by unfold sp_ofCursor; (try unfold spPut); (try simp only [Int.toNat_natCast]); (repeat (first | rw [if_pos (by omega)] | rw [if_neg (by omega)] | rw [if_pos (by assumption)] | rw [if_neg (by assumption)] | rw [if_pos (True.intro : True)])); (try (first | rfl | (congr 2; omega) | (congr 1; congr 1; omega))); done)
        | exact zQm.b2 H1 (by omega) (by assumption) (by unfold sp_ofCursor; (try unfold spPut); (try simp only [Int.toNat_natCast]); (repeat (first | rw [if_pos (by omega)] | rw [if_neg (by omega)] | rw [if_pos (by assumption)] | rw [if_neg (by assumption)] | rw [if_pos (True.intro : True)])); (try (first | rfl | (congr 2; omega) | (congr 1; congr 1; omega))); done)
        | exact zQm.b3 H1 (by omega) (by assumption) (by unfold sp_ofCursor; (try unfold spPut); (try simp only [Int.toNat_natCast]); (repeat (first | rw [if_pos (by omega)] | rw [if_neg (by omega)] | rw [if_pos (by assumption)] | rw [if_neg (by assumption)] | rw [if_pos (True.intro : True)])); (try (first | rfl | (congr 2; omega) | (congr 1; congr 1; omega))); done)
    · refine z_iconst dMod_ofCursor_18 ?_
      refine z_goto (tgt := 28) dMod_ofCursor_19 (by decide) ?_
      refine z_iret rfl rfl dMod_ofCursor_28 ?_
      rcases (show t9 = 0 ∨ t9 = 1 ∨ t9 = 2 ∨ t9 = 3 by omega) with t0 | t0 | t0 | t0
      all_goals first
        | (exfalso; omega)
        | (refine zQm.ok H2 (by omega) (by assumption) ?_
           unfold sp_ofCursor zCuV zWv
           rw [if_pos (by omega), if_pos (by omega), Int.toNat_natCast]
           (repeat' split)
           all_goals first
             | rfl
             | (exfalso; omega))
        | exact zQm.ok H1 (by omega) (by assumption) (by unfold sp_ofCursor; (try unfold spPut); (try simp only [Int.toNat_natCast]); (repeat (first | rw [if_pos (by omega)] | rw [if_neg (by omega)] | rw [if_pos (by assumption)] | rw [if_neg (by assumption)] | rw [if_pos (True.intro : True)])); (try (first | rfl | (congr 2; omega) | (congr 1; congr 1; omega))); done)
        | exact zQm.b1 H1 (by omega) (by assumption) (by unfold sp_ofCursor; (try unfold spPut); (try simp only [Int.toNat_natCast]); (repeat (first | rw [if_pos (by omega)] | rw [if_neg (by omega)] | rw [if_pos (by assumption)] | rw [if_neg (by assumption)] | rw [if_pos (True.intro : True)])); (try (first | rfl | (congr 2; omega) | (congr 1; congr 1; omega))); done)
        | exact zQm.b2 H1 (by omega) (by assumption) (by unfold sp_ofCursor; (try unfold spPut); (try simp only [Int.toNat_natCast]); (repeat (first | rw [if_pos (by omega)] | rw [if_neg (by omega)] | rw [if_pos (by assumption)] | rw [if_neg (by assumption)] | rw [if_pos (True.intro : True)])); (try (first | rfl | (congr 2; omega) | (congr 1; congr 1; omega))); done)
        | exact zQm.b3 H1 (by omega) (by assumption) (by unfold sp_ofCursor; (try unfold spPut); (try simp only [Int.toNat_natCast]); (repeat (first | rw [if_pos (by omega)] | rw [if_neg (by omega)] | rw [if_pos (by assumption)] | rw [if_neg (by assumption)] | rw [if_pos (True.intro : True)])); (try (first | rfl | (congr 2; omega) | (congr 1; congr 1; omega))); done)
theorem k_Mod_ask {key : Int} (H : zMod G h ma S th) (z_key : zI32 key) (hO : zOk S) : zM G l hMod_ask yMod_ask 4 [.ref (ma 0), zi key] h (zQm G ma h (9) (1) (2) (sp_ask S key)) zNo 2 121 := by
  obtain ⟨m1, m2, ⟨g, m3, m3a⟩, m4, ⟨f6, m5, m5a⟩, m6, m7⟩ := id H
  unfold zMfs at m2
  refine zM.of [some (.ref (ma 0)), some (zi key), none] (by decide +kernel) rfl (by decide) rfl (Nat.le_of_ble_eq_true rfl) rfl ?_
  have okA := hO.2.2.2.1
  have okK := hO.2.2.1
  refine z_aload_n dMod_ask_0 rfl ?_
  refine z_iload_n dMod_ask_1 rfl ?_
  refine z_iconst dMod_ask_2 ?_
  refine z_bipush dMod_ask_3 rfl ?_
  refine z_callS MS_Mod_isOut lk_Mod_41 dMod_ask_5 (k_Mod_isOut (by omega) (by omega) (by omega)) rfl rfl (Nat.le_of_ble_eq_true rfl)  (Nat.le_of_ble_eq_true rfl) (Nat.le_of_ble_eq_true rfl) (Nat.le_of_eq (Nat.zero_add _)) (Nat.le_of_eq (Nat.zero_add _)) (fun _ _ q => q.elim) ?_
  rintro _ _ ⟨o9, rfl, ho9, rfl⟩
  refine z_aload_n dMod_ask_8 rfl ?_
  refine z_get (k := 8) fd_Mod (by decide) fl_Mod_184 dMod_ask_9 (by assumption) (by rfl) ?_
  refine z_bipush dMod_ask_12 rfl ?_
  refine z_icmp_ne (tgt := 21) dMod_ask_14 (by decide) (by omega) (by omega) (fun c14 => ?_) (fun c14 => ?_)
  · refine z_iconst dMod_ask_21 ?_
    refine z_iconst dMod_ask_22 ?_
    refine z_callV MV_Mod_fails lk_Mod_88 dMod_ask_23 (k_Mod_fails (by assumption) rfl (by omega) (by omega) (by omega)) rfl rfl (Nat.le_of_ble_eq_true rfl) rfl (by assumption) (Nat.le_of_ble_eq_true rfl) (Nat.le_of_ble_eq_true rfl) (Nat.le_of_eq (Nat.zero_add _)) (Nat.le_of_eq (Nat.zero_add _)) (fun _ _ q => q.elim) ?_
    rintro _ h1 ⟨t9, b8, rfl, ht, p1, g1⟩
    have H1 : zMod G h1 ma S t9 := H.obj (nu := S.2.2.2.2) (th' := t9) p1 g1
    have fz1 : zMfr ma h h1 := zMfr.of0 g1
    obtain ⟨-, n2, ⟨gg, n3, n3a⟩, n4, ⟨f61, n5, n5a⟩, n6, n7⟩ := id H1
    unfold zMfs at n2
    refine z_if_eq (tgt := 31) dMod_ask_26 (by decide) (by omega) (fun c26 => ?_) (fun c26 => ?_)
    · have hfd := hO.2.1 key (by omega) (by omega)
      have hfi := zFind_in S.2.2.1 key 0
      have okn := hO.2.2.2.2
      refine z_aload_n dMod_ask_31 rfl ?_
      refine z_get (k := 6) fd_Mod (by decide) fl_Mod_31 dMod_ask_32 (by assumption) (by rfl) ?_
      refine z_iload_n dMod_ask_35 rfl ?_
      refine z_iconst dMod_ask_36 ?_
      refine z_callS MS_Mod_find lk_Mod_110 dMod_ask_37 (k_Mod_find n7 (by omega) (by omega)) rfl rfl (Nat.le_of_ble_eq_true rfl)  (Nat.le_of_ble_eq_true rfl) (Nat.le_of_ble_eq_true rfl) (Nat.le_of_eq (Nat.zero_add _)) (Nat.le_of_eq (Nat.zero_add _)) (fun _ _ q => q.elim) ?_
      rintro _ _ ⟨rfl, rfl⟩
      refine z_istore_n dMod_ask_40 (Nat.le_of_ble_eq_true rfl) ?_
      refine z_aload_n dMod_ask_41 rfl ?_
      refine z_aload_n dMod_ask_42 rfl ?_
      refine z_get (k := 6) fd_Mod (by decide) fl_Mod_31 dMod_ask_43 (by assumption) (by rfl) ?_
      refine z_iload_n dMod_ask_46 rfl ?_
      refine z_callS (bc' := 1) (bs' := 61) MS_Mod_without lk_Mod_102 dMod_ask_47 (k_Mod_without n7 (by omega) (by omega)) rfl rfl (Nat.le_of_ble_eq_true rfl)  (Nat.le_of_ble_eq_true rfl) (Nat.le_of_ble_eq_true rfl) (by decide) (by decide) (fun _ _ q => q.elim) ?_
      rintro _ h2 ⟨q2, rfl, hq2, gq2, r2, F2⟩
      have H2 : zMod G h2 ma S t9 := H1.keep hq2 F2
      have fz2 : zMfr ma h h2 := fz1.tr (zMfr.new hq2 F2)
      have dq2 : zDm h q2 := hq2.up H1 fz1
      have oc2 := H2.2.1
      have hdl := zDel_len S.2.2.1 (zFind S.2.2.1 key 0)
      refine z_iconst dMod_ask_50 ?_
      refine z_iload_n dMod_ask_51 rfl ?_
      refine z_callS (bc' := 0) (bs' := 0) MS_Mod_with lk_Mod_49 dMod_ask_52 (k_Mod_with r2 (by omega) (by omega) (by omega)) rfl rfl (Nat.le_of_ble_eq_true rfl)  (Nat.le_of_ble_eq_true rfl) (Nat.le_of_ble_eq_true rfl) (by decide) (by decide) (fun _ _ q => q.elim) ?_
      rintro _ h3 ⟨q3, rfl, hq3, gq3, r3, F3⟩
      have H3 : zMod G h3 ma S t9 := H2.keep hq3 F3
      have fz3 : zMfr ma h h3 := fz2.tr (zMfr.new hq3 F3)
      have dq3 : zDm h q3 := hq3.up H2 fz2
      have oc3 := H3.2.1
      have o3 := H3.2.1
      unfold zMfs at o3
      refine z_put (k := 6) fd_Mod (by decide) fl_Mod_31 rfl dMod_ask_55 o3 (by simp) rfl rfl ?_
      refine z_hx (fun h4 p4 g4 => ?_)
      have o3 := p4
      have n53 := (g4 (ma 7) (H.inj (by omega) (by omega) (by omega))).trans ((F3 _ (H2.nq hq3 (i := 7) (by omega)).symm).trans ((F2 _ (H1.nq hq2 (i := 7) (by omega)).symm).trans n5))
      have n53 := (g4 (ma 7) (H.inj (by omega) (by omega) (by omega))).trans ((F3 _ (H2.nq hq3 (i := 7) (by omega)).symm).trans ((F2 _ (H1.nq hq2 (i := 7) (by omega)).symm).trans n5))
      refine z_aload_n dMod_ask_58 rfl ?_
      refine z_get (k := 7) fd_Mod (by decide) fl_Mod_34 dMod_ask_59 (by assumption) (by rfl) ?_
      refine z_aload_n dMod_ask_62 rfl ?_
      refine z_get (k := 8) fd_Mod (by decide) fl_Mod_184 dMod_ask_63 (by assumption) (by rfl) ?_
      refine z_iload_n dMod_ask_66 rfl ?_
      refine z_iast dMod_ask_67 (by assumption) (by refine ⟨?_, ?_, ?_⟩ <;> omega) ?_
      refine z_hx (fun h5 p5 g5 => ?_)
      have o3 := (g5 (ma 0) (H.inj (by omega) (by omega) (by omega))).trans o3
      refine z_aload_n dMod_ask_68 rfl ?_
      refine z_dup rfl dMod_ask_69 ?_
      refine z_get (k := 8) fd_Mod (by decide) fl_Mod_184 dMod_ask_70 (by assumption) (by rfl) ?_
      refine z_iconst dMod_ask_73 ?_
      refine z_iadd dMod_ask_74 ?_
      refine z_put (k := 8) fd_Mod (by decide) fl_Mod_184 rfl dMod_ask_75 o3 (by simp) rfl rfl ?_
      refine z_hx (fun h6 p6 g6 => ?_)
      have o3 := p6
      refine z_aload_n dMod_ask_78 rfl ?_
      refine z_dup rfl dMod_ask_79 ?_
      refine z_get (k := 9) fd_Mod (by decide) fl_Mod_187 dMod_ask_80 (by assumption) (by rfl) ?_
      refine z_iload_n dMod_ask_83 rfl ?_
      refine z_iconst dMod_ask_84 ?_
      refine z_iadd dMod_ask_85 ?_
      refine z_iadd dMod_ask_86 ?_
      refine z_put (k := 9) fd_Mod (by decide) fl_Mod_187 rfl dMod_ask_87 o3 (by simp) rfl rfl ?_
      refine z_hx (fun h7 p7 g7 => ?_)
      have o3 := p7
      have hfr : ∀ z, z ≠ ma 0 → z ≠ ma 7 → z ≠ q2 → z ≠ q3 → h7 z = h1 z := fun z z0 z7 z2 z3 => (g7 z z0).trans ((g6 z z0).trans ((g5 z z7).trans ((g4 z z0).trans ((F3 z z3).trans (F2 z z2)))))
      have n2q : ∀ i, i < 13 → ma i ≠ q2 := fun i hi => (H1.nq hq2 hi).symm
      have n3q : ∀ i, i < 13 → ma i ≠ q3 := fun i hi => (H2.nq hq3 hi).symm
      have q3k : h7 q3 = h3 q3 := (g7 _ (n3q 0 (by omega)).symm).trans ((g6 _ (n3q 0 (by omega)).symm).trans ((g5 _ (n3q 7 (by omega)).symm).trans (g4 _ (n3q 0 (by omega)).symm)))
      have e57 := (g7 _ (H.inj (i := 7) (j := 0) (by omega) (by omega) (by omega))).trans ((g6 _ (H.inj (i := 7) (j := 0) (by omega) (by omega) (by omega))).trans p5)
      have H7 : zMod G h7 (zup ma 12 q3) (zsAsk S key) t9 := H1.rec (r3.kept q3k) (fun i hi _ => (n3q i hi).symm) (p7.trans (by
          congr 3
          show [_, _, _, _, _, _, _, _, _, _, _, _, _] = [_, _, _, _, _, _, _, _, _, _, _, _, _]
          rw [show ((S.2.2.2.1 ++ [key]).length : Int) = (S.2.2.2.1.length : Int) + 1 by rw [List.length_append]; rfl]
          rfl)) e57 (fun j hj => by
          rw [List.length_append] at hj
          have hj2 : j < S.2.2.2.1.length + 1 := hj
          rw [Int.toNat_natCast]
          by_cases e9 : j = S.2.2.2.1.length
          · subst e9
            rw [zup_same]
            simp [List.getD_eq_getElem?_getD]
          · rw [zup_ne e9, n5a j (by omega)]
            simp only [List.getD_eq_getElem?_getD]
            rw [List.getElem?_append_left (by omega)]) (fun i hi i0 i7 i12 => hfr _ (H.inj hi (by omega) i0) (H.inj hi (by omega) i7) (n2q i hi) (n3q i hi))
      have fz7 : zMfr ma h h7 := fz1.tr (fun z e he hz => by
        have zq2 : z ≠ q2 := Nat.ne_of_lt (hq2 _ _ he)
        have zq3 : z ≠ q3 := Nat.ne_of_lt (hq3 _ _ ((F2 z zq2).trans he))
        exact (hfr z (hz 0 (by omega)) (hz 7 (by omega)) zq2 zq3).trans he)
      refine z_iload_n dMod_ask_90 rfl ?_
      refine z_iconst dMod_ask_91 ?_
      refine z_iadd dMod_ask_92 ?_
      refine z_iret rfl rfl dMod_ask_93 ?_
      rcases (show t9 = 0 ∨ t9 = 1 ∨ t9 = 2 ∨ t9 = 3 by omega) with t0 | t0 | t0 | t0
      all_goals first
        | (exfalso; omega)
        | exact zQm.okB (k := 4) H7 (Or.inr ⟨dq3, gq3⟩) (by omega) (by assumption) (by unfold sp_ask; (try unfold spPut); (try simp only [Int.toNat_natCast]); (repeat (first | rw [if_pos (by omega)] | rw [if_neg (by omega)] | rw [if_pos (by assumption)] | rw [if_neg (by assumption)] | rw [if_pos (True.intro : True)])); (try (first | rfl | (congr 2; omega) | (congr 1; congr 1; omega))); done)
        | exact zQm.ok H1 (by omega) (by assumption) (by unfold sp_ask; (try unfold spPut); (try simp only [Int.toNat_natCast]); (repeat (first | rw [if_pos (by omega)] | rw [if_neg (by omega)] | rw [if_pos (by assumption)] | rw [if_neg (by assumption)] | rw [if_pos (True.intro : True)])); (try (first | rfl | (congr 2; omega) | (congr 1; congr 1; omega))); done)
        | exact zQm.b1 H1 (by omega) (by assumption) (by unfold sp_ask; (try unfold spPut); (try simp only [Int.toNat_natCast]); (repeat (first | rw [if_pos (by omega)] | rw [if_neg (by omega)] | rw [if_pos (by assumption)] | rw [if_neg (by assumption)] | rw [if_pos (True.intro : True)])); (try (first | rfl | (congr 2; omega) | (congr 1; congr 1; omega))); done)
        | exact zQm.b2 H1 (by omega) (by assumption) (by unfold sp_ask; (try unfold spPut); (try simp only [Int.toNat_natCast]); (repeat (first | rw [if_pos (by omega)] | rw [if_neg (by omega)] | rw [if_pos (by assumption)] | rw [if_neg (by assumption)] | rw [if_pos (True.intro : True)])); (try (first | rfl | (congr 2; omega) | (congr 1; congr 1; omega))); done)
        | exact zQm.b3 H1 (by omega) (by assumption) (by unfold sp_ask; (try unfold spPut); (try simp only [Int.toNat_natCast]); (repeat (first | rw [if_pos (by omega)] | rw [if_neg (by omega)] | rw [if_pos (by assumption)] | rw [if_neg (by assumption)] | rw [if_pos (True.intro : True)])); (try (first | rfl | (congr 2; omega) | (congr 1; congr 1; omega))); done)
    · refine z_iconst dMod_ask_29 ?_
      refine z_iret rfl rfl dMod_ask_30 ?_
      rcases (show t9 = 0 ∨ t9 = 1 ∨ t9 = 2 ∨ t9 = 3 by omega) with t0 | t0 | t0 | t0
      all_goals first
        | (exfalso; omega)
        | exact zQm.okB (k := 4) H7 (Or.inr ⟨dq3, gq3⟩) (by omega) (by assumption) (by unfold sp_ask; (try unfold spPut); (try simp only [Int.toNat_natCast]); (repeat (first | rw [if_pos (by omega)] | rw [if_neg (by omega)] | rw [if_pos (by assumption)] | rw [if_neg (by assumption)] | rw [if_pos (True.intro : True)])); (try (first | rfl | (congr 2; omega) | (congr 1; congr 1; omega))); done)
        | exact zQm.ok H1 (by omega) (by assumption) (by unfold sp_ask; (try unfold spPut); (try simp only [Int.toNat_natCast]); (repeat (first | rw [if_pos (by omega)] | rw [if_neg (by omega)] | rw [if_pos (by assumption)] | rw [if_neg (by assumption)] | rw [if_pos (True.intro : True)])); (try (first | rfl | (congr 2; omega) | (congr 1; congr 1; omega))); done)
        | exact zQm.b1 H1 (by omega) (by assumption) (by unfold sp_ask; (try unfold spPut); (try simp only [Int.toNat_natCast]); (repeat (first | rw [if_pos (by omega)] | rw [if_neg (by omega)] | rw [if_pos (by assumption)] | rw [if_neg (by assumption)] | rw [if_pos (True.intro : True)])); (try (first | rfl | (congr 2; omega) | (congr 1; congr 1; omega))); done)
        | exact zQm.b2 H1 (by omega) (by assumption) (by unfold sp_ask; (try unfold spPut); (try simp only [Int.toNat_natCast]); (repeat (first | rw [if_pos (by omega)] | rw [if_neg (by omega)] | rw [if_pos (by assumption)] | rw [if_neg (by assumption)] | rw [if_pos (True.intro : True)])); (try (first | rfl | (congr 2; omega) | (congr 1; congr 1; omega))); done)
        | exact zQm.b3 H1 (by omega) (by assumption) (by unfold sp_ask; (try unfold spPut); (try simp only [Int.toNat_natCast]); (repeat (first | rw [if_pos (by omega)] | rw [if_neg (by omega)] | rw [if_pos (by assumption)] | rw [if_neg (by assumption)] | rw [if_pos (True.intro : True)])); (try (first | rfl | (congr 2; omega) | (congr 1; congr 1; omega))); done)
  · refine z_iconst dMod_ask_17 ?_
    refine z_goto (tgt := 22) dMod_ask_18 (by decide) ?_
    refine z_iconst dMod_ask_22 ?_
    refine z_callV MV_Mod_fails lk_Mod_88 dMod_ask_23 (k_Mod_fails (by assumption) rfl (by omega) (by omega) (by omega)) rfl rfl (Nat.le_of_ble_eq_true rfl) rfl (by assumption) (Nat.le_of_ble_eq_true rfl) (Nat.le_of_ble_eq_true rfl) (Nat.le_of_eq (Nat.zero_add _)) (Nat.le_of_eq (Nat.zero_add _)) (fun _ _ q => q.elim) ?_
    rintro _ h1 ⟨t9, b8, rfl, ht, p1, g1⟩
    have H1 : zMod G h1 ma S t9 := H.obj (nu := S.2.2.2.2) (th' := t9) p1 g1
    have fz1 : zMfr ma h h1 := zMfr.of0 g1
    obtain ⟨-, n2, ⟨gg, n3, n3a⟩, n4, ⟨f61, n5, n5a⟩, n6, n7⟩ := id H1
    unfold zMfs at n2
    refine z_if_eq (tgt := 31) dMod_ask_26 (by decide) (by omega) (fun c26 => ?_) (fun c26 => ?_)
    · have hfd := hO.2.1 key (by omega) (by omega)
      have hfi := zFind_in S.2.2.1 key 0
      have okn := hO.2.2.2.2
      refine z_aload_n dMod_ask_31 rfl ?_
      refine z_get (k := 6) fd_Mod (by decide) fl_Mod_31 dMod_ask_32 (by assumption) (by rfl) ?_
      refine z_iload_n dMod_ask_35 rfl ?_
      refine z_iconst dMod_ask_36 ?_
      refine z_callS MS_Mod_find lk_Mod_110 dMod_ask_37 (k_Mod_find n7 (by omega) (by omega)) rfl rfl (Nat.le_of_ble_eq_true rfl)  (Nat.le_of_ble_eq_true rfl) (Nat.le_of_ble_eq_true rfl) (Nat.le_of_eq (Nat.zero_add _)) (Nat.le_of_eq (Nat.zero_add _)) (fun _ _ q => q.elim) ?_
      rintro _ _ ⟨rfl, rfl⟩
      refine z_istore_n dMod_ask_40 (Nat.le_of_ble_eq_true rfl) ?_
      refine z_aload_n dMod_ask_41 rfl ?_
      refine z_aload_n dMod_ask_42 rfl ?_
      refine z_get (k := 6) fd_Mod (by decide) fl_Mod_31 dMod_ask_43 (by assumption) (by rfl) ?_
      refine z_iload_n dMod_ask_46 rfl ?_
      refine z_callS (bc' := 1) (bs' := 61) MS_Mod_without lk_Mod_102 dMod_ask_47 (k_Mod_without n7 (by omega) (by omega)) rfl rfl (Nat.le_of_ble_eq_true rfl)  (Nat.le_of_ble_eq_true rfl) (Nat.le_of_ble_eq_true rfl) (by decide) (by decide) (fun _ _ q => q.elim) ?_
      rintro _ h2 ⟨q2, rfl, hq2, gq2, r2, F2⟩
      have H2 : zMod G h2 ma S t9 := H1.keep hq2 F2
      have fz2 : zMfr ma h h2 := fz1.tr (zMfr.new hq2 F2)
      have dq2 : zDm h q2 := hq2.up H1 fz1
      have oc2 := H2.2.1
      have hdl := zDel_len S.2.2.1 (zFind S.2.2.1 key 0)
      refine z_iconst dMod_ask_50 ?_
      refine z_iload_n dMod_ask_51 rfl ?_
      refine z_callS (bc' := 0) (bs' := 0) MS_Mod_with lk_Mod_49 dMod_ask_52 (k_Mod_with r2 (by omega) (by omega) (by omega)) rfl rfl (Nat.le_of_ble_eq_true rfl)  (Nat.le_of_ble_eq_true rfl) (Nat.le_of_ble_eq_true rfl) (by decide) (by decide) (fun _ _ q => q.elim) ?_
      rintro _ h3 ⟨q3, rfl, hq3, gq3, r3, F3⟩
      have H3 : zMod G h3 ma S t9 := H2.keep hq3 F3
      have fz3 : zMfr ma h h3 := fz2.tr (zMfr.new hq3 F3)
      have dq3 : zDm h q3 := hq3.up H2 fz2
      have oc3 := H3.2.1
      have o3 := H3.2.1
      unfold zMfs at o3
      refine z_put (k := 6) fd_Mod (by decide) fl_Mod_31 rfl dMod_ask_55 o3 (by simp) rfl rfl ?_
      refine z_hx (fun h4 p4 g4 => ?_)
      have o3 := p4
      have n53 := (g4 (ma 7) (H.inj (by omega) (by omega) (by omega))).trans ((F3 _ (H2.nq hq3 (i := 7) (by omega)).symm).trans ((F2 _ (H1.nq hq2 (i := 7) (by omega)).symm).trans n5))
      have n53 := (g4 (ma 7) (H.inj (by omega) (by omega) (by omega))).trans ((F3 _ (H2.nq hq3 (i := 7) (by omega)).symm).trans ((F2 _ (H1.nq hq2 (i := 7) (by omega)).symm).trans n5))
      refine z_aload_n dMod_ask_58 rfl ?_
      refine z_get (k := 7) fd_Mod (by decide) fl_Mod_34 dMod_ask_59 (by assumption) (by rfl) ?_
      refine z_aload_n dMod_ask_62 rfl ?_
      refine z_get (k := 8) fd_Mod (by decide) fl_Mod_184 dMod_ask_63 (by assumption) (by rfl) ?_
      refine z_iload_n dMod_ask_66 rfl ?_
      refine z_iast dMod_ask_67 (by assumption) (by refine ⟨?_, ?_, ?_⟩ <;> omega) ?_
      refine z_hx (fun h5 p5 g5 => ?_)
      have o3 := (g5 (ma 0) (H.inj (by omega) (by omega) (by omega))).trans o3
      refine z_aload_n dMod_ask_68 rfl ?_
      refine z_dup rfl dMod_ask_69 ?_
      refine z_get (k := 8) fd_Mod (by decide) fl_Mod_184 dMod_ask_70 (by assumption) (by rfl) ?_
      refine z_iconst dMod_ask_73 ?_
      refine z_iadd dMod_ask_74 ?_
      refine z_put (k := 8) fd_Mod (by decide) fl_Mod_184 rfl dMod_ask_75 o3 (by simp) rfl rfl ?_
      refine z_hx (fun h6 p6 g6 => ?_)
      have o3 := p6
      refine z_aload_n dMod_ask_78 rfl ?_
      refine z_dup rfl dMod_ask_79 ?_
      refine z_get (k := 9) fd_Mod (by decide) fl_Mod_187 dMod_ask_80 (by assumption) (by rfl) ?_
      refine z_iload_n dMod_ask_83 rfl ?_
      refine z_iconst dMod_ask_84 ?_
      refine z_iadd dMod_ask_85 ?_
      refine z_iadd dMod_ask_86 ?_
      refine z_put (k := 9) fd_Mod (by decide) fl_Mod_187 rfl dMod_ask_87 o3 (by simp) rfl rfl ?_
      refine z_hx (fun h7 p7 g7 => ?_)
      have o3 := p7
      have hfr : ∀ z, z ≠ ma 0 → z ≠ ma 7 → z ≠ q2 → z ≠ q3 → h7 z = h1 z := fun z z0 z7 z2 z3 => (g7 z z0).trans ((g6 z z0).trans ((g5 z z7).trans ((g4 z z0).trans ((F3 z z3).trans (F2 z z2)))))
      have n2q : ∀ i, i < 13 → ma i ≠ q2 := fun i hi => (H1.nq hq2 hi).symm
      have n3q : ∀ i, i < 13 → ma i ≠ q3 := fun i hi => (H2.nq hq3 hi).symm
      have q3k : h7 q3 = h3 q3 := (g7 _ (n3q 0 (by omega)).symm).trans ((g6 _ (n3q 0 (by omega)).symm).trans ((g5 _ (n3q 7 (by omega)).symm).trans (g4 _ (n3q 0 (by omega)).symm)))
      have e57 := (g7 _ (H.inj (i := 7) (j := 0) (by omega) (by omega) (by omega))).trans ((g6 _ (H.inj (i := 7) (j := 0) (by omega) (by omega) (by omega))).trans p5)
      have H7 : zMod G h7 (zup ma 12 q3) (zsAsk S key) t9 := H1.rec (r3.kept q3k) (fun i hi _ => (n3q i hi).symm) (p7.trans (by
          congr 3
          show [_, _, _, _, _, _, _, _, _, _, _, _, _] = [_, _, _, _, _, _, _, _, _, _, _, _, _]
          rw [show ((S.2.2.2.1 ++ [key]).length : Int) = (S.2.2.2.1.length : Int) + 1 by rw [List.length_append]; rfl]
          rfl)) e57 (fun j hj => by
          rw [List.length_append] at hj
          have hj2 : j < S.2.2.2.1.length + 1 := hj
          rw [Int.toNat_natCast]
          by_cases e9 : j = S.2.2.2.1.length
          · subst e9
            rw [zup_same]
            simp [List.getD_eq_getElem?_getD]
          · rw [zup_ne e9, n5a j (by omega)]
            simp only [List.getD_eq_getElem?_getD]
            rw [List.getElem?_append_left (by omega)]) (fun i hi i0 i7 i12 => hfr _ (H.inj hi (by omega) i0) (H.inj hi (by omega) i7) (n2q i hi) (n3q i hi))
      have fz7 : zMfr ma h h7 := fz1.tr (fun z e he hz => by
        have zq2 : z ≠ q2 := Nat.ne_of_lt (hq2 _ _ he)
        have zq3 : z ≠ q3 := Nat.ne_of_lt (hq3 _ _ ((F2 z zq2).trans he))
        exact (hfr z (hz 0 (by omega)) (hz 7 (by omega)) zq2 zq3).trans he)
      refine z_iload_n dMod_ask_90 rfl ?_
      refine z_iconst dMod_ask_91 ?_
      refine z_iadd dMod_ask_92 ?_
      refine z_iret rfl rfl dMod_ask_93 ?_
      rcases (show t9 = 0 ∨ t9 = 1 ∨ t9 = 2 ∨ t9 = 3 by omega) with t0 | t0 | t0 | t0
      all_goals first
        | (exfalso; omega)
        | exact zQm.okB (k := 4) H7 (Or.inr ⟨dq3, gq3⟩) (by omega) (by assumption) (by unfold sp_ask; (try unfold spPut); (try simp only [Int.toNat_natCast]); (repeat (first | rw [if_pos (by omega)] | rw [if_neg (by omega)] | rw [if_pos (by assumption)] | rw [if_neg (by assumption)] | rw [if_pos (True.intro : True)])); (try (first | rfl | (congr 2; omega) | (congr 1; congr 1; omega))); done)
        | exact zQm.ok H1 (by omega) (by assumption) (by unfold sp_ask; (try unfold spPut); (try simp only [Int.toNat_natCast]); (repeat (first | rw [if_pos (by omega)] | rw [if_neg (by omega)] | rw [if_pos (by assumption)] | rw [if_neg (by assumption)] | rw [if_pos (True.intro : True)])); (try (first | rfl | (congr 2; omega) | (congr 1; congr 1; omega))); done)
        | exact zQm.b1 H1 (by omega) (by assumption) (by unfold sp_ask; (try unfold spPut); (try simp only [Int.toNat_natCast]); (repeat (first | rw [if_pos (by omega)] | rw [if_neg (by omega)] | rw [if_pos (by assumption)] | rw [if_neg (by assumption)] | rw [if_pos (True.intro : True)])); (try (first | rfl | (congr 2; omega) | (congr 1; congr 1; omega))); done)
        | exact zQm.b2 H1 (by omega) (by assumption) (by unfold sp_ask; (try unfold spPut); (try simp only [Int.toNat_natCast]); (repeat (first | rw [if_pos (by omega)] | rw [if_neg (by omega)] | rw [if_pos (by assumption)] | rw [if_neg (by assumption)] | rw [if_pos (True.intro : True)])); (try (first | rfl | (congr 2; omega) | (congr 1; congr 1; omega))); done)
        | exact zQm.b3 H1 (by omega) (by assumption) (by unfold sp_ask; (try unfold spPut); (try simp only [Int.toNat_natCast]); (repeat (first | rw [if_pos (by omega)] | rw [if_neg (by omega)] | rw [if_pos (by assumption)] | rw [if_neg (by assumption)] | rw [if_pos (True.intro : True)])); (try (first | rfl | (congr 2; omega) | (congr 1; congr 1; omega))); done)
    · refine z_iconst dMod_ask_29 ?_
      refine z_iret rfl rfl dMod_ask_30 ?_
      rcases (show t9 = 0 ∨ t9 = 1 ∨ t9 = 2 ∨ t9 = 3 by omega) with t0 | t0 | t0 | t0
      all_goals first
        | (exfalso; omega)
        | exact zQm.okB (k := 4) H7 (Or.inr ⟨dq3, gq3⟩) (by omega) (by assumption) (by unfold sp_ask; (try unfold spPut); (try simp only [Int.toNat_natCast]); (repeat (first | rw [if_pos (by omega)] | rw [if_neg (by omega)] | rw [if_pos (by assumption)] | rw [if_neg (by assumption)] | rw [if_pos (True.intro : True)])); (try (first | rfl | (congr 2; omega) | (congr 1; congr 1; omega))); done)
        | exact zQm.ok H1 (by omega) (by assumption) (by unfold sp_ask; (try unfold spPut); (try simp only [Int.toNat_natCast]); (repeat (first | rw [if_pos (by omega)] | rw [if_neg (by omega)] | rw [if_pos (by assumption)] | rw [if_neg (by assumption)] | rw [if_pos (True.intro : True)])); (try (first | rfl | (congr 2; omega) | (congr 1; congr 1; omega))); done)
        | exact zQm.b1 H1 (by omega) (by assumption) (by unfold sp_ask; (try unfold spPut); (try simp only [Int.toNat_natCast]); (repeat (first | rw [if_pos (by omega)] | rw [if_neg (by omega)] | rw [if_pos (by assumption)] | rw [if_neg (by assumption)] | rw [if_pos (True.intro : True)])); (try (first | rfl | (congr 2; omega) | (congr 1; congr 1; omega))); done)
        | exact zQm.b2 H1 (by omega) (by assumption) (by unfold sp_ask; (try unfold spPut); (try simp only [Int.toNat_natCast]); (repeat (first | rw [if_pos (by omega)] | rw [if_neg (by omega)] | rw [if_pos (by assumption)] | rw [if_neg (by assumption)] | rw [if_pos (True.intro : True)])); (try (first | rfl | (congr 2; omega) | (congr 1; congr 1; omega))); done)
        | exact zQm.b3 H1 (by omega) (by assumption) (by unfold sp_ask; (try unfold spPut); (try simp only [Int.toNat_natCast]); (repeat (first | rw [if_pos (by omega)] | rw [if_neg (by omega)] | rw [if_pos (by assumption)] | rw [if_neg (by assumption)] | rw [if_pos (True.intro : True)])); (try (first | rfl | (congr 2; omega) | (congr 1; congr 1; omega))); done)
end MOD20
end
section
section MOD21
variable {G : zG} {l : Launch} {h h' h'' : zHp} {ma : Nat → Nat} {S : zSt} {th : Int}
theorem z_alenR {J : zJ} {bc bs pc a n : Nat} {f : Nat → Option Nat} {ls : List (Option Value)} {st : List Value} (hd : decode J.1.2.1 pc = .ok (.arraylength, 1)) (hh : h a = some (zRefs G 4 n f)) (kk : zR G l J bc bs h (pc + 1) ls (zi (n : Int) :: st)) : zR G l J bc bs h pc ls (.ref a :: st) := z_alen (i := 4) rfl hd hh kk
theorem l_Mod_forget {mc ms bc bs : Nat} {Qn : Option Value → zHp → Prop} {Qx : String → zHp → Prop} {o r : Nat} {fs : List Value} {w1 : Int} (eo : h o = some (.inr (zkMod, fs))) (hfs : fs[6]? = some (.ref r)) (hor : o ≠ r)
    (K : ∀ (h1 : zHp) f y, h1 r = some (zInts G 8 f) → (∀ j : Nat, j < 8 → f j = (j : Int)) → (∀ z, z ≠ r → h1 z = h z) → zR G l (zMJ G hMod_forget 1 Qn Qx mc ms) bc bs h1 41 [some (.ref o), some (zi w1), y] []) :
    ∀ (n m : Nat) (h1 : zHp) (f : Nat → Int), 8 - m < n → m ≤ 8 → h1 r = some (zInts G 8 f) → (∀ j : Nat, j < m → f j = (j : Int)) → (∀ z, z ≠ r → h1 z = h z) → zR G l (zMJ G hMod_forget 1 Qn Qx mc ms) bc bs h1 22 [some (.ref o), some (zi w1), some (zi (m : Int))] [] := by
  intro n
  induction n with
  | zero => intro m h1 f x1 x2 e1 e2 hf; omega
  | succ n ih =>
  intro m h1 f x1 x2 e1 e2 hf
  have eo1 := (hf o hor).trans eo
  refine z_iload_n dMod_forget_22 rfl ?_
  refine z_bipush dMod_forget_23 rfl ?_
  refine z_icmp_ge (tgt := 41) dMod_forget_25 (by decide) (by omega) (by omega) (fun c25 => ?_) (fun c25 => ?_)
  · have em : m = 8 := by omega
    subst em
    exact K h1 f _ e1 e2 hf
  · refine z_aload_n dMod_forget_28 rfl ?_
    refine z_get (k := 6) fd_Mod (by decide) fl_Mod_31 dMod_forget_29 eo1 hfs ?_
    refine z_iload_n dMod_forget_32 rfl ?_
    refine z_iload_n dMod_forget_33 rfl ?_
    refine z_iast dMod_forget_34 (by assumption) (by refine ⟨?_, ?_, ?_⟩ <;> omega) ?_
    refine z_hx (fun h2 p2 f2 => ?_)
    rw [Int.toNat_natCast] at p2
    refine z_iinc dMod_forget_35 rfl (Nat.le_of_ble_eq_true rfl) ?_
    refine z_goto (tgt := 22) dMod_forget_38 (by decide) ?_
    refine ih (m + 1) h2 _ (by omega) (by omega) p2 (fun t ht => ?_) (fun z hz => (f2 z hz).trans (hf z hz))
    by_cases e9 : t = m
    · subst e9
      rw [zup_same]
    · rw [zup_ne e9]
      exact e2 t (by omega)
theorem k_Mod_forget (H : zMod G h ma S th) (hO : zOk S) : zM G l hMod_forget yMod_forget 1 [.ref (ma 0)] h (zQm G ma h 1 2 3 (sp_forget S)) zNo 0 0 := by
  obtain ⟨m1, m2, ⟨g, m3, m3a⟩, m4, ⟨f6, m5, m5a⟩, m6, m7⟩ := id H
  unfold zMfs at m2
  have o3 := m2
  obtain ⟨fk, k1, k2, k3, k4⟩ := id m7
  have okK := hO.2.2.1
  rw [okK] at k1
  refine zM.of [some (.ref (ma 0)), none, none] (by decide +kernel) rfl (by decide) rfl (Nat.le_of_ble_eq_true rfl) rfl ?_
  refine z_aload_n dMod_forget_0 rfl ?_
  refine z_iconst dMod_forget_1 ?_
  refine z_put (k := 12) fd_Mod (by decide) fl_Mod_37 rfl dMod_forget_2 o3 (by simp) rfl rfl ?_
  refine z_hx (fun h1 p1 g1 => ?_)
  have o3 := p1
  refine z_aload_n dMod_forget_5 rfl ?_
  refine z_get (k := 8) fd_Mod (by decide) fl_Mod_184 dMod_forget_6 o3 rfl ?_
  refine z_istore_n dMod_forget_9 (Nat.le_of_ble_eq_true rfl) ?_
  refine z_aload_n dMod_forget_10 rfl ?_
  refine z_iconst dMod_forget_11 ?_
  refine z_put (k := 8) fd_Mod (by decide) fl_Mod_184 rfl dMod_forget_12 o3 (by simp) rfl rfl ?_
  refine z_hx (fun h2 p2 g2 => ?_)
  have o3 := p2
  refine z_aload_n dMod_forget_15 rfl ?_
  refine z_iconst dMod_forget_16 ?_
  refine z_put (k := 9) fd_Mod (by decide) fl_Mod_187 rfl dMod_forget_17 o3 (by simp) rfl rfl ?_
  refine z_hx (fun h3 p3 g3 => ?_)
  have o3 := p3
  refine z_iconst dMod_forget_20 ?_
  refine z_istore_n dMod_forget_21 (Nat.le_of_ble_eq_true rfl) ?_
  have nn : ∀ i, i < 13 → i ≠ 0 → ma i ≠ ma 0 := fun i hi h0 => H.inj hi (by omega) h0
  have hf3 : ∀ z, z ≠ ma 0 → h3 z = h z := fun z hz => (g3 z hz).trans ((g2 z hz).trans (g1 z hz))
  refine l_Mod_forget (h := h3) (r := ma 12) o3 rfl (H.inj (by omega) (by omega) (by omega)) (fun h4 f4 y e4 v4 F4 => ?_) 9 0 h3 fk (by omega) (by omega) ((hf3 _ (nn 12 (by omega) (by omega))).trans k1) (fun j hj => absurd hj (by omega)) (fun _ _ => rfl)
  have hfr : ∀ z, z ≠ ma 0 → z ≠ ma 12 → h4 z = h z := fun z z0 z12 => (F4 z z12).trans (hf3 z z0)
  have hpl : (zPl9 8).length = 8 := zPl9_len 8
  have r4 : zAr G h4 (ma 12) (zPl9 8) := ⟨f4, by rw [hpl]; exact e4, by rw [hpl]; omega, fun j hj => by rw [hpl] at hj; exact (v4 j hj).trans (zmk_at _ hj).symm, fun j hj => by rw [hpl] at hj; rw [show (zPl9 8).getD j 0 = (j : Int) from zmk_at _ hj]; omega⟩
  have H4 := H.rec (K' := zPl9 8) (A' := []) (nu' := zup S.2.2.2.2 0 0) (th' := 0) r4 (fun i hi hne => H.inj (by omega) hi (Ne.symm hne)) ((F4 _ (H.inj (by omega) (by omega) (by omega))).trans o3) ((hfr _ (nn 7 (by omega) (by omega)) (H.inj (by omega) (by omega) (by omega))).trans m5) (fun j hj => absurd hj (by simp)) (fun i hi i0 i7 i12 => hfr _ (nn i hi i0) (H.inj hi (by omega) i12))
  rw [zup_id] at H4
  have fz4 : zMfr ma h h4 := zMfr.of2 (i := 0) (j := 12) (by omega) (by omega) hfr
  refine z_iload_n dMod_forget_41 rfl ?_
  refine z_iret rfl rfl dMod_forget_42 ?_
  exact zQm.ok H4 rfl fz4 rfl
theorem k_Mod_askedNow {w : Int} (H : zMod G h ma S th) (hw : 0 ≤ w ∧ w ≤ 3) (hO : zOk S) : zM G l hMod_askedNow yMod_askedNow 1 [.ref (ma 0), zi w] h (fun v h' => v = some (zi (zAkV S w)) ∧ h = h') zNo 0 0 := by
  obtain ⟨m1, m2, ⟨g, m3, m3a⟩, m4, ⟨f6, m5, m5a⟩, m6, m7⟩ := id H
  unfold zMfs at m2
  obtain ⟨fk, k1, k2, k3, k4⟩ := id m7
  have okK := hO.2.2.1
  have okA := hO.2.2.2.1
  have ok5 := hO.2.2.2.2
  refine zM.of [some (.ref (ma 0)), some (zi w)] (by decide +kernel) rfl (by decide) rfl (Nat.le_of_ble_eq_true rfl) rfl ?_
  refine z_iload_n dMod_askedNow_0 rfl ?_
  refine z_if_ne (tgt := 11) dMod_askedNow_1 (by decide) (by omega) (fun c1 => ?_) (fun c1 => ?_)
  · refine z_iload_n dMod_askedNow_11 rfl ?_
    refine z_iconst dMod_askedNow_12 ?_
    refine z_icmp_ne (tgt := 23) dMod_askedNow_13 (by decide) (by omega) (by omega) (fun c13 => ?_) (fun c13 => ?_)
    · refine z_iload_n dMod_askedNow_23 rfl ?_
      refine z_iconst dMod_askedNow_24 ?_
      refine z_icmp_ne (tgt := 53) dMod_askedNow_25 (by decide) (by omega) (by omega) (fun c25 => ?_) (fun c25 => ?_)
      · refine z_aload_n dMod_askedNow_53 rfl ?_
        refine z_get (k := 6) fd_Mod (by decide) fl_Mod_31 dMod_askedNow_54 (by assumption) (by rfl) ?_
        refine z_bipush dMod_askedNow_57 rfl ?_
        refine z_iald dMod_askedNow_59 (by assumption) (by refine ⟨?_, ?_, ?_⟩ <;> omega) ?_
        rw [show ((7 : Int)).toNat = 7 from rfl, k3 7 (by omega)]
        refine z_iret rfl rfl dMod_askedNow_60 ?_
        refine ⟨congrArg (fun z => some (zi z)) ?_, rfl⟩
        unfold zAkV
        (repeat (first | rw [if_pos (by omega)] | rw [if_neg (by omega)]))
        first
          | done
          | (unfold zLastOf; rw [if_pos (by omega)]; done)
          | (unfold zLastOf; rw [if_neg (by omega)]; done)
          | (rw [zAt_eq (by omega) (by omega)]; rfl)
      · refine z_aload_n dMod_askedNow_28 rfl ?_
        refine z_get (k := 8) fd_Mod (by decide) fl_Mod_184 dMod_askedNow_29 (by assumption) (by rfl) ?_
        refine z_if_ne (tgt := 39) dMod_askedNow_32 (by decide) (by omega) (fun c32 => ?_) (fun c32 => ?_)
        · refine z_aload_n dMod_askedNow_39 rfl ?_
          refine z_get (k := 7) fd_Mod (by decide) fl_Mod_34 dMod_askedNow_40 (by assumption) (by rfl) ?_
          refine z_aload_n dMod_askedNow_43 rfl ?_
          refine z_get (k := 8) fd_Mod (by decide) fl_Mod_184 dMod_askedNow_44 (by assumption) (by rfl) ?_
          refine z_iconst dMod_askedNow_47 ?_
          refine z_isub dMod_askedNow_48 ?_
          refine z_iald dMod_askedNow_49 (by assumption) (by refine ⟨?_, ?_, ?_⟩ <;> omega) ?_
          rw [show ((S.2.2.2.1.length : Int) - 1).toNat = S.2.2.2.1.length - 1 by omega, m5a _ (by omega)]
          refine z_goto (tgt := 60) dMod_askedNow_50 (by decide) ?_
          refine z_iret rfl rfl dMod_askedNow_60 ?_
          refine ⟨congrArg (fun z => some (zi z)) ?_, rfl⟩
          unfold zAkV
          (repeat (first | rw [if_pos (by omega)] | rw [if_neg (by omega)]))
          first
            | done
            | (unfold zLastOf; rw [if_pos (by omega)]; done)
            | (unfold zLastOf; rw [if_neg (by omega)]; done)
            | (rw [zAt_eq (by omega) (by omega)]; rfl)
        · refine z_iconst dMod_askedNow_35 ?_
          refine z_goto (tgt := 60) dMod_askedNow_36 (by decide) ?_
          refine z_iret rfl rfl dMod_askedNow_60 ?_
          refine ⟨congrArg (fun z => some (zi z)) ?_, rfl⟩
          unfold zAkV
          (repeat (first | rw [if_pos (by omega)] | rw [if_neg (by omega)]))
          first
            | done
            | (unfold zLastOf; rw [if_pos (by omega)]; done)
            | (unfold zLastOf; rw [if_neg (by omega)]; done)
            | (rw [zAt_eq (by omega) (by omega)]; rfl)
    · refine z_aload_n dMod_askedNow_16 rfl ?_
      refine z_get (k := 9) fd_Mod (by decide) fl_Mod_187 dMod_askedNow_17 (by assumption) (by rfl) ?_
      refine z_goto (tgt := 60) dMod_askedNow_20 (by decide) ?_
      refine z_iret rfl rfl dMod_askedNow_60 ?_
      refine ⟨congrArg (fun z => some (zi z)) ?_, rfl⟩
      unfold zAkV
      (repeat (first | rw [if_pos (by omega)] | rw [if_neg (by omega)]))
      first
        | done
        | (unfold zLastOf; rw [if_pos (by omega)]; done)
        | (unfold zLastOf; rw [if_neg (by omega)]; done)
        | (rw [zAt_eq (by omega) (by omega)]; rfl)
  · refine z_aload_n dMod_askedNow_4 rfl ?_
    refine z_get (k := 8) fd_Mod (by decide) fl_Mod_184 dMod_askedNow_5 (by assumption) (by rfl) ?_
    refine z_goto (tgt := 60) dMod_askedNow_8 (by decide) ?_
    refine z_iret rfl rfl dMod_askedNow_60 ?_
    refine ⟨congrArg (fun z => some (zi z)) ?_, rfl⟩
    unfold zAkV
    (repeat (first | rw [if_pos (by omega)] | rw [if_neg (by omega)]))
    first
      | done
      | (unfold zLastOf; rw [if_pos (by omega)]; done)
      | (unfold zLastOf; rw [if_neg (by omega)]; done)
      | (rw [zAt_eq (by omega) (by omega)]; rfl)
theorem k_Mod_asked {w : Int} (H : zMod G h ma S th) (z_w : zI32 w) (hO : zOk S) : zM G l hMod_asked yMod_asked 4 [.ref (ma 0), zi w] h (zQm G ma h (9) (1) (9) (sp_asked S w)) zNo 0 0 := by
  obtain ⟨m1, m2, ⟨g, m3, m3a⟩, m4, ⟨f6, m5, m5a⟩, m6, m7⟩ := id H
  unfold zMfs at m2
  refine zM.of [some (.ref (ma 0)), some (zi w)] (by decide +kernel) rfl (by decide) rfl (Nat.le_of_ble_eq_true rfl) rfl ?_
  refine z_aload_n dMod_asked_0 rfl ?_
  refine z_iload_n dMod_asked_1 rfl ?_
  refine z_iconst dMod_asked_2 ?_
  refine z_iconst dMod_asked_3 ?_
  refine z_callS MS_Mod_isOut lk_Mod_41 dMod_asked_4 (k_Mod_isOut (by omega) (by omega) (by omega)) rfl rfl (Nat.le_of_ble_eq_true rfl)  (Nat.le_of_ble_eq_true rfl) (Nat.le_of_ble_eq_true rfl) (Nat.le_of_eq (Nat.zero_add _)) (Nat.le_of_eq (Nat.zero_add _)) (fun _ _ q => q.elim) ?_
  rintro _ _ ⟨o9, rfl, ho9, rfl⟩
  refine z_iconst dMod_asked_7 ?_
  refine z_iconst dMod_asked_8 ?_
  refine z_callV MV_Mod_fails lk_Mod_88 dMod_asked_9 (k_Mod_fails (by assumption) rfl (by omega) (by omega) (by omega)) rfl rfl (Nat.le_of_ble_eq_true rfl) rfl (by assumption) (Nat.le_of_ble_eq_true rfl) (Nat.le_of_ble_eq_true rfl) (Nat.le_of_eq (Nat.zero_add _)) (Nat.le_of_eq (Nat.zero_add _)) (fun _ _ q => q.elim) ?_
  rintro _ h1 ⟨t9, b8, rfl, ht, p1, g1⟩
  have H1 : zMod G h1 ma S t9 := H.obj (nu := S.2.2.2.2) (th' := t9) p1 g1
  have fz1 : zMfr ma h h1 := zMfr.of0 g1
  obtain ⟨-, n2, ⟨gg, n3, n3a⟩, n4, ⟨f61, n5, n5a⟩, n6, n7⟩ := id H1
  unfold zMfs at n2
  refine z_if_eq (tgt := 19) dMod_asked_12 (by decide) (by omega) (fun c12 => ?_) (fun c12 => ?_)
  · refine z_aload_n dMod_asked_19 rfl ?_
    refine z_iload_n dMod_asked_20 rfl ?_
    refine z_callV MV_Mod_askedNow lk_Mod_190 dMod_asked_21 (k_Mod_askedNow H1 (by omega) hO) rfl rfl (Nat.le_of_ble_eq_true rfl) rfl (by assumption) (Nat.le_of_ble_eq_true rfl) (Nat.le_of_ble_eq_true rfl) (Nat.le_of_eq (Nat.zero_add _)) (Nat.le_of_eq (Nat.zero_add _)) (fun _ _ q => q.elim) ?_
    rintro _ _ ⟨rfl, rfl⟩
    refine z_iret rfl rfl dMod_asked_24 ?_
    rcases (show t9 = 0 ∨ t9 = 1 ∨ t9 = 2 ∨ t9 = 3 by omega) with t0 | t0 | t0 | t0
    all_goals first
      | (exfalso; omega)
      | (refine zQm.ok H1 (by omega) (by assumption) ?_
         unfold sp_asked zAkV
         rw [if_pos (by omega)]
         (repeat' split)
         all_goals first
           | rfl
           | (exfalso; omega))
      | exact zQm.ok H1 (by omega) (by assumption) (by unfold sp_asked; (try unfold spPut); (try simp only [Int.toNat_natCast]); (repeat (first | rw [if_pos (by omega)] | rw [if_neg (by omega)] | rw [if_pos (by assumption)] | rw [if_neg (by assumption)] | rw [if_pos (True.intro : True)])); (try (first | rfl | (congr 2; omega) | (congr 1; congr 1; omega))); done)
      | exact zQm.b1 H1 (by omega) (by assumption) (by unfold sp_asked; (try unfold spPut); (try simp only [Int.toNat_natCast]); (repeat (first | rw [if_pos (by omega)] | rw [if_neg (by omega)] | rw [if_pos (by assumption)] | rw [if_neg (by assumption)] | rw [if_pos (True.intro : True)])); (try (first | rfl | (congr 2; omega) | (congr 1; congr 1; omega))); done)
      | exact zQm.b2 H1 (by omega) (by assumption) (by unfold sp_asked; (try unfold spPut); (try simp only [Int.toNat_natCast]); (repeat (first | rw [if_pos (by omega)] | rw [if_neg (by omega)] | rw [if_pos (by assumption)] | rw [if_neg (by assumption)] | rw [if_pos (True.intro : True)])); (try (first | rfl | (congr 2; omega) | (congr 1; congr 1; omega))); done)
      | exact zQm.b3 H1 (by omega) (by assumption) (by unfold sp_asked; (try unfold spPut); (try simp only [Int.toNat_natCast]); (repeat (first | rw [if_pos (by omega)] | rw [if_neg (by omega)] | rw [if_pos (by assumption)] | rw [if_neg (by assumption)] | rw [if_pos (True.intro : True)])); (try (first | rfl | (congr 2; omega) | (congr 1; congr 1; omega))); done)
  · refine z_iconst dMod_asked_15 ?_
    refine z_goto (tgt := 24) dMod_asked_16 (by decide) ?_
    refine z_iret rfl rfl dMod_asked_24 ?_
    rcases (show t9 = 0 ∨ t9 = 1 ∨ t9 = 2 ∨ t9 = 3 by omega) with t0 | t0 | t0 | t0
    all_goals first
      | (exfalso; omega)
      | (refine zQm.ok H1 (by omega) (by assumption) ?_
         unfold sp_asked zAkV
         rw [if_pos (by omega)]
         (repeat' split)
         all_goals first
           | rfl
           | (exfalso; omega))
      | exact zQm.ok H1 (by omega) (by assumption) (by unfold sp_asked; (try unfold spPut); (try simp only [Int.toNat_natCast]); (repeat (first | rw [if_pos (by omega)] | rw [if_neg (by omega)] | rw [if_pos (by assumption)] | rw [if_neg (by assumption)] | rw [if_pos (True.intro : True)])); (try (first | rfl | (congr 2; omega) | (congr 1; congr 1; omega))); done)
      | exact zQm.b1 H1 (by omega) (by assumption) (by unfold sp_asked; (try unfold spPut); (try simp only [Int.toNat_natCast]); (repeat (first | rw [if_pos (by omega)] | rw [if_neg (by omega)] | rw [if_pos (by assumption)] | rw [if_neg (by assumption)] | rw [if_pos (True.intro : True)])); (try (first | rfl | (congr 2; omega) | (congr 1; congr 1; omega))); done)
      | exact zQm.b2 H1 (by omega) (by assumption) (by unfold sp_asked; (try unfold spPut); (try simp only [Int.toNat_natCast]); (repeat (first | rw [if_pos (by omega)] | rw [if_neg (by omega)] | rw [if_pos (by assumption)] | rw [if_neg (by assumption)] | rw [if_pos (True.intro : True)])); (try (first | rfl | (congr 2; omega) | (congr 1; congr 1; omega))); done)
      | exact zQm.b3 H1 (by omega) (by assumption) (by unfold sp_asked; (try unfold spPut); (try simp only [Int.toNat_natCast]); (repeat (first | rw [if_pos (by omega)] | rw [if_neg (by omega)] | rw [if_pos (by assumption)] | rw [if_neg (by assumption)] | rw [if_pos (True.intro : True)])); (try (first | rfl | (congr 2; omega) | (congr 1; congr 1; omega))); done)
theorem zSumN_in {g : Nat → Int} {b : Int} (hg : ∀ k, 0 ≤ g k ∧ g k ≤ b) (hb : 0 ≤ b) : ∀ n : Nat, 0 ≤ zSumN g n ∧ zSumN g n ≤ b * (n : Int)
  | 0 => by unfold zSumN; omega
  | n + 1 => by
    have := zSumN_in hg hb n
    have h2 := hg n
    unfold zSumN
    have e : b * ((n + 1 : Nat) : Int) = b * (n : Int) + b := by
      rw [show ((n + 1 : Nat) : Int) = (n : Int) + 1 from rfl, Int.mul_add, Int.mul_one]
    omega
theorem l_Mod_house1 {mc ms bc bs : Nat} {Qn : Option Value → zHp → Prop} {Qx : String → zHp → Prop} {w : Int} (H : zMod G h ma S th)
    (K : ∀ y7 y8, zR G l (zMJ G hMod_houseNow 1 Qn Qx mc ms) bc bs h 47 [some (.ref (ma 0)), some (zi w), some (zi (zSumN (fun k => ((S.1 k).length : Int)) 4)), some (zi 0), some (zi 0), some (.ref (ma 1)), some (zi (4 : Int)), y7, y8] []) :
    ∀ (n m : Nat) (y8 : Option Value), 4 - m < n → m ≤ 4 → zR G l (zMJ G hMod_houseNow 1 Qn Qx mc ms) bc bs h 21 [some (.ref (ma 0)), some (zi w), some (zi (zSumN (fun k => ((S.1 k).length : Int)) m)), some (zi 0), some (zi 0), some (.ref (ma 1)), some (zi (4 : Int)), some (zi (m : Int)), y8] [] := by
  intro n
  induction n with
  | zero => intro m y8 x1 x2; omega
  | succ n ih =>
  intro m y8 x1 x2
  obtain ⟨m1, m2, ⟨g, m3, m3a⟩, m4, ⟨f6, m5, m5a⟩, m6, m7⟩ := id H
  unfold zMfs at m2
  refine z_iload dMod_houseNow_21 rfl ?_
  refine z_iload dMod_houseNow_23 rfl ?_
  refine z_icmp_ge (tgt := 47) dMod_houseNow_25 (by decide) (by omega) (by omega) (fun c25 => ?_) (fun c25 => ?_)
  · have em : m = 4 := by omega
    subst em
    exact K _ _
  · refine z_aload dMod_houseNow_28 rfl ?_
    refine z_iload dMod_houseNow_30 rfl ?_
    refine z_aald (t := 4) (ty := .array .int) rfl rfl dMod_houseNow_32 m3 (by refine ⟨?_, ?_, ?_⟩ <;> omega) ?_
    rw [Int.toNat_natCast, m3a m (by omega)]
    obtain ⟨fr, r1, r2, r3, r4⟩ := id (m6 m (by omega))
    refine z_astore dMod_houseNow_33 (Nat.le_of_ble_eq_true rfl) ?_
    refine z_iload_n dMod_houseNow_35 rfl ?_
    refine z_aload dMod_houseNow_36 rfl ?_
    refine z_alenI dMod_houseNow_38 r1 ?_
    refine z_iadd dMod_houseNow_39 ?_
    refine z_istore_n dMod_houseNow_40 (Nat.le_of_ble_eq_true rfl) ?_
    refine z_iinc dMod_houseNow_41 rfl (Nat.le_of_ble_eq_true rfl) ?_
    refine z_goto (tgt := 21) dMod_houseNow_44 (by decide) ?_
    exact ih (m + 1) _ (by omega) (by omega)
theorem l_Mod_house2 {mc ms bc bs : Nat} {Qn : Option Value → zHp → Prop} {Qx : String → zHp → Prop} {w i9 : Int} {y6 y7 y8 : Option Value} (H : zMod G h ma S th)
    (K : ∀ y5, zR G l (zMJ G hMod_houseNow 1 Qn Qx mc ms) bc bs h 110 [some (.ref (ma 0)), some (zi w), some (zi i9), some (zi (zSumN (fun c => S.2.1 c 0) 3)), some (zi (zSumN (fun c => if S.2.1 c 0 = 1 ∧ S.2.1 c 1 ≠ 0 then 1 else 0) 3)), y5, y6, y7, y8] []) :
    ∀ (n m : Nat), 3 - m < n → m ≤ 3 → zR G l (zMJ G hMod_houseNow 1 Qn Qx mc ms) bc bs h 50 [some (.ref (ma 0)), some (zi w), some (zi i9), some (zi (zSumN (fun c => S.2.1 c 0) m)), some (zi (zSumN (fun c => if S.2.1 c 0 = 1 ∧ S.2.1 c 1 ≠ 0 then 1 else 0) m)), some (zi (m : Int)), y6, y7, y8] [] := by
  intro n
  induction n with
  | zero => intro m x1 x2; omega
  | succ n ih =>
  intro m x1 x2
  obtain ⟨m1, m2, ⟨g, m3, m3a⟩, m4, ⟨f6, m5, m5a⟩, m6, m7⟩ := id H
  unfold zMfs at m2
  obtain ⟨⟨v1, a1, b1⟩, ⟨v2, a2, b2⟩, ⟨v3, a3, b3⟩, ⟨v4, a4, b4⟩, ⟨v5, a5, b5⟩⟩ := id m4
  refine z_iload dMod_houseNow_50 rfl ?_
  refine z_iconst dMod_houseNow_52 ?_
  refine z_icmp_ge (tgt := 110) dMod_houseNow_53 (by decide) (by omega) (by omega) (fun c53 => ?_) (fun c53 => ?_)
  · have em : m = 3 := by omega
    subst em
    exact K _
  · have b1m := b1 m (by omega)
    have b2m := b2 m (by omega)
    refine z_iload_n dMod_houseNow_56 rfl ?_
    refine z_aload_n dMod_houseNow_57 rfl ?_
    refine z_get (k := 1) fd_Mod (by decide) fl_Mod_14 dMod_houseNow_58 (by assumption) (by rfl) ?_
    refine z_iload dMod_houseNow_61 rfl ?_
    refine z_zald dMod_houseNow_63 (by assumption) (by refine ⟨?_, ?_, ?_⟩ <;> omega) ?_
    rw [Int.toNat_natCast]
    rw [b1m.1]
    refine z_if_eq (tgt := 71) dMod_houseNow_64 (by decide) (by omega) (fun c64 => ?_) (fun c64 => ?_)
    · refine z_iconst dMod_houseNow_71 ?_
      refine z_iadd dMod_houseNow_72 ?_
      refine z_istore_n dMod_houseNow_73 (Nat.le_of_ble_eq_true rfl) ?_
      refine z_iload dMod_houseNow_74 rfl ?_
      refine z_aload_n dMod_houseNow_76 rfl ?_
      refine z_get (k := 1) fd_Mod (by decide) fl_Mod_14 dMod_houseNow_77 (by assumption) (by rfl) ?_
      refine z_iload dMod_houseNow_80 rfl ?_
      refine z_zald dMod_houseNow_82 (by assumption) (by refine ⟨?_, ?_, ?_⟩ <;> omega) ?_
      rw [Int.toNat_natCast]
      rw [b1m.1]
      refine z_if_eq (tgt := 100) dMod_houseNow_83 (by decide) (by omega) (fun c83 => ?_) (fun c83 => ?_)
      · refine z_iconst dMod_houseNow_100 ?_
        refine z_iadd dMod_houseNow_101 ?_
        refine z_istore dMod_houseNow_102 (Nat.le_of_ble_eq_true rfl) ?_
        refine z_iinc dMod_houseNow_104 rfl (Nat.le_of_ble_eq_true rfl) ?_
        refine z_goto (tgt := 50) dMod_houseNow_107 (by decide) ?_
        have ihE := ih (m + 1) (by omega) (by omega)
        have et : zSumN (fun c => S.2.1 c 0) (m + 1) = zSumN (fun c => S.2.1 c 0) m + S.2.1 m 0 := rfl
        have es : zSumN (fun c => if S.2.1 c 0 = 1 ∧ S.2.1 c 1 ≠ 0 then 1 else 0) (m + 1) = zSumN (fun c => if S.2.1 c 0 = 1 ∧ S.2.1 c 1 ≠ 0 then 1 else 0) m + (if S.2.1 m 0 = 1 ∧ S.2.1 m 1 ≠ 0 then 1 else 0) := rfl
        rw [et, es] at ihE
        first
          | (exfalso; omega)
          | (rw [if_pos (by omega), show S.2.1 m 0 = 1 by omega] at ihE; exact ihE)
          | (rw [if_neg (by omega), show S.2.1 m 0 = 1 by omega] at ihE; exact ihE)
          | (rw [if_neg (by omega), show S.2.1 m 0 = 0 by omega] at ihE; exact ihE)
      · refine z_aload_n dMod_houseNow_86 rfl ?_
        refine z_get (k := 2) fd_Mod (by decide) fl_Mod_18 dMod_houseNow_87 (by assumption) (by rfl) ?_
        refine z_iload dMod_houseNow_90 rfl ?_
        refine z_zald dMod_houseNow_92 (by assumption) (by refine ⟨?_, ?_, ?_⟩ <;> omega) ?_
        rw [Int.toNat_natCast]
        refine z_if_eq (tgt := 100) dMod_houseNow_93 (by decide) (by omega) (fun c93 => ?_) (fun c93 => ?_)
        · refine z_iconst dMod_houseNow_100 ?_
          refine z_iadd dMod_houseNow_101 ?_
          refine z_istore dMod_houseNow_102 (Nat.le_of_ble_eq_true rfl) ?_
          refine z_iinc dMod_houseNow_104 rfl (Nat.le_of_ble_eq_true rfl) ?_
          refine z_goto (tgt := 50) dMod_houseNow_107 (by decide) ?_
          have ihE := ih (m + 1) (by omega) (by omega)
          have et : zSumN (fun c => S.2.1 c 0) (m + 1) = zSumN (fun c => S.2.1 c 0) m + S.2.1 m 0 := rfl
          have es : zSumN (fun c => if S.2.1 c 0 = 1 ∧ S.2.1 c 1 ≠ 0 then 1 else 0) (m + 1) = zSumN (fun c => if S.2.1 c 0 = 1 ∧ S.2.1 c 1 ≠ 0 then 1 else 0) m + (if S.2.1 m 0 = 1 ∧ S.2.1 m 1 ≠ 0 then 1 else 0) := rfl
          rw [et, es] at ihE
          first
            | (exfalso; omega)
            | (rw [if_pos (by omega), show S.2.1 m 0 = 1 by omega] at ihE; exact ihE)
            | (rw [if_neg (by omega), show S.2.1 m 0 = 1 by omega] at ihE; exact ihE)
            | (rw [if_neg (by omega), show S.2.1 m 0 = 0 by omega] at ihE; exact ihE)
        · refine z_iconst dMod_houseNow_96 ?_
          refine z_goto (tgt := 101) dMod_houseNow_97 (by decide) ?_
          refine z_iadd dMod_houseNow_101 ?_
          refine z_istore dMod_houseNow_102 (Nat.le_of_ble_eq_true rfl) ?_
          refine z_iinc dMod_houseNow_104 rfl (Nat.le_of_ble_eq_true rfl) ?_
          refine z_goto (tgt := 50) dMod_houseNow_107 (by decide) ?_
          have ihE := ih (m + 1) (by omega) (by omega)
          have et : zSumN (fun c => S.2.1 c 0) (m + 1) = zSumN (fun c => S.2.1 c 0) m + S.2.1 m 0 := rfl
          have es : zSumN (fun c => if S.2.1 c 0 = 1 ∧ S.2.1 c 1 ≠ 0 then 1 else 0) (m + 1) = zSumN (fun c => if S.2.1 c 0 = 1 ∧ S.2.1 c 1 ≠ 0 then 1 else 0) m + (if S.2.1 m 0 = 1 ∧ S.2.1 m 1 ≠ 0 then 1 else 0) := rfl
          rw [et, es] at ihE
          first
            | (exfalso; omega)
            | (rw [if_pos (by omega), show S.2.1 m 0 = 1 by omega] at ihE; exact ihE)
            | (rw [if_neg (by omega), show S.2.1 m 0 = 1 by omega] at ihE; exact ihE)
            | (rw [if_neg (by omega), show S.2.1 m 0 = 0 by omega] at ihE; exact ihE)
    · refine z_iconst dMod_houseNow_67 ?_
      refine z_goto (tgt := 72) dMod_houseNow_68 (by decide) ?_
      refine z_iadd dMod_houseNow_72 ?_
      refine z_istore_n dMod_houseNow_73 (Nat.le_of_ble_eq_true rfl) ?_
      refine z_iload dMod_houseNow_74 rfl ?_
      refine z_aload_n dMod_houseNow_76 rfl ?_
      refine z_get (k := 1) fd_Mod (by decide) fl_Mod_14 dMod_houseNow_77 (by assumption) (by rfl) ?_
      refine z_iload dMod_houseNow_80 rfl ?_
      refine z_zald dMod_houseNow_82 (by assumption) (by refine ⟨?_, ?_, ?_⟩ <;> omega) ?_
      rw [Int.toNat_natCast]
      rw [b1m.1]
      refine z_if_eq (tgt := 100) dMod_houseNow_83 (by decide) (by omega) (fun c83 => ?_) (fun c83 => ?_)
      · refine z_iconst dMod_houseNow_100 ?_
        refine z_iadd dMod_houseNow_101 ?_
        refine z_istore dMod_houseNow_102 (Nat.le_of_ble_eq_true rfl) ?_
        refine z_iinc dMod_houseNow_104 rfl (Nat.le_of_ble_eq_true rfl) ?_
        refine z_goto (tgt := 50) dMod_houseNow_107 (by decide) ?_
        have ihE := ih (m + 1) (by omega) (by omega)
        have et : zSumN (fun c => S.2.1 c 0) (m + 1) = zSumN (fun c => S.2.1 c 0) m + S.2.1 m 0 := rfl
        have es : zSumN (fun c => if S.2.1 c 0 = 1 ∧ S.2.1 c 1 ≠ 0 then 1 else 0) (m + 1) = zSumN (fun c => if S.2.1 c 0 = 1 ∧ S.2.1 c 1 ≠ 0 then 1 else 0) m + (if S.2.1 m 0 = 1 ∧ S.2.1 m 1 ≠ 0 then 1 else 0) := rfl
        rw [et, es] at ihE
        first
          | (exfalso; omega)
          | (rw [if_pos (by omega), show S.2.1 m 0 = 1 by omega] at ihE; exact ihE)
          | (rw [if_neg (by omega), show S.2.1 m 0 = 1 by omega] at ihE; exact ihE)
          | (rw [if_neg (by omega), show S.2.1 m 0 = 0 by omega] at ihE; exact ihE)
      · refine z_aload_n dMod_houseNow_86 rfl ?_
        refine z_get (k := 2) fd_Mod (by decide) fl_Mod_18 dMod_houseNow_87 (by assumption) (by rfl) ?_
        refine z_iload dMod_houseNow_90 rfl ?_
        refine z_zald dMod_houseNow_92 (by assumption) (by refine ⟨?_, ?_, ?_⟩ <;> omega) ?_
        rw [Int.toNat_natCast]
        refine z_if_eq (tgt := 100) dMod_houseNow_93 (by decide) (by omega) (fun c93 => ?_) (fun c93 => ?_)
        · refine z_iconst dMod_houseNow_100 ?_
          refine z_iadd dMod_houseNow_101 ?_
          refine z_istore dMod_houseNow_102 (Nat.le_of_ble_eq_true rfl) ?_
          refine z_iinc dMod_houseNow_104 rfl (Nat.le_of_ble_eq_true rfl) ?_
          refine z_goto (tgt := 50) dMod_houseNow_107 (by decide) ?_
          have ihE := ih (m + 1) (by omega) (by omega)
          have et : zSumN (fun c => S.2.1 c 0) (m + 1) = zSumN (fun c => S.2.1 c 0) m + S.2.1 m 0 := rfl
          have es : zSumN (fun c => if S.2.1 c 0 = 1 ∧ S.2.1 c 1 ≠ 0 then 1 else 0) (m + 1) = zSumN (fun c => if S.2.1 c 0 = 1 ∧ S.2.1 c 1 ≠ 0 then 1 else 0) m + (if S.2.1 m 0 = 1 ∧ S.2.1 m 1 ≠ 0 then 1 else 0) := rfl
          rw [et, es] at ihE
          first
            | (exfalso; omega)
            | (rw [if_pos (by omega), show S.2.1 m 0 = 1 by omega] at ihE; exact ihE)
            | (rw [if_neg (by omega), show S.2.1 m 0 = 1 by omega] at ihE; exact ihE)
            | (rw [if_neg (by omega), show S.2.1 m 0 = 0 by omega] at ihE; exact ihE)
        · refine z_iconst dMod_houseNow_96 ?_
          refine z_goto (tgt := 101) dMod_houseNow_97 (by decide) ?_
          refine z_iadd dMod_houseNow_101 ?_
          refine z_istore dMod_houseNow_102 (Nat.le_of_ble_eq_true rfl) ?_
          refine z_iinc dMod_houseNow_104 rfl (Nat.le_of_ble_eq_true rfl) ?_
          refine z_goto (tgt := 50) dMod_houseNow_107 (by decide) ?_
          have ihE := ih (m + 1) (by omega) (by omega)
          have et : zSumN (fun c => S.2.1 c 0) (m + 1) = zSumN (fun c => S.2.1 c 0) m + S.2.1 m 0 := rfl
          have es : zSumN (fun c => if S.2.1 c 0 = 1 ∧ S.2.1 c 1 ≠ 0 then 1 else 0) (m + 1) = zSumN (fun c => if S.2.1 c 0 = 1 ∧ S.2.1 c 1 ≠ 0 then 1 else 0) m + (if S.2.1 m 0 = 1 ∧ S.2.1 m 1 ≠ 0 then 1 else 0) := rfl
          rw [et, es] at ihE
          first
            | (exfalso; omega)
            | (rw [if_pos (by omega), show S.2.1 m 0 = 1 by omega] at ihE; exact ihE)
            | (rw [if_neg (by omega), show S.2.1 m 0 = 1 by omega] at ihE; exact ihE)
            | (rw [if_neg (by omega), show S.2.1 m 0 = 0 by omega] at ihE; exact ihE)
theorem k_Mod_houseNow {w : Int} (H : zMod G h ma S th) (hw : 0 ≤ w ∧ w ≤ 4) : zM G l hMod_houseNow yMod_houseNow 1 [.ref (ma 0), zi w] h (fun v h' => v = some (zi (zHv S w)) ∧ zExt h h') zNo 1 5 := by
  obtain ⟨m1, m2, ⟨g, m3, m3a⟩, m4, ⟨f6, m5, m5a⟩, m6, m7⟩ := id H
  unfold zMfs at m2
  refine zM.of [some (.ref (ma 0)), some (zi w), none, none, none, none, none, none, none] (by decide +kernel) rfl (by decide) rfl (Nat.le_of_ble_eq_true rfl) rfl ?_
  refine z_iconst dMod_houseNow_0 ?_
  refine z_istore_n dMod_houseNow_1 (Nat.le_of_ble_eq_true rfl) ?_
  refine z_iconst dMod_houseNow_2 ?_
  refine z_istore_n dMod_houseNow_3 (Nat.le_of_ble_eq_true rfl) ?_
  refine z_iconst dMod_houseNow_4 ?_
  refine z_istore dMod_houseNow_5 (Nat.le_of_ble_eq_true rfl) ?_
  refine z_aload_n dMod_houseNow_7 rfl ?_
  refine z_get (k := 0) fd_Mod (by decide) fl_Mod_11 dMod_houseNow_8 (by assumption) (by rfl) ?_
  refine z_astore dMod_houseNow_11 (Nat.le_of_ble_eq_true rfl) ?_
  refine z_aload dMod_houseNow_13 rfl ?_
  refine z_alenR dMod_houseNow_15 m3 ?_
  refine z_istore dMod_houseNow_16 (Nat.le_of_ble_eq_true rfl) ?_
  refine z_iconst dMod_houseNow_18 ?_
  refine z_istore dMod_houseNow_19 (Nat.le_of_ble_eq_true rfl) ?_
  refine l_Mod_house1 H (fun y7 y8 => ?_) 5 0 _ (by omega) (by omega)
  refine z_iconst dMod_houseNow_47 ?_
  refine z_istore dMod_houseNow_48 (Nat.le_of_ble_eq_true rfl) ?_
  refine l_Mod_house2 H (fun y5 => ?_) 4 0 (by omega) (by omega)
  refine z_iconst dMod_houseNow_110 ?_
  refine z_newI (n := 5) (bc' := 0) (bs' := 0) rfl dMod_houseNow_111 (by decide) (by decide) (by decide) (fun qa h1 hqa gqa p1 F1 => ?_)
  have n0 : ma 0 ≠ qa := (H.nq hqa (i := 0) (by omega)).symm
  have m2 := (F1 _ n0).trans m2
  refine z_dup rfl dMod_houseNow_113 ?_
  refine z_iconst dMod_houseNow_114 ?_
  refine z_iload_n dMod_houseNow_115 rfl ?_
  refine z_iast dMod_houseNow_116 (by assumption) (by refine ⟨?_, ?_, ?_⟩ <;> omega) ?_
  refine z_hx (fun h2 p2 g2 => ?_)
  have F2 : ∀ z, z ≠ qa → h2 z = h z := fun z hz => (g2 z hz).trans (F1 z hz)
  have m2 := (g2 _ n0).trans m2
  refine z_dup rfl dMod_houseNow_117 ?_
  refine z_iconst dMod_houseNow_118 ?_
  refine z_iload_n dMod_houseNow_119 rfl ?_
  refine z_iast dMod_houseNow_120 (by assumption) (by refine ⟨?_, ?_, ?_⟩ <;> omega) ?_
  refine z_hx (fun h3 p3 g3 => ?_)
  have F3 : ∀ z, z ≠ qa → h3 z = h z := fun z hz => (g3 z hz).trans (F2 z hz)
  have m2 := (g3 _ n0).trans m2
  refine z_dup rfl dMod_houseNow_121 ?_
  refine z_iconst dMod_houseNow_122 ?_
  refine z_iload dMod_houseNow_123 rfl ?_
  refine z_iast dMod_houseNow_125 (by assumption) (by refine ⟨?_, ?_, ?_⟩ <;> omega) ?_
  refine z_hx (fun h4 p4 g4 => ?_)
  have F4 : ∀ z, z ≠ qa → h4 z = h z := fun z hz => (g4 z hz).trans (F3 z hz)
  have m2 := (g4 _ n0).trans m2
  refine z_dup rfl dMod_houseNow_126 ?_
  refine z_iconst dMod_houseNow_127 ?_
  refine z_aload_n dMod_houseNow_128 rfl ?_
  refine z_get (k := 10) fd_Mod (by decide) fl_Mod_45 dMod_houseNow_129 (by assumption) (by rfl) ?_
  refine z_iast dMod_houseNow_132 (by assumption) (by refine ⟨?_, ?_, ?_⟩ <;> omega) ?_
  refine z_hx (fun h5 p5 g5 => ?_)
  have F5 : ∀ z, z ≠ qa → h5 z = h z := fun z hz => (g5 z hz).trans (F4 z hz)
  have m2 := (g5 _ n0).trans m2
  refine z_dup rfl dMod_houseNow_133 ?_
  refine z_iconst dMod_houseNow_134 ?_
  refine z_aload_n dMod_houseNow_135 rfl ?_
  refine z_get (k := 11) fd_Mod (by decide) fl_Mod_200 dMod_houseNow_136 (by assumption) (by rfl) ?_
  refine z_iast dMod_houseNow_139 (by assumption) (by refine ⟨?_, ?_, ?_⟩ <;> omega) ?_
  refine z_hx (fun h6 p6 g6 => ?_)
  have F6 : ∀ z, z ≠ qa → h6 z = h z := fun z hz => (g6 z hz).trans (F5 z hz)
  have m2 := (g6 _ n0).trans m2
  refine z_astore dMod_houseNow_140 (Nat.le_of_ble_eq_true rfl) ?_
  refine z_aload dMod_houseNow_142 rfl ?_
  refine z_iload_n dMod_houseNow_144 rfl ?_
  refine z_iald dMod_houseNow_145 (by assumption) (by refine ⟨?_, ?_, ?_⟩ <;> omega) ?_
  refine z_iret rfl rfl dMod_houseNow_146 ?_
  refine ⟨congrArg (fun z => some (zi z)) ?_, zExt.new hqa F6⟩
  unfold zHv
  rcases (show w = 0 ∨ w = 1 ∨ w = 2 ∨ w = 3 ∨ w = 4 by omega) with rfl | rfl | rfl | rfl | rfl
  all_goals ((repeat (first | rw [if_pos (by omega)] | rw [if_neg (by omega)])); rfl)
theorem k_Mod_house {w : Int} (H : zMod G h ma S th) (z_w : zI32 w)  : zM G l hMod_house yMod_house 4 [.ref (ma 0), zi w] h (zQm G ma h (9) (1) (9) (sp_house S w)) zNo 1 5 := by
  obtain ⟨m1, m2, ⟨g, m3, m3a⟩, m4, ⟨f6, m5, m5a⟩, m6, m7⟩ := id H
  unfold zMfs at m2
  refine zM.of [some (.ref (ma 0)), some (zi w)] (by decide +kernel) rfl (by decide) rfl (Nat.le_of_ble_eq_true rfl) rfl ?_
  refine z_aload_n dMod_house_0 rfl ?_
  refine z_iload_n dMod_house_1 rfl ?_
  refine z_iconst dMod_house_2 ?_
  refine z_iconst dMod_house_3 ?_
  refine z_callS MS_Mod_isOut lk_Mod_41 dMod_house_4 (k_Mod_isOut (by omega) (by omega) (by omega)) rfl rfl (Nat.le_of_ble_eq_true rfl)  (Nat.le_of_ble_eq_true rfl) (Nat.le_of_ble_eq_true rfl) (Nat.le_of_eq (Nat.zero_add _)) (Nat.le_of_eq (Nat.zero_add _)) (fun _ _ q => q.elim) ?_
  rintro _ _ ⟨o9, rfl, ho9, rfl⟩
  refine z_iconst dMod_house_7 ?_
  refine z_iconst dMod_house_8 ?_
  refine z_callV MV_Mod_fails lk_Mod_88 dMod_house_9 (k_Mod_fails (by assumption) rfl (by omega) (by omega) (by omega)) rfl rfl (Nat.le_of_ble_eq_true rfl) rfl (by assumption) (Nat.le_of_ble_eq_true rfl) (Nat.le_of_ble_eq_true rfl) (Nat.le_of_eq (Nat.zero_add _)) (Nat.le_of_eq (Nat.zero_add _)) (fun _ _ q => q.elim) ?_
  rintro _ h1 ⟨t9, b8, rfl, ht, p1, g1⟩
  have H1 : zMod G h1 ma S t9 := H.obj (nu := S.2.2.2.2) (th' := t9) p1 g1
  have fz1 : zMfr ma h h1 := zMfr.of0 g1
  obtain ⟨-, n2, ⟨gg, n3, n3a⟩, n4, ⟨f61, n5, n5a⟩, n6, n7⟩ := id H1
  unfold zMfs at n2
  refine z_if_eq (tgt := 19) dMod_house_12 (by decide) (by omega) (fun c12 => ?_) (fun c12 => ?_)
  · refine z_aload_n dMod_house_19 rfl ?_
    refine z_iload_n dMod_house_20 rfl ?_
    refine z_callV (bc' := 0) (bs' := 0) MV_Mod_houseNow lk_Mod_203 dMod_house_21 (k_Mod_houseNow H1 (by omega)) rfl rfl (Nat.le_of_ble_eq_true rfl) rfl (by assumption) (Nat.le_of_ble_eq_true rfl) (Nat.le_of_ble_eq_true rfl) (by decide) (by decide) (fun _ _ q => q.elim) ?_
    rintro _ h2 ⟨rfl, hx2⟩
    have H2 : zMod G h2 ma S t9 := H1.ext hx2
    have fz2 : zMfr ma h h2 := fz1.tr (zMfr.ext hx2)
    refine z_iret rfl rfl dMod_house_24 ?_
    rcases (show t9 = 0 ∨ t9 = 1 ∨ t9 = 2 ∨ t9 = 3 by omega) with t0 | t0 | t0 | t0
    all_goals first
      | (exfalso; omega)
      | (refine zQm.ok H2 (by omega) (by assumption) ?_
         unfold sp_house zHv
         rw [if_pos (by omega)]
         (repeat' split)
         all_goals first
           | rfl
           | (exfalso; omega))
      | exact zQm.ok H1 (by omega) (by assumption) (by unfold sp_house; (try unfold spPut); (try simp only [Int.toNat_natCast]); (repeat (first | rw [if_pos (by omega)] | rw [if_neg (by omega)] | rw [if_pos (by assumption)] | rw [if_neg (by assumption)] | rw [if_pos (True.intro : True)])); (try (first | rfl | (congr 2; omega) | (congr 1; congr 1; omega))); done)
      | exact zQm.b1 H1 (by omega) (by assumption) (by unfold sp_house; (try unfold spPut); (try simp only [Int.toNat_natCast]); (repeat (first | rw [if_pos (by omega)] | rw [if_neg (by omega)] | rw [if_pos (by assumption)] | rw [if_neg (by assumption)] | rw [if_pos (True.intro : True)])); (try (first | rfl | (congr 2; omega) | (congr 1; congr 1; omega))); done)
      | exact zQm.b2 H1 (by omega) (by assumption) (by unfold sp_house; (try unfold spPut); (try simp only [Int.toNat_natCast]); (repeat (first | rw [if_pos (by omega)] | rw [if_neg (by omega)] | rw [if_pos (by assumption)] | rw [if_neg (by assumption)] | rw [if_pos (True.intro : True)])); (try (first | rfl | (congr 2; omega) | (congr 1; congr 1; omega))); done)
      | exact zQm.b3 H1 (by omega) (by assumption) (by unfold sp_house; (try unfold spPut); (try simp only [Int.toNat_natCast]); (repeat (first | rw [if_pos (by omega)] | rw [if_neg (by omega)] | rw [if_pos (by assumption)] | rw [if_neg (by assumption)] | rw [if_pos (True.intro : True)])); (try (first | rfl | (congr 2; omega) | (congr 1; congr 1; omega))); done)
  · refine z_iconst dMod_house_15 ?_
    refine z_goto (tgt := 24) dMod_house_16 (by decide) ?_
    refine z_iret rfl rfl dMod_house_24 ?_
    rcases (show t9 = 0 ∨ t9 = 1 ∨ t9 = 2 ∨ t9 = 3 by omega) with t0 | t0 | t0 | t0
    all_goals first
      | (exfalso; omega)
      | (refine zQm.ok H2 (by omega) (by assumption) ?_
         unfold sp_house zHv
         rw [if_pos (by omega)]
         (repeat' split)
         all_goals first
           | rfl
           | (exfalso; omega))
      | exact zQm.ok H1 (by omega) (by assumption) (by unfold sp_house; (try unfold spPut); (try simp only [Int.toNat_natCast]); (repeat (first | rw [if_pos (by omega)] | rw [if_neg (by omega)] | rw [if_pos (by assumption)] | rw [if_neg (by assumption)] | rw [if_pos (True.intro : True)])); (try (first | rfl | (congr 2; omega) | (congr 1; congr 1; omega))); done)
      | exact zQm.b1 H1 (by omega) (by assumption) (by unfold sp_house; (try unfold spPut); (try simp only [Int.toNat_natCast]); (repeat (first | rw [if_pos (by omega)] | rw [if_neg (by omega)] | rw [if_pos (by assumption)] | rw [if_neg (by assumption)] | rw [if_pos (True.intro : True)])); (try (first | rfl | (congr 2; omega) | (congr 1; congr 1; omega))); done)
      | exact zQm.b2 H1 (by omega) (by assumption) (by unfold sp_house; (try unfold spPut); (try simp only [Int.toNat_natCast]); (repeat (first | rw [if_pos (by omega)] | rw [if_neg (by omega)] | rw [if_pos (by assumption)] | rw [if_neg (by assumption)] | rw [if_pos (True.intro : True)])); (try (first | rfl | (congr 2; omega) | (congr 1; congr 1; omega))); done)
      | exact zQm.b3 H1 (by omega) (by assumption) (by unfold sp_house; (try unfold spPut); (try simp only [Int.toNat_natCast]); (repeat (first | rw [if_pos (by omega)] | rw [if_neg (by omega)] | rw [if_pos (by assumption)] | rw [if_neg (by assumption)] | rw [if_pos (True.intro : True)])); (try (first | rfl | (congr 2; omega) | (congr 1; congr 1; omega))); done)
end MOD21
end
section
section MOD22
variable {G : zG} {l : Launch} {h h' h'' : zHp} {ma : Nat → Nat} {S : zSt} {th : Int}
def zBc (L A : List Int) : Nat → Int
  | 0 => 0
  | n + 1 => zBc L A n + (1 + zFind L (A.getD n 0) 0)
def zB1 (L : List Int) (b : Nat) : Nat → Int
  | 0 => 0
  | a + 1 => zB1 L b a + (if zFind L b 0 < zFind L a 0 then 1 else 0)
def zB2 (L : List Int) : Nat → Int
  | 0 => 0
  | b + 1 => zB2 L b + zB1 L b b
def zBo (S : zSt) (L : List Int) (w : Int) : Int := if w = 0 then zBc L S.2.2.2.1 S.2.2.2.1.length else if w = 1 then zB2 L 8 else 2 * zBc L S.2.2.2.1 S.2.2.2.1.length - (S.2.2.2.1.length : Int) + zB2 L 8
/-- what the model's byOrder says -/
def spm_byOrder (S : zSt) (p w : Int) : zRes := if 0 ≤ p ∧ p < 4 then (if 0 ≤ w ∧ w ≤ 2 then (if ((S.1 p.toNat).length = 8 ∧ ∀ k : Nat, k < 8 → zFind (S.1 p.toNat) k 0 ≠ -1) then (.inl (zBo S (S.1 p.toNat) w), S) else spRef S) else (.inr zE2, S)) else (.inr zE1, S)
theorem spm_state (S : zSt) (p w : Int) : (spm_byOrder S p w).2 = (sp_byOrder S p w).2 := by
  unfold spm_byOrder sp_byOrder
  (repeat' split) <;> rfl
theorem l_Mod_byOrder1 {mc ms bc bs : Nat} {Qn : Option Value → zHp → Prop} {Qx : String → zHp → Prop} {a : Nat} {L : List Int} {w : Int} {y5 y6 : Option Value} (H : zMod G h ma S th) (hr : zAr G h a L) (hA : S.2.2.2.1.length ≤ 60) (hI : ∀ j, j < S.2.2.2.1.length → zI32 (S.2.2.2.1.getD j 0))
    (K : ∀ y4, zR G l (zMJ G hMod_byOrderNow 2 Qn Qx mc ms) bc bs h 37 [some (.ref (ma 0)), some (.ref a), some (zi w), some (zi (zBc L S.2.2.2.1 S.2.2.2.1.length)), y4, y5, y6] []) :
    ∀ (n m : Nat), 60 - m < n → m ≤ S.2.2.2.1.length → zR G l (zMJ G hMod_byOrderNow 2 Qn Qx mc ms) bc bs h 5 [some (.ref (ma 0)), some (.ref a), some (zi w), some (zi (zBc L S.2.2.2.1 m)), some (zi (m : Int)), y5, y6] [] := by
  intro n
  induction n with
  | zero => intro m x1 x2; omega
  | succ n ih =>
  intro m x1 x2
  obtain ⟨m1, m2, ⟨g, m3, m3a⟩, m4, ⟨f6, m5, m5a⟩, m6, m7⟩ := id H
  unfold zMfs at m2
  refine z_iload dMod_byOrderNow_5 rfl ?_
  refine z_aload_n dMod_byOrderNow_7 rfl ?_
  refine z_get (k := 8) fd_Mod (by decide) fl_Mod_184 dMod_byOrderNow_8 (by assumption) (by rfl) ?_
  refine z_icmp_ge (tgt := 37) dMod_byOrderNow_11 (by decide) (by omega) (by omega) (fun c11 => ?_) (fun c11 => ?_)
  · have em : m = S.2.2.2.1.length := by omega
    subst em
    exact K _
  · refine z_iload_n dMod_byOrderNow_14 rfl ?_
    refine z_iconst dMod_byOrderNow_15 ?_
    refine z_aload_n dMod_byOrderNow_16 rfl ?_
    refine z_aload_n dMod_byOrderNow_17 rfl ?_
    refine z_get (k := 7) fd_Mod (by decide) fl_Mod_34 dMod_byOrderNow_18 (by assumption) (by rfl) ?_
    refine z_iload dMod_byOrderNow_21 rfl ?_
    refine z_iald dMod_byOrderNow_23 (by assumption) (by refine ⟨?_, ?_, ?_⟩ <;> omega) ?_
    rw [Int.toNat_natCast, m5a m (by omega)]
    refine z_iconst dMod_byOrderNow_24 ?_
    refine z_callS MS_Mod_find lk_Mod_110 dMod_byOrderNow_25 (k_Mod_find hr (by exact hI m (by omega)) (by omega)) rfl rfl (Nat.le_of_ble_eq_true rfl)  (Nat.le_of_ble_eq_true rfl) (Nat.le_of_ble_eq_true rfl) (Nat.le_of_eq (Nat.zero_add _)) (Nat.le_of_eq (Nat.zero_add _)) (fun _ _ q => q.elim) ?_
    rintro _ _ ⟨rfl, rfl⟩
    refine z_iadd dMod_byOrderNow_28 ?_
    refine z_iadd dMod_byOrderNow_29 ?_
    refine z_istore_n dMod_byOrderNow_30 (Nat.le_of_ble_eq_true rfl) ?_
    refine z_iinc dMod_byOrderNow_31 rfl (Nat.le_of_ble_eq_true rfl) ?_
    refine z_goto (tgt := 5) dMod_byOrderNow_34 (by decide) ?_
    exact ih (m + 1) (by omega) (by omega)
theorem l_Mod_byOrder3 {mc ms bc bs : Nat} {Qn : Option Value → zHp → Prop} {Qx : String → zHp → Prop} {a : Nat} {L : List Int} {w : Int} {cs : Int} {b : Nat} (H : zMod G h ma S th) (hr : zAr G h a L) (hb : b < 8)
    (K : ∀ y6, zR G l (zMJ G hMod_byOrderNow 2 Qn Qx mc ms) bc bs h 93 [some (.ref (ma 0)), some (.ref a), some (zi w), some (zi cs), some (zi (zB2 L b + zB1 L b b)), some (zi (b : Int)), y6] []) :
    ∀ (n m : Nat), b - m < n → m ≤ b → zR G l (zMJ G hMod_byOrderNow 2 Qn Qx mc ms) bc bs h 53 [some (.ref (ma 0)), some (.ref a), some (zi w), some (zi cs), some (zi (zB2 L b + zB1 L b m)), some (zi (b : Int)), some (zi (m : Int))] [] := by
  intro n
  induction n with
  | zero => intro m x1 x2; omega
  | succ n ih =>
  intro m x1 x2
  have hf1 := zFind_in L b 0
  have hf2 := zFind_in L m 0
  obtain ⟨f, d1, d2, d3, d4⟩ := id hr
  refine z_iload dMod_byOrderNow_53 rfl ?_
  refine z_iload dMod_byOrderNow_55 rfl ?_
  refine z_icmp_ge (tgt := 93) dMod_byOrderNow_57 (by decide) (by omega) (by omega) (fun c57 => ?_) (fun c57 => ?_)
  · have em : m = b := by omega
    subst em
    exact K _
  · refine z_iload dMod_byOrderNow_60 rfl ?_
    refine z_aload_n dMod_byOrderNow_62 rfl ?_
    refine z_iload dMod_byOrderNow_63 rfl ?_
    refine z_iconst dMod_byOrderNow_65 ?_
    refine z_callS MS_Mod_find lk_Mod_110 dMod_byOrderNow_66 (k_Mod_find hr (by omega) (by omega)) rfl rfl (Nat.le_of_ble_eq_true rfl)  (Nat.le_of_ble_eq_true rfl) (Nat.le_of_ble_eq_true rfl) (Nat.le_of_eq (Nat.zero_add _)) (Nat.le_of_eq (Nat.zero_add _)) (fun _ _ q => q.elim) ?_
    rintro _ _ ⟨rfl, rfl⟩
    refine z_aload_n dMod_byOrderNow_69 rfl ?_
    refine z_iload dMod_byOrderNow_70 rfl ?_
    refine z_iconst dMod_byOrderNow_72 ?_
    refine z_callS MS_Mod_find lk_Mod_110 dMod_byOrderNow_73 (k_Mod_find hr (by omega) (by omega)) rfl rfl (Nat.le_of_ble_eq_true rfl)  (Nat.le_of_ble_eq_true rfl) (Nat.le_of_ble_eq_true rfl) (Nat.le_of_eq (Nat.zero_add _)) (Nat.le_of_eq (Nat.zero_add _)) (fun _ _ q => q.elim) ?_
    rintro _ _ ⟨rfl, rfl⟩
    refine z_icmp_ge (tgt := 83) dMod_byOrderNow_76 (by decide) (by omega) (by omega) (fun c76 => ?_) (fun c76 => ?_)
    · refine z_iconst dMod_byOrderNow_83 ?_
      refine z_iadd dMod_byOrderNow_84 ?_
      refine z_istore dMod_byOrderNow_85 (Nat.le_of_ble_eq_true rfl) ?_
      refine z_iinc dMod_byOrderNow_87 rfl (Nat.le_of_ble_eq_true rfl) ?_
      refine z_goto (tgt := 53) dMod_byOrderNow_90 (by decide) ?_
      have ihE := ih (m + 1) (by omega) (by omega)
      rw [show zB1 L b (m + 1) = zB1 L b m + (if zFind L b 0 < zFind L m 0 then 1 else 0) from rfl] at ihE
      first
        | (rw [if_pos (by omega), ← Int.add_assoc] at ihE; exact ihE)
        | (rw [if_neg (by omega), ← Int.add_assoc] at ihE; exact ihE)
    · refine z_iconst dMod_byOrderNow_79 ?_
      refine z_goto (tgt := 84) dMod_byOrderNow_80 (by decide) ?_
      refine z_iadd dMod_byOrderNow_84 ?_
      refine z_istore dMod_byOrderNow_85 (Nat.le_of_ble_eq_true rfl) ?_
      refine z_iinc dMod_byOrderNow_87 rfl (Nat.le_of_ble_eq_true rfl) ?_
      refine z_goto (tgt := 53) dMod_byOrderNow_90 (by decide) ?_
      have ihE := ih (m + 1) (by omega) (by omega)
      rw [show zB1 L b (m + 1) = zB1 L b m + (if zFind L b 0 < zFind L m 0 then 1 else 0) from rfl] at ihE
      first
        | (rw [if_pos (by omega), ← Int.add_assoc] at ihE; exact ihE)
        | (rw [if_neg (by omega), ← Int.add_assoc] at ihE; exact ihE)
theorem l_Mod_byOrder2 {mc ms bc bs : Nat} {Qn : Option Value → zHp → Prop} {Qx : String → zHp → Prop} {a : Nat} {L : List Int} {w : Int} {cs : Int} (H : zMod G h ma S th) (hr : zAr G h a L)
    (K : ∀ y5 y6, zR G l (zMJ G hMod_byOrderNow 2 Qn Qx mc ms) bc bs h 99 [some (.ref (ma 0)), some (.ref a), some (zi w), some (zi cs), some (zi (zB2 L 8)), y5, y6] []) :
    ∀ (n m : Nat) (y6 : Option Value), 8 - m < n → m ≤ 8 → zR G l (zMJ G hMod_byOrderNow 2 Qn Qx mc ms) bc bs h 43 [some (.ref (ma 0)), some (.ref a), some (zi w), some (zi cs), some (zi (zB2 L m)), some (zi (m : Int)), y6] [] := by
  intro n
  induction n with
  | zero => intro m y6 x1 x2; omega
  | succ n ih =>
  intro m y6 x1 x2
  refine z_iload dMod_byOrderNow_43 rfl ?_
  refine z_bipush dMod_byOrderNow_45 rfl ?_
  refine z_icmp_ge (tgt := 99) dMod_byOrderNow_47 (by decide) (by omega) (by omega) (fun c47 => ?_) (fun c47 => ?_)
  · have em : m = 8 := by omega
    subst em
    exact K _ _
  · refine z_iconst dMod_byOrderNow_50 ?_
    refine z_istore dMod_byOrderNow_51 (Nat.le_of_ble_eq_true rfl) ?_
    have e0 : zB2 L m = zB2 L m + zB1 L m 0 := by show _ = _ + 0; omega
    rw [e0]
    refine l_Mod_byOrder3 H hr (by omega) (fun y6 => ?_) (m + 1) 0 (by omega) (by omega)
    refine z_iinc dMod_byOrderNow_93 rfl (Nat.le_of_ble_eq_true rfl) ?_
    refine z_goto (tgt := 43) dMod_byOrderNow_96 (by decide) ?_
    exact ih (m + 1) _ (by omega) (by omega)
theorem k_Mod_byOrderNow {a : Nat} {L : List Int} {w : Int} (H : zMod G h ma S th) (hr : zAr G h a L) (hw : 0 ≤ w ∧ w ≤ 2) (hA : S.2.2.2.1.length ≤ 60) (hI : ∀ j, j < S.2.2.2.1.length → zI32 (S.2.2.2.1.getD j 0)) : zM G l hMod_byOrderNow yMod_byOrderNow 2 [.ref (ma 0), .ref a, zi w] h (fun v h' => v = some (zi (zBo S L w)) ∧ h = h') zNo 0 0 := by
  obtain ⟨m1, m2, ⟨g, m3, m3a⟩, m4, ⟨f6, m5, m5a⟩, m6, m7⟩ := id H
  unfold zMfs at m2
  refine zM.of [some (.ref (ma 0)), some (.ref a), some (zi w), none, none, none, none] (by decide +kernel) rfl (by decide) rfl (Nat.le_of_ble_eq_true rfl) rfl ?_
  refine z_iconst dMod_byOrderNow_0 ?_
  refine z_istore_n dMod_byOrderNow_1 (Nat.le_of_ble_eq_true rfl) ?_
  refine z_iconst dMod_byOrderNow_2 ?_
  refine z_istore dMod_byOrderNow_3 (Nat.le_of_ble_eq_true rfl) ?_
  refine l_Mod_byOrder1 H hr hA hI (fun y4 => ?_) 61 0 (by omega) (by omega)
  refine z_iconst dMod_byOrderNow_37 ?_
  refine z_istore dMod_byOrderNow_38 (Nat.le_of_ble_eq_true rfl) ?_
  refine z_iconst dMod_byOrderNow_40 ?_
  refine z_istore dMod_byOrderNow_41 (Nat.le_of_ble_eq_true rfl) ?_
  refine l_Mod_byOrder2 H hr (fun y5 y6 => ?_) 9 0 _ (by omega) (by omega)
  refine z_iload_n dMod_byOrderNow_99 rfl ?_
  refine z_if_ne (tgt := 107) dMod_byOrderNow_100 (by decide) (by omega) (fun c100 => ?_) (fun c100 => ?_)
  · refine z_iload_n dMod_byOrderNow_107 rfl ?_
    refine z_iconst dMod_byOrderNow_108 ?_
    refine z_icmp_ne (tgt := 117) dMod_byOrderNow_109 (by decide) (by omega) (by omega) (fun c109 => ?_) (fun c109 => ?_)
    · refine z_iconst dMod_byOrderNow_117 ?_
      refine z_iload_n dMod_byOrderNow_118 rfl ?_
      refine z_imul dMod_byOrderNow_119 ?_
      refine z_aload_n dMod_byOrderNow_120 rfl ?_
      refine z_get (k := 8) fd_Mod (by decide) fl_Mod_184 dMod_byOrderNow_121 (by assumption) (by rfl) ?_
      refine z_isub dMod_byOrderNow_124 ?_
      refine z_iload dMod_byOrderNow_125 rfl ?_
      refine z_iadd dMod_byOrderNow_127 ?_
      refine z_iret rfl rfl dMod_byOrderNow_128 ?_
      refine ⟨congrArg (fun z => some (zi z)) ?_, rfl⟩
      unfold zBo
      (repeat (first | rw [if_pos (by omega)] | rw [if_neg (by omega)]))
    · refine z_iload dMod_byOrderNow_112 rfl ?_
      refine z_goto (tgt := 128) dMod_byOrderNow_114 (by decide) ?_
      refine z_iret rfl rfl dMod_byOrderNow_128 ?_
      refine ⟨congrArg (fun z => some (zi z)) ?_, rfl⟩
      unfold zBo
      (repeat (first | rw [if_pos (by omega)] | rw [if_neg (by omega)]))
  · refine z_iload_n dMod_byOrderNow_103 rfl ?_
    refine z_goto (tgt := 128) dMod_byOrderNow_104 (by decide) ?_
    refine z_iret rfl rfl dMod_byOrderNow_128 ?_
    refine ⟨congrArg (fun z => some (zi z)) ?_, rfl⟩
    unfold zBo
    (repeat (first | rw [if_pos (by omega)] | rw [if_neg (by omega)]))
theorem k_Mod_byOrder {p w : Int} (H : zMod G h ma S th) (z_p : zI32 p) (z_w : zI32 w) (hA : S.2.2.2.1.length ≤ 60) (hI : ∀ j, j < S.2.2.2.1.length → zI32 (S.2.2.2.1.getD j 0)) : zM G l hMod_byOrder yMod_byOrder 4 [.ref (ma 0), zi p, zi w] h (zQm G ma h (1) (2) (3) (spm_byOrder S p w)) zNo 0 0 := by
  obtain ⟨m1, m2, ⟨g, m3, m3a⟩, m4, ⟨f6, m5, m5a⟩, m6, m7⟩ := id H
  unfold zMfs at m2
  refine zM.of [some (.ref (ma 0)), some (zi p), some (zi w)] (by decide +kernel) rfl (by decide) rfl (Nat.le_of_ble_eq_true rfl) rfl ?_
  refine z_aload_n dMod_byOrder_0 rfl ?_
  refine z_iload_n dMod_byOrder_1 rfl ?_
  refine z_callS MS_Mod_isNo lk_Mod_81 dMod_byOrder_2 (k_Mod_isNo (by omega)) rfl rfl (Nat.le_of_ble_eq_true rfl)  (Nat.le_of_ble_eq_true rfl) (Nat.le_of_ble_eq_true rfl) (Nat.le_of_eq (Nat.zero_add _)) (Nat.le_of_eq (Nat.zero_add _)) (fun _ _ q => q.elim) ?_
  rintro _ _ ⟨n9, rfl, hn9, rfl⟩
  refine z_iload_n dMod_byOrder_5 rfl ?_
  refine z_iconst dMod_byOrder_6 ?_
  refine z_iconst dMod_byOrder_7 ?_
  refine z_callS MS_Mod_isOut lk_Mod_41 dMod_byOrder_8 (k_Mod_isOut (by omega) (by omega) (by omega)) rfl rfl (Nat.le_of_ble_eq_true rfl)  (Nat.le_of_ble_eq_true rfl) (Nat.le_of_ble_eq_true rfl) (Nat.le_of_eq (Nat.zero_add _)) (Nat.le_of_eq (Nat.zero_add _)) (fun _ _ q => q.elim) ?_
  rintro _ _ ⟨o9, rfl, ho9, rfl⟩
  refine z_iconst dMod_byOrder_11 ?_
  refine z_callV MV_Mod_fails lk_Mod_88 dMod_byOrder_12 (k_Mod_fails (by assumption) rfl (by omega) (by omega) (by omega)) rfl rfl (Nat.le_of_ble_eq_true rfl) rfl (by assumption) (Nat.le_of_ble_eq_true rfl) (Nat.le_of_ble_eq_true rfl) (Nat.le_of_eq (Nat.zero_add _)) (Nat.le_of_eq (Nat.zero_add _)) (fun _ _ q => q.elim) ?_
  rintro _ h1 ⟨t9, b8, rfl, ht, p1, g1⟩
  have H1 : zMod G h1 ma S t9 := H.obj (nu := S.2.2.2.2) (th' := t9) p1 g1
  have fz1 : zMfr ma h h1 := zMfr.of0 g1
  obtain ⟨-, n2, ⟨gg, n3, n3a⟩, n4, ⟨f61, n5, n5a⟩, n6, n7⟩ := id H1
  unfold zMfs at n2
  refine z_if_eq (tgt := 20) dMod_byOrder_15 (by decide) (by omega) (fun c15 => ?_) (fun c15 => ?_)
  · obtain ⟨k, rfl⟩ := Int.eq_ofNat_of_zero_le (show 0 ≤ p by omega)
    obtain ⟨frk, rk1, rk2, rk3, rk4⟩ := id (n6 k (by omega))
    refine z_aload_n dMod_byOrder_20 rfl ?_
    refine z_get (k := 0) fd_Mod (by decide) fl_Mod_11 dMod_byOrder_21 (by assumption) (by rfl) ?_
    refine z_iload_n dMod_byOrder_24 rfl ?_
    refine z_aald (t := 4) (ty := .array .int) rfl rfl dMod_byOrder_25 n3 (by refine ⟨?_, ?_, ?_⟩ <;> omega) ?_
    rw [show (k : Int).toNat = k from rfl, n3a k (by omega)]
    refine z_callS MS_Mod_isOrder lk_Mod_193 dMod_byOrder_26 (k_Mod_isOrder (n6 k (by omega))) rfl rfl (Nat.le_of_ble_eq_true rfl)  (Nat.le_of_ble_eq_true rfl) (Nat.le_of_ble_eq_true rfl) (Nat.le_of_eq (Nat.zero_add _)) (Nat.le_of_eq (Nat.zero_add _)) (fun _ _ q => q.elim) ?_
    rintro _ _ ⟨b7, rfl, (⟨rfl, m9⟩ | ⟨rfl, m9⟩), rfl⟩
    · unfold zOrd at m9
      refine z_if_eq (tgt := 46) dMod_byOrder_29 (by decide) (by omega) (fun c29 => ?_) (fun c29 => ?_)
      · exact absurd c29 (by decide)
      · refine z_aload_n dMod_byOrder_32 rfl ?_
        refine z_aload_n dMod_byOrder_33 rfl ?_
        refine z_get (k := 0) fd_Mod (by decide) fl_Mod_11 dMod_byOrder_34 (by assumption) (by rfl) ?_
        refine z_iload_n dMod_byOrder_37 rfl ?_
        refine z_aald (t := 4) (ty := .array .int) rfl rfl dMod_byOrder_38 n3 (by refine ⟨?_, ?_, ?_⟩ <;> omega) ?_
        rw [show (k : Int).toNat = k from rfl, n3a k (by omega)]
        refine z_iload_n dMod_byOrder_39 rfl ?_
        refine z_callV MV_Mod_byOrderNow lk_Mod_197 dMod_byOrder_40 (k_Mod_byOrderNow H1 (n6 k (by omega)) (by omega) hA hI) rfl rfl (Nat.le_of_ble_eq_true rfl) rfl (by assumption) (Nat.le_of_ble_eq_true rfl) (Nat.le_of_ble_eq_true rfl) (Nat.le_of_eq (Nat.zero_add _)) (Nat.le_of_eq (Nat.zero_add _)) (fun _ _ q => q.elim) ?_
        rintro _ _ ⟨rfl, rfl⟩
        refine z_goto (tgt := 50) dMod_byOrder_43 (by decide) ?_
        refine z_iret rfl rfl dMod_byOrder_50 ?_
        rcases (show t9 = 0 ∨ t9 = 1 ∨ t9 = 2 ∨ t9 = 3 by omega) with t0 | t0 | t0 | t0
        all_goals first
          | (exfalso; omega)
          | exact zQm.ok H2 (by omega) (by assumption) (by unfold spm_byOrder; (try unfold spPut); (try simp only [Int.toNat_natCast]); (repeat (first | rw [if_pos (by omega)] | rw [if_neg (by omega)] | rw [if_pos (by assumption)] | rw [if_neg (by assumption)] | rw [if_pos (True.intro : True)])); (try (first | rfl | (congr 2; omega) | (congr 1; congr 1; omega))); done)
          | exact zQm.b1 H2 (by omega) (by assumption) (by unfold spm_byOrder; (try unfold spPut); (try simp only [Int.toNat_natCast]); (repeat (first | rw [if_pos (by omega)] | rw [if_neg (by omega)] | rw [if_pos (by assumption)] | rw [if_neg (by assumption)] | rw [if_pos (True.intro : True)])); (try (first | rfl | (congr 2; omega) | (congr 1; congr 1; omega))); done)
          | exact zQm.b2 H2 (by omega) (by assumption) (by unfold spm_byOrder; (try unfold spPut); (try simp only [Int.toNat_natCast]); (repeat (first | rw [if_pos (by omega)] | rw [if_neg (by omega)] | rw [if_pos (by assumption)] | rw [if_neg (by assumption)] | rw [if_pos (True.intro : True)])); (try (first | rfl | (congr 2; omega) | (congr 1; congr 1; omega))); done)
          | exact zQm.b3 H2 (by omega) (by assumption) (by unfold spm_byOrder; (try unfold spPut); (try simp only [Int.toNat_natCast]); (repeat (first | rw [if_pos (by omega)] | rw [if_neg (by omega)] | rw [if_pos (by assumption)] | rw [if_neg (by assumption)] | rw [if_pos (True.intro : True)])); (try (first | rfl | (congr 2; omega) | (congr 1; congr 1; omega))); done)
          | exact zQm.ok H1 (by omega) (by assumption) (by unfold spm_byOrder; (try unfold spPut); (try simp only [Int.toNat_natCast]); (repeat (first | rw [if_pos (by omega)] | rw [if_neg (by omega)] | rw [if_pos (by assumption)] | rw [if_neg (by assumption)] | rw [if_pos (True.intro : True)])); (try (first | rfl | (congr 2; omega) | (congr 1; congr 1; omega))); done)
          | exact zQm.b1 H1 (by omega) (by assumption) (by unfold spm_byOrder; (try unfold spPut); (try simp only [Int.toNat_natCast]); (repeat (first | rw [if_pos (by omega)] | rw [if_neg (by omega)] | rw [if_pos (by assumption)] | rw [if_neg (by assumption)] | rw [if_pos (True.intro : True)])); (try (first | rfl | (congr 2; omega) | (congr 1; congr 1; omega))); done)
          | exact zQm.b2 H1 (by omega) (by assumption) (by unfold spm_byOrder; (try unfold spPut); (try simp only [Int.toNat_natCast]); (repeat (first | rw [if_pos (by omega)] | rw [if_neg (by omega)] | rw [if_pos (by assumption)] | rw [if_neg (by assumption)] | rw [if_pos (True.intro : True)])); (try (first | rfl | (congr 2; omega) | (congr 1; congr 1; omega))); done)
          | exact zQm.b3 H1 (by omega) (by assumption) (by unfold spm_byOrder; (try unfold spPut); (try simp only [Int.toNat_natCast]); (repeat (first | rw [if_pos (by omega)] | rw [if_neg (by omega)] | rw [if_pos (by assumption)] | rw [if_neg (by assumption)] | rw [if_pos (True.intro : True)])); (try (first | rfl | (congr 2; omega) | (congr 1; congr 1; omega))); done)
    · unfold zOrd at m9
      refine z_if_eq (tgt := 46) dMod_byOrder_29 (by decide) (by omega) (fun c29 => ?_) (fun c29 => ?_)
      · refine z_aload_n dMod_byOrder_46 rfl ?_
        refine z_callV MV_Mod_refused lk_Mod_92 dMod_byOrder_47 (k_Mod_refused n2 rfl rfl) rfl rfl (Nat.le_of_ble_eq_true rfl) rfl (by assumption) (Nat.le_of_ble_eq_true rfl) (Nat.le_of_ble_eq_true rfl) (Nat.le_of_eq (Nat.zero_add _)) (Nat.le_of_eq (Nat.zero_add _)) (fun _ _ q => q.elim) ?_
        rintro _ h2 ⟨rfl, p2, g2⟩
        have H2 : zMod G h2 ma (zsRef S) t9 := H1.obj (nu := zup S.2.2.2.2 1 (S.2.2.2.2 1 + 1)) p2 g2
        have fz2 : zMfr ma h h2 := zMfr.of0 (fun q hq => (g2 q hq).trans (g1 q hq))
        refine z_iret rfl rfl dMod_byOrder_50 ?_
        rcases (show t9 = 0 ∨ t9 = 1 ∨ t9 = 2 ∨ t9 = 3 by omega) with t0 | t0 | t0 | t0
        all_goals first
          | (exfalso; omega)
          | exact zQm.ok H2 (by omega) (by assumption) (by unfold spm_byOrder; (try unfold spPut); (try simp only [Int.toNat_natCast]); (repeat (first | rw [if_pos (by omega)] | rw [if_neg (by omega)] | rw [if_pos (by assumption)] | rw [if_neg (by assumption)] | rw [if_pos (True.intro : True)])); (try (first | rfl | (congr 2; omega) | (congr 1; congr 1; omega))); done)
          | exact zQm.b1 H2 (by omega) (by assumption) (by unfold spm_byOrder; (try unfold spPut); (try simp only [Int.toNat_natCast]); (repeat (first | rw [if_pos (by omega)] | rw [if_neg (by omega)] | rw [if_pos (by assumption)] | rw [if_neg (by assumption)] | rw [if_pos (True.intro : True)])); (try (first | rfl | (congr 2; omega) | (congr 1; congr 1; omega))); done)
          | exact zQm.b2 H2 (by omega) (by assumption) (by unfold spm_byOrder; (try unfold spPut); (try simp only [Int.toNat_natCast]); (repeat (first | rw [if_pos (by omega)] | rw [if_neg (by omega)] | rw [if_pos (by assumption)] | rw [if_neg (by assumption)] | rw [if_pos (True.intro : True)])); (try (first | rfl | (congr 2; omega) | (congr 1; congr 1; omega))); done)
          | exact zQm.b3 H2 (by omega) (by assumption) (by unfold spm_byOrder; (try unfold spPut); (try simp only [Int.toNat_natCast]); (repeat (first | rw [if_pos (by omega)] | rw [if_neg (by omega)] | rw [if_pos (by assumption)] | rw [if_neg (by assumption)] | rw [if_pos (True.intro : True)])); (try (first | rfl | (congr 2; omega) | (congr 1; congr 1; omega))); done)
          | exact zQm.ok H1 (by omega) (by assumption) (by unfold spm_byOrder; (try unfold spPut); (try simp only [Int.toNat_natCast]); (repeat (first | rw [if_pos (by omega)] | rw [if_neg (by omega)] | rw [if_pos (by assumption)] | rw [if_neg (by assumption)] | rw [if_pos (True.intro : True)])); (try (first | rfl | (congr 2; omega) | (congr 1; congr 1; omega))); done)
          | exact zQm.b1 H1 (by omega) (by assumption) (by unfold spm_byOrder; (try unfold spPut); (try simp only [Int.toNat_natCast]); (repeat (first | rw [if_pos (by omega)] | rw [if_neg (by omega)] | rw [if_pos (by assumption)] | rw [if_neg (by assumption)] | rw [if_pos (True.intro : True)])); (try (first | rfl | (congr 2; omega) | (congr 1; congr 1; omega))); done)
          | exact zQm.b2 H1 (by omega) (by assumption) (by unfold spm_byOrder; (try unfold spPut); (try simp only [Int.toNat_natCast]); (repeat (first | rw [if_pos (by omega)] | rw [if_neg (by omega)] | rw [if_pos (by assumption)] | rw [if_neg (by assumption)] | rw [if_pos (True.intro : True)])); (try (first | rfl | (congr 2; omega) | (congr 1; congr 1; omega))); done)
          | exact zQm.b3 H1 (by omega) (by assumption) (by unfold spm_byOrder; (try unfold spPut); (try simp only [Int.toNat_natCast]); (repeat (first | rw [if_pos (by omega)] | rw [if_neg (by omega)] | rw [if_pos (by assumption)] | rw [if_neg (by assumption)] | rw [if_pos (True.intro : True)])); (try (first | rfl | (congr 2; omega) | (congr 1; congr 1; omega))); done)
      · exact absurd rfl c29
  · refine z_iconst dMod_byOrder_18 ?_
    refine z_iret rfl rfl dMod_byOrder_19 ?_
    rcases (show t9 = 0 ∨ t9 = 1 ∨ t9 = 2 ∨ t9 = 3 by omega) with t0 | t0 | t0 | t0
    all_goals first
      | (exfalso; omega)
      | exact zQm.ok H2 (by omega) (by assumption) (by unfold spm_byOrder; (try unfold spPut); (try simp only [Int.toNat_natCast]); (repeat (first | rw [if_pos (by omega)] | rw [if_neg (by omega)] | rw [if_pos (by assumption)] | rw [if_neg (by assumption)] | rw [if_pos (True.intro : True)])); (try (first | rfl | (congr 2; omega) | (congr 1; congr 1; omega))); done)
      | exact zQm.b1 H2 (by omega) (by assumption) (by unfold spm_byOrder; (try unfold spPut); (try simp only [Int.toNat_natCast]); (repeat (first | rw [if_pos (by omega)] | rw [if_neg (by omega)] | rw [if_pos (by assumption)] | rw [if_neg (by assumption)] | rw [if_pos (True.intro : True)])); (try (first | rfl | (congr 2; omega) | (congr 1; congr 1; omega))); done)
      | exact zQm.b2 H2 (by omega) (by assumption) (by unfold spm_byOrder; (try unfold spPut); (try simp only [Int.toNat_natCast]); (repeat (first | rw [if_pos (by omega)] | rw [if_neg (by omega)] | rw [if_pos (by assumption)] | rw [if_neg (by assumption)] | rw [if_pos (True.intro : True)])); (try (first | rfl | (congr 2; omega) | (congr 1; congr 1; omega))); done)
      | exact zQm.b3 H2 (by omega) (by assumption) (by unfold spm_byOrder; (try unfold spPut); (try simp only [Int.toNat_natCast]); (repeat (first | rw [if_pos (by omega)] | rw [if_neg (by omega)] | rw [if_pos (by assumption)] | rw [if_neg (by assumption)] | rw [if_pos (True.intro : True)])); (try (first | rfl | (congr 2; omega) | (congr 1; congr 1; omega))); done)
      | exact zQm.ok H1 (by omega) (by assumption) (by unfold spm_byOrder; (try unfold spPut); (try simp only [Int.toNat_natCast]); (repeat (first | rw [if_pos (by omega)] | rw [if_neg (by omega)] | rw [if_pos (by assumption)] | rw [if_neg (by assumption)] | rw [if_pos (True.intro : True)])); (try (first | rfl | (congr 2; omega) | (congr 1; congr 1; omega))); done)
      | exact zQm.b1 H1 (by omega) (by assumption) (by unfold spm_byOrder; (try unfold spPut); (try simp only [Int.toNat_natCast]); (repeat (first | rw [if_pos (by omega)] | rw [if_neg (by omega)] | rw [if_pos (by assumption)] | rw [if_neg (by assumption)] | rw [if_pos (True.intro : True)])); (try (first | rfl | (congr 2; omega) | (congr 1; congr 1; omega))); done)
      | exact zQm.b2 H1 (by omega) (by assumption) (by unfold spm_byOrder; (try unfold spPut); (try simp only [Int.toNat_natCast]); (repeat (first | rw [if_pos (by omega)] | rw [if_neg (by omega)] | rw [if_pos (by assumption)] | rw [if_neg (by assumption)] | rw [if_pos (True.intro : True)])); (try (first | rfl | (congr 2; omega) | (congr 1; congr 1; omega))); done)
      | exact zQm.b3 H1 (by omega) (by assumption) (by unfold spm_byOrder; (try unfold spPut); (try simp only [Int.toNat_natCast]); (repeat (first | rw [if_pos (by omega)] | rw [if_neg (by omega)] | rw [if_pos (by assumption)] | rw [if_neg (by assumption)] | rw [if_pos (True.intro : True)])); (try (first | rfl | (congr 2; omega) | (congr 1; congr 1; omega))); done)
end MOD22
end
section
section MOD23
variable {G : zG} {l : Launch} {h h' h'' : zHp} {ma : Nat → Nat} {S : zSt} {th : Int}
/-- what was asked are keys -/
def zOkA (S : zSt) : Prop := ∀ j, j < S.2.2.2.1.length → 0 ≤ S.2.2.2.1.getD j 0 ∧ S.2.2.2.1.getD j 0 ≤ 7
theorem zOkA.of {S S' : zSt} (hO : zOkA S) (e : S'.2.2.2.1 = S.2.2.2.1) : zOkA S' := by
  unfold zOkA
  rw [e]
  exact hO
theorem zwd_i (x : Int) : zi x = zi (zwd x) := congrArg Value.int (zI_of (zI x)).symm
theorem zwd_r (x : Int) : -2147483648 ≤ zwd x ∧ zwd x ≤ 2147483647 := zI_range (zI x)
theorem k_Mod_add {d v : Int} : zM G l hMod_add yMod_add 1 [zl d, zl v] h (fun w h' => w = some (zl (d * 31 + v)) ∧ h = h') zNo 0 0 := by
  refine zM.of [some (zl d), none, some (zl v), none] (by decide +kernel) rfl (by decide) rfl (Nat.le_of_ble_eq_true rfl) rfl ?_
  refine z_lload_n dMod_add_0 rfl ?_
  refine z_ldc2 (v := (31 : Int64)) dMod_add_1 (31) (by decide) ct_Mod_206 ?_
  refine z_lmul dMod_add_4 ?_
  refine z_lload_n dMod_add_5 rfl ?_
  refine z_ladd dMod_add_6 ?_
  refine z_lret rfl dMod_add_7 ?_
  exact ⟨rfl, rfl⟩
theorem l_Mod_digA {mc ms : Nat} {Qn : Option Value → zHp → Prop} {Qx : String → zHp → Prop} (H : zMod G h ma S 0) (hO : zOk S) (hA : zOkA S) (h16 : ∀ k, k < 4 → (S.1 k).length ≤ 16)
    (K : ∀ bc bs (h1 : zHp) d y3 y4 y5 y6 y7 y8 y9 y10, 0 ≤ bc → 0 ≤ bs → 18 ≤ bc → 108 ≤ bs → zExt h h1 → zR G l (zMJ G hMod_digest 4 Qn Qx mc ms) bc bs h1 33 [some (.ref (ma 0)), some (zl d), none, y3, y4, y5, y6, y7, y8, y9, y10] []) :
    ∀ (n m bc bs : Nat) (h1 : zHp) (d : Int) (y4 y5 y6 y7 y8 y9 y10 : Option Value), 5 - m < n → m ≤ 5 → (5 - m) + 18 ≤ bc → 5 * (5 - m) + 108 ≤ bs → zExt h h1 → zR G l (zMJ G hMod_digest 4 Qn Qx mc ms) bc bs h1 11 [some (.ref (ma 0)), some (zl d), none, some (zi (m : Int)), y4, y5, y6, y7, y8, y9, y10] [] := by
  intro n
  induction n with
  | zero => intro m bc bs h1 d y4 y5 y6 y7 y8 y9 y10 x1 x2 x3 x4 hx; omega
  | succ n ih =>
  intro m bc bs h1 d y4 y5 y6 y7 y8 y9 y10 x1 x2 x3 x4 hx
  have H1 := H.ext hx
  have oc1 := H1.2.1
  refine z_iload_n dMod_digest_11 rfl ?_
  refine z_iconst dMod_digest_12 ?_
  refine z_icmp_ge (tgt := 33) dMod_digest_13 (by decide) (by omega) (by omega) (fun c13 => ?_) (fun c13 => ?_)
  · exact K _ _ h1 _ _ _ _ _ _ _ _ _ (by omega) (by omega) (by omega) (by omega) hx
  · refine z_lload_n dMod_digest_16 rfl ?_
    refine z_aload_n dMod_digest_17 rfl ?_
    refine z_iload_n dMod_digest_18 rfl ?_
    refine z_callV (bc' := bc - 1) (bs' := bs - 5) MV_Mod_houseNow lk_Mod_203 dMod_digest_19 (k_Mod_houseNow H1 (by omega)) rfl rfl (Nat.le_of_ble_eq_true rfl) rfl (by assumption) (Nat.le_of_ble_eq_true rfl) (Nat.le_of_ble_eq_true rfl) (by omega) (by omega) (fun _ _ q => q.elim) ?_
    rintro _ h2 ⟨rfl, hx2⟩
    rw [zwd_i (zHv S (m : Int))]
    have hw9 := zwd_r (zHv S (m : Int))
    have H2 := H1.ext hx2
    have oc2 := H2.2.1
    refine z_i2l (by first | omega | omega) dMod_digest_22 ?_
    refine z_callS MS_Mod_add lk_Mod_210 dMod_digest_23 k_Mod_add rfl rfl (Nat.le_of_ble_eq_true rfl)  (Nat.le_of_ble_eq_true rfl) (Nat.le_of_ble_eq_true rfl) (Nat.le_of_eq (Nat.zero_add _)) (Nat.le_of_eq (Nat.zero_add _)) (fun _ _ q => q.elim) ?_
    rintro _ _ ⟨rfl, rfl⟩
    refine z_lstore_n dMod_digest_26 (Nat.le_of_ble_eq_true rfl) ?_
    refine z_iinc dMod_digest_27 rfl (Nat.le_of_ble_eq_true rfl) ?_
    refine z_goto (tgt := 11) dMod_digest_30 (by decide) ?_
    exact ih (m + 1) (bc - 1) (bs - 5) h2 _ _ _ _ _ _ _ _ (by omega) (by omega) (by omega) (by omega) (hx.tr hx2)
theorem l_Mod_digC2 {mc ms : Nat} {Qn : Option Value → zHp → Prop} {Qx : String → zHp → Prop} {c : Nat} (hc : c < 3) {B : Nat} (H : zMod G h ma S 0) (hO : zOk S) (hA : zOkA S) (h16 : ∀ k, k < 4 → (S.1 k).length ≤ 16)
    (K : ∀ bc bs (h1 : zHp) d y4 y5 y6 y7 y8 y9 y10, B ≤ bc → 6 * B ≤ bs → zExt h h1 → zR G l (zMJ G hMod_digest 4 Qn Qx mc ms) bc bs h1 170 [some (.ref (ma 0)), some (zl d), none, some (zi (c : Int)), y4, y5, y6, y7, y8, y9, y10] []) :
    ∀ (n m bc bs : Nat) (h1 : zHp) (d : Int) (y5 y6 y7 y8 y9 y10 : Option Value), 6 - m < n → m ≤ 6 → (6 - m) + B ≤ bc → 6 * (6 - m) + 6 * B ≤ bs → zExt h h1 → zR G l (zMJ G hMod_digest 4 Qn Qx mc ms) bc bs h1 144 [some (.ref (ma 0)), some (zl d), none, some (zi (c : Int)), some (zi (m : Int)), y5, y6, y7, y8, y9, y10] [] := by
  intro n
  induction n with
  | zero => intro m bc bs h1 d y5 y6 y7 y8 y9 y10 x1 x2 x3 x4 hx; omega
  | succ n ih =>
  intro m bc bs h1 d y5 y6 y7 y8 y9 y10 x1 x2 x3 x4 hx
  have H1 := H.ext hx
  have oc1 := H1.2.1
  refine z_iload dMod_digest_144 rfl ?_
  refine z_bipush dMod_digest_146 rfl ?_
  refine z_icmp_ge (tgt := 170) dMod_digest_148 (by decide) (by omega) (by omega) (fun c148 => ?_) (fun c148 => ?_)
  · exact K _ _ h1 _ _ _ _ _ _ _ _ (by omega) (by omega) hx
  · refine z_lload_n dMod_digest_151 rfl ?_
    refine z_aload_n dMod_digest_152 rfl ?_
    refine z_iload_n dMod_digest_153 rfl ?_
    refine z_iload dMod_digest_154 rfl ?_
    refine z_callV (bc' := bc - 1) (bs' := bs - 6) MV_Mod_ofCursorNow lk_Mod_154 dMod_digest_156 (k_Mod_ofCursorNow H1 (by omega) (by omega) hO h16) rfl rfl (Nat.le_of_ble_eq_true rfl) rfl (by assumption) (Nat.le_of_ble_eq_true rfl) (Nat.le_of_ble_eq_true rfl) (by omega) (by omega) (fun _ _ q => q.elim) ?_
    rintro _ h2 ⟨rfl, hx2⟩
    rw [zwd_i (zCuV S c (m : Int))]
    have hw9 := zwd_r (zCuV S c (m : Int))
    have H2 := H1.ext hx2
    have oc2 := H2.2.1
    refine z_i2l (by first | omega | omega) dMod_digest_159 ?_
    refine z_callS MS_Mod_add lk_Mod_210 dMod_digest_160 k_Mod_add rfl rfl (Nat.le_of_ble_eq_true rfl)  (Nat.le_of_ble_eq_true rfl) (Nat.le_of_ble_eq_true rfl) (Nat.le_of_eq (Nat.zero_add _)) (Nat.le_of_eq (Nat.zero_add _)) (fun _ _ q => q.elim) ?_
    rintro _ _ ⟨rfl, rfl⟩
    refine z_lstore_n dMod_digest_163 (Nat.le_of_ble_eq_true rfl) ?_
    refine z_iinc dMod_digest_164 rfl (Nat.le_of_ble_eq_true rfl) ?_
    refine z_goto (tgt := 144) dMod_digest_167 (by decide) ?_
    exact ih (m + 1) (bc - 1) (bs - 6) h2 _ _ _ _ _ _ _ (by omega) (by omega) (by omega) (by omega) (hx.tr hx2)
theorem l_Mod_digC {mc ms : Nat} {Qn : Option Value → zHp → Prop} {Qx : String → zHp → Prop} (H : zMod G h ma S 0) (hO : zOk S) (hA : zOkA S) (h16 : ∀ k, k < 4 → (S.1 k).length ≤ 16)
    (K : ∀ bc bs (h1 : zHp) d y3 y4 y5 y6 y7 y8 y9 y10, zExt h h1 → zR G l (zMJ G hMod_digest 4 Qn Qx mc ms) bc bs h1 176 [some (.ref (ma 0)), some (zl d), none, y3, y4, y5, y6, y7, y8, y9, y10] []) :
    ∀ (n m bc bs : Nat) (h1 : zHp) (d : Int) (y4 y5 y6 y7 y8 y9 y10 : Option Value), 3 - m < n → m ≤ 3 → 6 * (3 - m) ≤ bc → 36 * (3 - m) ≤ bs → zExt h h1 → zR G l (zMJ G hMod_digest 4 Qn Qx mc ms) bc bs h1 136 [some (.ref (ma 0)), some (zl d), none, some (zi (m : Int)), y4, y5, y6, y7, y8, y9, y10] [] := by
  intro n
  induction n with
  | zero => intro m bc bs h1 d y4 y5 y6 y7 y8 y9 y10 x1 x2 x3 x4 hx; omega
  | succ n ih =>
  intro m bc bs h1 d y4 y5 y6 y7 y8 y9 y10 x1 x2 x3 x4 hx
  refine z_iload_n dMod_digest_136 rfl ?_
  refine z_iconst dMod_digest_137 ?_
  refine z_icmp_ge (tgt := 176) dMod_digest_138 (by decide) (by omega) (by omega) (fun c138 => ?_) (fun c138 => ?_)
  · exact K _ _ h1 _ _ _ _ _ _ _ _ _ hx
  · refine z_iconst dMod_digest_141 ?_
    refine z_istore dMod_digest_142 (Nat.le_of_ble_eq_true rfl) ?_
    refine l_Mod_digC2 (h := h1) (c := m) (by omega) (B := 6 * (2 - m)) (H.ext hx) hO hA h16 (fun bc2 bs2 h2 d2 y4 y5 y6 y7 y8 y9 y10 z1 z2 hx2 => ?_) 7 0 _ _ h1 _ _ _ _ _ _ _ (by omega) (by omega) (by omega) (by omega) zExt.rf
    refine z_iinc dMod_digest_170 rfl (Nat.le_of_ble_eq_true rfl) ?_
    refine z_goto (tgt := 136) dMod_digest_173 (by decide) ?_
    exact ih (m + 1) bc2 bs2 h2 _ _ _ _ _ _ _ _ (by omega) (by omega) (by omega) (by omega) (hx.tr hx2)
theorem l_Mod_digB2 {mc ms bc bs : Nat} {Qn : Option Value → zHp → Prop} {Qx : String → zHp → Prop} {r a : Nat} {L : List Int} {b m9 : Int} (hr : zAr G h a L)
    (K : ∀ d y9 y10, zR G l (zMJ G hMod_digest 4 Qn Qx mc ms) bc bs h 107 [some (.ref (ma 0)), some (zl d), none, some (.ref r), some (zi b), some (zi m9), some (.ref a), some (.ref a), some (zi (L.length : Int)), y9, y10] []) :
    ∀ (n m : Nat) (d : Int) (y10 : Option Value), L.length - m < n → m ≤ L.length → zR G l (zMJ G hMod_digest 4 Qn Qx mc ms) bc bs h 79 [some (.ref (ma 0)), some (zl d), none, some (.ref r), some (zi b), some (zi m9), some (.ref a), some (.ref a), some (zi (L.length : Int)), some (zi (m : Int)), y10] [] := by
  intro n
  induction n with
  | zero => intro m d y10 x1 x2; omega
  | succ n ih =>
  intro m d y10 x1 x2
  obtain ⟨f, d1, d2, d3, d4⟩ := id hr
  refine z_iload dMod_digest_79 rfl ?_
  refine z_iload dMod_digest_81 rfl ?_
  refine z_icmp_ge (tgt := 107) dMod_digest_83 (by decide) (by omega) (by omega) (fun c83 => ?_) (fun c83 => ?_)
  · exact K _ _ _
  · have d4m := d4 m (by omega)
    refine z_aload dMod_digest_86 rfl ?_
    refine z_iload dMod_digest_88 rfl ?_
    refine z_iald dMod_digest_90 (by assumption) (by refine ⟨?_, ?_, ?_⟩ <;> omega) ?_
    rw [Int.toNat_natCast, d3 m (by omega)]
    refine z_istore dMod_digest_91 (Nat.le_of_ble_eq_true rfl) ?_
    refine z_lload_n dMod_digest_93 rfl ?_
    refine z_iload dMod_digest_94 rfl ?_
    refine z_i2l (by first | omega | omega) dMod_digest_96 ?_
    refine z_callS MS_Mod_add lk_Mod_210 dMod_digest_97 k_Mod_add rfl rfl (Nat.le_of_ble_eq_true rfl)  (Nat.le_of_ble_eq_true rfl) (Nat.le_of_ble_eq_true rfl) (Nat.le_of_eq (Nat.zero_add _)) (Nat.le_of_eq (Nat.zero_add _)) (fun _ _ q => q.elim) ?_
    rintro _ _ ⟨rfl, rfl⟩
    refine z_lstore_n dMod_digest_100 (Nat.le_of_ble_eq_true rfl) ?_
    refine z_iinc dMod_digest_101 rfl (Nat.le_of_ble_eq_true rfl) ?_
    refine z_goto (tgt := 79) dMod_digest_104 (by decide) ?_
    exact ih (m + 1) _ _ (by omega) (by omega)
theorem l_Mod_digB {mc ms bc bs : Nat} {Qn : Option Value → zHp → Prop} {Qx : String → zHp → Prop} (H : zMod G h ma S 0)
    (K : ∀ d y3 y4 y5 y6 y7 y8 y9 y10, zR G l (zMJ G hMod_digest 4 Qn Qx mc ms) bc bs h 134 [some (.ref (ma 0)), some (zl d), none, y3, y4, y5, y6, y7, y8, y9, y10] []) :
    ∀ (n m : Nat) (d : Int) (y6 y7 y8 y9 y10 : Option Value), 4 - m < n → m ≤ 4 → zR G l (zMJ G hMod_digest 4 Qn Qx mc ms) bc bs h 45 [some (.ref (ma 0)), some (zl d), none, some (.ref (ma 1)), some (zi (4 : Int)), some (zi (m : Int)), y6, y7, y8, y9, y10] [] := by
  intro n
  induction n with
  | zero => intro m d y6 y7 y8 y9 y10 x1 x2; omega
  | succ n ih =>
  intro m d y6 y7 y8 y9 y10 x1 x2
  obtain ⟨m1, m2, ⟨g, m3, m3a⟩, m4, ⟨f6, m5, m5a⟩, m6, m7⟩ := id H
  unfold zMfs at m2
  refine z_iload dMod_digest_45 rfl ?_
  refine z_iload dMod_digest_47 rfl ?_
  refine z_icmp_ge (tgt := 134) dMod_digest_49 (by decide) (by omega) (by omega) (fun c49 => ?_) (fun c49 => ?_)
  · exact K _ _ _ _ _ _ _ _ _
  · refine z_aload_n dMod_digest_52 rfl ?_
    refine z_iload dMod_digest_53 rfl ?_
    refine z_aald (t := 4) (ty := .array .int) rfl rfl dMod_digest_55 m3 (by refine ⟨?_, ?_, ?_⟩ <;> omega) ?_
    rw [Int.toNat_natCast, m3a m (by omega)]
    obtain ⟨fr, r1, r2, r3, r4⟩ := id (m6 m (by omega))
    refine z_astore dMod_digest_56 (Nat.le_of_ble_eq_true rfl) ?_
    refine z_lload_n dMod_digest_58 rfl ?_
    refine z_aload dMod_digest_59 rfl ?_
    refine z_alenI dMod_digest_61 r1 ?_
    refine z_i2l (by first | omega | omega) dMod_digest_62 ?_
    refine z_callS MS_Mod_add lk_Mod_210 dMod_digest_63 k_Mod_add rfl rfl (Nat.le_of_ble_eq_true rfl)  (Nat.le_of_ble_eq_true rfl) (Nat.le_of_ble_eq_true rfl) (Nat.le_of_eq (Nat.zero_add _)) (Nat.le_of_eq (Nat.zero_add _)) (fun _ _ q => q.elim) ?_
    rintro _ _ ⟨rfl, rfl⟩
    refine z_lstore_n dMod_digest_66 (Nat.le_of_ble_eq_true rfl) ?_
    refine z_aload dMod_digest_67 rfl ?_
    refine z_astore dMod_digest_69 (Nat.le_of_ble_eq_true rfl) ?_
    refine z_aload dMod_digest_71 rfl ?_
    refine z_alenI dMod_digest_73 r1 ?_
    refine z_istore dMod_digest_74 (Nat.le_of_ble_eq_true rfl) ?_
    refine z_iconst dMod_digest_76 ?_
    refine z_istore dMod_digest_77 (Nat.le_of_ble_eq_true rfl) ?_
    refine l_Mod_digB2 (m6 m (by omega)) (fun d2 y9 y10 => ?_) ((S.1 m).length + 1) 0 _ _ (by omega) (by omega)
    refine z_lload_n dMod_digest_107 rfl ?_
    refine z_aload dMod_digest_108 rfl ?_
    refine z_iconst dMod_digest_110 ?_
    refine z_callS MS_Mod_valueOf lk_Mod_176 dMod_digest_111 (k_Mod_valueOf (m6 m (by omega)) (by omega)) rfl rfl (Nat.le_of_ble_eq_true rfl)  (Nat.le_of_ble_eq_true rfl) (Nat.le_of_ble_eq_true rfl) (Nat.le_of_eq (Nat.zero_add _)) (Nat.le_of_eq (Nat.zero_add _)) (fun _ _ q => q.elim) ?_
    rintro _ _ ⟨rfl, rfl⟩
    have hv9 := zHr_in (S.1 m) 2 (S.1 m).length
    refine z_i2l (by first | omega | omega) dMod_digest_114 ?_
    refine z_callS MS_Mod_add lk_Mod_210 dMod_digest_115 k_Mod_add rfl rfl (Nat.le_of_ble_eq_true rfl)  (Nat.le_of_ble_eq_true rfl) (Nat.le_of_ble_eq_true rfl) (Nat.le_of_eq (Nat.zero_add _)) (Nat.le_of_eq (Nat.zero_add _)) (fun _ _ q => q.elim) ?_
    rintro _ _ ⟨rfl, rfl⟩
    refine z_aload dMod_digest_118 rfl ?_
    refine z_callS MS_Mod_degreeOf lk_Mod_180 dMod_digest_120 (k_Mod_degreeOf (m6 m (by omega))) rfl rfl (Nat.le_of_ble_eq_true rfl)  (Nat.le_of_ble_eq_true rfl) (Nat.le_of_ble_eq_true rfl) (Nat.le_of_eq (Nat.zero_add _)) (Nat.le_of_eq (Nat.zero_add _)) (fun _ _ q => q.elim) ?_
    rintro _ _ ⟨rfl, rfl⟩
    have hz9 := zLnz_in (S.1 m)
    refine z_i2l (by first | omega | omega) dMod_digest_123 ?_
    refine z_callS MS_Mod_add lk_Mod_210 dMod_digest_124 k_Mod_add rfl rfl (Nat.le_of_ble_eq_true rfl)  (Nat.le_of_ble_eq_true rfl) (Nat.le_of_ble_eq_true rfl) (Nat.le_of_eq (Nat.zero_add _)) (Nat.le_of_eq (Nat.zero_add _)) (fun _ _ q => q.elim) ?_
    rintro _ _ ⟨rfl, rfl⟩
    refine z_lstore_n dMod_digest_127 (Nat.le_of_ble_eq_true rfl) ?_
    refine z_iinc dMod_digest_128 rfl (Nat.le_of_ble_eq_true rfl) ?_
    refine z_goto (tgt := 45) dMod_digest_131 (by decide) ?_
    exact ih (m + 1) _ _ _ _ _ _ (by omega) (by omega)
theorem l_Mod_digD {mc ms bc bs : Nat} {Qn : Option Value → zHp → Prop} {Qx : String → zHp → Prop} (H : zMod G h ma S 0) (hO : zOk S)
    (K : ∀ d y3 y4 y5 y6 y7 y8 y9 y10, zR G l (zMJ G hMod_digest 4 Qn Qx mc ms) bc bs h 200 [some (.ref (ma 0)), some (zl d), none, y3, y4, y5, y6, y7, y8, y9, y10] []) :
    ∀ (n m : Nat) (d : Int) (y4 y5 y6 y7 y8 y9 y10 : Option Value), 4 - m < n → m ≤ 4 → zR G l (zMJ G hMod_digest 4 Qn Qx mc ms) bc bs h 178 [some (.ref (ma 0)), some (zl d), none, some (zi (m : Int)), y4, y5, y6, y7, y8, y9, y10] [] := by
  intro n
  induction n with
  | zero => intro m d y4 y5 y6 y7 y8 y9 y10 x1 x2; omega
  | succ n ih =>
  intro m d y4 y5 y6 y7 y8 y9 y10 x1 x2
  have oc1 := H.2.1
  refine z_iload_n dMod_digest_178 rfl ?_
  refine z_iconst dMod_digest_179 ?_
  refine z_icmp_ge (tgt := 200) dMod_digest_180 (by decide) (by omega) (by omega) (fun c180 => ?_) (fun c180 => ?_)
  · exact K _ _ _ _ _ _ _ _ _
  · refine z_lload_n dMod_digest_183 rfl ?_
    refine z_aload_n dMod_digest_184 rfl ?_
    refine z_iload_n dMod_digest_185 rfl ?_
    refine z_callV MV_Mod_askedNow lk_Mod_190 dMod_digest_186 (k_Mod_askedNow H (by omega) hO) rfl rfl (Nat.le_of_ble_eq_true rfl) rfl (by assumption) (Nat.le_of_ble_eq_true rfl) (Nat.le_of_ble_eq_true rfl) (Nat.le_of_eq (Nat.zero_add _)) (Nat.le_of_eq (Nat.zero_add _)) (fun _ _ q => q.elim) ?_
    rintro _ _ ⟨rfl, rfl⟩
    rw [zwd_i (zAkV S (m : Int))]
    have hw9 := zwd_r (zAkV S (m : Int))
    refine z_i2l (by first | omega | omega) dMod_digest_189 ?_
    refine z_callS MS_Mod_add lk_Mod_210 dMod_digest_190 k_Mod_add rfl rfl (Nat.le_of_ble_eq_true rfl)  (Nat.le_of_ble_eq_true rfl) (Nat.le_of_ble_eq_true rfl) (Nat.le_of_eq (Nat.zero_add _)) (Nat.le_of_eq (Nat.zero_add _)) (fun _ _ q => q.elim) ?_
    rintro _ _ ⟨rfl, rfl⟩
    refine z_lstore_n dMod_digest_193 (Nat.le_of_ble_eq_true rfl) ?_
    refine z_iinc dMod_digest_194 rfl (Nat.le_of_ble_eq_true rfl) ?_
    refine z_goto (tgt := 178) dMod_digest_197 (by decide) ?_
    exact ih (m + 1) _ _ _ _ _ _ _ _ (by omega) (by omega)
theorem l_Mod_digE {mc ms bc bs : Nat} {Qn : Option Value → zHp → Prop} {Qx : String → zHp → Prop} {a : Nat} {L : List Int} (hr : zAr G h a L)
    (K : ∀ d y3 y4 y5 y6 y7 y8 y9 y10, zR G l (zMJ G hMod_digest 4 Qn Qx mc ms) bc bs h 239 [some (.ref (ma 0)), some (zl d), none, y3, y4, y5, y6, y7, y8, y9, y10] []) :
    ∀ (n m : Nat) (d : Int) (y6 y7 y8 y9 y10 : Option Value), L.length - m < n → m ≤ L.length → zR G l (zMJ G hMod_digest 4 Qn Qx mc ms) bc bs h 212 [some (.ref (ma 0)), some (zl d), none, some (.ref a), some (zi (L.length : Int)), some (zi (m : Int)), y6, y7, y8, y9, y10] [] := by
  intro n
  induction n with
  | zero => intro m d y6 y7 y8 y9 y10 x1 x2; omega
  | succ n ih =>
  intro m d y6 y7 y8 y9 y10 x1 x2
  obtain ⟨f, d1, d2, d3, d4⟩ := id hr
  refine z_iload dMod_digest_212 rfl ?_
  refine z_iload dMod_digest_214 rfl ?_
  refine z_icmp_ge (tgt := 239) dMod_digest_216 (by decide) (by omega) (by omega) (fun c216 => ?_) (fun c216 => ?_)
  · exact K _ _ _ _ _ _ _ _ _
  · have d4m := d4 m (by omega)
    refine z_aload_n dMod_digest_219 rfl ?_
    refine z_iload dMod_digest_220 rfl ?_
    refine z_iald dMod_digest_222 (by assumption) (by refine ⟨?_, ?_, ?_⟩ <;> omega) ?_
    rw [Int.toNat_natCast, d3 m (by omega)]
    refine z_istore dMod_digest_223 (Nat.le_of_ble_eq_true rfl) ?_
    refine z_lload_n dMod_digest_225 rfl ?_
    refine z_iload dMod_digest_226 rfl ?_
    refine z_i2l (by first | omega | omega) dMod_digest_228 ?_
    refine z_callS MS_Mod_add lk_Mod_210 dMod_digest_229 k_Mod_add rfl rfl (Nat.le_of_ble_eq_true rfl)  (Nat.le_of_ble_eq_true rfl) (Nat.le_of_ble_eq_true rfl) (Nat.le_of_eq (Nat.zero_add _)) (Nat.le_of_eq (Nat.zero_add _)) (fun _ _ q => q.elim) ?_
    rintro _ _ ⟨rfl, rfl⟩
    refine z_lstore_n dMod_digest_232 (Nat.le_of_ble_eq_true rfl) ?_
    refine z_iinc dMod_digest_233 rfl (Nat.le_of_ble_eq_true rfl) ?_
    refine z_goto (tgt := 212) dMod_digest_236 (by decide) ?_
    exact ih (m + 1) _ _ _ _ _ _ (by omega) (by omega)
theorem l_Mod_digF2 {mc ms bc bs : Nat} {Qn : Option Value → zHp → Prop} {Qx : String → zHp → Prop} {y8 y9 y10 : Option Value} {c a : Nat} {L : List Int} (H : zMod G h ma S 0) (hO : zOk S) (hA : zOkA S) (hr : zAr G h a L)
    (K : ∀ d y7, zR G l (zMJ G hMod_digest 4 Qn Qx mc ms) bc bs h 319 [some (.ref (ma 0)), some (zl d), none, some (.ref (ma 1)), some (zi (4 : Int)), some (zi (c : Int)), some (.ref a), y7, y8, y9, y10] []) :
    ∀ (n m : Nat) (d : Int), 3 - m < n → m ≤ 3 → zR G l (zMJ G hMod_digest 4 Qn Qx mc ms) bc bs h 285 [some (.ref (ma 0)), some (zl d), none, some (.ref (ma 1)), some (zi (4 : Int)), some (zi (c : Int)), some (.ref a), some (zi (m : Int)), y8, y9, y10] [] := by
  intro n
  induction n with
  | zero => intro m d x1 x2; omega
  | succ n ih =>
  intro m d x1 x2
  have oc1 := H.2.1
  refine z_aload dMod_digest_285 rfl ?_
  refine z_callS MS_Mod_isOrder lk_Mod_193 dMod_digest_287 (k_Mod_isOrder hr) rfl rfl (Nat.le_of_ble_eq_true rfl)  (Nat.le_of_ble_eq_true rfl) (Nat.le_of_ble_eq_true rfl) (Nat.le_of_eq (Nat.zero_add _)) (Nat.le_of_eq (Nat.zero_add _)) (fun _ _ q => q.elim) ?_
  rintro _ _ ⟨b7, rfl, hb7, rfl⟩
  refine z_if_eq (tgt := 319) dMod_digest_290 (by decide) (by omega) (fun c290 => ?_) (fun c290 => ?_)
  · exact K _ _
  · refine z_iload dMod_digest_293 rfl ?_
    refine z_iconst dMod_digest_295 ?_
    refine z_icmp_ge (tgt := 319) dMod_digest_296 (by decide) (by omega) (by omega) (fun c296 => ?_) (fun c296 => ?_)
    · exact K _ _
    · refine z_lload_n dMod_digest_299 rfl ?_
      refine z_aload_n dMod_digest_300 rfl ?_
      refine z_aload dMod_digest_301 rfl ?_
      refine z_iload dMod_digest_303 rfl ?_
      refine z_callV MV_Mod_byOrderNow lk_Mod_197 dMod_digest_305 (k_Mod_byOrderNow H hr (by omega) hO.2.2.2.1 (fun j hj => by have := hA j hj; omega)) rfl rfl (Nat.le_of_ble_eq_true rfl) rfl (by assumption) (Nat.le_of_ble_eq_true rfl) (Nat.le_of_ble_eq_true rfl) (Nat.le_of_eq (Nat.zero_add _)) (Nat.le_of_eq (Nat.zero_add _)) (fun _ _ q => q.elim) ?_
      rintro _ _ ⟨rfl, rfl⟩
      rw [zwd_i (zBo S L (m : Int))]
      have hw9 := zwd_r (zBo S L (m : Int))
      refine z_i2l (by first | omega | omega) dMod_digest_308 ?_
      refine z_callS MS_Mod_add lk_Mod_210 dMod_digest_309 k_Mod_add rfl rfl (Nat.le_of_ble_eq_true rfl)  (Nat.le_of_ble_eq_true rfl) (Nat.le_of_ble_eq_true rfl) (Nat.le_of_eq (Nat.zero_add _)) (Nat.le_of_eq (Nat.zero_add _)) (fun _ _ q => q.elim) ?_
      rintro _ _ ⟨rfl, rfl⟩
      refine z_lstore_n dMod_digest_312 (Nat.le_of_ble_eq_true rfl) ?_
      refine z_iinc dMod_digest_313 rfl (Nat.le_of_ble_eq_true rfl) ?_
      refine z_goto (tgt := 285) dMod_digest_316 (by decide) ?_
      exact ih (m + 1) _ (by omega) (by omega)
theorem l_Mod_digF {mc ms bc bs : Nat} {Qn : Option Value → zHp → Prop} {Qx : String → zHp → Prop} (H : zMod G h ma S 0) (hO : zOk S) (hA : zOkA S)
    (K : ∀ d y3 y4 y5 y6 y7 y8 y9 y10, zR G l (zMJ G hMod_digest 4 Qn Qx mc ms) bc bs h 325 [some (.ref (ma 0)), some (zl d), none, y3, y4, y5, y6, y7, y8, y9, y10] []) :
    ∀ (n m : Nat) (d : Int) (y6 y7 y8 y9 y10 : Option Value), 4 - m < n → m ≤ 4 → zR G l (zMJ G hMod_digest 4 Qn Qx mc ms) bc bs h 251 [some (.ref (ma 0)), some (zl d), none, some (.ref (ma 1)), some (zi (4 : Int)), some (zi (m : Int)), y6, y7, y8, y9, y10] [] := by
  intro n
  induction n with
  | zero => intro m d y6 y7 y8 y9 y10 x1 x2; omega
  | succ n ih =>
  intro m d y6 y7 y8 y9 y10 x1 x2
  obtain ⟨m1, m2, ⟨g, m3, m3a⟩, m4, ⟨f6, m5, m5a⟩, m6, m7⟩ := id H
  unfold zMfs at m2
  refine z_iload dMod_digest_251 rfl ?_
  refine z_iload dMod_digest_253 rfl ?_
  refine z_icmp_ge (tgt := 325) dMod_digest_255 (by decide) (by omega) (by omega) (fun c255 => ?_) (fun c255 => ?_)
  · exact K _ _ _ _ _ _ _ _ _
  · refine z_aload_n dMod_digest_258 rfl ?_
    refine z_iload dMod_digest_259 rfl ?_
    refine z_aald (t := 4) (ty := .array .int) rfl rfl dMod_digest_261 m3 (by refine ⟨?_, ?_, ?_⟩ <;> omega) ?_
    rw [Int.toNat_natCast, m3a m (by omega)]
    obtain ⟨fr, r1, r2, r3, r4⟩ := id (m6 m (by omega))
    refine z_astore dMod_digest_262 (Nat.le_of_ble_eq_true rfl) ?_
    refine z_lload_n dMod_digest_264 rfl ?_
    refine z_aload dMod_digest_265 rfl ?_
    refine z_callS MS_Mod_isOrder lk_Mod_193 dMod_digest_267 (k_Mod_isOrder (m6 m (by omega))) rfl rfl (Nat.le_of_ble_eq_true rfl)  (Nat.le_of_ble_eq_true rfl) (Nat.le_of_ble_eq_true rfl) (Nat.le_of_eq (Nat.zero_add _)) (Nat.le_of_eq (Nat.zero_add _)) (fun _ _ q => q.elim) ?_
    rintro _ _ ⟨b7, rfl, hb7, rfl⟩
    refine z_if_eq (tgt := 277) dMod_digest_270 (by decide) (by omega) (fun c270 => ?_) (fun c270 => ?_)
    · refine z_lconst dMod_digest_277 0 rfl ?_
      refine z_callS MS_Mod_add lk_Mod_210 dMod_digest_278 k_Mod_add rfl rfl (Nat.le_of_ble_eq_true rfl)  (Nat.le_of_ble_eq_true rfl) (Nat.le_of_ble_eq_true rfl) (Nat.le_of_eq (Nat.zero_add _)) (Nat.le_of_eq (Nat.zero_add _)) (fun _ _ q => q.elim) ?_
      rintro _ _ ⟨rfl, rfl⟩
      refine z_lstore_n dMod_digest_281 (Nat.le_of_ble_eq_true rfl) ?_
      refine z_iconst dMod_digest_282 ?_
      refine z_istore dMod_digest_283 (Nat.le_of_ble_eq_true rfl) ?_
      refine l_Mod_digF2 (c := m) H hO hA (m6 m (by omega)) (fun d2 y7 => ?_) 4 0 _ (by omega) (by omega)
      refine z_iinc dMod_digest_319 rfl (Nat.le_of_ble_eq_true rfl) ?_
      refine z_goto (tgt := 251) dMod_digest_322 (by decide) ?_
      exact ih (m + 1) _ _ _ _ _ _ (by omega) (by omega)
    · refine z_lconst dMod_digest_273 1 rfl ?_
      refine z_goto (tgt := 278) dMod_digest_274 (by decide) ?_
      refine z_callS MS_Mod_add lk_Mod_210 dMod_digest_278 k_Mod_add rfl rfl (Nat.le_of_ble_eq_true rfl)  (Nat.le_of_ble_eq_true rfl) (Nat.le_of_ble_eq_true rfl) (Nat.le_of_eq (Nat.zero_add _)) (Nat.le_of_eq (Nat.zero_add _)) (fun _ _ q => q.elim) ?_
      rintro _ _ ⟨rfl, rfl⟩
      refine z_lstore_n dMod_digest_281 (Nat.le_of_ble_eq_true rfl) ?_
      refine z_iconst dMod_digest_282 ?_
      refine z_istore dMod_digest_283 (Nat.le_of_ble_eq_true rfl) ?_
      refine l_Mod_digF2 (c := m) H hO hA (m6 m (by omega)) (fun d2 y7 => ?_) 4 0 _ (by omega) (by omega)
      refine z_iinc dMod_digest_319 rfl (Nat.le_of_ble_eq_true rfl) ?_
      refine z_goto (tgt := 251) dMod_digest_322 (by decide) ?_
      exact ih (m + 1) _ _ _ _ _ _ (by omega) (by omega)
end MOD23
end
section
section MOD24
variable {G : zG} {l : Launch} {h h' h'' : zHp} {ma : Nat → Nat} {S : zSt} {th : Int}
theorem k_Mod_digest (H : zMod G h ma S th) (hO : zOk S) (hA : zOkA S) (h16 : ∀ k, k < 4 → (S.1 k).length ≤ 16) : zM G l hMod_digest yMod_digest 4 [.ref (ma 0)] h (fun v h' => ∃ d, v = some (zl d) ∧ zMod G h' ma S 0 ∧ zMfr ma h h') zNo 23 133 := by
  obtain ⟨m1, m2, ⟨g, m3, m3a⟩, m4, ⟨f6, m5, m5a⟩, m6, m7⟩ := id H
  unfold zMfs at m2
  refine zM.of [some (.ref (ma 0)), none, none, none, none, none, none, none, none, none, none] (by decide +kernel) rfl (by decide) rfl (Nat.le_of_ble_eq_true rfl) rfl ?_
  refine z_aload_n dMod_digest_0 rfl ?_
  refine z_iconst dMod_digest_1 ?_
  refine z_put (k := 12) fd_Mod (by decide) fl_Mod_37 rfl dMod_digest_2 (by assumption) (by simp) rfl rfl ?_
  refine z_hx (fun h1 p1 f1 => ?_)
  have H1 : zMod G h1 ma S 0 := H.obj (nu := S.2.2.2.2) p1 f1
  have fz1 : zMfr ma h h1 := zMfr.of0 f1
  refine z_ldc2 (v := (7834 : Int64)) dMod_digest_5 (7834) (by decide) ct_Mod_208 ?_
  refine z_lstore_n dMod_digest_8 (Nat.le_of_ble_eq_true rfl) ?_
  refine z_iconst dMod_digest_9 ?_
  refine z_istore_n dMod_digest_10 (Nat.le_of_ble_eq_true rfl) ?_
  refine l_Mod_digA (h := h1) H1 hO hA h16 (fun bc bs h2 d y3 y4 y5 y6 y7 y8 y9 y10 _ _ z3 z4 hx2 => ?_) 6 0 23 133 h1 _ _ _ _ _ _ _ _ (by omega) (by omega) (by omega) (by omega) zExt.rf
  have H2 := H1.ext hx2
  have fz2 : zMfr ma h h2 := fz1.tr (zMfr.ext hx2)
  obtain ⟨-, v2, ⟨vg, v3, v3a⟩, -⟩ := id H2
  unfold zMfs at v2
  refine z_aload_n dMod_digest_33 rfl ?_
  refine z_get (k := 0) fd_Mod (by decide) fl_Mod_11 dMod_digest_34 (by assumption) (by rfl) ?_
  refine z_astore_n dMod_digest_37 (Nat.le_of_ble_eq_true rfl) ?_
  refine z_aload_n dMod_digest_38 rfl ?_
  refine z_alenR dMod_digest_39 v3 ?_
  refine z_istore dMod_digest_40 (Nat.le_of_ble_eq_true rfl) ?_
  refine z_iconst dMod_digest_42 ?_
  refine z_istore dMod_digest_43 (Nat.le_of_ble_eq_true rfl) ?_
  refine l_Mod_digB (h := h2) H2 (fun d y3 y4 y5 y6 y7 y8 y9 y10 => ?_) 5 0 _ _ _ _ _ _ (by omega) (by omega)
  refine z_iconst dMod_digest_134 ?_
  refine z_istore_n dMod_digest_135 (Nat.le_of_ble_eq_true rfl) ?_
  refine l_Mod_digC (h := h2) H2 hO hA h16 (fun bc3 bs3 h3 d y3 y4 y5 y6 y7 y8 y9 y10 hx3 => ?_) 4 0 _ _ h2 _ _ _ _ _ _ _ _ (by omega) (by omega) (by omega) (by omega) zExt.rf
  have H3 := H2.ext hx3
  have fz3 : zMfr ma h h3 := fz2.tr (zMfr.ext hx3)
  refine z_iconst dMod_digest_176 ?_
  refine z_istore_n dMod_digest_177 (Nat.le_of_ble_eq_true rfl) ?_
  refine l_Mod_digD (h := h3) H3 hO (fun d y3 y4 y5 y6 y7 y8 y9 y10 => ?_) 5 0 _ _ _ _ _ _ _ _ (by omega) (by omega)
  obtain ⟨-, u2, ⟨ug, u3, u3a⟩, -, -, u6, rk⟩ := id H3
  unfold zMfs at u2
  obtain ⟨fk, rk1, -⟩ := id rk
  refine z_aload_n dMod_digest_200 rfl ?_
  refine z_get (k := 6) fd_Mod (by decide) fl_Mod_31 dMod_digest_201 (by assumption) (by rfl) ?_
  refine z_astore_n dMod_digest_204 (Nat.le_of_ble_eq_true rfl) ?_
  refine z_aload_n dMod_digest_205 rfl ?_
  refine z_alenI dMod_digest_206 rk1 ?_
  refine z_istore dMod_digest_207 (Nat.le_of_ble_eq_true rfl) ?_
  refine z_iconst dMod_digest_209 ?_
  refine z_istore dMod_digest_210 (Nat.le_of_ble_eq_true rfl) ?_
  refine l_Mod_digE (h := h3) rk (fun d y3 y4 y5 y6 y7 y8 y9 y10 => ?_) (S.2.2.1.length + 1) 0 _ _ _ _ _ _ (by omega) (by omega)
  refine z_aload_n dMod_digest_239 rfl ?_
  refine z_get (k := 0) fd_Mod (by decide) fl_Mod_11 dMod_digest_240 (by assumption) (by rfl) ?_
  refine z_astore_n dMod_digest_243 (Nat.le_of_ble_eq_true rfl) ?_
  refine z_aload_n dMod_digest_244 rfl ?_
  refine z_alenR dMod_digest_245 u3 ?_
  refine z_istore dMod_digest_246 (Nat.le_of_ble_eq_true rfl) ?_
  refine z_iconst dMod_digest_248 ?_
  refine z_istore dMod_digest_249 (Nat.le_of_ble_eq_true rfl) ?_
  refine l_Mod_digF (h := h3) H3 hO hA (fun d y3 y4 y5 y6 y7 y8 y9 y10 => ?_) 5 0 _ _ _ _ _ _ (by omega) (by omega)
  refine z_lload_n dMod_digest_325 rfl ?_
  refine z_lconst dMod_digest_326 1 rfl ?_
  refine z_callS MS_Mod_add lk_Mod_210 dMod_digest_327 k_Mod_add rfl rfl (Nat.le_of_ble_eq_true rfl)  (Nat.le_of_ble_eq_true rfl) (Nat.le_of_ble_eq_true rfl) (Nat.le_of_eq (Nat.zero_add _)) (Nat.le_of_eq (Nat.zero_add _)) (fun _ _ q => q.elim) ?_
  rintro _ _ ⟨rfl, rfl⟩
  refine z_lret rfl dMod_digest_330 ?_
  exact ⟨_, rfl, H3, fz3⟩
end MOD24
end
