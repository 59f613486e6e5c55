section MOD16
variable {G : zG} {l : Launch} {h h' h'' : zHp} {ma : Nat → Nat} {S : zSt} {th : Int}
theorem zMod.cuE {S' : zSt} (H : zMod G h ma S th) (e1 : S'.1 = S.1) (e2 : S'.2.2 = S.2.2) (e : ∀ c, c < 3 → ∀ f, f < 5 → S'.2.1 c f = S.2.1 c f) : zMod G h ma S' th := by
  obtain ⟨m1, m2, m3, ⟨⟨f1, a1, b1⟩, ⟨f2, a2, b2⟩, ⟨f3, a3, b3⟩, ⟨f4, a4, b4⟩, ⟨f5, a5, b5⟩⟩, m5, m6, m7⟩ := id H
  obtain ⟨L', cu', r'⟩ := S'
  obtain ⟨L0, cu0, r0⟩ := S
  simp only at e1 e2
  subst e1 e2
  refine ⟨m1, m2, m3, ⟨⟨f1, a1, fun c hc => ?_⟩, ⟨f2, a2, fun c hc => ?_⟩, ⟨f3, a3, fun c hc => ?_⟩, ⟨f4, a4, fun c hc => ?_⟩, ⟨f5, a5, fun c hc => ?_⟩⟩, m5, m6, m7⟩
  · rw [e c hc 0 (by omega)]; exact b1 c hc
  · rw [e c hc 0 (by omega), e c hc 1 (by omega)]; exact b2 c hc
  · rw [e c hc 0 (by omega), e c hc 2 (by omega)]; exact b3 c hc
  · rw [e c hc 0 (by omega), e c hc 3 (by omega)]; exact b4 c hc
  · rw [e c hc 0 (by omega), e c hc 4 (by omega)]; exact b5 c hc
theorem zMt_dist {L : List Int} {ia la ib lb : Int} : ∀ m : Nat, (zMt L ia la ib lb m).2.1 < (zMt L ia la ib lb m).2.2.2.1 → (zMt L ia la ib lb m).2.2.2.1 - (zMt L ia la ib lb m).2.1 + m ≤ ib - ia
  | 0, _ => by unfold zMt; dsimp only; omega
  | m + 1, hs => by
    have ih := zMt_dist (L := L) (ia := ia) (la := la) (ib := ib) (lb := lb) m
    unfold zMt at hs ⊢
    split at hs
    · rename_i q
      rw [if_pos q]
      split at hs
      · rename_i q2
        rw [if_pos q2]
        dsimp only at hs ⊢
        omega
      · rename_i q2
        rw [if_neg q2]
        dsimp only at hs ⊢
        omega
    · rename_i q
      exact absurd hs q
theorem zMe_c {c o : Nat} {M : Int × Int × Int × Int × Int} (hne : c ≠ o) (f : Nat) : (zMeet S c o M).2.1 c f = zCv (S.2.1 c 0) (S.2.1 c 1) (S.2.1 c 2) M.2.1 M.2.2.1 f := by
  show zup (zup S.2.1 c _) o _ c f = _
  rw [zup_ne hne, zup_same]
theorem zMe_o {c o : Nat} {M : Int × Int × Int × Int × Int} (f : Nat) : (zMeet S c o M).2.1 o f = zCv (S.2.1 o 0) (S.2.1 o 1) (S.2.1 o 2) M.2.2.2.1 M.2.2.2.2 f := by
  show zup (zup S.2.1 c _) o _ o f = _
  rw [zup_same]
theorem zMe_uc {c o : Nat} {M : Int × Int × Int × Int × Int} {s ia la : Int} (hne : c ≠ o) : zsC (zMeet S c o M) (zup (zMeet S c o M).2.1 c (zCv (S.2.1 c 0) (S.2.1 c 1) (S.2.1 c 2) ia la)) = zMeet S c o (s, ia, la, M.2.2.2.1, M.2.2.2.2) := by
  have e : zup (zMeet S c o M).2.1 c (zCv (S.2.1 c 0) (S.2.1 c 1) (S.2.1 c 2) ia la) = (zMeet S c o (s, ia, la, M.2.2.2.1, M.2.2.2.2)).2.1 := by
    funext j
    by_cases e1 : j = c
    · subst e1
      rw [zup_same]
      show _ = zup (zup S.2.1 j _) o _ j
      rw [zup_ne hne, zup_same]
    · rw [zup_ne e1]
      show zup (zup S.2.1 c _) o _ j = zup (zup S.2.1 c _) o _ j
      by_cases e2 : j = o
      · subst e2
        rw [zup_same, zup_same]
      · rw [zup_ne e2, zup_ne e2, zup_ne e1, zup_ne e1]
  rw [e]
  rfl
theorem zMe_uo {c o : Nat} {M : Int × Int × Int × Int × Int} {s ib lb : Int} : zsC (zMeet S c o M) (zup (zMeet S c o M).2.1 o (zCv (S.2.1 o 0) (S.2.1 o 1) (S.2.1 o 2) ib lb)) = zMeet S c o (s, M.2.1, M.2.2.1, ib, lb) := by
  have e : zup (zMeet S c o M).2.1 o (zCv (S.2.1 o 0) (S.2.1 o 1) (S.2.1 o 2) ib lb) = (zMeet S c o (s, M.2.1, M.2.2.1, ib, lb)).2.1 := by
    funext j
    by_cases e1 : j = o
    · subst e1
      rw [zup_same]
      show _ = zup (zup S.2.1 c _) j _ j
      rw [zup_same]
    · rw [zup_ne e1]
      show zup (zup S.2.1 c _) o _ j = zup (zup S.2.1 c _) o _ j
      rw [zup_ne e1, zup_ne e1]
  rw [e]
  rfl
theorem l_Mod_meet {mc ms bc bs : Nat} {Qn : Option Value → zHp → Prop} {Qx : String → zHp → Prop} {c o kk : Nat} {n3 : Int} (hc : c < 3) (ho : o < 3) (hne : c ≠ o) (t1 : S.2.1 c 0 = 1) (t2 : S.2.1 o 0 = 1) (k1 : S.2.1 c 2 = (kk : Int)) (k2 : S.2.1 o 2 = (kk : Int)) (hkk : kk < 4) (h16 : ∀ k, k < 4 → (S.1 k).length ≤ 16) (h0 : 0 ≤ S.2.1 c 3 ∧ S.2.1 c 3 ≤ S.2.1 o 3 ∧ S.2.1 o 3 ≤ 16) (hl : S.2.1 o 3 ≤ (S.1 kk).length) (hla : -1 ≤ S.2.1 c 4 ∧ S.2.1 c 4 ≤ 15) (hlb : -1 ≤ S.2.1 o 4 ∧ S.2.1 o 4 ≤ 15)
    (K : ∀ (h1 : zHp) y, zMod G h1 ma (zMeet S c o (zMt (S.1 kk) (S.2.1 c 3) (S.2.1 c 4) (S.2.1 o 3) (S.2.1 o 4) 16)) th → (∀ z, z ≠ ma 5 → z ≠ ma 6 → h1 z = h z) → zR G l (zMJ G hMod_meet 4 Qn Qx mc ms) bc bs h1 179 [some (.ref (ma 0)), some (zi (c : Int)), some (zi (o : Int)), some (zi n3), some (zi (zMt (S.1 kk) (S.2.1 c 3) (S.2.1 c 4) (S.2.1 o 3) (S.2.1 o 4) 16).1), y] []) :
    ∀ (n m : Nat) (h1 : zHp), 16 - m < n → m ≤ 16 → zMod G h1 ma (zMeet S c o (zMt (S.1 kk) (S.2.1 c 3) (S.2.1 c 4) (S.2.1 o 3) (S.2.1 o 4) m)) th → (∀ z, z ≠ ma 5 → z ≠ ma 6 → h1 z = h z) → zR G l (zMJ G hMod_meet 4 Qn Qx mc ms) bc bs h1 124 [some (.ref (ma 0)), some (zi (c : Int)), some (zi (o : Int)), some (zi n3), some (zi (zMt (S.1 kk) (S.2.1 c 3) (S.2.1 c 4) (S.2.1 o 3) (S.2.1 o 4) m).1), some (zi (if m % 2 = 0 then 1 else 0))] [] := by
  intro n
  induction n with
  | zero => intro m h1 q1 q2 Hm hf; omega
  | succ n ih =>
  intro m h1 q1 q2 Hm hf
  have hin := zMt_in (L := S.1 kk) h0 hla hlb m
  have hdist := zMt_dist (L := S.1 kk) (ia := S.2.1 c 3) (la := S.2.1 c 4) (ib := S.2.1 o 3) (lb := S.2.1 o 4) m
  obtain ⟨-, m2, ⟨g, m3, m3a⟩, m4, -⟩ := id Hm
  unfold zMfs at m2
  have zc0 := zMe_c (S := S) (M := zMt (S.1 kk) (S.2.1 c 3) (S.2.1 c 4) (S.2.1 o 3) (S.2.1 o 4) m) hne 0
  have zc1 := zMe_c (S := S) (M := zMt (S.1 kk) (S.2.1 c 3) (S.2.1 c 4) (S.2.1 o 3) (S.2.1 o 4) m) hne 1
  have zc2 := zMe_c (S := S) (M := zMt (S.1 kk) (S.2.1 c 3) (S.2.1 c 4) (S.2.1 o 3) (S.2.1 o 4) m) hne 2
  have zc3 := zMe_c (S := S) (M := zMt (S.1 kk) (S.2.1 c 3) (S.2.1 c 4) (S.2.1 o 3) (S.2.1 o 4) m) hne 3
  have zo0 := zMe_o (S := S) (c := c) (o := o) (M := zMt (S.1 kk) (S.2.1 c 3) (S.2.1 c 4) (S.2.1 o 3) (S.2.1 o 4) m) 0
  have zo1 := zMe_o (S := S) (c := c) (o := o) (M := zMt (S.1 kk) (S.2.1 c 3) (S.2.1 c 4) (S.2.1 o 3) (S.2.1 o 4) m) 1
  have zo2 := zMe_o (S := S) (c := c) (o := o) (M := zMt (S.1 kk) (S.2.1 c 3) (S.2.1 c 4) (S.2.1 o 3) (S.2.1 o 4) m) 2
  have zo3 := zMe_o (S := S) (c := c) (o := o) (M := zMt (S.1 kk) (S.2.1 c 3) (S.2.1 c 4) (S.2.1 o 3) (S.2.1 o 4) m) 3
  simp only [zCv] at zc0 zc1 zc2 zc3 zo0 zo1 zo2 zo3
  obtain ⟨⟨v1, a1, b1⟩, ⟨v2, a2, b2⟩, ⟨v3, a3, b3⟩, ⟨v4, a4, b4⟩, ⟨v5, a5, b5⟩⟩ := id m4
  have y4c := ((b4 c hc).2 (zc0.trans t1)).trans zc3
  have y4o := ((b4 o ho).2 (zo0.trans t2)).trans zo3
  by_cases hev : m % 2 = 0
  · rw [if_pos hev]
    refine z_aload_n dMod_meet_124 rfl ?_
    refine z_get (k := 4) fd_Mod (by decide) fl_Mod_25 dMod_meet_125 (by assumption) (by rfl) ?_
    refine z_iload_n dMod_meet_128 rfl ?_
    refine z_iald dMod_meet_129 (by assumption) (by refine ⟨?_, ?_, ?_⟩ <;> omega) ?_
    rw [Int.toNat_natCast]
    rw [y4c]
    refine z_aload_n dMod_meet_130 rfl ?_
    refine z_get (k := 4) fd_Mod (by decide) fl_Mod_25 dMod_meet_131 (by assumption) (by rfl) ?_
    refine z_iload_n dMod_meet_134 rfl ?_
    refine z_iald dMod_meet_135 (by assumption) (by refine ⟨?_, ?_, ?_⟩ <;> omega) ?_
    rw [Int.toNat_natCast]
    rw [y4o]
    refine z_icmp_ge (tgt := 179) dMod_meet_136 (by decide) (by omega) (by omega) (fun c136 => ?_) (fun c136 => ?_)
    · have e9 := zMt_stay (L := S.1 kk) (ia := S.2.1 c 3) (la := S.2.1 c 4) (ib := S.2.1 o 3) (lb := S.2.1 o 4) (m := m) (by omega) (16 - m)
      rw [show m + (16 - m) = 16 by omega] at e9
      rw [← e9]
      exact K h1 _ (by rw [e9]; exact Hm) hf
    · refine z_iload dMod_meet_139 rfl ?_
      refine z_iload dMod_meet_141 rfl ?_
      refine z_if_eq (tgt := 155) dMod_meet_143 (by decide) (by omega) (fun c143 => ?_) (fun c143 => ?_)
      · exact absurd c143 (by decide)
      · refine z_aload_n dMod_meet_146 rfl ?_
        refine z_iload_n dMod_meet_147 rfl ?_
        refine z_iconst dMod_meet_148 ?_
        refine z_callV MV_Mod_goes lk_Mod_147 dMod_meet_149 (k_Mod_goesF Hm hc (zc0.trans t1) (zc2.trans k1) hkk h16 (by rw [zc3]; omega)) rfl rfl (Nat.le_of_ble_eq_true rfl) rfl (by assumption) (Nat.le_of_ble_eq_true rfl) (Nat.le_of_ble_eq_true rfl) (Nat.le_of_eq (Nat.zero_add _)) (Nat.le_of_eq (Nat.zero_add _)) (fun _ _ q => q.elim) ?_
        rintro _ h2 (⟨hP, rfl, H2, g2⟩ | ⟨hP, rfl, rfl⟩)
        rotate_left
        · rw [zc3, zc2, k1, Int.toNat_natCast] at hP
          have hP2 : ¬ (0 ≤ (zMt (S.1 kk) (S.2.1 c 3) (S.2.1 c 4) (S.2.1 o 3) (S.2.1 o 4) m).2.1 ∧ (zMt (S.1 kk) (S.2.1 c 3) (S.2.1 c 4) (S.2.1 o 3) (S.2.1 o 4) m).2.1 < ((S.1 kk).length : Int)) := hP
          omega
        rw [zc0, zc1, zc2, zc3, k1, ← k1, zMe_uc (s := (zMt (S.1 kk) (S.2.1 c 3) (S.2.1 c 4) (S.2.1 o 3) (S.2.1 o 4) m).1 + zAt (S.1 kk) (zMt (S.1 kk) (S.2.1 c 3) (S.2.1 c 4) (S.2.1 o 3) (S.2.1 o 4) m).2.1) hne, ← zMt_evn (by omega) hev] at H2
        rw [zc3, zc2, k1, Int.toNat_natCast]
        have ihE := ih (m + 1) h2 (by omega) (by omega) H2 (fun z z5 z6 => (g2 z z5 z6).trans (hf z z5 z6))
        rw [if_neg (by omega), zMt_evn (by omega) hev] at ihE
        refine z_goto (tgt := 161) dMod_meet_152 (by decide) ?_
        refine z_iadd dMod_meet_161 ?_
        refine z_istore dMod_meet_162 (Nat.le_of_ble_eq_true rfl) ?_
        refine z_iload dMod_meet_164 rfl ?_
        refine z_if_ne (tgt := 173) dMod_meet_166 (by decide) (by omega) (fun c166 => ?_) (fun c166 => absurd c166 (by decide))
        refine z_iconst dMod_meet_173 ?_
        refine z_istore dMod_meet_174 (Nat.le_of_ble_eq_true rfl) ?_
        refine z_goto (tgt := 124) dMod_meet_176 (by decide) ?_
        exact ihE
  · rw [if_neg hev]
    refine z_aload_n dMod_meet_124 rfl ?_
    refine z_get (k := 4) fd_Mod (by decide) fl_Mod_25 dMod_meet_125 (by assumption) (by rfl) ?_
    refine z_iload_n dMod_meet_128 rfl ?_
    refine z_iald dMod_meet_129 (by assumption) (by refine ⟨?_, ?_, ?_⟩ <;> omega) ?_
    rw [Int.toNat_natCast]
    rw [y4c]
    refine z_aload_n dMod_meet_130 rfl ?_
    refine z_get (k := 4) fd_Mod (by decide) fl_Mod_25 dMod_meet_131 (by assumption) (by rfl) ?_
    refine z_iload_n dMod_meet_134 rfl ?_
    refine z_iald dMod_meet_135 (by assumption) (by refine ⟨?_, ?_, ?_⟩ <;> omega) ?_
    rw [Int.toNat_natCast]
    rw [y4o]
    refine z_icmp_ge (tgt := 179) dMod_meet_136 (by decide) (by omega) (by omega) (fun c136 => ?_) (fun c136 => ?_)
    · have e9 := zMt_stay (L := S.1 kk) (ia := S.2.1 c 3) (la := S.2.1 c 4) (ib := S.2.1 o 3) (lb := S.2.1 o 4) (m := m) (by omega) (16 - m)
      rw [show m + (16 - m) = 16 by omega] at e9
      rw [← e9]
      exact K h1 _ (by rw [e9]; exact Hm) hf
    · refine z_iload dMod_meet_139 rfl ?_
      refine z_iload dMod_meet_141 rfl ?_
      refine z_if_eq (tgt := 155) dMod_meet_143 (by decide) (by omega) (fun c143 => ?_) (fun c143 => ?_)
      · refine z_aload_n dMod_meet_155 rfl ?_
        refine z_iload_n dMod_meet_156 rfl ?_
        refine z_iconst dMod_meet_157 ?_
        refine z_callV MV_Mod_goes lk_Mod_147 dMod_meet_158 (k_Mod_goesB Hm ho (zo0.trans t2) (zo2.trans k2) hkk h16 (by rw [zo3]; omega)) rfl rfl (Nat.le_of_ble_eq_true rfl) rfl (by assumption) (Nat.le_of_ble_eq_true rfl) (Nat.le_of_ble_eq_true rfl) (Nat.le_of_eq (Nat.zero_add _)) (Nat.le_of_eq (Nat.zero_add _)) (fun _ _ q => q.elim) ?_
        rintro _ h2 (⟨hP, rfl, H2, g2⟩ | ⟨hP, rfl, rfl⟩)
        rotate_left
        · rw [zo3, zo2, k2, Int.toNat_natCast] at hP
          have hP2 : ¬ (0 ≤ (zMt (S.1 kk) (S.2.1 c 3) (S.2.1 c 4) (S.2.1 o 3) (S.2.1 o 4) m).2.2.2.1 - 1 ∧ (zMt (S.1 kk) (S.2.1 c 3) (S.2.1 c 4) (S.2.1 o 3) (S.2.1 o 4) m).2.2.2.1 - 1 < ((S.1 kk).length : Int)) := hP
          omega
        rw [zo0, zo1, zo2, zo3, zMe_uo (s := (zMt (S.1 kk) (S.2.1 c 3) (S.2.1 c 4) (S.2.1 o 3) (S.2.1 o 4) m).1 + zAt (S.1 kk) ((zMt (S.1 kk) (S.2.1 c 3) (S.2.1 c 4) (S.2.1 o 3) (S.2.1 o 4) m).2.2.2.1 - 1)), ← zMt_odd (by omega) hev] at H2
        rw [zo3, zo2, k2, Int.toNat_natCast]
        have ihE := ih (m + 1) h2 (by omega) (by omega) H2 (fun z z5 z6 => (g2 z z5 z6).trans (hf z z5 z6))
        rw [if_pos (by omega), zMt_odd (by omega) hev] at ihE
        refine z_iadd dMod_meet_161 ?_
        refine z_istore dMod_meet_162 (Nat.le_of_ble_eq_true rfl) ?_
        refine z_iload dMod_meet_164 rfl ?_
        refine z_if_ne (tgt := 173) dMod_meet_166 (by decide) (by omega) (fun c166 => absurd rfl c166) (fun c166 => ?_)
        refine z_iconst dMod_meet_169 ?_
        refine z_goto (tgt := 174) dMod_meet_170 (by decide) ?_
        refine z_istore dMod_meet_174 (Nat.le_of_ble_eq_true rfl) ?_
        refine z_goto (tgt := 124) dMod_meet_176 (by decide) ?_
        exact ihE
      · exact absurd rfl c143
theorem l_Mod_meet65 {c o : Nat} {n3 : Int} {h1 : zHp} (H1 : zMod G h1 ma S 0) (fz1 : zMfr ma h h1) (hc : c < 3) (ho : o < 3) (hne : c ≠ o) (t1 : S.2.1 c 0 = 1) (t2 : S.2.1 o 0 = 1) (hO : zOk S) (h16 : ∀ k, k < 4 → (S.1 k).length ≤ 16) : zR G l (zMJ G hMod_meet 4 (zQm G ma h 1 2 3 (sp_meet S (c : Int) (o : Int))) zNo 0 0) 0 0 h1 65 [some (.ref (ma 0)), some (zi (c : Int)), some (zi (o : Int)), some (zi n3), none, none] [] := by
  obtain ⟨-, n2, ⟨g, n3a, n3b⟩, n4, -⟩ := id H1
  unfold zMfs at n2
  obtain ⟨⟨v1, a1, b1⟩, ⟨v2, a2, b2⟩, ⟨v3, a3, b3⟩, ⟨v4, a4, b4⟩, ⟨v5, a5, b5⟩⟩ := id n4
  have x1 := b1 c hc
  have y1 := b1 o ho
  have x2 := (b2 c hc).2 t1
  have y2 := (b2 o ho).2 t2
  have x3 := (b3 c hc).2 t1
  have y3 := (b3 o ho).2 t2
  have x4 := (b4 c hc).2 t1
  have y4 := (b4 o ho).2 t2
  have okc := hO.1 c hc t1
  have oko := hO.1 o ho t2
  obtain ⟨kk, ek⟩ := Int.eq_ofNat_of_zero_le okc.1.1
  have hkk : kk < 4 := by omega
  have b2c := (b2 c hc).1
  have b2o := (b2 o ho).1
  refine z_aload_n dMod_meet_65 rfl ?_
  refine z_get (k := 2) fd_Mod (by decide) fl_Mod_18 dMod_meet_66 (by assumption) (by rfl) ?_
  refine z_iload_n dMod_meet_69 rfl ?_
  refine z_zald dMod_meet_70 (by assumption) (by refine ⟨?_, ?_, ?_⟩ <;> omega) ?_
  rw [Int.toNat_natCast]
  rw [x2]
  refine z_if_ne (tgt := 113) dMod_meet_71 (by decide) (by omega) (fun c71 => ?_) (fun c71 => ?_)
  · refine z_aload_n dMod_meet_113 rfl ?_
    refine z_callV MV_Mod_refused lk_Mod_92 dMod_meet_114 (k_Mod_refused n2 rfl rfl) rfl rfl (Nat.le_of_ble_eq_true rfl) rfl (by assumption) (Nat.le_of_ble_eq_true rfl) (Nat.le_of_ble_eq_true rfl) (Nat.le_of_eq (Nat.zero_add _)) (Nat.le_of_eq (Nat.zero_add _)) (fun _ _ q => q.elim) ?_
    rintro _ h2 ⟨rfl, p2, g2⟩
    have H2 : zMod G h2 ma (zsRef S) 0 := H1.obj (nu := zup S.2.2.2.2 1 (S.2.2.2.2 1 + 1)) p2 g2
    have fz2 : zMfr ma h h2 := fz1.tr (zMfr.of0 g2)
    refine z_iret rfl rfl dMod_meet_117 ?_
    exact zQm.ok H2 rfl fz2 (by unfold sp_meet; (try simp only [Int.toNat_natCast]); (try simp only [ek, Int.toNat_natCast]); (repeat (first | rw [if_pos (by omega)] | rw [if_neg (by omega)])); (try rfl))
  · refine z_aload_n dMod_meet_74 rfl ?_
    refine z_get (k := 2) fd_Mod (by decide) fl_Mod_18 dMod_meet_75 (by assumption) (by rfl) ?_
    refine z_iload_n dMod_meet_78 rfl ?_
    refine z_zald dMod_meet_79 (by assumption) (by refine ⟨?_, ?_, ?_⟩ <;> omega) ?_
    rw [Int.toNat_natCast]
    rw [y2]
    refine z_if_ne (tgt := 113) dMod_meet_80 (by decide) (by omega) (fun c80 => ?_) (fun c80 => ?_)
    · refine z_aload_n dMod_meet_113 rfl ?_
      refine z_callV MV_Mod_refused lk_Mod_92 dMod_meet_114 (k_Mod_refused n2 rfl rfl) rfl rfl (Nat.le_of_ble_eq_true rfl) rfl (by assumption) (Nat.le_of_ble_eq_true rfl) (Nat.le_of_ble_eq_true rfl) (Nat.le_of_eq (Nat.zero_add _)) (Nat.le_of_eq (Nat.zero_add _)) (fun _ _ q => q.elim) ?_
      rintro _ h2 ⟨rfl, p2, g2⟩
      have H2 : zMod G h2 ma (zsRef S) 0 := H1.obj (nu := zup S.2.2.2.2 1 (S.2.2.2.2 1 + 1)) p2 g2
      have fz2 : zMfr ma h h2 := fz1.tr (zMfr.of0 g2)
      refine z_iret rfl rfl dMod_meet_117 ?_
      exact zQm.ok H2 rfl fz2 (by unfold sp_meet; (try simp only [Int.toNat_natCast]); (try simp only [ek, Int.toNat_natCast]); (repeat (first | rw [if_pos (by omega)] | rw [if_neg (by omega)])); (try rfl))
    · refine z_aload_n dMod_meet_83 rfl ?_
      refine z_get (k := 3) fd_Mod (by decide) fl_Mod_21 dMod_meet_84 (by assumption) (by rfl) ?_
      refine z_iload_n dMod_meet_87 rfl ?_
      refine z_iald dMod_meet_88 (by assumption) (by refine ⟨?_, ?_, ?_⟩ <;> omega) ?_
      rw [Int.toNat_natCast]
      rw [x3]
      refine z_aload_n dMod_meet_89 rfl ?_
      refine z_get (k := 3) fd_Mod (by decide) fl_Mod_21 dMod_meet_90 (by assumption) (by rfl) ?_
      refine z_iload_n dMod_meet_93 rfl ?_
      refine z_iald dMod_meet_94 (by assumption) (by refine ⟨?_, ?_, ?_⟩ <;> omega) ?_
      rw [Int.toNat_natCast]
      rw [y3]
      refine z_icmp_ne (tgt := 113) dMod_meet_95 (by decide) (by omega) (by omega) (fun c95 => ?_) (fun c95 => ?_)
      · refine z_aload_n dMod_meet_113 rfl ?_
        refine z_callV MV_Mod_refused lk_Mod_92 dMod_meet_114 (k_Mod_refused n2 rfl rfl) rfl rfl (Nat.le_of_ble_eq_true rfl) rfl (by assumption) (Nat.le_of_ble_eq_true rfl) (Nat.le_of_ble_eq_true rfl) (Nat.le_of_eq (Nat.zero_add _)) (Nat.le_of_eq (Nat.zero_add _)) (fun _ _ q => q.elim) ?_
        rintro _ h2 ⟨rfl, p2, g2⟩
        have H2 : zMod G h2 ma (zsRef S) 0 := H1.obj (nu := zup S.2.2.2.2 1 (S.2.2.2.2 1 + 1)) p2 g2
        have fz2 : zMfr ma h h2 := fz1.tr (zMfr.of0 g2)
        refine z_iret rfl rfl dMod_meet_117 ?_
        exact zQm.ok H2 rfl fz2 (by unfold sp_meet; (try simp only [Int.toNat_natCast]); (try simp only [ek, Int.toNat_natCast]); (repeat (first | rw [if_pos (by omega)] | rw [if_neg (by omega)])); (try rfl))
      · refine z_aload_n dMod_meet_98 rfl ?_
        refine z_get (k := 4) fd_Mod (by decide) fl_Mod_25 dMod_meet_99 (by assumption) (by rfl) ?_
        refine z_iload_n dMod_meet_102 rfl ?_
        refine z_iald dMod_meet_103 (by assumption) (by refine ⟨?_, ?_, ?_⟩ <;> omega) ?_
        rw [Int.toNat_natCast]
        rw [x4]
        refine z_aload_n dMod_meet_104 rfl ?_
        refine z_get (k := 4) fd_Mod (by decide) fl_Mod_25 dMod_meet_105 (by assumption) (by rfl) ?_
        refine z_iload_n dMod_meet_108 rfl ?_
        refine z_iald dMod_meet_109 (by assumption) (by refine ⟨?_, ?_, ?_⟩ <;> omega) ?_
        rw [Int.toNat_natCast]
        rw [y4]
        refine z_icmp_le (tgt := 118) dMod_meet_110 (by decide) (by omega) (by omega) (fun c110 => ?_) (fun c110 => ?_)
        · refine z_iconst dMod_meet_118 ?_
          refine z_istore dMod_meet_119 (Nat.le_of_ble_eq_true rfl) ?_
          refine z_iconst dMod_meet_121 ?_
          refine z_istore dMod_meet_122 (Nat.le_of_ble_eq_true rfl) ?_
          have k2 : S.2.1 o 2 = (kk : Int) := by omega
          have hl9 := (oko.2.2.2 (by omega)).1
          rw [k2, Int.toNat_natCast] at hl9
          refine l_Mod_meet (h := h1) (th := 0) hc ho hne t1 t2 ek k2 hkk h16 (by omega) (by omega) (by omega) (by omega) (fun h2 y H2 g2 => ?_) 17 0 h1 (by omega) (by omega) (H1.cuE rfl rfl (fun j hj f hf => ?_)) (fun z _ _ => rfl)
          · have fz2 : zMfr ma h h2 := fz1.tr (zMfr.of2 (i := 5) (j := 6) (by omega) (by omega) g2)
            refine z_iload dMod_meet_179 rfl ?_
            refine z_iret rfl rfl dMod_meet_181 ?_
            exact zQm.ok H2 rfl fz2 (by unfold sp_meet; (try simp only [Int.toNat_natCast]); (try simp only [ek, Int.toNat_natCast]); (repeat (first | rw [if_pos (by omega)] | rw [if_neg (by omega)])); (try rfl))
          · by_cases e1 : j = c
            · subst e1
              rw [zMe_c hne]
              rcases (show f = 0 ∨ f = 1 ∨ f = 2 ∨ f = 3 ∨ f = 4 by omega) with rfl | rfl | rfl | rfl | rfl <;> rfl
            · by_cases e2 : j = o
              · subst e2
                rw [zMe_o]
                rcases (show f = 0 ∨ f = 1 ∨ f = 2 ∨ f = 3 ∨ f = 4 by omega) with rfl | rfl | rfl | rfl | rfl <;> rfl
              · show zup (zup S.2.1 c _) o _ j f = _
                rw [zup_ne e2, zup_ne e1]
        · refine z_aload_n dMod_meet_113 rfl ?_
          refine z_callV MV_Mod_refused lk_Mod_92 dMod_meet_114 (k_Mod_refused n2 rfl rfl) rfl rfl (Nat.le_of_ble_eq_true rfl) rfl (by assumption) (Nat.le_of_ble_eq_true rfl) (Nat.le_of_ble_eq_true rfl) (Nat.le_of_eq (Nat.zero_add _)) (Nat.le_of_eq (Nat.zero_add _)) (fun _ _ q => q.elim) ?_
          rintro _ h2 ⟨rfl, p2, g2⟩
          have H2 : zMod G h2 ma (zsRef S) 0 := H1.obj (nu := zup S.2.2.2.2 1 (S.2.2.2.2 1 + 1)) p2 g2
          have fz2 : zMfr ma h h2 := fz1.tr (zMfr.of0 g2)
          refine z_iret rfl rfl dMod_meet_117 ?_
          exact zQm.ok H2 rfl fz2 (by unfold sp_meet; (try simp only [Int.toNat_natCast]); (try simp only [ek, Int.toNat_natCast]); (repeat (first | rw [if_pos (by omega)] | rw [if_neg (by omega)])); (try rfl))
theorem k_Mod_meet {p q : Int} (H : zMod G h ma S th) (z_p : zI32 p) (z_q : zI32 q) (hO : zOk S) (h16 : ∀ k, k < 4 → (S.1 k).length ≤ 16) : zM G l hMod_meet yMod_meet 4 [.ref (ma 0), zi p, zi q] h (zQm G ma h (1) (2) (3) (sp_meet S p q)) zNo 0 0 := by
  obtain ⟨m1, m2, ⟨g, m3, m3a⟩, m4, ⟨f6, m5, m5a⟩, m6, m7⟩ := id H
  unfold zMfs at m2
  refine zM.of [some (.ref (ma 0)), some (zi p), some (zi q), none, none, none] (by decide +kernel) rfl (by decide) rfl (Nat.le_of_ble_eq_true rfl) rfl ?_
  refine z_iload_n dMod_meet_0 rfl ?_
  refine z_callS MS_Mod_isNoCursor lk_Mod_141 dMod_meet_1 (k_Mod_isNoCursor (by omega)) rfl rfl (Nat.le_of_ble_eq_true rfl)  (Nat.le_of_ble_eq_true rfl) (Nat.le_of_ble_eq_true rfl) (Nat.le_of_eq (Nat.zero_add _)) (Nat.le_of_eq (Nat.zero_add _)) (fun _ _ q => q.elim) ?_
  rintro _ _ ⟨n9c, rfl, (⟨rfl, hn9c⟩ | ⟨rfl, hn9c⟩), rfl⟩
  · refine z_if_ne (tgt := 14) dMod_meet_4 (by decide) (by omega) (fun c4 => ?_) (fun c4 => ?_)
    · refine z_iconst dMod_meet_14 ?_
      refine z_goto (tgt := 19) dMod_meet_15 (by decide) ?_
      refine z_istore_n dMod_meet_19 (Nat.le_of_ble_eq_true rfl) ?_
      refine z_aload_n dMod_meet_20 rfl ?_
      refine z_iload_n dMod_meet_21 rfl ?_
      refine z_iload_n dMod_meet_22 rfl ?_
      refine z_iload_n dMod_meet_23 rfl ?_
      refine z_icmp_ne (tgt := 31) dMod_meet_24 (by decide) (by omega) (by omega) (fun c24 => ?_) (fun c24 => ?_)
      · refine z_iconst dMod_meet_31 ?_
        refine z_iload_n dMod_meet_32 rfl ?_
        refine z_if_ne (tgt := 56) dMod_meet_33 (by decide) (by omega) (fun c33 => ?_) (fun c33 => ?_)
        · refine z_iconst dMod_meet_56 ?_
          refine z_callV MV_Mod_fails lk_Mod_88 dMod_meet_57 (k_Mod_fails (by assumption) rfl (by omega) (by omega) (by omega)) rfl rfl (Nat.le_of_ble_eq_true rfl) rfl (by assumption) (Nat.le_of_ble_eq_true rfl) (Nat.le_of_ble_eq_true rfl) (Nat.le_of_eq (Nat.zero_add _)) (Nat.le_of_eq (Nat.zero_add _)) (fun _ _ q => q.elim) ?_
          rintro _ h1 ⟨t9, b8, rfl, ht, p1, g1⟩
          have H1 : zMod G h1 ma S t9 := H.obj (nu := S.2.2.2.2) (th' := t9) p1 g1
          have fz1 : zMfr ma h h1 := zMfr.of0 g1
          obtain ⟨-, n2, ⟨gg, n3, n3a⟩, n4, ⟨f61, n5, n5a⟩, n6, n7⟩ := id H1
          unfold zMfs at n2
          refine z_if_eq (tgt := 65) dMod_meet_60 (by decide) (by omega) (fun c60 => ?_) (fun c60 => ?_)
          · exfalso; omega
          · refine z_iconst dMod_meet_63 ?_
            refine z_iret rfl rfl dMod_meet_64 ?_
            rcases (show t9 = 0 ∨ t9 = 1 ∨ t9 = 2 ∨ t9 = 3 by omega) with t0 | t0 | t0 | t0
            all_goals first
              | (exfalso; omega)
              | exact zQm.ok H1 (by omega) (by assumption) (by unfold sp_meet; (try unfold spPut); (try simp only [Int.toNat_natCast]); (repeat (first | rw [if_pos (by omega)] | rw [if_neg (by omega)] | rw [if_pos (by assumption)] | rw [if_neg (by assumption)] | rw [if_pos (True.intro : True)])); (try (first | rfl | (congr 2; omega) | (congr 1; congr 1; omega))); done)
              | exact zQm.b1 H1 (by omega) (by assumption) (by unfold sp_meet; (try unfold spPut); (try simp only [Int.toNat_natCast]); (repeat (first | rw [if_pos (by omega)] | rw [if_neg (by omega)] | rw [if_pos (by assumption)] | rw [if_neg (by assumption)] | rw [if_pos (True.intro : True)])); (try (first | rfl | (congr 2; omega) | (congr 1; congr 1; omega))); done)
              | exact zQm.b2 H1 (by omega) (by assumption) (by unfold sp_meet; (try unfold spPut); (try simp only [Int.toNat_natCast]); (repeat (first | rw [if_pos (by omega)] | rw [if_neg (by omega)] | rw [if_pos (by assumption)] | rw [if_neg (by assumption)] | rw [if_pos (True.intro : True)])); (try (first | rfl | (congr 2; omega) | (congr 1; congr 1; omega))); done)
              | exact zQm.b3 H1 (by omega) (by assumption) (by unfold sp_meet; (try unfold spPut); (try simp only [Int.toNat_natCast]); (repeat (first | rw [if_pos (by omega)] | rw [if_neg (by omega)] | rw [if_pos (by assumption)] | rw [if_neg (by assumption)] | rw [if_pos (True.intro : True)])); (try (first | rfl | (congr 2; omega) | (congr 1; congr 1; omega))); done)
        · exfalso; omega
      · refine z_iconst dMod_meet_27 ?_
        refine z_goto (tgt := 32) dMod_meet_28 (by decide) ?_
        refine z_iload_n dMod_meet_32 rfl ?_
        refine z_if_ne (tgt := 56) dMod_meet_33 (by decide) (by omega) (fun c33 => ?_) (fun c33 => ?_)
        · refine z_iconst dMod_meet_56 ?_
          refine z_callV MV_Mod_fails lk_Mod_88 dMod_meet_57 (k_Mod_fails (by assumption) rfl (by omega) (by omega) (by omega)) rfl rfl (Nat.le_of_ble_eq_true rfl) rfl (by assumption) (Nat.le_of_ble_eq_true rfl) (Nat.le_of_ble_eq_true rfl) (Nat.le_of_eq (Nat.zero_add _)) (Nat.le_of_eq (Nat.zero_add _)) (fun _ _ q => q.elim) ?_
          rintro _ h1 ⟨t9, b8, rfl, ht, p1, g1⟩
          have H1 : zMod G h1 ma S t9 := H.obj (nu := S.2.2.2.2) (th' := t9) p1 g1
          have fz1 : zMfr ma h h1 := zMfr.of0 g1
          obtain ⟨-, n2, ⟨gg, n3, n3a⟩, n4, ⟨f61, n5, n5a⟩, n6, n7⟩ := id H1
          unfold zMfs at n2
          refine z_if_eq (tgt := 65) dMod_meet_60 (by decide) (by omega) (fun c60 => ?_) (fun c60 => ?_)
          · exfalso; omega
          · refine z_iconst dMod_meet_63 ?_
            refine z_iret rfl rfl dMod_meet_64 ?_
            rcases (show t9 = 0 ∨ t9 = 1 ∨ t9 = 2 ∨ t9 = 3 by omega) with t0 | t0 | t0 | t0
            all_goals first
              | (exfalso; omega)
              | exact zQm.ok H1 (by omega) (by assumption) (by unfold sp_meet; (try unfold spPut); (try simp only [Int.toNat_natCast]); (repeat (first | rw [if_pos (by omega)] | rw [if_neg (by omega)] | rw [if_pos (by assumption)] | rw [if_neg (by assumption)] | rw [if_pos (True.intro : True)])); (try (first | rfl | (congr 2; omega) | (congr 1; congr 1; omega))); done)
              | exact zQm.b1 H1 (by omega) (by assumption) (by unfold sp_meet; (try unfold spPut); (try simp only [Int.toNat_natCast]); (repeat (first | rw [if_pos (by omega)] | rw [if_neg (by omega)] | rw [if_pos (by assumption)] | rw [if_neg (by assumption)] | rw [if_pos (True.intro : True)])); (try (first | rfl | (congr 2; omega) | (congr 1; congr 1; omega))); done)
              | exact zQm.b2 H1 (by omega) (by assumption) (by unfold sp_meet; (try unfold spPut); (try simp only [Int.toNat_natCast]); (repeat (first | rw [if_pos (by omega)] | rw [if_neg (by omega)] | rw [if_pos (by assumption)] | rw [if_neg (by assumption)] | rw [if_pos (True.intro : True)])); (try (first | rfl | (congr 2; omega) | (congr 1; congr 1; omega))); done)
              | exact zQm.b3 H1 (by omega) (by assumption) (by unfold sp_meet; (try unfold spPut); (try simp only [Int.toNat_natCast]); (repeat (first | rw [if_pos (by omega)] | rw [if_neg (by omega)] | rw [if_pos (by assumption)] | rw [if_neg (by assumption)] | rw [if_pos (True.intro : True)])); (try (first | rfl | (congr 2; omega) | (congr 1; congr 1; omega))); done)
        · exfalso; omega
    · exfalso; omega
  · obtain ⟨c, rfl⟩ := Int.eq_ofNat_of_zero_le (show 0 ≤ p by omega)
    have hc : c < 3 := by omega
    refine z_if_ne (tgt := 14) dMod_meet_4 (by decide) (by omega) (fun c4 => ?_) (fun c4 => ?_)
    · exfalso; omega
    · refine z_iload_n dMod_meet_7 rfl ?_
      refine z_callS MS_Mod_isNoCursor lk_Mod_141 dMod_meet_8 (k_Mod_isNoCursor (by omega)) rfl rfl (Nat.le_of_ble_eq_true rfl)  (Nat.le_of_ble_eq_true rfl) (Nat.le_of_ble_eq_true rfl) (Nat.le_of_eq (Nat.zero_add _)) (Nat.le_of_eq (Nat.zero_add _)) (fun _ _ q => q.elim) ?_
      rintro _ _ ⟨n9o, rfl, (⟨rfl, hn9o⟩ | ⟨rfl, hn9o⟩), rfl⟩
      · refine z_if_eq (tgt := 18) dMod_meet_11 (by decide) (by omega) (fun c11 => ?_) (fun c11 => ?_)
        · exfalso; omega
        · refine z_iconst dMod_meet_14 ?_
          refine z_goto (tgt := 19) dMod_meet_15 (by decide) ?_
          refine z_istore_n dMod_meet_19 (Nat.le_of_ble_eq_true rfl) ?_
          refine z_aload_n dMod_meet_20 rfl ?_
          refine z_iload_n dMod_meet_21 rfl ?_
          refine z_iload_n dMod_meet_22 rfl ?_
          refine z_iload_n dMod_meet_23 rfl ?_
          refine z_icmp_ne (tgt := 31) dMod_meet_24 (by decide) (by omega) (by omega) (fun c24 => ?_) (fun c24 => ?_)
          · refine z_iconst dMod_meet_31 ?_
            refine z_iload_n dMod_meet_32 rfl ?_
            refine z_if_ne (tgt := 56) dMod_meet_33 (by decide) (by omega) (fun c33 => ?_) (fun c33 => ?_)
            · refine z_iconst dMod_meet_56 ?_
              refine z_callV MV_Mod_fails lk_Mod_88 dMod_meet_57 (k_Mod_fails (by assumption) rfl (by omega) (by omega) (by omega)) rfl rfl (Nat.le_of_ble_eq_true rfl) rfl (by assumption) (Nat.le_of_ble_eq_true rfl) (Nat.le_of_ble_eq_true rfl) (Nat.le_of_eq (Nat.zero_add _)) (Nat.le_of_eq (Nat.zero_add _)) (fun _ _ q => q.elim) ?_
              rintro _ h1 ⟨t9, b8, rfl, ht, p1, g1⟩
              have H1 : zMod G h1 ma S t9 := H.obj (nu := S.2.2.2.2) (th' := t9) p1 g1
              have fz1 : zMfr ma h h1 := zMfr.of0 g1
              obtain ⟨-, n2, ⟨gg, n3, n3a⟩, n4, ⟨f61, n5, n5a⟩, n6, n7⟩ := id H1
              unfold zMfs at n2
              refine z_if_eq (tgt := 65) dMod_meet_60 (by decide) (by omega) (fun c60 => ?_) (fun c60 => ?_)
              · exfalso; omega
              · refine z_iconst dMod_meet_63 ?_
                refine z_iret rfl rfl dMod_meet_64 ?_
                rcases (show t9 = 0 ∨ t9 = 1 ∨ t9 = 2 ∨ t9 = 3 by omega) with t0 | t0 | t0 | t0
                all_goals first
                  | (exfalso; omega)
                  | exact zQm.ok H1 (by omega) (by assumption) (by unfold sp_meet; (try unfold spPut); (try simp only [Int.toNat_natCast]); (repeat (first | rw [if_pos (by omega)] | rw [if_neg (by omega)] | rw [if_pos (by assumption)] | rw [if_neg (by assumption)] | rw [if_pos (True.intro : True)])); (try (first | rfl | (congr 2; omega) | (congr 1; congr 1; omega))); done)
                  | exact zQm.b1 H1 (by omega) (by assumption) (by unfold sp_meet; (try unfold spPut); (try simp only [Int.toNat_natCast]); (repeat (first | rw [if_pos (by omega)] | rw [if_neg (by omega)] | rw [if_pos (by assumption)] | rw [if_neg (by assumption)] | rw [if_pos (True.intro : True)])); (try (first | rfl | (congr 2; omega) | (congr 1; congr 1; omega))); done)
                  | exact zQm.b2 H1 (by omega) (by assumption) (by unfold sp_meet; (try unfold spPut); (try simp only [Int.toNat_natCast]); (repeat (first | rw [if_pos (by omega)] | rw [if_neg (by omega)] | rw [if_pos (by assumption)] | rw [if_neg (by assumption)] | rw [if_pos (True.intro : True)])); (try (first | rfl | (congr 2; omega) | (congr 1; congr 1; omega))); done)
                  | exact zQm.b3 H1 (by omega) (by assumption) (by unfold sp_meet; (try unfold spPut); (try simp only [Int.toNat_natCast]); (repeat (first | rw [if_pos (by omega)] | rw [if_neg (by omega)] | rw [if_pos (by assumption)] | rw [if_neg (by assumption)] | rw [if_pos (True.intro : True)])); (try (first | rfl | (congr 2; omega) | (congr 1; congr 1; omega))); done)
            · exfalso; omega
          · refine z_iconst dMod_meet_27 ?_
            refine z_goto (tgt := 32) dMod_meet_28 (by decide) ?_
            refine z_iload_n dMod_meet_32 rfl ?_
            refine z_if_ne (tgt := 56) dMod_meet_33 (by decide) (by omega) (fun c33 => ?_) (fun c33 => ?_)
            · refine z_iconst dMod_meet_56 ?_
              refine z_callV MV_Mod_fails lk_Mod_88 dMod_meet_57 (k_Mod_fails (by assumption) rfl (by omega) (by omega) (by omega)) rfl rfl (Nat.le_of_ble_eq_true rfl) rfl (by assumption) (Nat.le_of_ble_eq_true rfl) (Nat.le_of_ble_eq_true rfl) (Nat.le_of_eq (Nat.zero_add _)) (Nat.le_of_eq (Nat.zero_add _)) (fun _ _ q => q.elim) ?_
              rintro _ h1 ⟨t9, b8, rfl, ht, p1, g1⟩
              have H1 : zMod G h1 ma S t9 := H.obj (nu := S.2.2.2.2) (th' := t9) p1 g1
              have fz1 : zMfr ma h h1 := zMfr.of0 g1
              obtain ⟨-, n2, ⟨gg, n3, n3a⟩, n4, ⟨f61, n5, n5a⟩, n6, n7⟩ := id H1
              unfold zMfs at n2
              refine z_if_eq (tgt := 65) dMod_meet_60 (by decide) (by omega) (fun c60 => ?_) (fun c60 => ?_)
              · exfalso; omega
              · refine z_iconst dMod_meet_63 ?_
                refine z_iret rfl rfl dMod_meet_64 ?_
                rcases (show t9 = 0 ∨ t9 = 1 ∨ t9 = 2 ∨ t9 = 3 by omega) with t0 | t0 | t0 | t0
                all_goals first
                  | (exfalso; omega)
                  | exact zQm.ok H1 (by omega) (by assumption) (by unfold sp_meet; (try unfold spPut); (try simp only [Int.toNat_natCast]); (repeat (first | rw [if_pos (by omega)] | rw [if_neg (by omega)] | rw [if_pos (by assumption)] | rw [if_neg (by assumption)] | rw [if_pos (True.intro : True)])); (try (first | rfl | (congr 2; omega) | (congr 1; congr 1; omega))); done)
                  | exact zQm.b1 H1 (by omega) (by assumption) (by unfold sp_meet; (try unfold spPut); (try simp only [Int.toNat_natCast]); (repeat (first | rw [if_pos (by omega)] | rw [if_neg (by omega)] | rw [if_pos (by assumption)] | rw [if_neg (by assumption)] | rw [if_pos (True.intro : True)])); (try (first | rfl | (congr 2; omega) | (congr 1; congr 1; omega))); done)
                  | exact zQm.b2 H1 (by omega) (by assumption) (by unfold sp_meet; (try unfold spPut); (try simp only [Int.toNat_natCast]); (repeat (first | rw [if_pos (by omega)] | rw [if_neg (by omega)] | rw [if_pos (by assumption)] | rw [if_neg (by assumption)] | rw [if_pos (True.intro : True)])); (try (first | rfl | (congr 2; omega) | (congr 1; congr 1; omega))); done)
                  | exact zQm.b3 H1 (by omega) (by assumption) (by unfold sp_meet; (try unfold spPut); (try simp only [Int.toNat_natCast]); (repeat (first | rw [if_pos (by omega)] | rw [if_neg (by omega)] | rw [if_pos (by assumption)] | rw [if_neg (by assumption)] | rw [if_pos (True.intro : True)])); (try (first | rfl | (congr 2; omega) | (congr 1; congr 1; omega))); done)
            · exfalso; omega
      · obtain ⟨o, rfl⟩ := Int.eq_ofNat_of_zero_le (show 0 ≤ q by omega)
        have ho : o < 3 := by omega
        refine z_if_eq (tgt := 18) dMod_meet_11 (by decide) (by omega) (fun c11 => ?_) (fun c11 => ?_)
        · refine z_iconst dMod_meet_18 ?_
          refine z_istore_n dMod_meet_19 (Nat.le_of_ble_eq_true rfl) ?_
          refine z_aload_n dMod_meet_20 rfl ?_
          refine z_iload_n dMod_meet_21 rfl ?_
          refine z_iload_n dMod_meet_22 rfl ?_
          refine z_iload_n dMod_meet_23 rfl ?_
          refine z_icmp_ne (tgt := 31) dMod_meet_24 (by decide) (by omega) (by omega) (fun c24 => ?_) (fun c24 => ?_)
          · refine z_iconst dMod_meet_31 ?_
            refine z_iload_n dMod_meet_32 rfl ?_
            refine z_if_ne (tgt := 56) dMod_meet_33 (by decide) (by omega) (fun c33 => ?_) (fun c33 => ?_)
            · refine z_iconst dMod_meet_56 ?_
              refine z_callV MV_Mod_fails lk_Mod_88 dMod_meet_57 (k_Mod_fails (by assumption) rfl (by omega) (by omega) (by omega)) rfl rfl (Nat.le_of_ble_eq_true rfl) rfl (by assumption) (Nat.le_of_ble_eq_true rfl) (Nat.le_of_ble_eq_true rfl) (Nat.le_of_eq (Nat.zero_add _)) (Nat.le_of_eq (Nat.zero_add _)) (fun _ _ q => q.elim) ?_
              rintro _ h1 ⟨t9, b8, rfl, ht, p1, g1⟩
              have H1 : zMod G h1 ma S t9 := H.obj (nu := S.2.2.2.2) (th' := t9) p1 g1
              have fz1 : zMfr ma h h1 := zMfr.of0 g1
              obtain ⟨-, n2, ⟨gg, n3, n3a⟩, n4, ⟨f61, n5, n5a⟩, n6, n7⟩ := id H1
              unfold zMfs at n2
              refine z_if_eq (tgt := 65) dMod_meet_60 (by decide) (by omega) (fun c60 => ?_) (fun c60 => ?_)
              · first
                  | (exfalso; omega)
                  | (have et9 : t9 = 0 := by omega
                     subst et9
                     exact l_Mod_meet65 H1 fz1 hc ho (by omega) (by omega) (by omega) hO h16)
              · refine z_iconst dMod_meet_63 ?_
                refine z_iret rfl rfl dMod_meet_64 ?_
                rcases (show t9 = 0 ∨ t9 = 1 ∨ t9 = 2 ∨ t9 = 3 by omega) with t0 | t0 | t0 | t0
                all_goals first
                  | (exfalso; omega)
                  | exact zQm.ok H1 (by omega) (by assumption) (by unfold sp_meet; (try unfold spPut); (try simp only [Int.toNat_natCast]); (repeat (first | rw [if_pos (by omega)] | rw [if_neg (by omega)] | rw [if_pos (by assumption)] | rw [if_neg (by assumption)] | rw [if_pos (True.intro : True)])); (try (first | rfl | (congr 2; omega) | (congr 1; congr 1; omega))); done)
                  | exact zQm.b1 H1 (by omega) (by assumption) (by unfold sp_meet; (try unfold spPut); (try simp only [Int.toNat_natCast]); (repeat (first | rw [if_pos (by omega)] | rw [if_neg (by omega)] | rw [if_pos (by assumption)] | rw [if_neg (by assumption)] | rw [if_pos (True.intro : True)])); (try (first | rfl | (congr 2; omega) | (congr 1; congr 1; omega))); done)
                  | exact zQm.b2 H1 (by omega) (by assumption) (by unfold sp_meet; (try unfold spPut); (try simp only [Int.toNat_natCast]); (repeat (first | rw [if_pos (by omega)] | rw [if_neg (by omega)] | rw [if_pos (by assumption)] | rw [if_neg (by assumption)] | rw [if_pos (True.intro : True)])); (try (first | rfl | (congr 2; omega) | (congr 1; congr 1; omega))); done)
                  | exact zQm.b3 H1 (by omega) (by assumption) (by unfold sp_meet; (try unfold spPut); (try simp only [Int.toNat_natCast]); (repeat (first | rw [if_pos (by omega)] | rw [if_neg (by omega)] | rw [if_pos (by assumption)] | rw [if_neg (by assumption)] | rw [if_pos (True.intro : True)])); (try (first | rfl | (congr 2; omega) | (congr 1; congr 1; omega))); done)
            · refine z_aload_n dMod_meet_36 rfl ?_
              refine z_iload_n dMod_meet_37 rfl ?_
              refine z_callV MV_Mod_isNotThere lk_Mod_144 dMod_meet_38 (k_Mod_isNotThere H (by omega)) rfl rfl (Nat.le_of_ble_eq_true rfl) rfl (by assumption) (Nat.le_of_ble_eq_true rfl) (Nat.le_of_ble_eq_true rfl) (Nat.le_of_eq (Nat.zero_add _)) (Nat.le_of_eq (Nat.zero_add _)) (fun _ _ q => q.elim) ?_
              rintro _ _ ⟨t8a, rfl, ht8a, rfl⟩
              try simp only [Int.toNat_natCast] at ht8a
              refine z_if_ne (tgt := 52) dMod_meet_41 (by decide) (by omega) (fun c41 => ?_) (fun c41 => ?_)
              · refine z_iconst dMod_meet_52 ?_
                refine z_goto (tgt := 57) dMod_meet_53 (by decide) ?_
                refine z_callV MV_Mod_fails lk_Mod_88 dMod_meet_57 (k_Mod_fails (by assumption) rfl (by omega) (by omega) (by omega)) rfl rfl (Nat.le_of_ble_eq_true rfl) rfl (by assumption) (Nat.le_of_ble_eq_true rfl) (Nat.le_of_ble_eq_true rfl) (Nat.le_of_eq (Nat.zero_add _)) (Nat.le_of_eq (Nat.zero_add _)) (fun _ _ q => q.elim) ?_
                rintro _ h1 ⟨t9, b8, rfl, ht, p1, g1⟩
                have H1 : zMod G h1 ma S t9 := H.obj (nu := S.2.2.2.2) (th' := t9) p1 g1
                have fz1 : zMfr ma h h1 := zMfr.of0 g1
                obtain ⟨-, n2, ⟨gg, n3, n3a⟩, n4, ⟨f61, n5, n5a⟩, n6, n7⟩ := id H1
                unfold zMfs at n2
                refine z_if_eq (tgt := 65) dMod_meet_60 (by decide) (by omega) (fun c60 => ?_) (fun c60 => ?_)
                · first
                    | (exfalso; omega)
                    | (have et9 : t9 = 0 := by omega
                       subst et9
                       exact l_Mod_meet65 H1 fz1 hc ho (by omega) (by omega) (by omega) hO h16)
                · refine z_iconst dMod_meet_63 ?_
                  refine z_iret rfl rfl dMod_meet_64 ?_
                  rcases (show t9 = 0 ∨ t9 = 1 ∨ t9 = 2 ∨ t9 = 3 by omega) with t0 | t0 | t0 | t0
                  all_goals first
                    | (exfalso; omega)
                    | exact zQm.ok H1 (by omega) (by assumption) (by unfold sp_meet; (try unfold spPut); (try simp only [Int.toNat_natCast]); (repeat (first | rw [if_pos (by omega)] | rw [if_neg (by omega)] | rw [if_pos (by assumption)] | rw [if_neg (by assumption)] | rw [if_pos (True.intro : True)])); (try (first | rfl | (congr 2; omega) | (congr 1; congr 1; omega))); done)
                    | exact zQm.b1 H1 (by omega) (by assumption) (by unfold sp_meet; (try unfold spPut); (try simp only [Int.toNat_natCast]); (repeat (first | rw [if_pos (by omega)] | rw [if_neg (by omega)] | rw [if_pos (by assumption)] | rw [if_neg (by assumption)] | rw [if_pos (True.intro : True)])); (try (first | rfl | (congr 2; omega) | (congr 1; congr 1; omega))); done)
                    | exact zQm.b2 H1 (by omega) (by assumption) (by unfold sp_meet; (try unfold spPut); (try simp only [Int.toNat_natCast]); (repeat (first | rw [if_pos (by omega)] | rw [if_neg (by omega)] | rw [if_pos (by assumption)] | rw [if_neg (by assumption)] | rw [if_pos (True.intro : True)])); (try (first | rfl | (congr 2; omega) | (congr 1; congr 1; omega))); done)
                    | exact zQm.b3 H1 (by omega) (by assumption) (by unfold sp_meet; (try unfold spPut); (try simp only [Int.toNat_natCast]); (repeat (first | rw [if_pos (by omega)] | rw [if_neg (by omega)] | rw [if_pos (by assumption)] | rw [if_neg (by assumption)] | rw [if_pos (True.intro : True)])); (try (first | rfl | (congr 2; omega) | (congr 1; congr 1; omega))); done)
              · refine z_aload_n dMod_meet_44 rfl ?_
                refine z_iload_n dMod_meet_45 rfl ?_
                refine z_callV MV_Mod_isNotThere lk_Mod_144 dMod_meet_46 (k_Mod_isNotThere H (by omega)) rfl rfl (Nat.le_of_ble_eq_true rfl) rfl (by assumption) (Nat.le_of_ble_eq_true rfl) (Nat.le_of_ble_eq_true rfl) (Nat.le_of_eq (Nat.zero_add _)) (Nat.le_of_eq (Nat.zero_add _)) (fun _ _ q => q.elim) ?_
                rintro _ _ ⟨t8b, rfl, ht8b, rfl⟩
                try simp only [Int.toNat_natCast] at ht8b
                refine z_if_eq (tgt := 56) dMod_meet_49 (by decide) (by omega) (fun c49 => ?_) (fun c49 => ?_)
                · refine z_iconst dMod_meet_56 ?_
                  refine z_callV MV_Mod_fails lk_Mod_88 dMod_meet_57 (k_Mod_fails (by assumption) rfl (by omega) (by omega) (by omega)) rfl rfl (Nat.le_of_ble_eq_true rfl) rfl (by assumption) (Nat.le_of_ble_eq_true rfl) (Nat.le_of_ble_eq_true rfl) (Nat.le_of_eq (Nat.zero_add _)) (Nat.le_of_eq (Nat.zero_add _)) (fun _ _ q => q.elim) ?_
                  rintro _ h1 ⟨t9, b8, rfl, ht, p1, g1⟩
                  have H1 : zMod G h1 ma S t9 := H.obj (nu := S.2.2.2.2) (th' := t9) p1 g1
                  have fz1 : zMfr ma h h1 := zMfr.of0 g1
                  obtain ⟨-, n2, ⟨gg, n3, n3a⟩, n4, ⟨f61, n5, n5a⟩, n6, n7⟩ := id H1
                  unfold zMfs at n2
                  refine z_if_eq (tgt := 65) dMod_meet_60 (by decide) (by omega) (fun c60 => ?_) (fun c60 => ?_)
                  · first
                      | (exfalso; omega)
                      | (have et9 : t9 = 0 := by omega
                         subst et9
                         exact l_Mod_meet65 H1 fz1 hc ho (by omega) (by omega) (by omega) hO h16)
                  · refine z_iconst dMod_meet_63 ?_
                    refine z_iret rfl rfl dMod_meet_64 ?_
                    rcases (show t9 = 0 ∨ t9 = 1 ∨ t9 = 2 ∨ t9 = 3 by omega) with t0 | t0 | t0 | t0
                    all_goals first
                      | (exfalso; omega)
                      | exact zQm.ok H1 (by omega) (by assumption) (by unfold sp_meet; (try unfold spPut); (try simp only [Int.toNat_natCast]); (repeat (first | rw [if_pos (by omega)] | rw [if_neg (by omega)] | rw [if_pos (by assumption)] | rw [if_neg (by assumption)] | rw [if_pos (True.intro : True)])); (try (first | rfl | (congr 2; omega) | (congr 1; congr 1; omega))); done)
                      | exact zQm.b1 H1 (by omega) (by assumption) (by unfold sp_meet; (try unfold spPut); (try simp only [Int.toNat_natCast]); (repeat (first | rw [if_pos (by omega)] | rw [if_neg (by omega)] | rw [if_pos (by assumption)] | rw [if_neg (by assumption)] | rw [if_pos (True.intro : True)])); (try (first | rfl | (congr 2; omega) | (congr 1; congr 1; omega))); done)
                      | exact zQm.b2 H1 (by omega) (by assumption) (by unfold sp_meet; (try unfold spPut); (try simp only [Int.toNat_natCast]); (repeat (first | rw [if_pos (by omega)] | rw [if_neg (by omega)] | rw [if_pos (by assumption)] | rw [if_neg (by assumption)] | rw [if_pos (True.intro : True)])); (try (first | rfl | (congr 2; omega) | (congr 1; congr 1; omega))); done)
                      | exact zQm.b3 H1 (by omega) (by assumption) (by unfold sp_meet; (try unfold spPut); (try simp only [Int.toNat_natCast]); (repeat (first | rw [if_pos (by omega)] | rw [if_neg (by omega)] | rw [if_pos (by assumption)] | rw [if_neg (by assumption)] | rw [if_pos (True.intro : True)])); (try (first | rfl | (congr 2; omega) | (congr 1; congr 1; omega))); done)
                · refine z_iconst dMod_meet_52 ?_
                  refine z_goto (tgt := 57) dMod_meet_53 (by decide) ?_
                  refine z_callV MV_Mod_fails lk_Mod_88 dMod_meet_57 (k_Mod_fails (by assumption) rfl (by omega) (by omega) (by omega)) rfl rfl (Nat.le_of_ble_eq_true rfl) rfl (by assumption) (Nat.le_of_ble_eq_true rfl) (Nat.le_of_ble_eq_true rfl) (Nat.le_of_eq (Nat.zero_add _)) (Nat.le_of_eq (Nat.zero_add _)) (fun _ _ q => q.elim) ?_
                  rintro _ h1 ⟨t9, b8, rfl, ht, p1, g1⟩
                  have H1 : zMod G h1 ma S t9 := H.obj (nu := S.2.2.2.2) (th' := t9) p1 g1
                  have fz1 : zMfr ma h h1 := zMfr.of0 g1
                  obtain ⟨-, n2, ⟨gg, n3, n3a⟩, n4, ⟨f61, n5, n5a⟩, n6, n7⟩ := id H1
                  unfold zMfs at n2
                  refine z_if_eq (tgt := 65) dMod_meet_60 (by decide) (by omega) (fun c60 => ?_) (fun c60 => ?_)
                  · first
                      | (exfalso; omega)
                      | (have et9 : t9 = 0 := by omega
                         subst et9
                         exact l_Mod_meet65 H1 fz1 hc ho (by omega) (by omega) (by omega) hO h16)
                  · refine z_iconst dMod_meet_63 ?_
                    refine z_iret rfl rfl dMod_meet_64 ?_
                    rcases (show t9 = 0 ∨ t9 = 1 ∨ t9 = 2 ∨ t9 = 3 by omega) with t0 | t0 | t0 | t0
                    all_goals first
                      | (exfalso; omega)
                      | exact zQm.ok H1 (by omega) (by assumption) (by unfold sp_meet; (try unfold spPut); (try simp only [Int.toNat_natCast]); (repeat (first | rw [if_pos (by omega)] | rw [if_neg (by omega)] | rw [if_pos (by assumption)] | rw [if_neg (by assumption)] | rw [if_pos (True.intro : True)])); (try (first | rfl | (congr 2; omega) | (congr 1; congr 1; omega))); done)
                      | exact zQm.b1 H1 (by omega) (by assumption) (by unfold sp_meet; (try unfold spPut); (try simp only [Int.toNat_natCast]); (repeat (first | rw [if_pos (by omega)] | rw [if_neg (by omega)] | rw [if_pos (by assumption)] | rw [if_neg (by assumption)] | rw [if_pos (True.intro : True)])); (try (first | rfl | (congr 2; omega) | (congr 1; congr 1; omega))); done)
                      | exact zQm.b2 H1 (by omega) (by assumption) (by unfold sp_meet; (try unfold spPut); (try simp only [Int.toNat_natCast]); (repeat (first | rw [if_pos (by omega)] | rw [if_neg (by omega)] | rw [if_pos (by assumption)] | rw [if_neg (by assumption)] | rw [if_pos (True.intro : True)])); (try (first | rfl | (congr 2; omega) | (congr 1; congr 1; omega))); done)
                      | exact zQm.b3 H1 (by omega) (by assumption) (by unfold sp_meet; (try unfold spPut); (try simp only [Int.toNat_natCast]); (repeat (first | rw [if_pos (by omega)] | rw [if_neg (by omega)] | rw [if_pos (by assumption)] | rw [if_neg (by assumption)] | rw [if_pos (True.intro : True)])); (try (first | rfl | (congr 2; omega) | (congr 1; congr 1; omega))); done)
          · refine z_iconst dMod_meet_27 ?_
            refine z_goto (tgt := 32) dMod_meet_28 (by decide) ?_
            refine z_iload_n dMod_meet_32 rfl ?_
            refine z_if_ne (tgt := 56) dMod_meet_33 (by decide) (by omega) (fun c33 => ?_) (fun c33 => ?_)
            · refine z_iconst dMod_meet_56 ?_
              refine z_callV MV_Mod_fails lk_Mod_88 dMod_meet_57 (k_Mod_fails (by assumption) rfl (by omega) (by omega) (by omega)) rfl rfl (Nat.le_of_ble_eq_true rfl) rfl (by assumption) (Nat.le_of_ble_eq_true rfl) (Nat.le_of_ble_eq_true rfl) (Nat.le_of_eq (Nat.zero_add _)) (Nat.le_of_eq (Nat.zero_add _)) (fun _ _ q => q.elim) ?_
              rintro _ h1 ⟨t9, b8, rfl, ht, p1, g1⟩
              have H1 : zMod G h1 ma S t9 := H.obj (nu := S.2.2.2.2) (th' := t9) p1 g1
              have fz1 : zMfr ma h h1 := zMfr.of0 g1
              obtain ⟨-, n2, ⟨gg, n3, n3a⟩, n4, ⟨f61, n5, n5a⟩, n6, n7⟩ := id H1
              unfold zMfs at n2
              refine z_if_eq (tgt := 65) dMod_meet_60 (by decide) (by omega) (fun c60 => ?_) (fun c60 => ?_)
              · first
                  | (exfalso; omega)
                  | (have et9 : t9 = 0 := by omega
                     subst et9
                     exact l_Mod_meet65 H1 fz1 hc ho (by omega) (by omega) (by omega) hO h16)
              · refine z_iconst dMod_meet_63 ?_
                refine z_iret rfl rfl dMod_meet_64 ?_
                rcases (show t9 = 0 ∨ t9 = 1 ∨ t9 = 2 ∨ t9 = 3 by omega) with t0 | t0 | t0 | t0
                all_goals first
                  | (exfalso; omega)
                  | exact zQm.ok H1 (by omega) (by assumption) (by unfold sp_meet; (try unfold spPut); (try simp only [Int.toNat_natCast]); (repeat (first | rw [if_pos (by omega)] | rw [if_neg (by omega)] | rw [if_pos (by assumption)] | rw [if_neg (by assumption)] | rw [if_pos (True.intro : True)])); (try (first | rfl | (congr 2; omega) | (congr 1; congr 1; omega))); done)
                  | exact zQm.b1 H1 (by omega) (by assumption) (by unfold sp_meet; (try unfold spPut); (try simp only [Int.toNat_natCast]); (repeat (first | rw [if_pos (by omega)] | rw [if_neg (by omega)] | rw [if_pos (by assumption)] | rw [if_neg (by assumption)] | rw [if_pos (True.intro : True)])); (try (first | rfl | (congr 2; omega) | (congr 1; congr 1; omega))); done)
                  | exact zQm.b2 H1 (by omega) (by assumption) (by unfold sp_meet; (try unfold spPut); (try simp only [Int.toNat_natCast]); (repeat (first | rw [if_pos (by omega)] | rw [if_neg (by omega)] | rw [if_pos (by assumption)] | rw [if_neg (by assumption)] | rw [if_pos (True.intro : True)])); (try (first | rfl | (congr 2; omega) | (congr 1; congr 1; omega))); done)
                  | exact zQm.b3 H1 (by omega) (by assumption) (by unfold sp_meet; (try unfold spPut); (try simp only [Int.toNat_natCast]); (repeat (first | rw [if_pos (by omega)] | rw [if_neg (by omega)] | rw [if_pos (by assumption)] | rw [if_neg (by assumption)] | rw [if_pos (True.intro : True)])); (try (first | rfl | (congr 2; omega) | (congr 1; congr 1; omega))); done)
            · refine z_aload_n dMod_meet_36 rfl ?_
              refine z_iload_n dMod_meet_37 rfl ?_
              refine z_callV MV_Mod_isNotThere lk_Mod_144 dMod_meet_38 (k_Mod_isNotThere H (by omega)) rfl rfl (Nat.le_of_ble_eq_true rfl) rfl (by assumption) (Nat.le_of_ble_eq_true rfl) (Nat.le_of_ble_eq_true rfl) (Nat.le_of_eq (Nat.zero_add _)) (Nat.le_of_eq (Nat.zero_add _)) (fun _ _ q => q.elim) ?_
              rintro _ _ ⟨t8a, rfl, ht8a, rfl⟩
              try simp only [Int.toNat_natCast] at ht8a
              refine z_if_ne (tgt := 52) dMod_meet_41 (by decide) (by omega) (fun c41 => ?_) (fun c41 => ?_)
              · refine z_iconst dMod_meet_52 ?_
                refine z_goto (tgt := 57) dMod_meet_53 (by decide) ?_
                refine z_callV MV_Mod_fails lk_Mod_88 dMod_meet_57 (k_Mod_fails (by assumption) rfl (by omega) (by omega) (by omega)) rfl rfl (Nat.le_of_ble_eq_true rfl) rfl (by assumption) (Nat.le_of_ble_eq_true rfl) (Nat.le_of_ble_eq_true rfl) (Nat.le_of_eq (Nat.zero_add _)) (Nat.le_of_eq (Nat.zero_add _)) (fun _ _ q => q.elim) ?_
                rintro _ h1 ⟨t9, b8, rfl, ht, p1, g1⟩
                have H1 : zMod G h1 ma S t9 := H.obj (nu := S.2.2.2.2) (th' := t9) p1 g1
                have fz1 : zMfr ma h h1 := zMfr.of0 g1
                obtain ⟨-, n2, ⟨gg, n3, n3a⟩, n4, ⟨f61, n5, n5a⟩, n6, n7⟩ := id H1
                unfold zMfs at n2
                refine z_if_eq (tgt := 65) dMod_meet_60 (by decide) (by omega) (fun c60 => ?_) (fun c60 => ?_)
                · first
                    | (exfalso; omega)
                    | (have et9 : t9 = 0 := by omega
                       subst et9
                       exact l_Mod_meet65 H1 fz1 hc ho (by omega) (by omega) (by omega) hO h16)
                · refine z_iconst dMod_meet_63 ?_
                  refine z_iret rfl rfl dMod_meet_64 ?_
                  rcases (show t9 = 0 ∨ t9 = 1 ∨ t9 = 2 ∨ t9 = 3 by omega) with t0 | t0 | t0 | t0
                  all_goals first
                    | (exfalso; omega)
                    | exact zQm.ok H1 (by omega) (by assumption) (by unfold sp_meet; (try unfold spPut); (try simp only [Int.toNat_natCast]); (repeat (first | rw [if_pos (by omega)] | rw [if_neg (by omega)] | rw [if_pos (by assumption)] | rw [if_neg (by assumption)] | rw [if_pos (True.intro : True)])); (try (first | rfl | (congr 2; omega) | (congr 1; congr 1; omega))); done)
                    | exact zQm.b1 H1 (by omega) (by assumption) (by unfold sp_meet; (try unfold spPut); (try simp only [Int.toNat_natCast]); (repeat (first | rw [if_pos (by omega)] | rw [if_neg (by omega)] | rw [if_pos (by assumption)] | rw [if_neg (by assumption)] | rw [if_pos (True.intro : True)])); (try (first | rfl | (congr 2; omega) | (congr 1; congr 1; omega))); done)
                    | exact zQm.b2 H1 (by omega) (by assumption) (by unfold sp_meet; (try unfold spPut); (try simp only [Int.toNat_natCast]); (repeat (first | rw [if_pos (by omega)] | rw [if_neg (by omega)] | rw [if_pos (by assumption)] | rw [if_neg (by assumption)] | rw [if_pos (True.intro : True)])); (try (first | rfl | (congr 2; omega) | (congr 1; congr 1; omega))); done)
                    | exact zQm.b3 H1 (by omega) (by assumption) (by unfold sp_meet; (try unfold spPut); (try simp only [Int.toNat_natCast]); (repeat (first | rw [if_pos (by omega)] | rw [if_neg (by omega)] | rw [if_pos (by assumption)] | rw [if_neg (by assumption)] | rw [if_pos (True.intro : True)])); (try (first | rfl | (congr 2; omega) | (congr 1; congr 1; omega))); done)
              · refine z_aload_n dMod_meet_44 rfl ?_
                refine z_iload_n dMod_meet_45 rfl ?_
                refine z_callV MV_Mod_isNotThere lk_Mod_144 dMod_meet_46 (k_Mod_isNotThere H (by omega)) rfl rfl (Nat.le_of_ble_eq_true rfl) rfl (by assumption) (Nat.le_of_ble_eq_true rfl) (Nat.le_of_ble_eq_true rfl) (Nat.le_of_eq (Nat.zero_add _)) (Nat.le_of_eq (Nat.zero_add _)) (fun _ _ q => q.elim) ?_
                rintro _ _ ⟨t8b, rfl, ht8b, rfl⟩
                try simp only [Int.toNat_natCast] at ht8b
                refine z_if_eq (tgt := 56) dMod_meet_49 (by decide) (by omega) (fun c49 => ?_) (fun c49 => ?_)
                · refine z_iconst dMod_meet_56 ?_
                  refine z_callV MV_Mod_fails lk_Mod_88 dMod_meet_57 (k_Mod_fails (by assumption) rfl (by omega) (by omega) (by omega)) rfl rfl (Nat.le_of_ble_eq_true rfl) rfl (by assumption) (Nat.le_of_ble_eq_true rfl) (Nat.le_of_ble_eq_true rfl) (Nat.le_of_eq (Nat.zero_add _)) (Nat.le_of_eq (Nat.zero_add _)) (fun _ _ q => q.elim) ?_
                  rintro _ h1 ⟨t9, b8, rfl, ht, p1, g1⟩
                  have H1 : zMod G h1 ma S t9 := H.obj (nu := S.2.2.2.2) (th' := t9) p1 g1
                  have fz1 : zMfr ma h h1 := zMfr.of0 g1
                  obtain ⟨-, n2, ⟨gg, n3, n3a⟩, n4, ⟨f61, n5, n5a⟩, n6, n7⟩ := id H1
                  unfold zMfs at n2
                  refine z_if_eq (tgt := 65) dMod_meet_60 (by decide) (by omega) (fun c60 => ?_) (fun c60 => ?_)
                  · first
                      | (exfalso; omega)
                      | (have et9 : t9 = 0 := by omega
                         subst et9
                         exact l_Mod_meet65 H1 fz1 hc ho (by omega) (by omega) (by omega) hO h16)
                  · refine z_iconst dMod_meet_63 ?_
                    refine z_iret rfl rfl dMod_meet_64 ?_
                    rcases (show t9 = 0 ∨ t9 = 1 ∨ t9 = 2 ∨ t9 = 3 by omega) with t0 | t0 | t0 | t0
                    all_goals first
                      | (exfalso; omega)
                      | exact zQm.ok H1 (by omega) (by assumption) (by unfold sp_meet; (try unfold spPut); (try simp only [Int.toNat_natCast]); (repeat (first | rw [if_pos (by omega)] | rw [if_neg (by omega)] | rw [if_pos (by assumption)] | rw [if_neg (by assumption)] | rw [if_pos (True.intro : True)])); (try (first | rfl | (congr 2; omega) | (congr 1; congr 1; omega))); done)
                      | exact zQm.b1 H1 (by omega) (by assumption) (by unfold sp_meet; (try unfold spPut); (try simp only [Int.toNat_natCast]); (repeat (first | rw [if_pos (by omega)] | rw [if_neg (by omega)] | rw [if_pos (by assumption)] | rw [if_neg (by assumption)] | rw [if_pos (True.intro : True)])); (try (first | rfl | (congr 2; omega) | (congr 1; congr 1; omega))); done)
                      | exact zQm.b2 H1 (by omega) (by assumption) (by unfold sp_meet; (try unfold spPut); (try simp only [Int.toNat_natCast]); (repeat (first | rw [if_pos (by omega)] | rw [if_neg (by omega)] | rw [if_pos (by assumption)] | rw [if_neg (by assumption)] | rw [if_pos (True.intro : True)])); (try (first | rfl | (congr 2; omega) | (congr 1; congr 1; omega))); done)
                      | exact zQm.b3 H1 (by omega) (by assumption) (by unfold sp_meet; (try unfold spPut); (try simp only [Int.toNat_natCast]); (repeat (first | rw [if_pos (by omega)] | rw [if_neg (by omega)] | rw [if_pos (by assumption)] | rw [if_neg (by assumption)] | rw [if_pos (True.intro : True)])); (try (first | rfl | (congr 2; omega) | (congr 1; congr 1; omega))); done)
                · refine z_iconst dMod_meet_52 ?_
                  refine z_goto (tgt := 57) dMod_meet_53 (by decide) ?_
                  refine z_callV MV_Mod_fails lk_Mod_88 dMod_meet_57 (k_Mod_fails (by assumption) rfl (by omega) (by omega) (by omega)) rfl rfl (Nat.le_of_ble_eq_true rfl) rfl (by assumption) (Nat.le_of_ble_eq_true rfl) (Nat.le_of_ble_eq_true rfl) (Nat.le_of_eq (Nat.zero_add _)) (Nat.le_of_eq (Nat.zero_add _)) (fun _ _ q => q.elim) ?_
                  rintro _ h1 ⟨t9, b8, rfl, ht, p1, g1⟩
                  have H1 : zMod G h1 ma S t9 := H.obj (nu := S.2.2.2.2) (th' := t9) p1 g1
                  have fz1 : zMfr ma h h1 := zMfr.of0 g1
                  obtain ⟨-, n2, ⟨gg, n3, n3a⟩, n4, ⟨f61, n5, n5a⟩, n6, n7⟩ := id H1
                  unfold zMfs at n2
                  refine z_if_eq (tgt := 65) dMod_meet_60 (by decide) (by omega) (fun c60 => ?_) (fun c60 => ?_)
                  · first
                      | (exfalso; omega)
                      | (have et9 : t9 = 0 := by omega
                         subst et9
                         exact l_Mod_meet65 H1 fz1 hc ho (by omega) (by omega) (by omega) hO h16)
                  · refine z_iconst dMod_meet_63 ?_
                    refine z_iret rfl rfl dMod_meet_64 ?_
                    rcases (show t9 = 0 ∨ t9 = 1 ∨ t9 = 2 ∨ t9 = 3 by omega) with t0 | t0 | t0 | t0
                    all_goals first
                      | (exfalso; omega)
                      | exact zQm.ok H1 (by omega) (by assumption) (by unfold sp_meet; (try unfold spPut); (try simp only [Int.toNat_natCast]); (repeat (first | rw [if_pos (by omega)] | rw [if_neg (by omega)] | rw [if_pos (by assumption)] | rw [if_neg (by assumption)] | rw [if_pos (True.intro : True)])); (try (first | rfl | (congr 2; omega) | (congr 1; congr 1; omega))); done)
                      | exact zQm.b1 H1 (by omega) (by assumption) (by unfold sp_meet; (try unfold spPut); (try simp only [Int.toNat_natCast]); (repeat (first | rw [if_pos (by omega)] | rw [if_neg (by omega)] | rw [if_pos (by assumption)] | rw [if_neg (by assumption)] | rw [if_pos (True.intro : True)])); (try (first | rfl | (congr 2; omega) | (congr 1; congr 1; omega))); done)
                      | exact zQm.b2 H1 (by omega) (by assumption) (by unfold sp_meet; (try unfold spPut); (try simp only [Int.toNat_natCast]); (repeat (first | rw [if_pos (by omega)] | rw [if_neg (by omega)] | rw [if_pos (by assumption)] | rw [if_neg (by assumption)] | rw [if_pos (True.intro : True)])); (try (first | rfl | (congr 2; omega) | (congr 1; congr 1; omega))); done)
                      | exact zQm.b3 H1 (by omega) (by assumption) (by unfold sp_meet; (try unfold spPut); (try simp only [Int.toNat_natCast]); (repeat (first | rw [if_pos (by omega)] | rw [if_neg (by omega)] | rw [if_pos (by assumption)] | rw [if_neg (by assumption)] | rw [if_pos (True.intro : True)])); (try (first | rfl | (congr 2; omega) | (congr 1; congr 1; omega))); done)
        · exfalso; omega
end MOD16
