section MOD7
variable {G : zG} {l : Launch} {h h' : zHp} {ma : Nat → Nat} {S : zSt} {th : Int}
theorem zior1 {x : Int} (hx : x = 0 ∨ x = 1) : zI x ||| zI 1 = zI 1 := by rcases hx with rfl | rfl <;> decide
theorem zior0 {x : Int} (hx : x = 0 ∨ x = 1) : zI x ||| zI 0 = zI x := by rcases hx with rfl | rfl <;> decide
theorem znar {x : Int} (hx : x = 0 ∨ x = 1) : vp_nar .boolean (zI x) = zI x := by rcases hx with rfl | rfl <;> rfl
def zSv (cu : Nat → Nat → Int) (k but : Int) (m c : Nat) : Int := if c < m ∧ cu c 0 = 1 ∧ cu c 2 = k ∧ (c : Int) ≠ but then 1 else cu c 1
theorem l_Mod_become {d mc ms bc bs : Nat} {Qn : Option Value → zHp → Prop} {Qx : String → zHp → Prop} {q k : Nat} {but : Int} {g : Nat → Option Nat} {f1 f3 : Nat → Int} {fs : List Value} {cu : Nat → Nat → Int} (hfs : fs = zMfs ma S th) (hb : zI32 but) (hk : k < 4) (n1 : ma 0 ≠ ma 3) (n2 : ma 2 ≠ ma 3) (n3 : ma 4 ≠ ma 3) (m2 : h (ma 0) = some (.inr (zkMod, zMfs ma S th))) (a1 : h (ma 2) = some (zBools G 3 f1)) (b1 : ∀ c, c < 3 → f1 c = cu c 0 ∧ (cu c 0 = 0 ∨ cu c 0 = 1)) (a3 : h (ma 4) = some (zInts G 3 f3)) (b3 : ∀ c, c < 3 → zI32 (f3 c) ∧ (cu c 0 = 1 → f3 c = cu c 2))
    (K : ∀ (h1 : zHp) (f : Nat → Int) y, h1 (ma 3) = some (zBools G 3 f) → (∀ c, c < 3 → (f c = 0 ∨ f c = 1) ∧ (cu c 0 = 1 → f c = zSv cu k but 3 c)) → (∀ z, z ≠ ma 3 → h1 z = h z) → zR G l (zMJ G hMod_become d Qn Qx mc ms) bc bs h1 64 [some (.ref (ma 0)), some (zi (k : Int)), some (.ref q), some (zi but), y] []) :
    ∀ (n : Nat) (m : Nat) (h1 : zHp) (f : Nat → Int), 3 - m < n → m ≤ 3 → h1 (ma 3) = some (zBools G 3 f) → (∀ c, c < 3 → (f c = 0 ∨ f c = 1) ∧ (cu c 0 = 1 → f c = zSv cu k but m c)) → (∀ z, z ≠ ma 3 → h1 z = h z) → zR G l (zMJ G hMod_become d Qn Qx mc ms) bc bs h1 10 [some (.ref (ma 0)), some (zi (k : Int)), some (.ref q), some (zi but), some (zi (m : Int))] [] := by
  intro n
  induction n with
  | zero => intro m h1 f q1 q2 e1 e2 hf; omega
  | succ n ih =>
  intro m h1 f q1 q2 e1 e2 hf
  have m21 := (hf _ n1).trans m2
  have a11 := (hf _ n2).trans a1
  have a31 := (hf _ n3).trans a3
  unfold zMfs at m21
  refine z_iload dMod_become_10 rfl ?_
  refine z_iconst dMod_become_12 ?_
  refine z_icmp_ge (tgt := 64) dMod_become_13 (by decide) (by omega) (by omega) (fun c13 => ?_) (fun c13 => ?_)
  · have em : m = 3 := by omega
    subst em
    exact K h1 f _ e1 e2 hf
  · have b1m := b1 m (by omega)
    have b3m := b3 m (by omega)
    have e2m := e2 m (by omega)
    refine z_aload_n dMod_become_16 rfl ?_
    refine z_get (k := 2) fd_Mod (by decide) fl_Mod_18 dMod_become_17 (by assumption) (by rfl) ?_
    refine z_iload dMod_become_20 rfl ?_
    refine z_dup2 rfl rfl dMod_become_22 ?_
    refine z_zald dMod_become_23 (by assumption) (by refine ⟨?_, ?_, ?_⟩ <;> omega) ?_
    rw [Int.toNat_natCast]
    refine z_aload_n dMod_become_24 rfl ?_
    refine z_get (k := 1) fd_Mod (by decide) fl_Mod_14 dMod_become_25 (by assumption) (by rfl) ?_
    refine z_iload dMod_become_28 rfl ?_
    refine z_zald dMod_become_30 (by assumption) (by refine ⟨?_, ?_, ?_⟩ <;> omega) ?_
    rw [Int.toNat_natCast]
    refine z_if_eq (tgt := 55) dMod_become_31 (by decide) (by omega) (fun c31 => ?_) (fun c31 => ?_)
    · refine z_iconst dMod_become_55 ?_
      first
        | refine z_ior 1 (zior1 (by omega)) dMod_become_56 ?_
        | refine z_ior _ (zior0 (by omega)) dMod_become_56 ?_
      refine z_zast (by first | rfl | exact znar (by omega)) dMod_become_57 (by assumption) (by refine ⟨?_, ?_, ?_⟩ <;> omega) ?_
      refine z_hx (fun h2 p2 g2 => ?_)
      rw [Int.toNat_natCast] at p2
      refine z_iinc dMod_become_58 rfl (Nat.le_of_ble_eq_true rfl) ?_
      refine z_goto (tgt := 10) dMod_become_61 (by decide) ?_
      refine ih (m + 1) h2 _ (by omega) (by omega) p2 (fun c hc => ?_) (fun z hz => (g2 z hz).trans (hf z hz))
      have e2c := e2 c hc
      unfold zSv at e2c e2m ⊢
      by_cases e9 : c = m
      · subst e9
        rw [zup_same]
        refine ⟨by omega, fun ht => ?_⟩
        have e2c2 := e2c.2 ht
        rw [if_neg (by omega)] at e2c2
        first
          | (exfalso; omega)
          | (rw [if_pos (by omega)])
          | (rw [if_neg (by omega)]; exact e2c2)
      · rw [zup_ne e9]
        refine ⟨e2c.1, fun ht => (e2c.2 ht).trans ?_⟩
        by_cases c9 : c < m ∧ cu c 0 = 1 ∧ cu c 2 = k ∧ (c : Int) ≠ but
        · rw [if_pos c9, if_pos (by omega)]
        · rw [if_neg c9, if_neg (by omega)]
    · refine z_aload_n dMod_become_34 rfl ?_
      refine z_get (k := 3) fd_Mod (by decide) fl_Mod_21 dMod_become_35 (by assumption) (by rfl) ?_
      refine z_iload dMod_become_38 rfl ?_
      refine z_iald dMod_become_40 (by assumption) (by refine ⟨?_, ?_, ?_⟩ <;> omega) ?_
      rw [Int.toNat_natCast]
      refine z_iload_n dMod_become_41 rfl ?_
      refine z_icmp_ne (tgt := 55) dMod_become_42 (by decide) (by omega) (by omega) (fun c42 => ?_) (fun c42 => ?_)
      · refine z_iconst dMod_become_55 ?_
        first
          | refine z_ior 1 (zior1 (by omega)) dMod_become_56 ?_
          | refine z_ior _ (zior0 (by omega)) dMod_become_56 ?_
        refine z_zast (by first | rfl | exact znar (by omega)) dMod_become_57 (by assumption) (by refine ⟨?_, ?_, ?_⟩ <;> omega) ?_
        refine z_hx (fun h2 p2 g2 => ?_)
        rw [Int.toNat_natCast] at p2
        refine z_iinc dMod_become_58 rfl (Nat.le_of_ble_eq_true rfl) ?_
        refine z_goto (tgt := 10) dMod_become_61 (by decide) ?_
        refine ih (m + 1) h2 _ (by omega) (by omega) p2 (fun c hc => ?_) (fun z hz => (g2 z hz).trans (hf z hz))
        have e2c := e2 c hc
        unfold zSv at e2c e2m ⊢
        by_cases e9 : c = m
        · subst e9
          rw [zup_same]
          refine ⟨by omega, fun ht => ?_⟩
          have e2c2 := e2c.2 ht
          rw [if_neg (by omega)] at e2c2
          first
            | (exfalso; omega)
            | (rw [if_pos (by omega)])
            | (rw [if_neg (by omega)]; exact e2c2)
        · rw [zup_ne e9]
          refine ⟨e2c.1, fun ht => (e2c.2 ht).trans ?_⟩
          by_cases c9 : c < m ∧ cu c 0 = 1 ∧ cu c 2 = k ∧ (c : Int) ≠ but
          · rw [if_pos c9, if_pos (by omega)]
          · rw [if_neg c9, if_neg (by omega)]
      · refine z_iload dMod_become_45 rfl ?_
        refine z_iload_n dMod_become_47 rfl ?_
        refine z_icmp_eq (tgt := 55) dMod_become_48 (by decide) (by omega) (by omega) (fun c48 => ?_) (fun c48 => ?_)
        · refine z_iconst dMod_become_55 ?_
          first
            | refine z_ior 1 (zior1 (by omega)) dMod_become_56 ?_
            | refine z_ior _ (zior0 (by omega)) dMod_become_56 ?_
          refine z_zast (by first | rfl | exact znar (by omega)) dMod_become_57 (by assumption) (by refine ⟨?_, ?_, ?_⟩ <;> omega) ?_
          refine z_hx (fun h2 p2 g2 => ?_)
          rw [Int.toNat_natCast] at p2
          refine z_iinc dMod_become_58 rfl (Nat.le_of_ble_eq_true rfl) ?_
          refine z_goto (tgt := 10) dMod_become_61 (by decide) ?_
          refine ih (m + 1) h2 _ (by omega) (by omega) p2 (fun c hc => ?_) (fun z hz => (g2 z hz).trans (hf z hz))
          have e2c := e2 c hc
          unfold zSv at e2c e2m ⊢
          by_cases e9 : c = m
          · subst e9
            rw [zup_same]
            refine ⟨by omega, fun ht => ?_⟩
            have e2c2 := e2c.2 ht
            rw [if_neg (by omega)] at e2c2
            first
              | (exfalso; omega)
              | (rw [if_pos (by omega)])
              | (rw [if_neg (by omega)]; exact e2c2)
          · rw [zup_ne e9]
            refine ⟨e2c.1, fun ht => (e2c.2 ht).trans ?_⟩
            by_cases c9 : c < m ∧ cu c 0 = 1 ∧ cu c 2 = k ∧ (c : Int) ≠ but
            · rw [if_pos c9, if_pos (by omega)]
            · rw [if_neg c9, if_neg (by omega)]
        · refine z_iconst dMod_become_51 ?_
          refine z_goto (tgt := 56) dMod_become_52 (by decide) ?_
          first
            | refine z_ior 1 (zior1 (by omega)) dMod_become_56 ?_
            | refine z_ior _ (zior0 (by omega)) dMod_become_56 ?_
          refine z_zast (by first | rfl | exact znar (by omega)) dMod_become_57 (by assumption) (by refine ⟨?_, ?_, ?_⟩ <;> omega) ?_
          refine z_hx (fun h2 p2 g2 => ?_)
          rw [Int.toNat_natCast] at p2
          refine z_iinc dMod_become_58 rfl (Nat.le_of_ble_eq_true rfl) ?_
          refine z_goto (tgt := 10) dMod_become_61 (by decide) ?_
          refine ih (m + 1) h2 _ (by omega) (by omega) p2 (fun c hc => ?_) (fun z hz => (g2 z hz).trans (hf z hz))
          have e2c := e2 c hc
          unfold zSv at e2c e2m ⊢
          by_cases e9 : c = m
          · subst e9
            rw [zup_same]
            refine ⟨by omega, fun ht => ?_⟩
            have e2c2 := e2c.2 ht
            rw [if_neg (by omega)] at e2c2
            first
              | (exfalso; omega)
              | (rw [if_pos (by omega)])
              | (rw [if_neg (by omega)]; exact e2c2)
          · rw [zup_ne e9]
            refine ⟨e2c.1, fun ht => (e2c.2 ht).trans ?_⟩
            by_cases c9 : c < m ∧ cu c 0 = 1 ∧ cu c 2 = k ∧ (c : Int) ≠ but
            · rw [if_pos c9, if_pos (by omega)]
            · rw [if_neg c9, if_neg (by omega)]
theorem zMod.newrow {k q : Nat} {L : List Int} {but : Int} {f : Nat → Int} (H : zMod G h ma S th) (hk : k < 4) (hq : zAr G h' q L) (nq : ∀ i, i < 13 → i ≠ 8 + k → q ≠ ma i) {g : Nat → Option Nat} (e1 : h' (ma 1) = some (zRefs G 4 4 (zup g k (some q)))) (gg : ∀ j, j < 4 → g j = some (ma (8 + j))) (e3 : h' (ma 3) = some (zBools G 3 f)) (ef : ∀ c, c < 3 → (f c = 0 ∨ f c = 1) ∧ (S.2.1 c 0 = 1 → f c = zSv S.2.1 k but 3 c)) (hf : ∀ z, z ≠ ma 1 → z ≠ ma 3 → z ≠ q → h' z = h z) : zMod G h' (zup ma (8 + k) q) (zsStale (zsL S k L) k but) th := by
  obtain ⟨m1, m2, -, ⟨⟨f1, a1, b1⟩, -, ⟨f3, a3, b3⟩, ⟨f4, a4, b4⟩, ⟨f5, a5, b5⟩⟩, ⟨f6, m5, m5'⟩, m6, m7⟩ := id H
  have kp : ∀ i, i < 13 → i ≠ 1 → i ≠ 3 → i ≠ 8 + k → h' (ma i) = h (ma i) := fun i hi x1 x3 x4 => hf _ (H.inj hi (by omega) x1) (H.inj hi (by omega) x3) (fun e => nq i hi x4 e.symm)
  have zn : ∀ i, i ≠ 8 + k → zup ma (8 + k) q i = ma i := fun i hi => zup_ne hi
  have en : ∀ c f9, f9 ≠ 1 → (zsStale (zsL S k L) k but).2.1 c f9 = S.2.1 c f9 := fun c f9 h9 => if_neg (fun z => h9 z.2.1)
  refine ⟨fun i j hi hj e => ?_, ?_, ⟨zup g k (some q), ?_, fun j hj => ?_⟩, ⟨⟨f1, ?_, fun c hc => ?_⟩, ⟨f, ?_, fun c hc => ?_⟩, ⟨f3, ?_, fun c hc => ?_⟩, ⟨f4, ?_, fun c hc => ?_⟩, ⟨f5, ?_, fun c hc => ?_⟩⟩, ⟨f6, ?_, m5'⟩, fun j hj => ?_, ?_⟩
  · by_cases c1 : i = 8 + k
    · by_cases c2 : j = 8 + k
      · omega
      · rw [c1, zup_same, zn j c2] at e
        exact absurd e (nq j hj c2)
    · by_cases c2 : j = 8 + k
      · rw [c2, zup_same, zn i c1] at e
        exact absurd e.symm (nq i hi c1)
      · rw [zn i c1, zn j c2] at e
        exact m1 i j hi hj e
  · rw [zn 0 (by omega)]
    refine ((kp 0 (by omega) (by omega) (by omega) (by omega)).trans m2).trans ?_
    unfold zMfs
    rw [zn 1 (by omega), zn 2 (by omega), zn 3 (by omega), zn 4 (by omega), zn 5 (by omega), zn 6 (by omega), zn 12 (by omega), zn 7 (by omega)]
    rfl
  · rw [zn 1 (by omega)]; exact e1
  · by_cases c1 : j = k
    · rw [c1, zup_same, zup_same]
    · rw [zup_ne c1, zn _ (by omega)]; exact gg j hj
  · rw [zn 2 (by omega)]; exact (kp 2 (by omega) (by omega) (by omega) (by omega)).trans a1
  · rw [en c 0 (by omega)]; exact b1 c hc
  · rw [zn 3 (by omega)]; exact e3
  · rw [en c 0 (by omega)]
    refine ⟨(ef c hc).1, fun ht => ((ef c hc).2 ht).trans ?_⟩
    unfold zSv
    by_cases z : c < 3 ∧ S.2.1 c 0 = 1 ∧ S.2.1 c 2 = k ∧ (c : Int) ≠ but
    · rw [if_pos z]
      exact (if_pos ⟨z.1, rfl, z.2⟩).symm
    · rw [if_neg z]
      exact (if_neg (fun y => z ⟨y.1, y.2.2⟩)).symm
  · rw [zn 4 (by omega)]; exact (kp 4 (by omega) (by omega) (by omega) (by omega)).trans a3
  · rw [en c 0 (by omega), en c 2 (by omega)]; exact b3 c hc
  · rw [zn 5 (by omega)]; exact (kp 5 (by omega) (by omega) (by omega) (by omega)).trans a4
  · rw [en c 0 (by omega), en c 3 (by omega)]; exact b4 c hc
  · rw [zn 6 (by omega)]; exact (kp 6 (by omega) (by omega) (by omega) (by omega)).trans a5
  · rw [en c 0 (by omega), en c 4 (by omega)]; exact b5 c hc
  · rw [zn 7 (by omega)]; exact (kp 7 (by omega) (by omega) (by omega) (by omega)).trans m5
  · by_cases c1 : j = k
    · rw [c1, zup_same]
      show zAr G h' q (zup S.1 k L k)
      rw [zup_same]; exact hq
    · rw [zn _ (by omega)]
      show zAr G h' _ (zup S.1 k L j)
      rw [zup_ne c1]
      exact (m6 j hj).kept (kp _ (by omega) (by omega) (by omega) (by omega))
  · rw [zn 12 (by omega)]; exact m7.kept (kp 12 (by omega) (by omega) (by omega) (by omega))
theorem k_Mod_become {k q : Nat} {L : List Int} {but : Int} (H : zMod G h ma S th) (hk : k < 4) (hq : zAr G h q L) (nq : ∀ i, i < 13 → i ≠ 8 + k → q ≠ ma i) (hb : zI32 but) : zM G l hMod_become yMod_become 1 [.ref (ma 0), zi (k : Int), .ref q, zi but] h (fun v h' => v = none ∧ zMod G h' (zup ma (8 + k) q) (zsStale (zsL S k L) k but) th ∧ ∀ z, z ≠ ma 1 → z ≠ ma 3 → h' z = h z) zNo 0 0 := by
  obtain ⟨m1, m2, ⟨g, m3, m3a⟩, m4, ⟨f6, m5, m5a⟩, m6, m7⟩ := id H
  have m2b := m2
  unfold zMfs at m2
  obtain ⟨⟨f1, a1, b1⟩, ⟨f2, a2, b2⟩, ⟨f3, a3, b3⟩, -⟩ := id m4
  obtain ⟨fq, q1, q2, q3, q4⟩ := id hq
  refine zM.of [some (.ref (ma 0)), some (zi (k : Int)), some (.ref q), some (zi but), none] (by decide +kernel) rfl (by decide) rfl (Nat.le_of_ble_eq_true rfl) rfl ?_
  refine z_aload_n dMod_become_0 rfl ?_
  refine z_get (k := 0) fd_Mod (by decide) fl_Mod_11 dMod_become_1 (by assumption) (by rfl) ?_
  refine z_iload_n dMod_become_4 rfl ?_
  refine z_aload_n dMod_become_5 rfl ?_
  refine z_aastI dMod_become_6 m3 q1 (by refine ⟨?_, ?_, ?_⟩ <;> omega) ?_
  refine z_hx (fun h1 p1 g1 => ?_)
  rw [Int.toNat_natCast] at p1
  refine z_iconst dMod_become_7 ?_
  refine z_istore dMod_become_8 (Nat.le_of_ble_eq_true rfl) ?_
  have nn : ∀ i, i < 13 → i ≠ 1 → ma i ≠ ma 1 := fun i hi h1 => H.inj hi (by omega) h1
  refine l_Mod_become (fs := zMfs ma S th) (cu := S.2.1) (g := g) rfl hb hk (H.inj (by omega) (by omega) (by omega)) (H.inj (by omega) (by omega) (by omega)) (H.inj (by omega) (by omega) (by omega)) ((g1 _ (nn 0 (by omega) (by omega))).trans m2b) ((g1 _ (nn 2 (by omega) (by omega))).trans a1) b1 ((g1 _ (nn 4 (by omega) (by omega))).trans a3) b3 (fun h2 f y e3 ef f2 => ?_) 4 0 h1 f2 (by omega) (by omega) ((g1 _ (nn 3 (by omega) (by omega))).trans a2) (fun c hc => ⟨(b2 c hc).1, fun ht => by unfold zSv; rw [if_neg (by omega)]; exact (b2 c hc).2 ht⟩) (fun z hz => rfl)
  refine z_vret rfl dMod_become_64 ?_
  have F : ∀ z, z ≠ ma 1 → z ≠ ma 3 → h2 z = h z := fun z z1 z3 => (f2 z z3).trans (g1 z z1)
  refine ⟨rfl, H.newrow hk (hq.kept (F q (nq 1 (by omega) (by omega)) (nq 3 (by omega) (by omega)))) nq ((f2 _ (H.inj (by omega) (by omega) (by omega))).trans p1) m3a e3 ef (fun z z1 z3 _ => F z z1 z3), F⟩
end MOD7
