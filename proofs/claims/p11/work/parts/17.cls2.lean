section CLS2
variable {G : zG} {l : Launch} {h h' : zHp} {ad : Nat → Nat} {S : zSt}
theorem zsSt9_same {k but : Int} {m : Nat} (hn : ¬ (S.2.1 m 0 = 1 ∧ S.2.1 m 2 = k ∧ (m : Int) ≠ but)) : zsSt9 S k but (m + 1) = zsSt9 S k but m := by
  unfold zsSt9
  congr 1
  funext c f
  by_cases e : c = m
  · subst e
    rw [if_neg (fun q => hn q.2.2), if_neg (fun q => absurd q.1 (Nat.lt_irrefl _))]
  · by_cases q : c < m
    · simp only [q, show c < m + 1 by omega]
    · simp only [q, show ¬ c < m + 1 by omega]
theorem zsSt9_at {k but : Int} {m : Nat} : (zsSt9 S k but m).2.1 m = S.2.1 m := by
  funext f
  show (if m < m ∧ _ then _ else _) = _
  rw [if_neg (fun q => absurd q.1 (Nat.lt_irrefl _))]
theorem zCls.stale {k but : Int} {m : Nat} {st li ix la : Int} {h1 : zHp} (hC : zCls G h1 ad (zsSt9 S k but m)) (hm : m < 3) (e1 : h1 (ad (5 + m)) = some (.inr (zkCur, [zi (S.2.1 m 0), zi st, zi li, zi ix, zi la]))) (e2 : S.2.1 m 0 = 0 ∨ S.2.1 m 0 = 1) (e4 : zI32 li) (e5 : zI32 ix) (e6 : zI32 la) (e7 : S.2.1 m 0 = 1 → st = S.2.1 m 1 ∧ li = S.2.1 m 2 ∧ ix = S.2.1 m 3 ∧ la = S.2.1 m 4) (hli : li = k) (hb : (m : Int) ≠ but) :
    zCls G (zup h1 (ad (5 + m)) (some (.inr (zkCur, [zi (S.2.1 m 0), zi 1, zi li, zi ix, zi la])))) ad (zsSt9 S k but (m + 1)) := by
  refine hC.cur (c := m) (cu := (zsSt9 S k but (m + 1)).2.1) hm ?_ ?_ (fun q hq => zup_ne hq)
  · have f0 : ∀ f, f ≠ 1 → (zsSt9 S k but (m + 1)).2.1 m f = S.2.1 m f := fun f hf => by
      show (if m < m + 1 ∧ f = 1 ∧ _ then _ else _) = _
      rw [if_neg (fun q => hf q.2.1)]
    refine ⟨1, li, ix, la, ?_, ?_, Or.inr rfl, e4, e5, e6, fun ht => ?_⟩
    · rw [zup_same, f0 0 (by omega)]
    · rw [f0 0 (by omega)]; exact e2
    · rw [f0 0 (by omega)] at ht
      obtain ⟨a1, a2, a3, a4⟩ := e7 ht
      rw [f0 2 (by omega), f0 3 (by omega), f0 4 (by omega)]
      refine ⟨?_, a2, a3, a4⟩
      show (1 : Int) = if m < m + 1 ∧ (1 : Nat) = 1 ∧ S.2.1 m 0 = 1 ∧ S.2.1 m 2 = k ∧ (m : Int) ≠ but then 1 else S.2.1 m 1
      rw [if_pos ⟨by omega, rfl, ht, by omega, hb⟩]
  · intro j hj
    funext f
    show (if j < m + 1 ∧ _ then _ else _) = (if j < m ∧ _ then _ else _)
    by_cases q : j < m
    · simp only [q, show j < m + 1 by omega]
    · simp only [q, show ¬ j < m + 1 by omega]
theorem l_Cls_makeStale {d mc ms bc bs : Nat} {Qn : Option Value → zHp → Prop} {Qx : String → zHp → Prop} {k but : Int} (hk : zI32 k) (hb : zI32 but)
    (K : ∀ (h1 : zHp) y, zCls G h1 ad (zsStale S k but) → zFrm ad h h1 → zR G l (zMJ G hCls_makeStale d Qn Qx mc ms) bc bs h1 41 [some (.ref (ad 0)), some (zi k), some (zi but), y] []) :
    ∀ (n : Nat) (m : Nat) (h1 : zHp), 3 - m < n → m ≤ 3 → zCls G h1 ad (zsSt9 S k but m) → zFrm ad h h1 →
      zR G l (zMJ G hCls_makeStale d Qn Qx mc ms) bc bs h1 2 [some (.ref (ad 0)), some (zi k), some (zi but), some (zi (m : Int))] [] := by
  intro n
  induction n with
  | zero => intro m h1 q1 q2 hC1 hf; omega
  | succ n ih =>
  intro m h1 q1 q2 hC1 hf
  obtain ⟨c1, c2, ⟨g3, c3, d3⟩, ⟨g4, hc4, d4⟩, -⟩ := id hC1
  refine z_iload_n dCls_makeStale_2 rfl ?_
  refine z_iconst dCls_makeStale_3 ?_
  refine z_icmp_ge (tgt := 41) dCls_makeStale_4 (by decide) (by omega) (by omega) (fun c4 => ?_) (fun c4 => ?_)
  · have em : m = 3 := by omega
    subst em
    exact K h1 _ hC1 hf
  · have hlt : m < 3 := by omega
    obtain ⟨st, li, ix, la, e1, e2, e3, e4, e5, e6, e7⟩ := hC1.cs hlt
    rw [zsSt9_at] at e1 e2 e7
    refine z_iload_n dCls_makeStale_7 rfl ?_
    refine z_iload_n dCls_makeStale_8 rfl ?_
    refine z_icmp_eq (tgt := 35) dCls_makeStale_9 (by decide) (by omega) (by omega) (fun c9 => ?_) (fun c9 => ?_)
    · refine z_iinc dCls_makeStale_35 rfl (Nat.le_of_ble_eq_true rfl) ?_
      refine z_goto (tgt := 2) dCls_makeStale_38 (by decide) ?_
      first
        | (have e9 := zsSt9_same (S := S) (k := k) (but := but) (m := m) (fun q => by have := e7 q.1; omega)
           rw [← e9] at hC1
           exact ih (m + 1) h1 (by omega) (by omega) hC1 hf)
        | (have e9 := zsSt9_same (S := S) (k := k) (but := but) (m := m) (fun q => q.2.2 (by omega))
           rw [← e9] at hC1
           exact ih (m + 1) h1 (by omega) (by omega) hC1 hf)
        | exact ih (m + 1) _ (by omega) (by omega) (hC1.stale hlt e1 e2 e4 e5 e6 e7 (by omega) (by omega)) (hf.tr (zFrm.of1 (i := 5 + m) (by omega) (fun q hq => zup_ne hq)))
    · refine z_aload_n dCls_makeStale_12 rfl ?_
      refine z_get (k := 1) fd_Cls (by decide) fl_Cls_17 dCls_makeStale_13 (by assumption) (by rfl) ?_
      refine z_iload_n dCls_makeStale_16 rfl ?_
      refine z_aald (t := 6) (ty := .object "Cursorlist$Cursor") rfl rfl dCls_makeStale_17 hc4 (by refine ⟨?_, ?_, ?_⟩ <;> omega) ?_
      rw [show (m : Int).toNat = m by omega, d4 m (by omega)]
      refine z_getN (k := 2) fd_Cur (by decide) fl_Cls_169 dCls_makeStale_18 e1 (by rfl) ?_
      refine z_iload_n dCls_makeStale_21 rfl ?_
      refine z_icmp_ne (tgt := 35) dCls_makeStale_22 (by decide) (by omega) (by omega) (fun c22 => ?_) (fun c22 => ?_)
      · refine z_iinc dCls_makeStale_35 rfl (Nat.le_of_ble_eq_true rfl) ?_
        refine z_goto (tgt := 2) dCls_makeStale_38 (by decide) ?_
        first
          | (have e9 := zsSt9_same (S := S) (k := k) (but := but) (m := m) (fun q => by have := e7 q.1; omega)
             rw [← e9] at hC1
             exact ih (m + 1) h1 (by omega) (by omega) hC1 hf)
          | (have e9 := zsSt9_same (S := S) (k := k) (but := but) (m := m) (fun q => q.2.2 (by omega))
             rw [← e9] at hC1
             exact ih (m + 1) h1 (by omega) (by omega) hC1 hf)
          | exact ih (m + 1) _ (by omega) (by omega) (hC1.stale hlt e1 e2 e4 e5 e6 e7 (by omega) (by omega)) (hf.tr (zFrm.of1 (i := 5 + m) (by omega) (fun q hq => zup_ne hq)))
      · refine z_aload_n dCls_makeStale_25 rfl ?_
        refine z_get (k := 1) fd_Cls (by decide) fl_Cls_17 dCls_makeStale_26 (by assumption) (by rfl) ?_
        refine z_iload_n dCls_makeStale_29 rfl ?_
        refine z_aald (t := 6) (ty := .object "Cursorlist$Cursor") rfl rfl dCls_makeStale_30 hc4 (by refine ⟨?_, ?_, ?_⟩ <;> omega) ?_
        rw [show (m : Int).toNat = m by omega, d4 m (by omega)]
        refine z_iconst dCls_makeStale_31 ?_
        refine z_putN (k := 1) fd_Cur (by decide) fl_Cls_152 rfl dCls_makeStale_32 e1 (by simp) rfl rfl ?_
        refine z_iinc dCls_makeStale_35 rfl (Nat.le_of_ble_eq_true rfl) ?_
        refine z_goto (tgt := 2) dCls_makeStale_38 (by decide) ?_
        first
          | (have e9 := zsSt9_same (S := S) (k := k) (but := but) (m := m) (fun q => by have := e7 q.1; omega)
             rw [← e9] at hC1
             exact ih (m + 1) h1 (by omega) (by omega) hC1 hf)
          | (have e9 := zsSt9_same (S := S) (k := k) (but := but) (m := m) (fun q => q.2.2 (by omega))
             rw [← e9] at hC1
             exact ih (m + 1) h1 (by omega) (by omega) hC1 hf)
          | exact ih (m + 1) _ (by omega) (by omega) (hC1.stale hlt e1 e2 e4 e5 e6 e7 (by omega) (by omega)) (hf.tr (zFrm.of1 (i := 5 + m) (by omega) (fun q hq => zup_ne hq)))
theorem k_Cls_makeStale {k but : Int} (hC : zCls G h ad S) (hk : zI32 k) (hb : zI32 but) : zM G l hCls_makeStale yCls_makeStale 1 [.ref (ad 0), zi k, zi but] h (fun v h' => v = none ∧ zCls G h' ad (zsStale S k but) ∧ zFrm ad h h') zNo 0 0 := by
  refine zM.of [some (.ref (ad 0)), some (zi k), some (zi but), none] (by decide +kernel) rfl (by decide) rfl (Nat.le_of_ble_eq_true rfl) rfl ?_
  refine z_iconst dCls_makeStale_0 ?_
  refine z_istore_n dCls_makeStale_1 (Nat.le_of_ble_eq_true rfl) ?_
  have e0 : zsSt9 S k but 0 = S := by
    unfold zsSt9 zsC
    congr 2
  refine l_Cls_makeStale (S := S) (h := h) hk hb (fun h1 y hC1 f1 => ?_) 4 0 h (by omega) (by omega) (by rw [e0]; exact hC) zFrm.rf
  refine z_vret rfl dCls_makeStale_41 ?_
  exact ⟨rfl, hC1, f1⟩
theorem l_Cls_makeStaleR {d mc ms bc bs : Nat} {Qn : Option Value → zHp → Prop} {Qx : String → zHp → Prop} {k but : Int} {R : List Int} (hk : zI32 k) (hb : zI32 but)
    (K : ∀ (h1 : zHp) y, zCls G h1 ad (zsStale S k but) → zRow G h1 (ad 16) (ad 17) R → zFrm ad h h1 → zR G l (zMJ G hCls_makeStale d Qn Qx mc ms) bc bs h1 41 [some (.ref (ad 0)), some (zi k), some (zi but), y] []) :
    ∀ (n : Nat) (m : Nat) (h1 : zHp), 3 - m < n → m ≤ 3 → zCls G h1 ad (zsSt9 S k but m) → zRow G h1 (ad 16) (ad 17) R → zFrm ad h h1 →
      zR G l (zMJ G hCls_makeStale d Qn Qx mc ms) bc bs h1 2 [some (.ref (ad 0)), some (zi k), some (zi but), some (zi (m : Int))] [] := by
  intro n
  induction n with
  | zero => intro m h1 q1 q2 hC1 hR hf; omega
  | succ n ih =>
  intro m h1 q1 q2 hC1 hR hf
  obtain ⟨c1, c2, ⟨g3, c3, d3⟩, ⟨g4, hc4, d4⟩, -⟩ := id hC1
  refine z_iload_n dCls_makeStale_2 rfl ?_
  refine z_iconst dCls_makeStale_3 ?_
  refine z_icmp_ge (tgt := 41) dCls_makeStale_4 (by decide) (by omega) (by omega) (fun c4 => ?_) (fun c4 => ?_)
  · have em : m = 3 := by omega
    subst em
    exact K h1 _ hC1 hR hf
  · have hlt : m < 3 := by omega
    obtain ⟨st, li, ix, la, e1, e2, e3, e4, e5, e6, e7⟩ := hC1.cs hlt
    rw [zsSt9_at] at e1 e2 e7
    refine z_iload_n dCls_makeStale_7 rfl ?_
    refine z_iload_n dCls_makeStale_8 rfl ?_
    refine z_icmp_eq (tgt := 35) dCls_makeStale_9 (by decide) (by omega) (by omega) (fun c9 => ?_) (fun c9 => ?_)
    · refine z_iinc dCls_makeStale_35 rfl (Nat.le_of_ble_eq_true rfl) ?_
      refine z_goto (tgt := 2) dCls_makeStale_38 (by decide) ?_
      first
        | (have e9 := zsSt9_same (S := S) (k := k) (but := but) (m := m) (fun q => by have := e7 q.1; omega)
           rw [← e9] at hC1
           exact ih (m + 1) h1 (by omega) (by omega) hC1 hR hf)
        | (have e9 := zsSt9_same (S := S) (k := k) (but := but) (m := m) (fun q => q.2.2 (by omega))
           rw [← e9] at hC1
           exact ih (m + 1) h1 (by omega) (by omega) hC1 hR hf)
        | exact ih (m + 1) _ (by omega) (by omega) (hC1.stale hlt e1 e2 e4 e5 e6 e7 (by omega) (by omega)) (hR.kept (zup_ne (hC1.inj (by omega) (by omega) (by omega))) (zup_ne (hC1.inj (by omega) (by omega) (by omega)))) (hf.tr (zFrm.of1 (i := 5 + m) (by omega) (fun q hq => zup_ne hq)))
    · refine z_aload_n dCls_makeStale_12 rfl ?_
      refine z_get (k := 1) fd_Cls (by decide) fl_Cls_17 dCls_makeStale_13 (by assumption) (by rfl) ?_
      refine z_iload_n dCls_makeStale_16 rfl ?_
      refine z_aald (t := 6) (ty := .object "Cursorlist$Cursor") rfl rfl dCls_makeStale_17 hc4 (by refine ⟨?_, ?_, ?_⟩ <;> omega) ?_
      rw [show (m : Int).toNat = m by omega, d4 m (by omega)]
      refine z_getN (k := 2) fd_Cur (by decide) fl_Cls_169 dCls_makeStale_18 e1 (by rfl) ?_
      refine z_iload_n dCls_makeStale_21 rfl ?_
      refine z_icmp_ne (tgt := 35) dCls_makeStale_22 (by decide) (by omega) (by omega) (fun c22 => ?_) (fun c22 => ?_)
      · refine z_iinc dCls_makeStale_35 rfl (Nat.le_of_ble_eq_true rfl) ?_
        refine z_goto (tgt := 2) dCls_makeStale_38 (by decide) ?_
        first
          | (have e9 := zsSt9_same (S := S) (k := k) (but := but) (m := m) (fun q => by have := e7 q.1; omega)
             rw [← e9] at hC1
             exact ih (m + 1) h1 (by omega) (by omega) hC1 hR hf)
          | (have e9 := zsSt9_same (S := S) (k := k) (but := but) (m := m) (fun q => q.2.2 (by omega))
             rw [← e9] at hC1
             exact ih (m + 1) h1 (by omega) (by omega) hC1 hR hf)
          | exact ih (m + 1) _ (by omega) (by omega) (hC1.stale hlt e1 e2 e4 e5 e6 e7 (by omega) (by omega)) (hR.kept (zup_ne (hC1.inj (by omega) (by omega) (by omega))) (zup_ne (hC1.inj (by omega) (by omega) (by omega)))) (hf.tr (zFrm.of1 (i := 5 + m) (by omega) (fun q hq => zup_ne hq)))
      · refine z_aload_n dCls_makeStale_25 rfl ?_
        refine z_get (k := 1) fd_Cls (by decide) fl_Cls_17 dCls_makeStale_26 (by assumption) (by rfl) ?_
        refine z_iload_n dCls_makeStale_29 rfl ?_
        refine z_aald (t := 6) (ty := .object "Cursorlist$Cursor") rfl rfl dCls_makeStale_30 hc4 (by refine ⟨?_, ?_, ?_⟩ <;> omega) ?_
        rw [show (m : Int).toNat = m by omega, d4 m (by omega)]
        refine z_iconst dCls_makeStale_31 ?_
        refine z_putN (k := 1) fd_Cur (by decide) fl_Cls_152 rfl dCls_makeStale_32 e1 (by simp) rfl rfl ?_
        refine z_iinc dCls_makeStale_35 rfl (Nat.le_of_ble_eq_true rfl) ?_
        refine z_goto (tgt := 2) dCls_makeStale_38 (by decide) ?_
        first
          | (have e9 := zsSt9_same (S := S) (k := k) (but := but) (m := m) (fun q => by have := e7 q.1; omega)
             rw [← e9] at hC1
             exact ih (m + 1) h1 (by omega) (by omega) hC1 hR hf)
          | (have e9 := zsSt9_same (S := S) (k := k) (but := but) (m := m) (fun q => q.2.2 (by omega))
             rw [← e9] at hC1
             exact ih (m + 1) h1 (by omega) (by omega) hC1 hR hf)
          | exact ih (m + 1) _ (by omega) (by omega) (hC1.stale hlt e1 e2 e4 e5 e6 e7 (by omega) (by omega)) (hR.kept (zup_ne (hC1.inj (by omega) (by omega) (by omega))) (zup_ne (hC1.inj (by omega) (by omega) (by omega)))) (hf.tr (zFrm.of1 (i := 5 + m) (by omega) (fun q hq => zup_ne hq)))
theorem k_Cls_makeStaleR {k but : Int} {R : List Int} (hC : zCls G h ad S) (hR : zRow G h (ad 16) (ad 17) R) (hk : zI32 k) (hb : zI32 but) : zM G l hCls_makeStale yCls_makeStale 1 [.ref (ad 0), zi k, zi but] h (fun v h' => v = none ∧ zCls G h' ad (zsStale S k but) ∧ zRow G h' (ad 16) (ad 17) R ∧ zFrm ad h h') zNo 0 0 := by
  refine zM.of [some (.ref (ad 0)), some (zi k), some (zi but), none] (by decide +kernel) rfl (by decide) rfl (Nat.le_of_ble_eq_true rfl) rfl ?_
  refine z_iconst dCls_makeStale_0 ?_
  refine z_istore_n dCls_makeStale_1 (Nat.le_of_ble_eq_true rfl) ?_
  have e0 : zsSt9 S k but 0 = S := by
    unfold zsSt9 zsC
    congr 2
  refine l_Cls_makeStaleR (S := S) (R := R) (h := h) hk hb (fun h1 y hC1 hR1 f1 => ?_) 4 0 h (by omega) (by omega) (by rw [e0]; exact hC) hR zFrm.rf
  refine z_vret rfl dCls_makeStale_41 ?_
  exact ⟨rfl, hC1, hR1, f1⟩
theorem k_Cls_putInto {k : Nat} {p x : Int} (hC : zCls G h ad S) (hk : k < 4) (hp : zI32 p) (hx : zIn x) : zM G l hCls_putInto yCls_putInto 8 [.ref (ad 0), zi (k : Int), zi p, zi x] h (fun v h' => ((v = some (zi ((S.1 k).length + 1)) ∧ (S.1 k).length < 16 ∧ 0 ≤ p ∧ p ≤ (S.1 k).length ∧ zCls G h' ad (zsStale (zsL S k (zIns (S.1 k) p x)) k (-1))) ∨ (v = some (zi (-1000009)) ∧ ¬ ((S.1 k).length < 16 ∧ 0 ≤ p ∧ p ≤ (S.1 k).length) ∧ zCls G h' ad (zsRef S))) ∧ zFrm ad h h') zNo 1 6 := by
  obtain ⟨c1, c2, ⟨g3, c3, d3⟩, ⟨g4, c4, d4⟩, c5, ⟨T6, c6, d6⟩, c7, c8, ⟨R9, c9⟩, c10⟩ := id hC
  have hr := hC.ls hk
  obtain ⟨f, e1, e2, e3, e4, e5⟩ := id hr
  refine zM.of [some (.ref (ad 0)), some (zi (k : Int)), some (zi p), some (zi x), none] (by decide +kernel) rfl (by decide) rfl (Nat.le_of_ble_eq_true rfl) rfl ?_
  refine z_aload_n dCls_putInto_0 rfl ?_
  refine z_iload_n dCls_putInto_1 rfl ?_
  refine z_callV (bc' := 0) (bs' := 0) MV_Cls_listAt lk_Cls_34 dCls_putInto_2 (k_Cls_listAt hC (by omega)) rfl rfl (Nat.le_of_ble_eq_true rfl) rfl c2 (Nat.le_of_ble_eq_true rfl) (Nat.le_of_ble_eq_true rfl) (by decide) (by decide) (fun E h9 q9 => absurd (by omega) q9.2.1) ?_
  rintro _ _ ⟨rfl, k1, k2, rfl⟩
  rw [show (k : Int).toNat = k by omega]
  refine z_astore dCls_putInto_5 (Nat.le_of_ble_eq_true rfl) ?_
  refine z_aload dCls_putInto_7 rfl ?_
  refine z_iload_n dCls_putInto_9 rfl ?_
  refine z_iload_n dCls_putInto_10 rfl ?_
  refine z_callVN MV_Row_putIn lk_Cls_119 dCls_putInto_11 (k_Row_putIn hr hp hx) rfl rfl (Nat.le_of_ble_eq_true rfl) rfl e1 (Nat.le_of_ble_eq_true rfl) (Nat.le_of_ble_eq_true rfl) (Nat.le_of_eq (Nat.zero_add _)) (Nat.le_of_eq (Nat.zero_add _)) (fun _ _ q => q.elim) ?_
  rintro _ h1 (⟨rfl, k3, k4, k5, hr1, f1⟩ | ⟨rfl, k3, rfl⟩)
  · refine z_if_ne (tgt := 22) dCls_putInto_14 (by decide) (by omega) (fun c14 => ?_) (fun c14 => ?_)
    · have hC1 := hC.row hk hr1 f1
      obtain ⟨c21, c22, -⟩ := id hC1
      refine z_aload_n dCls_putInto_22 rfl ?_
      refine z_iload_n dCls_putInto_23 rfl ?_
      refine z_iconst dCls_putInto_24 ?_
      refine z_callV MV_Cls_makeStale lk_Cls_58 dCls_putInto_25 (k_Cls_makeStale hC1 (by omega) (by omega)) rfl rfl (Nat.le_of_ble_eq_true rfl) rfl c22 (Nat.le_of_ble_eq_true rfl) (Nat.le_of_ble_eq_true rfl) (Nat.le_of_eq (Nat.zero_add _)) (Nat.le_of_eq (Nat.zero_add _)) (fun _ _ q => q.elim) ?_
      rintro _ h2 ⟨rfl, hC2, f2⟩
      have hr2 := hC2.ls hk
      rw [show (zsStale (zsL S k (zIns (S.1 k) p x)) (k : Int) (-1)).1 k = zIns (S.1 k) p x from zup_same _ _ _] at hr2
      obtain ⟨g, a1, -⟩ := hr2
      rw [zIns_len] at a1
      refine z_aload dCls_putInto_28 rfl ?_
      refine z_getN (k := 1) fd_Row (by decide) fl_Cls_46 dCls_putInto_30 a1 (by rfl) ?_
      refine z_iret rfl rfl dCls_putInto_33 ?_
      exact ⟨Or.inl ⟨by congr 2, k3, k4, k5, hC2⟩, (zFrm.of2 (i := 8 + 2 * k) (j := 9 + 2 * k) (by omega) (by omega) f1).tr f2⟩
    · exact absurd c14 (by decide)
  · refine z_if_ne (tgt := 22) dCls_putInto_14 (by decide) (by omega) (fun c14 => ?_) (fun c14 => ?_)
    · exact absurd rfl c14
    · refine z_aload_n dCls_putInto_17 rfl ?_
      refine z_callV MV_Cls_refuse lk_Cls_54 dCls_putInto_18 (k_Cls_refuse hC) rfl rfl (Nat.le_of_ble_eq_true rfl) rfl c2 (Nat.le_of_ble_eq_true rfl) (Nat.le_of_ble_eq_true rfl) (Nat.le_of_eq (Nat.zero_add _)) (Nat.le_of_eq (Nat.zero_add _)) (fun _ _ q => q.elim) ?_
      rintro _ h2 ⟨rfl, hC2, f2⟩
      refine z_iret rfl rfl dCls_putInto_21 ?_
      exact ⟨Or.inr ⟨rfl, k3, hC2⟩, f2⟩
theorem k_Cls_takeFrom {k : Nat} {p : Int} (hC : zCls G h ad S) (hk : k < 4) (hp : 0 ≤ p ∧ p < (S.1 k).length) : zM G l hCls_takeFrom yCls_takeFrom 8 [.ref (ad 0), zi (k : Int), zi p] h (fun v h' => v = some (zi ((S.1 k).getD p.toNat 0)) ∧ zCls G h' ad (zsStale (zsL S k (zDel (S.1 k) p)) k (-1)) ∧ zFrm ad h h') zNo 1 6 := by
  obtain ⟨c1, c2, ⟨g3, c3, d3⟩, ⟨g4, c4, d4⟩, c5, ⟨T6, c6, d6⟩, c7, c8, ⟨R9, c9⟩, c10⟩ := id hC
  have hr := hC.ls hk
  obtain ⟨f, e1, e2, e3, e4, e5⟩ := id hr
  refine zM.of [some (.ref (ad 0)), some (zi (k : Int)), some (zi p), none] (by decide +kernel) rfl (by decide) rfl (Nat.le_of_ble_eq_true rfl) rfl ?_
  refine z_aload_n dCls_takeFrom_0 rfl ?_
  refine z_iload_n dCls_takeFrom_1 rfl ?_
  refine z_callV (bc' := 0) (bs' := 0) MV_Cls_listAt lk_Cls_34 dCls_takeFrom_2 (k_Cls_listAt hC (by omega)) rfl rfl (Nat.le_of_ble_eq_true rfl) rfl c2 (Nat.le_of_ble_eq_true rfl) (Nat.le_of_ble_eq_true rfl) (by decide) (by decide) (fun E h9 q9 => absurd (by omega) q9.2.1) ?_
  rintro _ _ ⟨rfl, k1, k2, rfl⟩
  rw [show (k : Int).toNat = k by omega]
  refine z_iload_n dCls_takeFrom_5 rfl ?_
  refine z_callVN MV_Row_takeOut lk_Cls_88 dCls_takeFrom_6 (k_Row_takeOut hr (by omega)) rfl rfl (Nat.le_of_ble_eq_true rfl) rfl e1 (Nat.le_of_ble_eq_true rfl) (Nat.le_of_ble_eq_true rfl) (Nat.le_of_eq (Nat.zero_add _)) (Nat.le_of_eq (Nat.zero_add _)) (fun _ _ q => q.elim) ?_
  rintro _ h1 (⟨rfl, k3, k4, hr1, f1⟩ | ⟨rfl, k3, rfl⟩)
  rotate_left
  · exact absurd hp k3
  have hC1 := hC.row hk hr1 f1
  obtain ⟨c21, c22, -⟩ := id hC1
  refine z_istore_n dCls_takeFrom_9 (Nat.le_of_ble_eq_true rfl) ?_
  refine z_aload_n dCls_takeFrom_10 rfl ?_
  refine z_iload_n dCls_takeFrom_11 rfl ?_
  refine z_iconst dCls_takeFrom_12 ?_
  refine z_callV MV_Cls_makeStale lk_Cls_58 dCls_takeFrom_13 (k_Cls_makeStale hC1 (by omega) (by omega)) rfl rfl (Nat.le_of_ble_eq_true rfl) rfl c22 (Nat.le_of_ble_eq_true rfl) (Nat.le_of_ble_eq_true rfl) (Nat.le_of_eq (Nat.zero_add _)) (Nat.le_of_eq (Nat.zero_add _)) (fun _ _ q => q.elim) ?_
  rintro _ h2 ⟨rfl, hC2, f2⟩
  refine z_iload_n dCls_takeFrom_16 rfl ?_
  refine z_iret rfl rfl dCls_takeFrom_17 ?_
  exact ⟨rfl, hC2, (zFrm.of2 (i := 8 + 2 * k) (j := 9 + 2 * k) (by omega) (by omega) f1).tr f2⟩
theorem k_Cls_becomeResult {k : Nat} {b : Int} {R : List Int} (hC : zCls G h ad S) (hk : k < 4) (hR : zRow G h (ad 16) (ad 17) R) (hb : b = 0 ∨ b = 1) : zM G l hCls_becomeResult yCls_becomeResult 8 [.ref (ad 0), zi (k : Int), zi b] h (fun v h' => ((b = 1 ∧ v = some (zi (R.length : Int)) ∧ zCls G h' ad (zsStale (zsL S k R) k (-1))) ∨ (b = 0 ∧ v = some (zi (-1000009)) ∧ zCls G h' ad (zsRef S))) ∧ zFrm ad h h') zNo 1 6 := by
  obtain ⟨c1, c2, ⟨g3, c3, d3⟩, ⟨g4, c4, d4⟩, c5, ⟨T6, c6, d6⟩, c7, c8, ⟨R9, c9⟩, c10⟩ := id hC
  have hr := hC.ls hk
  obtain ⟨f, e1, e2, e3, e4, e5⟩ := id hr
  obtain ⟨f9, b1, b2, b3, b4, b5⟩ := id hR
  refine zM.of [some (.ref (ad 0)), some (zi (k : Int)), some (zi b)] (by decide +kernel) rfl (by decide) rfl (Nat.le_of_ble_eq_true rfl) rfl ?_
  refine z_iload_n dCls_becomeResult_0 rfl ?_
  refine z_if_ne (tgt := 9) dCls_becomeResult_1 (by decide) (by omega) (fun c1 => ?_) (fun c1 => ?_)
  · refine z_aload_n dCls_becomeResult_9 rfl ?_
    refine z_iload_n dCls_becomeResult_10 rfl ?_
    refine z_callV (bc' := 0) (bs' := 0) MV_Cls_listAt lk_Cls_34 dCls_becomeResult_11 (k_Cls_listAt hC (by omega)) rfl rfl (Nat.le_of_ble_eq_true rfl) rfl c2 (Nat.le_of_ble_eq_true rfl) (Nat.le_of_ble_eq_true rfl) (by decide) (by decide) (fun E h9 q9 => absurd (by omega) q9.2.1) ?_
    rintro _ _ ⟨rfl, k1, k2, rfl⟩
    rw [show (k : Int).toNat = k by omega]
    refine z_aload_n dCls_becomeResult_14 rfl ?_
    refine z_get (k := 3) fd_Cls (by decide) fl_Cls_29 dCls_becomeResult_15 c2 (by rfl) ?_
    refine z_callVN MV_Row_become lk_Cls_105 dCls_becomeResult_18 (k_Row_become hr hR (hC.inj (by omega) (by omega) (by omega)) (hC.inj (by omega) (by omega) (by omega))) rfl rfl (Nat.le_of_ble_eq_true rfl) rfl e1 (Nat.le_of_ble_eq_true rfl) (Nat.le_of_ble_eq_true rfl) (Nat.le_of_eq (Nat.zero_add _)) (Nat.le_of_eq (Nat.zero_add _)) (fun _ _ q => q.elim) ?_
    rintro _ h1 ⟨rfl, hr1, f1⟩
    have hC1 := hC.row hk hr1 f1
    have hR1 : zRow G h1 (ad 16) (ad 17) R := hR.kept (f1 _ (hC.inj (by omega) (by omega) (by omega)) (hC.inj (by omega) (by omega) (by omega))) (f1 _ (hC.inj (by omega) (by omega) (by omega)) (hC.inj (by omega) (by omega) (by omega)))
    obtain ⟨c21, c22, -⟩ := id hC1
    refine z_aload_n dCls_becomeResult_21 rfl ?_
    refine z_iload_n dCls_becomeResult_22 rfl ?_
    refine z_iconst dCls_becomeResult_23 ?_
    refine z_callV MV_Cls_makeStale lk_Cls_58 dCls_becomeResult_24 (k_Cls_makeStaleR hC1 hR1 (by omega) (by omega)) rfl rfl (Nat.le_of_ble_eq_true rfl) rfl c22 (Nat.le_of_ble_eq_true rfl) (Nat.le_of_ble_eq_true rfl) (Nat.le_of_eq (Nat.zero_add _)) (Nat.le_of_eq (Nat.zero_add _)) (fun _ _ q => q.elim) ?_
    rintro _ h2 ⟨rfl, hC2, hR2, f2⟩
    obtain ⟨c31, c32, -⟩ := id hC2
    obtain ⟨f8, a1, a2, a3, a4, a5⟩ := id hR2
    refine z_aload_n dCls_becomeResult_27 rfl ?_
    refine z_get (k := 3) fd_Cls (by decide) fl_Cls_29 dCls_becomeResult_28 c32 (by rfl) ?_
    refine z_getN (k := 1) fd_Row (by decide) fl_Cls_46 dCls_becomeResult_31 a1 (by rfl) ?_
    refine z_iret rfl rfl dCls_becomeResult_34 ?_
    exact ⟨Or.inl ⟨by omega, rfl, hC2⟩, (zFrm.of2 (i := 8 + 2 * k) (j := 9 + 2 * k) (by omega) (by omega) f1).tr f2⟩
  · refine z_aload_n dCls_becomeResult_4 rfl ?_
    refine z_callV MV_Cls_refuse lk_Cls_54 dCls_becomeResult_5 (k_Cls_refuse hC) rfl rfl (Nat.le_of_ble_eq_true rfl) rfl c2 (Nat.le_of_ble_eq_true rfl) (Nat.le_of_ble_eq_true rfl) (Nat.le_of_eq (Nat.zero_add _)) (Nat.le_of_eq (Nat.zero_add _)) (fun _ _ q => q.elim) ?_
    rintro _ h2 ⟨rfl, hC2, f2⟩
    refine z_iret rfl rfl dCls_becomeResult_8 ?_
    exact ⟨Or.inr ⟨by omega, rfl, hC2⟩, f2⟩
end CLS2
