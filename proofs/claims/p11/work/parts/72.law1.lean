section LAW1
variable {G : zG} {l : Launch} {h h' h0 : zHp} {ad ma : Nat → Nat} {S S' : zSt} {th : Int}
/-- text: the number in out stays -/
def sp_text (S : zSt) (p n : Int) : zRes := if 0 ≤ p ∧ p < 4 then (.inl n, S) else (.inr zE1, S)
theorem xE_put {p w x : Int} {E : String} (h : sp_put S p w x = (.inr E, S')) : E = zE1 ∨ E = zE2 := by
  unfold sp_put at h
  (try simp only [spPut, spTake, spBec, spRef] at h)
  (repeat' split at h)
  all_goals first
    | exact Or.inl (Sum.inr.inj (Prod.mk.inj h).1).symm
    | exact Or.inr ((Sum.inr.inj (Prod.mk.inj h).1).symm)
    | exact absurd (Prod.mk.inj h).1 (by simp)
theorem k_Law_put {p w x : Int}  (hC : zCls G h ad S) (z_p : zI32 p) (z_w : zI32 w) (z_x : zI32 x) {ou : Nat} {n0 : Int} {sv : Value} (eo : h ou = some (.inr (zkOut, [zl (zwd n0), sv]))) (hn : ∀ i, i < 20 → ou ≠ ad i) : zMW G l hLaw_put yLaw_put 10 [.ref (ad 0), zi p, zi w, zi x, .ref ou] h (zQw G ad ou h (1) (2) (9) (sp_put S p w x)) zNo 6 36 := by
  refine zMW.of [some (.ref (ad 0)), some (zi p), some (zi w), some (zi x), some (.ref ou), none] (by decide +kernel) rfl (by decide) (Nat.le_of_ble_eq_true rfl) rfl ?_
  refine z_aload dLaw_put_0 rfl ?_
  refine z_aload_n dLaw_put_2 rfl ?_
  refine z_iload_n dLaw_put_3 rfl ?_
  refine z_iload_n dLaw_put_4 rfl ?_
  refine z_iload_n dLaw_put_5 rfl ?_
  refine z_callV (bc' := 0) (bs' := 0) MV_Cls_put lk_Law_7 dLaw_put_6 (k_Cls_put hC z_p z_w z_x) rfl rfl (Nat.le_of_ble_eq_true rfl) rfl hC.2.1 (Nat.le_of_ble_eq_true rfl) (Nat.le_of_ble_eq_true rfl) (by decide) (by decide) (fun E h1 q9 => ?_) ?_
  · obtain ⟨S9, e9, H9, F9⟩ := q9
    rcases xE_put e9 with rfl | rfl
    · refine z_catch (a := 0) (b := 13) (hp := 16) (ct := 19) [] [(0, 13, 20, 21)] rfl (fun z hz => nomatch hz) (by decide) (by decide) wl_zE1 wk_zE1 (fun qx => ?_)
      refine z_astore dLaw_put_16 (Nat.le_of_ble_eq_true rfl) ?_
      refine z_iconst dLaw_put_18 ?_
      refine z_iret rfl rfl dLaw_put_19 ?_
      exact zQw.tw e9 H9 F9 eo hn (Or.inl ⟨rfl, rfl⟩)
    · refine z_catch (a := 0) (b := 13) (hp := 20) (ct := 21) [(0, 13, 16, 19)] [] rfl (by intro z hz; simp only [List.mem_cons, List.not_mem_nil, or_false] at hz; rcases hz with rfl <;> first | exact ⟨by decide, _, wl_zE1, by decide⟩) (by decide) (by decide) wl_zE2 wk_zE2 (fun qx => ?_)
      refine z_astore dLaw_put_20 (Nat.le_of_ble_eq_true rfl) ?_
      refine z_iconst dLaw_put_22 ?_
      refine z_iret rfl rfl dLaw_put_23 ?_
      exact zQw.tw e9 H9 F9 eo hn (Or.inr (Or.inl ⟨rfl, rfl⟩))
  · rintro _ h1 ⟨z, S9, e9, rfl, H9, F9⟩
    have eo1 := (F9 ou hn).trans eo
    rw [zwd_i z]
    refine z_i2l (zwd_r z) dLaw_put_9 ?_
    refine z_putN (k := 0) fd_Out (by decide) fl_Law_13 rfl dLaw_put_10 (by assumption) (by simp) rfl rfl ?_
    refine z_hx (fun h2 p2 g2 => ?_)
    refine z_goto (tgt := 24) dLaw_put_13 (by decide) ?_
    refine z_iconst dLaw_put_24 ?_
    refine z_iret rfl rfl dLaw_put_25 ?_
    exact zQw.ok e9 H9 F9 hn p2 g2
theorem xE_take {p w : Int} {E : String} (h : sp_take S p w = (.inr E, S')) : E = zE1 ∨ E = zE2 := by
  unfold sp_take at h
  (try simp only [spPut, spTake, spBec, spRef] at h)
  (repeat' split at h)
  all_goals first
    | exact Or.inl (Sum.inr.inj (Prod.mk.inj h).1).symm
    | exact Or.inr ((Sum.inr.inj (Prod.mk.inj h).1).symm)
    | exact absurd (Prod.mk.inj h).1 (by simp)
theorem k_Law_take {p w : Int}  (hC : zCls G h ad S) (z_p : zI32 p) (z_w : zI32 w) {ou : Nat} {n0 : Int} {sv : Value} (eo : h ou = some (.inr (zkOut, [zl (zwd n0), sv]))) (hn : ∀ i, i < 20 → ou ≠ ad i) : zMW G l hLaw_take yLaw_take 10 [.ref (ad 0), zi p, zi w, .ref ou] h (zQw G ad ou h (1) (2) (9) (sp_take S p w)) zNo 6 36 := by
  refine zMW.of [some (.ref (ad 0)), some (zi p), some (zi w), some (.ref ou), none] (by decide +kernel) rfl (by decide) (Nat.le_of_ble_eq_true rfl) rfl ?_
  refine z_aload_n dLaw_take_0 rfl ?_
  refine z_aload_n dLaw_take_1 rfl ?_
  refine z_iload_n dLaw_take_2 rfl ?_
  refine z_iload_n dLaw_take_3 rfl ?_
  refine z_callV (bc' := 0) (bs' := 0) MV_Cls_take lk_Law_23 dLaw_take_4 (k_Cls_take hC z_p z_w) rfl rfl (Nat.le_of_ble_eq_true rfl) rfl hC.2.1 (Nat.le_of_ble_eq_true rfl) (Nat.le_of_ble_eq_true rfl) (by decide) (by decide) (fun E h1 q9 => ?_) ?_
  · obtain ⟨S9, e9, H9, F9⟩ := q9
    rcases xE_take e9 with rfl | rfl
    · refine z_catch (a := 0) (b := 11) (hp := 14) (ct := 19) [] [(0, 11, 18, 21)] rfl (fun z hz => nomatch hz) (by decide) (by decide) wl_zE1 wk_zE1 (fun qx => ?_)
      refine z_astore dLaw_take_14 (Nat.le_of_ble_eq_true rfl) ?_
      refine z_iconst dLaw_take_16 ?_
      refine z_iret rfl rfl dLaw_take_17 ?_
      exact zQw.tw e9 H9 F9 eo hn (Or.inl ⟨rfl, rfl⟩)
    · refine z_catch (a := 0) (b := 11) (hp := 18) (ct := 21) [(0, 11, 14, 19)] [] rfl (by intro z hz; simp only [List.mem_cons, List.not_mem_nil, or_false] at hz; rcases hz with rfl <;> first | exact ⟨by decide, _, wl_zE1, by decide⟩) (by decide) (by decide) wl_zE2 wk_zE2 (fun qx => ?_)
      refine z_astore dLaw_take_18 (Nat.le_of_ble_eq_true rfl) ?_
      refine z_iconst dLaw_take_20 ?_
      refine z_iret rfl rfl dLaw_take_21 ?_
      exact zQw.tw e9 H9 F9 eo hn (Or.inr (Or.inl ⟨rfl, rfl⟩))
  · rintro _ h1 ⟨z, S9, e9, rfl, H9, F9⟩
    have eo1 := (F9 ou hn).trans eo
    rw [zwd_i z]
    refine z_i2l (zwd_r z) dLaw_take_7 ?_
    refine z_putN (k := 0) fd_Out (by decide) fl_Law_13 rfl dLaw_take_8 (by assumption) (by simp) rfl rfl ?_
    refine z_hx (fun h2 p2 g2 => ?_)
    refine z_goto (tgt := 22) dLaw_take_11 (by decide) ?_
    refine z_iconst dLaw_take_22 ?_
    refine z_iret rfl rfl dLaw_take_23 ?_
    exact zQw.ok e9 H9 F9 hn p2 g2
theorem xE_look {p w : Int} {E : String} (h : sp_look S p w = (.inr E, S')) : E = zE1 ∨ E = zE2 := by
  unfold sp_look at h
  (try simp only [spPut, spTake, spBec, spRef] at h)
  (repeat' split at h)
  all_goals first
    | exact Or.inl (Sum.inr.inj (Prod.mk.inj h).1).symm
    | exact Or.inr ((Sum.inr.inj (Prod.mk.inj h).1).symm)
    | exact absurd (Prod.mk.inj h).1 (by simp)
theorem k_Law_look {p w : Int}  (hC : zCls G h ad S) (z_p : zI32 p) (z_w : zI32 w) {ou : Nat} {n0 : Int} {sv : Value} (eo : h ou = some (.inr (zkOut, [zl (zwd n0), sv]))) (hn : ∀ i, i < 20 → ou ≠ ad i) : zMW G l hLaw_look yLaw_look 10 [.ref (ad 0), zi p, zi w, .ref ou] h (zQw G ad ou h (1) (2) (9) (sp_look S p w)) zNo 6 36 := by
  refine zMW.of [some (.ref (ad 0)), some (zi p), some (zi w), some (.ref ou), none] (by decide +kernel) rfl (by decide) (Nat.le_of_ble_eq_true rfl) rfl ?_
  refine z_aload_n dLaw_look_0 rfl ?_
  refine z_aload_n dLaw_look_1 rfl ?_
  refine z_iload_n dLaw_look_2 rfl ?_
  refine z_iload_n dLaw_look_3 rfl ?_
  refine z_callV (bc' := 0) (bs' := 0) MV_Cls_look lk_Law_27 dLaw_look_4 (k_Cls_look hC z_p z_w) rfl rfl (Nat.le_of_ble_eq_true rfl) rfl hC.2.1 (Nat.le_of_ble_eq_true rfl) (Nat.le_of_ble_eq_true rfl) (by decide) (by decide) (fun E h1 q9 => ?_) ?_
  · obtain ⟨S9, e9, H9, F9⟩ := q9
    rcases xE_look e9 with rfl | rfl
    · refine z_catch (a := 0) (b := 11) (hp := 14) (ct := 19) [] [(0, 11, 18, 21)] rfl (fun z hz => nomatch hz) (by decide) (by decide) wl_zE1 wk_zE1 (fun qx => ?_)
      refine z_astore dLaw_look_14 (Nat.le_of_ble_eq_true rfl) ?_
      refine z_iconst dLaw_look_16 ?_
      refine z_iret rfl rfl dLaw_look_17 ?_
      exact zQw.tw e9 H9 F9 eo hn (Or.inl ⟨rfl, rfl⟩)
    · refine z_catch (a := 0) (b := 11) (hp := 18) (ct := 21) [(0, 11, 14, 19)] [] rfl (by intro z hz; simp only [List.mem_cons, List.not_mem_nil, or_false] at hz; rcases hz with rfl <;> first | exact ⟨by decide, _, wl_zE1, by decide⟩) (by decide) (by decide) wl_zE2 wk_zE2 (fun qx => ?_)
      refine z_astore dLaw_look_18 (Nat.le_of_ble_eq_true rfl) ?_
      refine z_iconst dLaw_look_20 ?_
      refine z_iret rfl rfl dLaw_look_21 ?_
      exact zQw.tw e9 H9 F9 eo hn (Or.inr (Or.inl ⟨rfl, rfl⟩))
  · rintro _ h1 ⟨z, S9, e9, rfl, H9, F9⟩
    have eo1 := (F9 ou hn).trans eo
    rw [zwd_i z]
    refine z_i2l (zwd_r z) dLaw_look_7 ?_
    refine z_putN (k := 0) fd_Out (by decide) fl_Law_13 rfl dLaw_look_8 (by assumption) (by simp) rfl rfl ?_
    refine z_hx (fun h2 p2 g2 => ?_)
    refine z_goto (tgt := 22) dLaw_look_11 (by decide) ?_
    refine z_iconst dLaw_look_22 ?_
    refine z_iret rfl rfl dLaw_look_23 ?_
    exact zQw.ok e9 H9 F9 hn p2 g2
theorem xE_get {p q : Int} {E : String} (h : sp_get S p q = (.inr E, S')) : E = zE1 := by
  unfold sp_get at h
  (try simp only [spPut, spTake, spBec, spRef] at h)
  (repeat' split at h)
  all_goals first
    | exact (Sum.inr.inj (Prod.mk.inj h).1).symm
    | exact absurd (Prod.mk.inj h).1 (by simp)
theorem k_Law_get {p q : Int}  (hC : zCls G h ad S) (z_p : zI32 p) (z_q : zI32 q) {ou : Nat} {n0 : Int} {sv : Value} (eo : h ou = some (.inr (zkOut, [zl (zwd n0), sv]))) (hn : ∀ i, i < 20 → ou ≠ ad i) : zMW G l hLaw_get yLaw_get 10 [.ref (ad 0), zi p, zi q, .ref ou] h (zQw G ad ou h (1) (9) (9) (sp_get S p q)) zNo 6 36 := by
  refine zMW.of [some (.ref (ad 0)), some (zi p), some (zi q), some (.ref ou), none] (by decide +kernel) rfl (by decide) (Nat.le_of_ble_eq_true rfl) rfl ?_
  refine z_aload_n dLaw_get_0 rfl ?_
  refine z_aload_n dLaw_get_1 rfl ?_
  refine z_iload_n dLaw_get_2 rfl ?_
  refine z_iload_n dLaw_get_3 rfl ?_
  refine z_callV (bc' := 0) (bs' := 0) MV_Cls_get lk_Law_30 dLaw_get_4 (k_Cls_get hC z_p z_q) rfl rfl (Nat.le_of_ble_eq_true rfl) rfl hC.2.1 (Nat.le_of_ble_eq_true rfl) (Nat.le_of_ble_eq_true rfl) (by decide) (by decide) (fun E h1 q9 => ?_) ?_
  · obtain ⟨S9, e9, H9, F9⟩ := q9
    obtain rfl := xE_get e9
    refine z_catch (a := 0) (b := 11) (hp := 14) (ct := 19) [] [] rfl (fun z hz => nomatch hz) (by decide) (by decide) wl_zE1 wk_zE1 (fun qx => ?_)
    refine z_astore dLaw_get_14 (Nat.le_of_ble_eq_true rfl) ?_
    refine z_iconst dLaw_get_16 ?_
    refine z_iret rfl rfl dLaw_get_17 ?_
    exact zQw.tw e9 H9 F9 eo hn (Or.inl ⟨rfl, rfl⟩)
  · rintro _ h1 ⟨z, S9, e9, rfl, H9, F9⟩
    have eo1 := (F9 ou hn).trans eo
    rw [zwd_i z]
    refine z_i2l (zwd_r z) dLaw_get_7 ?_
    refine z_putN (k := 0) fd_Out (by decide) fl_Law_13 rfl dLaw_get_8 (by assumption) (by simp) rfl rfl ?_
    refine z_hx (fun h2 p2 g2 => ?_)
    refine z_goto (tgt := 18) dLaw_get_11 (by decide) ?_
    refine z_iconst dLaw_get_18 ?_
    refine z_iret rfl rfl dLaw_get_19 ?_
    exact zQw.ok e9 H9 F9 hn p2 g2
theorem xE_set {p q x : Int} {E : String} (h : sp_set S p q x = (.inr E, S')) : E = zE1 ∨ E = zE2 := by
  unfold sp_set at h
  (try simp only [spPut, spTake, spBec, spRef] at h)
  (repeat' split at h)
  all_goals first
    | exact Or.inl (Sum.inr.inj (Prod.mk.inj h).1).symm
    | exact Or.inr ((Sum.inr.inj (Prod.mk.inj h).1).symm)
    | exact absurd (Prod.mk.inj h).1 (by simp)
theorem k_Law_set {p q x : Int}  (hC : zCls G h ad S) (z_p : zI32 p) (z_q : zI32 q) (z_x : zI32 x) {ou : Nat} {n0 : Int} {sv : Value} (eo : h ou = some (.inr (zkOut, [zl (zwd n0), sv]))) (hn : ∀ i, i < 20 → ou ≠ ad i) : zMW G l hLaw_set yLaw_set 10 [.ref (ad 0), zi p, zi q, zi x, .ref ou] h (zQw G ad ou h (1) (2) (9) (sp_set S p q x)) zNo 6 36 := by
  refine zMW.of [some (.ref (ad 0)), some (zi p), some (zi q), some (zi x), some (.ref ou), none] (by decide +kernel) rfl (by decide) (Nat.le_of_ble_eq_true rfl) rfl ?_
  refine z_aload dLaw_set_0 rfl ?_
  refine z_aload_n dLaw_set_2 rfl ?_
  refine z_iload_n dLaw_set_3 rfl ?_
  refine z_iload_n dLaw_set_4 rfl ?_
  refine z_iload_n dLaw_set_5 rfl ?_
  refine z_callV (bc' := 0) (bs' := 0) MV_Cls_set lk_Law_33 dLaw_set_6 (k_Cls_set hC z_p z_q z_x) rfl rfl (Nat.le_of_ble_eq_true rfl) rfl hC.2.1 (Nat.le_of_ble_eq_true rfl) (Nat.le_of_ble_eq_true rfl) (by decide) (by decide) (fun E h1 q9 => ?_) ?_
  · obtain ⟨S9, e9, H9, F9⟩ := q9
    rcases xE_set e9 with rfl | rfl
    · refine z_catch (a := 0) (b := 13) (hp := 16) (ct := 19) [] [(0, 13, 20, 21)] rfl (fun z hz => nomatch hz) (by decide) (by decide) wl_zE1 wk_zE1 (fun qx => ?_)
      refine z_astore dLaw_set_16 (Nat.le_of_ble_eq_true rfl) ?_
      refine z_iconst dLaw_set_18 ?_
      refine z_iret rfl rfl dLaw_set_19 ?_
      exact zQw.tw e9 H9 F9 eo hn (Or.inl ⟨rfl, rfl⟩)
    · refine z_catch (a := 0) (b := 13) (hp := 20) (ct := 21) [(0, 13, 16, 19)] [] rfl (by intro z hz; simp only [List.mem_cons, List.not_mem_nil, or_false] at hz; rcases hz with rfl <;> first | exact ⟨by decide, _, wl_zE1, by decide⟩) (by decide) (by decide) wl_zE2 wk_zE2 (fun qx => ?_)
      refine z_astore dLaw_set_20 (Nat.le_of_ble_eq_true rfl) ?_
      refine z_iconst dLaw_set_22 ?_
      refine z_iret rfl rfl dLaw_set_23 ?_
      exact zQw.tw e9 H9 F9 eo hn (Or.inr (Or.inl ⟨rfl, rfl⟩))
  · rintro _ h1 ⟨z, S9, e9, rfl, H9, F9⟩
    have eo1 := (F9 ou hn).trans eo
    rw [zwd_i z]
    refine z_i2l (zwd_r z) dLaw_set_9 ?_
    refine z_putN (k := 0) fd_Out (by decide) fl_Law_13 rfl dLaw_set_10 (by assumption) (by simp) rfl rfl ?_
    refine z_hx (fun h2 p2 g2 => ?_)
    refine z_goto (tgt := 24) dLaw_set_13 (by decide) ?_
    refine z_iconst dLaw_set_24 ?_
    refine z_iret rfl rfl dLaw_set_25 ?_
    exact zQw.ok e9 H9 F9 hn p2 g2
theorem xE_insert {p q x : Int} {E : String} (h : sp_insert S p q x = (.inr E, S')) : E = zE1 ∨ E = zE2 := by
  unfold sp_insert at h
  (try simp only [spPut, spTake, spBec, spRef] at h)
  (repeat' split at h)
  all_goals first
    | exact Or.inl (Sum.inr.inj (Prod.mk.inj h).1).symm
    | exact Or.inr ((Sum.inr.inj (Prod.mk.inj h).1).symm)
    | exact absurd (Prod.mk.inj h).1 (by simp)
theorem k_Law_insert {p q x : Int}  (hC : zCls G h ad S) (z_p : zI32 p) (z_q : zI32 q) (z_x : zI32 x) {ou : Nat} {n0 : Int} {sv : Value} (eo : h ou = some (.inr (zkOut, [zl (zwd n0), sv]))) (hn : ∀ i, i < 20 → ou ≠ ad i) : zMW G l hLaw_insert yLaw_insert 10 [.ref (ad 0), zi p, zi q, zi x, .ref ou] h (zQw G ad ou h (1) (2) (9) (sp_insert S p q x)) zNo 6 36 := by
  refine zMW.of [some (.ref (ad 0)), some (zi p), some (zi q), some (zi x), some (.ref ou), none] (by decide +kernel) rfl (by decide) (Nat.le_of_ble_eq_true rfl) rfl ?_
  refine z_aload dLaw_insert_0 rfl ?_
  refine z_aload_n dLaw_insert_2 rfl ?_
  refine z_iload_n dLaw_insert_3 rfl ?_
  refine z_iload_n dLaw_insert_4 rfl ?_
  refine z_iload_n dLaw_insert_5 rfl ?_
  refine z_callV (bc' := 0) (bs' := 0) MV_Cls_insert lk_Law_36 dLaw_insert_6 (k_Cls_insert hC z_p z_q z_x) rfl rfl (Nat.le_of_ble_eq_true rfl) rfl hC.2.1 (Nat.le_of_ble_eq_true rfl) (Nat.le_of_ble_eq_true rfl) (by decide) (by decide) (fun E h1 q9 => ?_) ?_
  · obtain ⟨S9, e9, H9, F9⟩ := q9
    rcases xE_insert e9 with rfl | rfl
    · refine z_catch (a := 0) (b := 13) (hp := 16) (ct := 19) [] [(0, 13, 20, 21)] rfl (fun z hz => nomatch hz) (by decide) (by decide) wl_zE1 wk_zE1 (fun qx => ?_)
      refine z_astore dLaw_insert_16 (Nat.le_of_ble_eq_true rfl) ?_
      refine z_iconst dLaw_insert_18 ?_
      refine z_iret rfl rfl dLaw_insert_19 ?_
      exact zQw.tw e9 H9 F9 eo hn (Or.inl ⟨rfl, rfl⟩)
    · refine z_catch (a := 0) (b := 13) (hp := 20) (ct := 21) [(0, 13, 16, 19)] [] rfl (by intro z hz; simp only [List.mem_cons, List.not_mem_nil, or_false] at hz; rcases hz with rfl <;> first | exact ⟨by decide, _, wl_zE1, by decide⟩) (by decide) (by decide) wl_zE2 wk_zE2 (fun qx => ?_)
      refine z_astore dLaw_insert_20 (Nat.le_of_ble_eq_true rfl) ?_
      refine z_iconst dLaw_insert_22 ?_
      refine z_iret rfl rfl dLaw_insert_23 ?_
      exact zQw.tw e9 H9 F9 eo hn (Or.inr (Or.inl ⟨rfl, rfl⟩))
  · rintro _ h1 ⟨z, S9, e9, rfl, H9, F9⟩
    have eo1 := (F9 ou hn).trans eo
    rw [zwd_i z]
    refine z_i2l (zwd_r z) dLaw_insert_9 ?_
    refine z_putN (k := 0) fd_Out (by decide) fl_Law_13 rfl dLaw_insert_10 (by assumption) (by simp) rfl rfl ?_
    refine z_hx (fun h2 p2 g2 => ?_)
    refine z_goto (tgt := 24) dLaw_insert_13 (by decide) ?_
    refine z_iconst dLaw_insert_24 ?_
    refine z_iret rfl rfl dLaw_insert_25 ?_
    exact zQw.ok e9 H9 F9 hn p2 g2
theorem xE_removeAt {p q : Int} {E : String} (h : sp_removeAt S p q = (.inr E, S')) : E = zE1 := by
  unfold sp_removeAt at h
  (try simp only [spPut, spTake, spBec, spRef] at h)
  (repeat' split at h)
  all_goals first
    | exact (Sum.inr.inj (Prod.mk.inj h).1).symm
    | exact absurd (Prod.mk.inj h).1 (by simp)
theorem k_Law_removeAt {p q : Int}  (hC : zCls G h ad S) (z_p : zI32 p) (z_q : zI32 q) {ou : Nat} {n0 : Int} {sv : Value} (eo : h ou = some (.inr (zkOut, [zl (zwd n0), sv]))) (hn : ∀ i, i < 20 → ou ≠ ad i) : zMW G l hLaw_removeAt yLaw_removeAt 10 [.ref (ad 0), zi p, zi q, .ref ou] h (zQw G ad ou h (1) (9) (9) (sp_removeAt S p q)) zNo 6 36 := by
  refine zMW.of [some (.ref (ad 0)), some (zi p), some (zi q), some (.ref ou), none] (by decide +kernel) rfl (by decide) (Nat.le_of_ble_eq_true rfl) rfl ?_
  refine z_aload_n dLaw_removeAt_0 rfl ?_
  refine z_aload_n dLaw_removeAt_1 rfl ?_
  refine z_iload_n dLaw_removeAt_2 rfl ?_
  refine z_iload_n dLaw_removeAt_3 rfl ?_
  refine z_callV (bc' := 0) (bs' := 0) MV_Cls_removeAt lk_Law_39 dLaw_removeAt_4 (k_Cls_removeAt hC z_p z_q) rfl rfl (Nat.le_of_ble_eq_true rfl) rfl hC.2.1 (Nat.le_of_ble_eq_true rfl) (Nat.le_of_ble_eq_true rfl) (by decide) (by decide) (fun E h1 q9 => ?_) ?_
  · obtain ⟨S9, e9, H9, F9⟩ := q9
    obtain rfl := xE_removeAt e9
    refine z_catch (a := 0) (b := 11) (hp := 14) (ct := 19) [] [] rfl (fun z hz => nomatch hz) (by decide) (by decide) wl_zE1 wk_zE1 (fun qx => ?_)
    refine z_astore dLaw_removeAt_14 (Nat.le_of_ble_eq_true rfl) ?_
    refine z_iconst dLaw_removeAt_16 ?_
    refine z_iret rfl rfl dLaw_removeAt_17 ?_
    exact zQw.tw e9 H9 F9 eo hn (Or.inl ⟨rfl, rfl⟩)
  · rintro _ h1 ⟨z, S9, e9, rfl, H9, F9⟩
    have eo1 := (F9 ou hn).trans eo
    rw [zwd_i z]
    refine z_i2l (zwd_r z) dLaw_removeAt_7 ?_
    refine z_putN (k := 0) fd_Out (by decide) fl_Law_13 rfl dLaw_removeAt_8 (by assumption) (by simp) rfl rfl ?_
    refine z_hx (fun h2 p2 g2 => ?_)
    refine z_goto (tgt := 18) dLaw_removeAt_11 (by decide) ?_
    refine z_iconst dLaw_removeAt_18 ?_
    refine z_iret rfl rfl dLaw_removeAt_19 ?_
    exact zQw.ok e9 H9 F9 hn p2 g2
theorem xE_drop {p x b : Int} {E : String} (h : sp_drop S p x b = (.inr E, S')) : E = zE1 := by
  unfold sp_drop at h
  (try simp only [spPut, spTake, spBec, spRef] at h)
  (repeat' split at h)
  all_goals first
    | exact (Sum.inr.inj (Prod.mk.inj h).1).symm
    | exact absurd (Prod.mk.inj h).1 (by simp)
theorem xB_drop {p x b : Int} {z : Int} (h : sp_drop S p x b = (.inl z, S')) : z = 0 ∨ z = 1 := by
  unfold sp_drop at h
  (try simp only [spPut, spTake, spBec, spRef] at h)
  (repeat' split at h)
  all_goals first
    | exact Or.inl (Sum.inl.inj (Prod.mk.inj h).1).symm
    | exact Or.inr (Sum.inl.inj (Prod.mk.inj h).1).symm
    | exact absurd (Prod.mk.inj h).1 (by simp)
theorem k_Law_drop {p x b : Int} (hb : b = 0 ∨ b = 1) (hC : zCls G h ad S) (z_p : zI32 p) (z_x : zI32 x) (z_b : zI32 b) {ou : Nat} {n0 : Int} {sv : Value} (eo : h ou = some (.inr (zkOut, [zl (zwd n0), sv]))) (hn : ∀ i, i < 20 → ou ≠ ad i) : zMW G l hLaw_drop yLaw_drop 10 [.ref (ad 0), zi p, zi x, zi b, .ref ou] h (zQw G ad ou h (1) (9) (9) (sp_drop S p x b)) zNo 6 36 := by
  refine zMW.of [some (.ref (ad 0)), some (zi p), some (zi x), some (zi b), some (.ref ou), none] (by decide +kernel) rfl (by decide) (Nat.le_of_ble_eq_true rfl) rfl ?_
  refine z_aload dLaw_drop_0 rfl ?_
  refine z_aload_n dLaw_drop_2 rfl ?_
  refine z_iload_n dLaw_drop_3 rfl ?_
  refine z_iload_n dLaw_drop_4 rfl ?_
  refine z_iload_n dLaw_drop_5 rfl ?_
  refine z_callV (bc' := 0) (bs' := 0) MV_Cls_drop lk_Law_42 dLaw_drop_6 (k_Cls_drop hb hC z_p z_x z_b) rfl rfl (Nat.le_of_ble_eq_true rfl) rfl hC.2.1 (Nat.le_of_ble_eq_true rfl) (Nat.le_of_ble_eq_true rfl) (by decide) (by decide) (fun E h1 q9 => ?_) ?_
  · obtain ⟨S9, e9, H9, F9⟩ := q9
    obtain rfl := xE_drop e9
    refine z_catch (a := 0) (b := 20) (hp := 23) (ct := 19) [] [] rfl (fun z hz => nomatch hz) (by decide) (by decide) wl_zE1 wk_zE1 (fun qx => ?_)
    refine z_astore dLaw_drop_23 (Nat.le_of_ble_eq_true rfl) ?_
    refine z_iconst dLaw_drop_25 ?_
    refine z_iret rfl rfl dLaw_drop_26 ?_
    exact zQw.tw e9 H9 F9 eo hn (Or.inl ⟨rfl, rfl⟩)
  · rintro _ h1 ⟨z, S9, e9, rfl, H9, F9⟩
    have eo1 := (F9 ou hn).trans eo
    have hz := xB_drop e9
    refine z_if_eq (tgt := 16) dLaw_drop_9 (by decide) (by omega) (fun c9 => ?_) (fun c9 => ?_)
    · refine z_lconst dLaw_drop_16 0 rfl ?_
      refine z_putN (k := 0) fd_Out (by decide) fl_Law_13 rfl dLaw_drop_17 (by assumption) (by simp) rfl rfl ?_
      refine z_hx (fun h2 p2 g2 => ?_)
      refine z_goto (tgt := 27) dLaw_drop_20 (by decide) ?_
      refine z_iconst dLaw_drop_27 ?_
      refine z_iret rfl rfl dLaw_drop_28 ?_
      first
        | exact zQw.ok e9 H9 F9 hn (by rw [show zwd z = 0 by (rw [show z = 0 by omega]; decide)]; exact p2) g2
        | exact zQw.ok e9 H9 F9 hn (by rw [show zwd z = 1 by (rw [show z = 1 by omega]; decide)]; exact p2) g2
    · refine z_lconst dLaw_drop_12 1 rfl ?_
      refine z_goto (tgt := 17) dLaw_drop_13 (by decide) ?_
      refine z_putN (k := 0) fd_Out (by decide) fl_Law_13 rfl dLaw_drop_17 (by assumption) (by simp) rfl rfl ?_
      refine z_hx (fun h2 p2 g2 => ?_)
      refine z_goto (tgt := 27) dLaw_drop_20 (by decide) ?_
      refine z_iconst dLaw_drop_27 ?_
      refine z_iret rfl rfl dLaw_drop_28 ?_
      first
        | exact zQw.ok e9 H9 F9 hn (by rw [show zwd z = 0 by (rw [show z = 0 by omega]; decide)]; exact p2) g2
        | exact zQw.ok e9 H9 F9 hn (by rw [show zwd z = 1 by (rw [show z = 1 by omega]; decide)]; exact p2) g2
theorem xE_thin {p x : Int} {E : String} (h : sp_thin S p x = (.inr E, S')) : E = zE1 := by
  unfold sp_thin at h
  (try simp only [spPut, spTake, spBec, spRef] at h)
  (repeat' split at h)
  all_goals first
    | exact (Sum.inr.inj (Prod.mk.inj h).1).symm
    | exact absurd (Prod.mk.inj h).1 (by simp)
theorem k_Law_thin {p x : Int}  (hC : zCls G h ad S) (z_p : zI32 p) (z_x : zI32 x) {ou : Nat} {n0 : Int} {sv : Value} (eo : h ou = some (.inr (zkOut, [zl (zwd n0), sv]))) (hn : ∀ i, i < 20 → ou ≠ ad i) : zMW G l hLaw_thin yLaw_thin 10 [.ref (ad 0), zi p, zi x, .ref ou] h (zQw G ad ou h (1) (9) (9) (sp_thin S p x)) zNo 6 36 := by
  refine zMW.of [some (.ref (ad 0)), some (zi p), some (zi x), some (.ref ou), none] (by decide +kernel) rfl (by decide) (Nat.le_of_ble_eq_true rfl) rfl ?_
  refine z_aload_n dLaw_thin_0 rfl ?_
  refine z_aload_n dLaw_thin_1 rfl ?_
  refine z_iload_n dLaw_thin_2 rfl ?_
  refine z_iload_n dLaw_thin_3 rfl ?_
  refine z_callV (bc' := 0) (bs' := 0) MV_Cls_thin lk_Law_46 dLaw_thin_4 (k_Cls_thin hC z_p z_x) rfl rfl (Nat.le_of_ble_eq_true rfl) rfl hC.2.1 (Nat.le_of_ble_eq_true rfl) (Nat.le_of_ble_eq_true rfl) (by decide) (by decide) (fun E h1 q9 => ?_) ?_
  · obtain ⟨S9, e9, H9, F9⟩ := q9
    obtain rfl := xE_thin e9
    refine z_catch (a := 0) (b := 11) (hp := 14) (ct := 19) [] [] rfl (fun z hz => nomatch hz) (by decide) (by decide) wl_zE1 wk_zE1 (fun qx => ?_)
    refine z_astore dLaw_thin_14 (Nat.le_of_ble_eq_true rfl) ?_
    refine z_iconst dLaw_thin_16 ?_
    refine z_iret rfl rfl dLaw_thin_17 ?_
    exact zQw.tw e9 H9 F9 eo hn (Or.inl ⟨rfl, rfl⟩)
  · rintro _ h1 ⟨z, S9, e9, rfl, H9, F9⟩
    have eo1 := (F9 ou hn).trans eo
    rw [zwd_i z]
    refine z_i2l (zwd_r z) dLaw_thin_7 ?_
    refine z_putN (k := 0) fd_Out (by decide) fl_Law_13 rfl dLaw_thin_8 (by assumption) (by simp) rfl rfl ?_
    refine z_hx (fun h2 p2 g2 => ?_)
    refine z_goto (tgt := 18) dLaw_thin_11 (by decide) ?_
    refine z_iconst dLaw_thin_18 ?_
    refine z_iret rfl rfl dLaw_thin_19 ?_
    exact zQw.ok e9 H9 F9 hn p2 g2
theorem xE_indexOf {p x b : Int} {E : String} (h : sp_indexOf S p x b = (.inr E, S')) : E = zE1 := by
  unfold sp_indexOf at h
  (try simp only [spPut, spTake, spBec, spRef] at h)
  (repeat' split at h)
  all_goals first
    | exact (Sum.inr.inj (Prod.mk.inj h).1).symm
    | exact absurd (Prod.mk.inj h).1 (by simp)
theorem k_Law_indexOf {p x b : Int} (hb : b = 0 ∨ b = 1) (hC : zCls G h ad S) (z_p : zI32 p) (z_x : zI32 x) (z_b : zI32 b) {ou : Nat} {n0 : Int} {sv : Value} (eo : h ou = some (.inr (zkOut, [zl (zwd n0), sv]))) (hn : ∀ i, i < 20 → ou ≠ ad i) : zMW G l hLaw_indexOf yLaw_indexOf 10 [.ref (ad 0), zi p, zi x, zi b, .ref ou] h (zQw G ad ou h (1) (9) (9) (sp_indexOf S p x b)) zNo 6 36 := by
  refine zMW.of [some (.ref (ad 0)), some (zi p), some (zi x), some (zi b), some (.ref ou), none] (by decide +kernel) rfl (by decide) (Nat.le_of_ble_eq_true rfl) rfl ?_
  refine z_aload dLaw_indexOf_0 rfl ?_
  refine z_aload_n dLaw_indexOf_2 rfl ?_
  refine z_iload_n dLaw_indexOf_3 rfl ?_
  refine z_iload_n dLaw_indexOf_4 rfl ?_
  refine z_iload_n dLaw_indexOf_5 rfl ?_
  refine z_callV (bc' := 0) (bs' := 0) MV_Cls_indexOf lk_Law_49 dLaw_indexOf_6 (k_Cls_indexOf hb hC z_p z_x z_b) rfl rfl (Nat.le_of_ble_eq_true rfl) rfl hC.2.1 (Nat.le_of_ble_eq_true rfl) (Nat.le_of_ble_eq_true rfl) (by decide) (by decide) (fun E h1 q9 => ?_) ?_
  · obtain ⟨S9, e9, H9, F9⟩ := q9
    obtain rfl := xE_indexOf e9
    refine z_catch (a := 0) (b := 13) (hp := 16) (ct := 19) [] [] rfl (fun z hz => nomatch hz) (by decide) (by decide) wl_zE1 wk_zE1 (fun qx => ?_)
    refine z_astore dLaw_indexOf_16 (Nat.le_of_ble_eq_true rfl) ?_
    refine z_iconst dLaw_indexOf_18 ?_
    refine z_iret rfl rfl dLaw_indexOf_19 ?_
    exact zQw.tw e9 H9 F9 eo hn (Or.inl ⟨rfl, rfl⟩)
  · rintro _ h1 ⟨z, S9, e9, rfl, H9, F9⟩
    have eo1 := (F9 ou hn).trans eo
    rw [zwd_i z]
    refine z_i2l (zwd_r z) dLaw_indexOf_9 ?_
    refine z_putN (k := 0) fd_Out (by decide) fl_Law_13 rfl dLaw_indexOf_10 (by assumption) (by simp) rfl rfl ?_
    refine z_hx (fun h2 p2 g2 => ?_)
    refine z_goto (tgt := 20) dLaw_indexOf_13 (by decide) ?_
    refine z_iconst dLaw_indexOf_20 ?_
    refine z_iret rfl rfl dLaw_indexOf_21 ?_
    exact zQw.ok e9 H9 F9 hn p2 g2
theorem xE_has {p x : Int} {E : String} (h : sp_has S p x = (.inr E, S')) : E = zE1 := by
  unfold sp_has at h
  (try simp only [spPut, spTake, spBec, spRef] at h)
  (repeat' split at h)
  all_goals first
    | exact (Sum.inr.inj (Prod.mk.inj h).1).symm
    | exact absurd (Prod.mk.inj h).1 (by simp)
theorem xB_has {p x : Int} {z : Int} (h : sp_has S p x = (.inl z, S')) : z = 0 ∨ z = 1 := by
  unfold sp_has at h
  (try simp only [spPut, spTake, spBec, spRef] at h)
  (repeat' split at h)
  all_goals first
    | exact Or.inl (Sum.inl.inj (Prod.mk.inj h).1).symm
    | exact Or.inr (Sum.inl.inj (Prod.mk.inj h).1).symm
    | exact absurd (Prod.mk.inj h).1 (by simp)
theorem k_Law_has {p x : Int}  (hC : zCls G h ad S) (z_p : zI32 p) (z_x : zI32 x) {ou : Nat} {n0 : Int} {sv : Value} (eo : h ou = some (.inr (zkOut, [zl (zwd n0), sv]))) (hn : ∀ i, i < 20 → ou ≠ ad i) : zMW G l hLaw_has yLaw_has 10 [.ref (ad 0), zi p, zi x, .ref ou] h (zQw G ad ou h (1) (9) (9) (sp_has S p x)) zNo 6 36 := by
  refine zMW.of [some (.ref (ad 0)), some (zi p), some (zi x), some (.ref ou), none] (by decide +kernel) rfl (by decide) (Nat.le_of_ble_eq_true rfl) rfl ?_
  refine z_aload_n dLaw_has_0 rfl ?_
  refine z_aload_n dLaw_has_1 rfl ?_
  refine z_iload_n dLaw_has_2 rfl ?_
  refine z_iload_n dLaw_has_3 rfl ?_
  refine z_callV (bc' := 0) (bs' := 0) MV_Cls_has lk_Law_53 dLaw_has_4 (k_Cls_has hC z_p z_x) rfl rfl (Nat.le_of_ble_eq_true rfl) rfl hC.2.1 (Nat.le_of_ble_eq_true rfl) (Nat.le_of_ble_eq_true rfl) (by decide) (by decide) (fun E h1 q9 => ?_) ?_
  · obtain ⟨S9, e9, H9, F9⟩ := q9
    obtain rfl := xE_has e9
    refine z_catch (a := 0) (b := 18) (hp := 21) (ct := 19) [] [] rfl (fun z hz => nomatch hz) (by decide) (by decide) wl_zE1 wk_zE1 (fun qx => ?_)
    refine z_astore dLaw_has_21 (Nat.le_of_ble_eq_true rfl) ?_
    refine z_iconst dLaw_has_23 ?_
    refine z_iret rfl rfl dLaw_has_24 ?_
    exact zQw.tw e9 H9 F9 eo hn (Or.inl ⟨rfl, rfl⟩)
  · rintro _ h1 ⟨z, S9, e9, rfl, H9, F9⟩
    have eo1 := (F9 ou hn).trans eo
    have hz := xB_has e9
    refine z_if_eq (tgt := 14) dLaw_has_7 (by decide) (by omega) (fun c7 => ?_) (fun c7 => ?_)
    · refine z_lconst dLaw_has_14 0 rfl ?_
      refine z_putN (k := 0) fd_Out (by decide) fl_Law_13 rfl dLaw_has_15 (by assumption) (by simp) rfl rfl ?_
      refine z_hx (fun h2 p2 g2 => ?_)
      refine z_goto (tgt := 25) dLaw_has_18 (by decide) ?_
      refine z_iconst dLaw_has_25 ?_
      refine z_iret rfl rfl dLaw_has_26 ?_
      first
        | exact zQw.ok e9 H9 F9 hn (by rw [show zwd z = 0 by (rw [show z = 0 by omega]; decide)]; exact p2) g2
        | exact zQw.ok e9 H9 F9 hn (by rw [show zwd z = 1 by (rw [show z = 1 by omega]; decide)]; exact p2) g2
    · refine z_lconst dLaw_has_10 1 rfl ?_
      refine z_goto (tgt := 15) dLaw_has_11 (by decide) ?_
      refine z_putN (k := 0) fd_Out (by decide) fl_Law_13 rfl dLaw_has_15 (by assumption) (by simp) rfl rfl ?_
      refine z_hx (fun h2 p2 g2 => ?_)
      refine z_goto (tgt := 25) dLaw_has_18 (by decide) ?_
      refine z_iconst dLaw_has_25 ?_
      refine z_iret rfl rfl dLaw_has_26 ?_
      first
        | exact zQw.ok e9 H9 F9 hn (by rw [show zwd z = 0 by (rw [show z = 0 by omega]; decide)]; exact p2) g2
        | exact zQw.ok e9 H9 F9 hn (by rw [show zwd z = 1 by (rw [show z = 1 by omega]; decide)]; exact p2) g2
theorem xE_size {p : Int} {E : String} (h : sp_size S p = (.inr E, S')) : E = zE1 := by
  unfold sp_size at h
  (try simp only [spPut, spTake, spBec, spRef] at h)
  (repeat' split at h)
  all_goals first
    | exact (Sum.inr.inj (Prod.mk.inj h).1).symm
    | exact absurd (Prod.mk.inj h).1 (by simp)
theorem k_Law_size {p : Int}  (hC : zCls G h ad S) (z_p : zI32 p) {ou : Nat} {n0 : Int} {sv : Value} (eo : h ou = some (.inr (zkOut, [zl (zwd n0), sv]))) (hn : ∀ i, i < 20 → ou ≠ ad i) : zMW G l hLaw_size yLaw_size 10 [.ref (ad 0), zi p, .ref ou] h (zQw G ad ou h (1) (9) (9) (sp_size S p)) zNo 6 36 := by
  refine zMW.of [some (.ref (ad 0)), some (zi p), some (.ref ou), none] (by decide +kernel) rfl (by decide) (Nat.le_of_ble_eq_true rfl) rfl ?_
  refine z_aload_n dLaw_size_0 rfl ?_
  refine z_aload_n dLaw_size_1 rfl ?_
  refine z_iload_n dLaw_size_2 rfl ?_
  refine z_callV (bc' := 0) (bs' := 0) MV_Cls_size lk_Law_57 dLaw_size_3 (k_Cls_size hC z_p) rfl rfl (Nat.le_of_ble_eq_true rfl) rfl hC.2.1 (Nat.le_of_ble_eq_true rfl) (Nat.le_of_ble_eq_true rfl) (by decide) (by decide) (fun E h1 q9 => ?_) ?_
  · obtain ⟨S9, e9, H9, F9⟩ := q9
    obtain rfl := xE_size e9
    refine z_catch (a := 0) (b := 10) (hp := 13) (ct := 19) [] [] rfl (fun z hz => nomatch hz) (by decide) (by decide) wl_zE1 wk_zE1 (fun qx => ?_)
    refine z_astore_n dLaw_size_13 (Nat.le_of_ble_eq_true rfl) ?_
    refine z_iconst dLaw_size_14 ?_
    refine z_iret rfl rfl dLaw_size_15 ?_
    exact zQw.tw e9 H9 F9 eo hn (Or.inl ⟨rfl, rfl⟩)
  · rintro _ h1 ⟨z, S9, e9, rfl, H9, F9⟩
    have eo1 := (F9 ou hn).trans eo
    rw [zwd_i z]
    refine z_i2l (zwd_r z) dLaw_size_6 ?_
    refine z_putN (k := 0) fd_Out (by decide) fl_Law_13 rfl dLaw_size_7 (by assumption) (by simp) rfl rfl ?_
    refine z_hx (fun h2 p2 g2 => ?_)
    refine z_goto (tgt := 16) dLaw_size_10 (by decide) ?_
    refine z_iconst dLaw_size_16 ?_
    refine z_iret rfl rfl dLaw_size_17 ?_
    exact zQw.ok e9 H9 F9 hn p2 g2
theorem k_Law_text {p d : Int} (hC : zCls G h ad S) (hp : zI32 p) (hd : d = 0 ∨ d = 1) {ou : Nat} {n0 : Int} {sv : Value} (eo : h ou = some (.inr (zkOut, [zl (zwd n0), sv]))) (hn : ∀ i, i < 20 → ou ≠ ad i) : zMW G l hLaw_text yLaw_text 9 [.ref (ad 0), zi p, zi d, .ref ou] h (zQw G ad ou h (1) (9) (9) (sp_text S p n0)) zNo 37 606 := by
  refine zMW.of [some (.ref (ad 0)), some (zi p), some (zi d), some (.ref ou), none] (by decide +kernel) rfl (by decide) (Nat.le_of_ble_eq_true rfl) rfl ?_
  refine z_aload_n dLaw_text_0 rfl ?_
  refine z_aload_n dLaw_text_1 rfl ?_
  refine z_iload_n dLaw_text_2 rfl ?_
  refine z_iload_n dLaw_text_3 rfl ?_
  refine z_callV (bc' := 0) (bs' := 0) MV_Cls_text lk_Law_61 dLaw_text_4 (k_Cls_text hC hp hd) rfl rfl (Nat.le_of_ble_eq_true rfl) rfl hC.2.1 (Nat.le_of_ble_eq_true rfl) (Nat.le_of_ble_eq_true rfl) (by decide) (by decide) (fun E h1 q9 => ?_) ?_
  · obtain ⟨q1, q2, rfl⟩ := q9
    subst q1
    have e9 : sp_text S p n0 = (.inr zE1, S) := by unfold sp_text; rw [if_neg q2]
    have H9 := hC
    have F9 : zFrm ad h h := zFrm.rf
    refine z_catch (a := 0) (b := 10) (hp := 13) (ct := 19) [] [] rfl (fun z hz => nomatch hz) (by decide) (by decide) wl_zE1 wk_zE1 (fun qx => ?_)
    refine z_astore dLaw_text_13 (Nat.le_of_ble_eq_true rfl) ?_
    refine z_iconst dLaw_text_15 ?_
    refine z_iret rfl rfl dLaw_text_16 ?_
    exact zQw.tw e9 H9 F9 eo hn (Or.inl ⟨rfl, rfl⟩)
  · rintro _ _ ⟨⟨s9, rfl⟩, q2, rfl⟩
    have e9 : sp_text S p n0 = (.inl n0, S) := by unfold sp_text; rw [if_pos q2]
    have H9 := hC
    have F9 : zFrm ad h h := zFrm.rf
    refine z_putN (k := 1) fd_Out (by decide) fl_Law_65 rfl dLaw_text_7 (by assumption) (by simp) rfl rfl ?_
    refine z_hx (fun h2 p2 g2 => ?_)
    refine z_goto (tgt := 17) dLaw_text_10 (by decide) ?_
    refine z_iconst dLaw_text_17 ?_
    refine z_iret rfl rfl dLaw_text_18 ?_
    exact zQw.ok e9 H9 F9 hn p2 g2
theorem xE_clear {p : Int} {E : String} (h : sp_clear S p = (.inr E, S')) : E = zE1 := by
  unfold sp_clear at h
  (try simp only [spPut, spTake, spBec, spRef] at h)
  (repeat' split at h)
  all_goals first
    | exact (Sum.inr.inj (Prod.mk.inj h).1).symm
    | exact absurd (Prod.mk.inj h).1 (by simp)
theorem k_Law_clear {p : Int}  (hC : zCls G h ad S) (z_p : zI32 p) {ou : Nat} {n0 : Int} {sv : Value} (eo : h ou = some (.inr (zkOut, [zl (zwd n0), sv]))) (hn : ∀ i, i < 20 → ou ≠ ad i) : zMW G l hLaw_clear yLaw_clear 10 [.ref (ad 0), zi p, .ref ou] h (zQw G ad ou h (1) (9) (9) (sp_clear S p)) zNo 6 36 := by
  refine zMW.of [some (.ref (ad 0)), some (zi p), some (.ref ou), none] (by decide +kernel) rfl (by decide) (Nat.le_of_ble_eq_true rfl) rfl ?_
  refine z_aload_n dLaw_clear_0 rfl ?_
  refine z_aload_n dLaw_clear_1 rfl ?_
  refine z_iload_n dLaw_clear_2 rfl ?_
  refine z_callV (bc' := 0) (bs' := 0) MV_Cls_clear lk_Law_69 dLaw_clear_3 (k_Cls_clear hC z_p) rfl rfl (Nat.le_of_ble_eq_true rfl) rfl hC.2.1 (Nat.le_of_ble_eq_true rfl) (Nat.le_of_ble_eq_true rfl) (by decide) (by decide) (fun E h1 q9 => ?_) ?_
  · obtain ⟨S9, e9, H9, F9⟩ := q9
    obtain rfl := xE_clear e9
    refine z_catch (a := 0) (b := 10) (hp := 13) (ct := 19) [] [] rfl (fun z hz => nomatch hz) (by decide) (by decide) wl_zE1 wk_zE1 (fun qx => ?_)
    refine z_astore_n dLaw_clear_13 (Nat.le_of_ble_eq_true rfl) ?_
    refine z_iconst dLaw_clear_14 ?_
    refine z_iret rfl rfl dLaw_clear_15 ?_
    exact zQw.tw e9 H9 F9 eo hn (Or.inl ⟨rfl, rfl⟩)
  · rintro _ h1 ⟨z, S9, e9, rfl, H9, F9⟩
    have eo1 := (F9 ou hn).trans eo
    rw [zwd_i z]
    refine z_i2l (zwd_r z) dLaw_clear_6 ?_
    refine z_putN (k := 0) fd_Out (by decide) fl_Law_13 rfl dLaw_clear_7 (by assumption) (by simp) rfl rfl ?_
    refine z_hx (fun h2 p2 g2 => ?_)
    refine z_goto (tgt := 16) dLaw_clear_10 (by decide) ?_
    refine z_iconst dLaw_clear_16 ?_
    refine z_iret rfl rfl dLaw_clear_17 ?_
    exact zQw.ok e9 H9 F9 hn p2 g2
theorem xE_append {p f : Int} {E : String} (h : sp_append S p f = (.inr E, S')) : E = zE1 := by
  unfold sp_append at h
  (try simp only [spPut, spTake, spBec, spRef] at h)
  (repeat' split at h)
  all_goals first
    | exact (Sum.inr.inj (Prod.mk.inj h).1).symm
    | exact absurd (Prod.mk.inj h).1 (by simp)
theorem k_Law_append {p f : Int}  (hC : zCls G h ad S) (z_p : zI32 p) (z_f : zI32 f) {ou : Nat} {n0 : Int} {sv : Value} (eo : h ou = some (.inr (zkOut, [zl (zwd n0), sv]))) (hn : ∀ i, i < 20 → ou ≠ ad i) : zMW G l hLaw_append yLaw_append 10 [.ref (ad 0), zi p, zi f, .ref ou] h (zQw G ad ou h (1) (9) (9) (sp_append S p f)) zNo 6 36 := by
  refine zMW.of [some (.ref (ad 0)), some (zi p), some (zi f), some (.ref ou), none] (by decide +kernel) rfl (by decide) (Nat.le_of_ble_eq_true rfl) rfl ?_
  refine z_aload_n dLaw_append_0 rfl ?_
  refine z_aload_n dLaw_append_1 rfl ?_
  refine z_iload_n dLaw_append_2 rfl ?_
  refine z_iload_n dLaw_append_3 rfl ?_
  refine z_callV (bc' := 0) (bs' := 0) MV_Cls_append lk_Law_72 dLaw_append_4 (k_Cls_append hC z_p z_f) rfl rfl (Nat.le_of_ble_eq_true rfl) rfl hC.2.1 (Nat.le_of_ble_eq_true rfl) (Nat.le_of_ble_eq_true rfl) (by decide) (by decide) (fun E h1 q9 => ?_) ?_
  · obtain ⟨S9, e9, H9, F9⟩ := q9
    obtain rfl := xE_append e9
    refine z_catch (a := 0) (b := 11) (hp := 14) (ct := 19) [] [] rfl (fun z hz => nomatch hz) (by decide) (by decide) wl_zE1 wk_zE1 (fun qx => ?_)
    refine z_astore dLaw_append_14 (Nat.le_of_ble_eq_true rfl) ?_
    refine z_iconst dLaw_append_16 ?_
    refine z_iret rfl rfl dLaw_append_17 ?_
    exact zQw.tw e9 H9 F9 eo hn (Or.inl ⟨rfl, rfl⟩)
  · rintro _ h1 ⟨z, S9, e9, rfl, H9, F9⟩
    have eo1 := (F9 ou hn).trans eo
    rw [zwd_i z]
    refine z_i2l (zwd_r z) dLaw_append_7 ?_
    refine z_putN (k := 0) fd_Out (by decide) fl_Law_13 rfl dLaw_append_8 (by assumption) (by simp) rfl rfl ?_
    refine z_hx (fun h2 p2 g2 => ?_)
    refine z_goto (tgt := 18) dLaw_append_11 (by decide) ?_
    refine z_iconst dLaw_append_18 ?_
    refine z_iret rfl rfl dLaw_append_19 ?_
    exact zQw.ok e9 H9 F9 hn p2 g2
theorem xE_appendAt {p q f : Int} {E : String} (h : sp_appendAt S p q f = (.inr E, S')) : E = zE1 := by
  unfold sp_appendAt at h
  (try simp only [spPut, spTake, spBec, spRef] at h)
  (repeat' split at h)
  all_goals first
    | exact (Sum.inr.inj (Prod.mk.inj h).1).symm
    | exact absurd (Prod.mk.inj h).1 (by simp)
theorem k_Law_appendAt {p q f : Int}  (hC : zCls G h ad S) (z_p : zI32 p) (z_q : zI32 q) (z_f : zI32 f) {ou : Nat} {n0 : Int} {sv : Value} (eo : h ou = some (.inr (zkOut, [zl (zwd n0), sv]))) (hn : ∀ i, i < 20 → ou ≠ ad i) : zMW G l hLaw_appendAt yLaw_appendAt 10 [.ref (ad 0), zi p, zi q, zi f, .ref ou] h (zQw G ad ou h (1) (9) (9) (sp_appendAt S p q f)) zNo 6 36 := by
  refine zMW.of [some (.ref (ad 0)), some (zi p), some (zi q), some (zi f), some (.ref ou), none] (by decide +kernel) rfl (by decide) (Nat.le_of_ble_eq_true rfl) rfl ?_
  refine z_aload dLaw_appendAt_0 rfl ?_
  refine z_aload_n dLaw_appendAt_2 rfl ?_
  refine z_iload_n dLaw_appendAt_3 rfl ?_
  refine z_iload_n dLaw_appendAt_4 rfl ?_
  refine z_iload_n dLaw_appendAt_5 rfl ?_
  refine z_callV (bc' := 0) (bs' := 0) MV_Cls_appendAt lk_Law_75 dLaw_appendAt_6 (k_Cls_appendAt hC z_p z_q z_f) rfl rfl (Nat.le_of_ble_eq_true rfl) rfl hC.2.1 (Nat.le_of_ble_eq_true rfl) (Nat.le_of_ble_eq_true rfl) (by decide) (by decide) (fun E h1 q9 => ?_) ?_
  · obtain ⟨S9, e9, H9, F9⟩ := q9
    obtain rfl := xE_appendAt e9
    refine z_catch (a := 0) (b := 13) (hp := 16) (ct := 19) [] [] rfl (fun z hz => nomatch hz) (by decide) (by decide) wl_zE1 wk_zE1 (fun qx => ?_)
    refine z_astore dLaw_appendAt_16 (Nat.le_of_ble_eq_true rfl) ?_
    refine z_iconst dLaw_appendAt_18 ?_
    refine z_iret rfl rfl dLaw_appendAt_19 ?_
    exact zQw.tw e9 H9 F9 eo hn (Or.inl ⟨rfl, rfl⟩)
  · rintro _ h1 ⟨z, S9, e9, rfl, H9, F9⟩
    have eo1 := (F9 ou hn).trans eo
    rw [zwd_i z]
    refine z_i2l (zwd_r z) dLaw_appendAt_9 ?_
    refine z_putN (k := 0) fd_Out (by decide) fl_Law_13 rfl dLaw_appendAt_10 (by assumption) (by simp) rfl rfl ?_
    refine z_hx (fun h2 p2 g2 => ?_)
    refine z_goto (tgt := 20) dLaw_appendAt_13 (by decide) ?_
    refine z_iconst dLaw_appendAt_20 ?_
    refine z_iret rfl rfl dLaw_appendAt_21 ?_
    exact zQw.ok e9 H9 F9 hn p2 g2
theorem xE_copy {p i : Int} {E : String} (h : sp_copy S p i = (.inr E, S')) : E = zE1 := by
  unfold sp_copy at h
  (try simp only [spPut, spTake, spBec, spRef] at h)
  (repeat' split at h)
  all_goals first
    | exact (Sum.inr.inj (Prod.mk.inj h).1).symm
    | exact absurd (Prod.mk.inj h).1 (by simp)
theorem k_Law_copy {p i : Int}  (hC : zCls G h ad S) (z_p : zI32 p) (z_i : zI32 i) {ou : Nat} {n0 : Int} {sv : Value} (eo : h ou = some (.inr (zkOut, [zl (zwd n0), sv]))) (hn : ∀ i, i < 20 → ou ≠ ad i) : zMW G l hLaw_copy yLaw_copy 10 [.ref (ad 0), zi p, zi i, .ref ou] h (zQw G ad ou h (1) (9) (9) (sp_copy S p i)) zNo 6 36 := by
  refine zMW.of [some (.ref (ad 0)), some (zi p), some (zi i), some (.ref ou), none] (by decide +kernel) rfl (by decide) (Nat.le_of_ble_eq_true rfl) rfl ?_
  refine z_aload_n dLaw_copy_0 rfl ?_
  refine z_aload_n dLaw_copy_1 rfl ?_
  refine z_iload_n dLaw_copy_2 rfl ?_
  refine z_iload_n dLaw_copy_3 rfl ?_
  refine z_callV (bc' := 0) (bs' := 0) MV_Cls_copy lk_Law_78 dLaw_copy_4 (k_Cls_copy hC z_p z_i) rfl rfl (Nat.le_of_ble_eq_true rfl) rfl hC.2.1 (Nat.le_of_ble_eq_true rfl) (Nat.le_of_ble_eq_true rfl) (by decide) (by decide) (fun E h1 q9 => ?_) ?_
  · obtain ⟨S9, e9, H9, F9⟩ := q9
    obtain rfl := xE_copy e9
    refine z_catch (a := 0) (b := 11) (hp := 14) (ct := 19) [] [] rfl (fun z hz => nomatch hz) (by decide) (by decide) wl_zE1 wk_zE1 (fun qx => ?_)
    refine z_astore dLaw_copy_14 (Nat.le_of_ble_eq_true rfl) ?_
    refine z_iconst dLaw_copy_16 ?_
    refine z_iret rfl rfl dLaw_copy_17 ?_
    exact zQw.tw e9 H9 F9 eo hn (Or.inl ⟨rfl, rfl⟩)
  · rintro _ h1 ⟨z, S9, e9, rfl, H9, F9⟩
    have eo1 := (F9 ou hn).trans eo
    rw [zwd_i z]
    refine z_i2l (zwd_r z) dLaw_copy_7 ?_
    refine z_putN (k := 0) fd_Out (by decide) fl_Law_13 rfl dLaw_copy_8 (by assumption) (by simp) rfl rfl ?_
    refine z_hx (fun h2 p2 g2 => ?_)
    refine z_goto (tgt := 18) dLaw_copy_11 (by decide) ?_
    refine z_iconst dLaw_copy_18 ?_
    refine z_iret rfl rfl dLaw_copy_19 ?_
    exact zQw.ok e9 H9 F9 hn p2 g2
theorem xE_places {p m : Int} {E : String} (h : sp_places S p m = (.inr E, S')) : E = zE1 ∨ E = zE2 := by
  unfold sp_places at h
  (try simp only [spPut, spTake, spBec, spRef] at h)
  (repeat' split at h)
  all_goals first
    | exact Or.inl (Sum.inr.inj (Prod.mk.inj h).1).symm
    | exact Or.inr ((Sum.inr.inj (Prod.mk.inj h).1).symm)
    | exact absurd (Prod.mk.inj h).1 (by simp)
theorem k_Law_places {p m : Int}  (hC : zCls G h ad S) (z_p : zI32 p) (z_m : zI32 m) {ou : Nat} {n0 : Int} {sv : Value} (eo : h ou = some (.inr (zkOut, [zl (zwd n0), sv]))) (hn : ∀ i, i < 20 → ou ≠ ad i) : zMW G l hLaw_places yLaw_places 10 [.ref (ad 0), zi p, zi m, .ref ou] h (zQw G ad ou h (1) (2) (9) (sp_places S p m)) zNo 6 36 := by
  refine zMW.of [some (.ref (ad 0)), some (zi p), some (zi m), some (.ref ou), none] (by decide +kernel) rfl (by decide) (Nat.le_of_ble_eq_true rfl) rfl ?_
  refine z_aload_n dLaw_places_0 rfl ?_
  refine z_aload_n dLaw_places_1 rfl ?_
  refine z_iload_n dLaw_places_2 rfl ?_
  refine z_iload_n dLaw_places_3 rfl ?_
  refine z_callV (bc' := 0) (bs' := 0) MV_Cls_places lk_Law_81 dLaw_places_4 (k_Cls_places hC z_p z_m) rfl rfl (Nat.le_of_ble_eq_true rfl) rfl hC.2.1 (Nat.le_of_ble_eq_true rfl) (Nat.le_of_ble_eq_true rfl) (by decide) (by decide) (fun E h1 q9 => ?_) ?_
  · obtain ⟨S9, e9, H9, F9⟩ := q9
    rcases xE_places e9 with rfl | rfl
    · refine z_catch (a := 0) (b := 11) (hp := 14) (ct := 19) [] [(0, 11, 18, 21)] rfl (fun z hz => nomatch hz) (by decide) (by decide) wl_zE1 wk_zE1 (fun qx => ?_)
      refine z_astore dLaw_places_14 (Nat.le_of_ble_eq_true rfl) ?_
      refine z_iconst dLaw_places_16 ?_
      refine z_iret rfl rfl dLaw_places_17 ?_
      exact zQw.tw e9 H9 F9 eo hn (Or.inl ⟨rfl, rfl⟩)
    · refine z_catch (a := 0) (b := 11) (hp := 18) (ct := 21) [(0, 11, 14, 19)] [] rfl (by intro z hz; simp only [List.mem_cons, List.not_mem_nil, or_false] at hz; rcases hz with rfl <;> first | exact ⟨by decide, _, wl_zE1, by decide⟩) (by decide) (by decide) wl_zE2 wk_zE2 (fun qx => ?_)
      refine z_astore dLaw_places_18 (Nat.le_of_ble_eq_true rfl) ?_
      refine z_iconst dLaw_places_20 ?_
      refine z_iret rfl rfl dLaw_places_21 ?_
      exact zQw.tw e9 H9 F9 eo hn (Or.inr (Or.inl ⟨rfl, rfl⟩))
  · rintro _ h1 ⟨z, S9, e9, rfl, H9, F9⟩
    have eo1 := (F9 ou hn).trans eo
    rw [zwd_i z]
    refine z_i2l (zwd_r z) dLaw_places_7 ?_
    refine z_putN (k := 0) fd_Out (by decide) fl_Law_13 rfl dLaw_places_8 (by assumption) (by simp) rfl rfl ?_
    refine z_hx (fun h2 p2 g2 => ?_)
    refine z_goto (tgt := 22) dLaw_places_11 (by decide) ?_
    refine z_iconst dLaw_places_22 ?_
    refine z_iret rfl rfl dLaw_places_23 ?_
    exact zQw.ok e9 H9 F9 hn p2 g2
theorem xE_rotate {p b : Int} {E : String} (h : sp_rotate S p b = (.inr E, S')) : E = zE1 ∨ E = zE2 := by
  unfold sp_rotate at h
  (try simp only [spPut, spTake, spBec, spRef] at h)
  (repeat' split at h)
  all_goals first
    | exact Or.inl (Sum.inr.inj (Prod.mk.inj h).1).symm
    | exact Or.inr ((Sum.inr.inj (Prod.mk.inj h).1).symm)
    | exact absurd (Prod.mk.inj h).1 (by simp)
theorem k_Law_rotate {p b : Int}  (hC : zCls G h ad S) (z_p : zI32 p) (z_b : zI32 b) {ou : Nat} {n0 : Int} {sv : Value} (eo : h ou = some (.inr (zkOut, [zl (zwd n0), sv]))) (hn : ∀ i, i < 20 → ou ≠ ad i) : zMW G l hLaw_rotate yLaw_rotate 10 [.ref (ad 0), zi p, zi b, .ref ou] h (zQw G ad ou h (1) (2) (9) (sp_rotate S p b)) zNo 6 36 := by
  refine zMW.of [some (.ref (ad 0)), some (zi p), some (zi b), some (.ref ou), none] (by decide +kernel) rfl (by decide) (Nat.le_of_ble_eq_true rfl) rfl ?_
  refine z_aload_n dLaw_rotate_0 rfl ?_
  refine z_aload_n dLaw_rotate_1 rfl ?_
  refine z_iload_n dLaw_rotate_2 rfl ?_
  refine z_iload_n dLaw_rotate_3 rfl ?_
  refine z_callV (bc' := 0) (bs' := 0) MV_Cls_rotate lk_Law_84 dLaw_rotate_4 (k_Cls_rotate hC z_p z_b) rfl rfl (Nat.le_of_ble_eq_true rfl) rfl hC.2.1 (Nat.le_of_ble_eq_true rfl) (Nat.le_of_ble_eq_true rfl) (by decide) (by decide) (fun E h1 q9 => ?_) ?_
  · obtain ⟨S9, e9, H9, F9⟩ := q9
    rcases xE_rotate e9 with rfl | rfl
    · refine z_catch (a := 0) (b := 11) (hp := 14) (ct := 19) [] [(0, 11, 18, 21)] rfl (fun z hz => nomatch hz) (by decide) (by decide) wl_zE1 wk_zE1 (fun qx => ?_)
      refine z_astore dLaw_rotate_14 (Nat.le_of_ble_eq_true rfl) ?_
      refine z_iconst dLaw_rotate_16 ?_
      refine z_iret rfl rfl dLaw_rotate_17 ?_
      exact zQw.tw e9 H9 F9 eo hn (Or.inl ⟨rfl, rfl⟩)
    · refine z_catch (a := 0) (b := 11) (hp := 18) (ct := 21) [(0, 11, 14, 19)] [] rfl (by intro z hz; simp only [List.mem_cons, List.not_mem_nil, or_false] at hz; rcases hz with rfl <;> first | exact ⟨by decide, _, wl_zE1, by decide⟩) (by decide) (by decide) wl_zE2 wk_zE2 (fun qx => ?_)
      refine z_astore dLaw_rotate_18 (Nat.le_of_ble_eq_true rfl) ?_
      refine z_iconst dLaw_rotate_20 ?_
      refine z_iret rfl rfl dLaw_rotate_21 ?_
      exact zQw.tw e9 H9 F9 eo hn (Or.inr (Or.inl ⟨rfl, rfl⟩))
  · rintro _ h1 ⟨z, S9, e9, rfl, H9, F9⟩
    have eo1 := (F9 ou hn).trans eo
    rw [zwd_i z]
    refine z_i2l (zwd_r z) dLaw_rotate_7 ?_
    refine z_putN (k := 0) fd_Out (by decide) fl_Law_13 rfl dLaw_rotate_8 (by assumption) (by simp) rfl rfl ?_
    refine z_hx (fun h2 p2 g2 => ?_)
    refine z_goto (tgt := 22) dLaw_rotate_11 (by decide) ?_
    refine z_iconst dLaw_rotate_22 ?_
    refine z_iret rfl rfl dLaw_rotate_23 ?_
    exact zQw.ok e9 H9 F9 hn p2 g2
theorem xE_move {p f t : Int} {E : String} (h : sp_move S p f t = (.inr E, S')) : E = zE1 := by
  unfold sp_move at h
  (try simp only [spPut, spTake, spBec, spRef] at h)
  (repeat' split at h)
  all_goals first
    | exact (Sum.inr.inj (Prod.mk.inj h).1).symm
    | exact absurd (Prod.mk.inj h).1 (by simp)
theorem k_Law_move {p f t : Int}  (hC : zCls G h ad S) (z_p : zI32 p) (z_f : zI32 f) (z_t : zI32 t) {ou : Nat} {n0 : Int} {sv : Value} (eo : h ou = some (.inr (zkOut, [zl (zwd n0), sv]))) (hn : ∀ i, i < 20 → ou ≠ ad i) : zMW G l hLaw_move yLaw_move 10 [.ref (ad 0), zi p, zi f, zi t, .ref ou] h (zQw G ad ou h (1) (9) (9) (sp_move S p f t)) zNo 6 36 := by
  refine zMW.of [some (.ref (ad 0)), some (zi p), some (zi f), some (zi t), some (.ref ou), none] (by decide +kernel) rfl (by decide) (Nat.le_of_ble_eq_true rfl) rfl ?_
  refine z_aload dLaw_move_0 rfl ?_
  refine z_aload_n dLaw_move_2 rfl ?_
  refine z_iload_n dLaw_move_3 rfl ?_
  refine z_iload_n dLaw_move_4 rfl ?_
  refine z_iload_n dLaw_move_5 rfl ?_
  refine z_callV (bc' := 0) (bs' := 0) MV_Cls_move lk_Law_87 dLaw_move_6 (k_Cls_move hC z_p z_f z_t) rfl rfl (Nat.le_of_ble_eq_true rfl) rfl hC.2.1 (Nat.le_of_ble_eq_true rfl) (Nat.le_of_ble_eq_true rfl) (by decide) (by decide) (fun E h1 q9 => ?_) ?_
  · obtain ⟨S9, e9, H9, F9⟩ := q9
    obtain rfl := xE_move e9
    refine z_catch (a := 0) (b := 13) (hp := 16) (ct := 19) [] [] rfl (fun z hz => nomatch hz) (by decide) (by decide) wl_zE1 wk_zE1 (fun qx => ?_)
    refine z_astore dLaw_move_16 (Nat.le_of_ble_eq_true rfl) ?_
    refine z_iconst dLaw_move_18 ?_
    refine z_iret rfl rfl dLaw_move_19 ?_
    exact zQw.tw e9 H9 F9 eo hn (Or.inl ⟨rfl, rfl⟩)
  · rintro _ h1 ⟨z, S9, e9, rfl, H9, F9⟩
    have eo1 := (F9 ou hn).trans eo
    rw [zwd_i z]
    refine z_i2l (zwd_r z) dLaw_move_9 ?_
    refine z_putN (k := 0) fd_Out (by decide) fl_Law_13 rfl dLaw_move_10 (by assumption) (by simp) rfl rfl ?_
    refine z_hx (fun h2 p2 g2 => ?_)
    refine z_goto (tgt := 20) dLaw_move_13 (by decide) ?_
    refine z_iconst dLaw_move_20 ?_
    refine z_iret rfl rfl dLaw_move_21 ?_
    exact zQw.ok e9 H9 F9 hn p2 g2
theorem xE_swap {p i j : Int} {E : String} (h : sp_swap S p i j = (.inr E, S')) : E = zE1 := by
  unfold sp_swap at h
  (try simp only [spPut, spTake, spBec, spRef] at h)
  (repeat' split at h)
  all_goals first
    | exact (Sum.inr.inj (Prod.mk.inj h).1).symm
    | exact absurd (Prod.mk.inj h).1 (by simp)
theorem k_Law_swap {p i j : Int}  (hC : zCls G h ad S) (z_p : zI32 p) (z_i : zI32 i) (z_j : zI32 j) {ou : Nat} {n0 : Int} {sv : Value} (eo : h ou = some (.inr (zkOut, [zl (zwd n0), sv]))) (hn : ∀ i, i < 20 → ou ≠ ad i) : zMW G l hLaw_swap yLaw_swap 10 [.ref (ad 0), zi p, zi i, zi j, .ref ou] h (zQw G ad ou h (1) (9) (9) (sp_swap S p i j)) zNo 6 36 := by
  refine zMW.of [some (.ref (ad 0)), some (zi p), some (zi i), some (zi j), some (.ref ou), none] (by decide +kernel) rfl (by decide) (Nat.le_of_ble_eq_true rfl) rfl ?_
  refine z_aload dLaw_swap_0 rfl ?_
  refine z_aload_n dLaw_swap_2 rfl ?_
  refine z_iload_n dLaw_swap_3 rfl ?_
  refine z_iload_n dLaw_swap_4 rfl ?_
  refine z_iload_n dLaw_swap_5 rfl ?_
  refine z_callV (bc' := 0) (bs' := 0) MV_Cls_swap lk_Law_90 dLaw_swap_6 (k_Cls_swap hC z_p z_i z_j) rfl rfl (Nat.le_of_ble_eq_true rfl) rfl hC.2.1 (Nat.le_of_ble_eq_true rfl) (Nat.le_of_ble_eq_true rfl) (by decide) (by decide) (fun E h1 q9 => ?_) ?_
  · obtain ⟨S9, e9, H9, F9⟩ := q9
    obtain rfl := xE_swap e9
    refine z_catch (a := 0) (b := 13) (hp := 16) (ct := 19) [] [] rfl (fun z hz => nomatch hz) (by decide) (by decide) wl_zE1 wk_zE1 (fun qx => ?_)
    refine z_astore dLaw_swap_16 (Nat.le_of_ble_eq_true rfl) ?_
    refine z_iconst dLaw_swap_18 ?_
    refine z_iret rfl rfl dLaw_swap_19 ?_
    exact zQw.tw e9 H9 F9 eo hn (Or.inl ⟨rfl, rfl⟩)
  · rintro _ h1 ⟨z, S9, e9, rfl, H9, F9⟩
    have eo1 := (F9 ou hn).trans eo
    rw [zwd_i z]
    refine z_i2l (zwd_r z) dLaw_swap_9 ?_
    refine z_putN (k := 0) fd_Out (by decide) fl_Law_13 rfl dLaw_swap_10 (by assumption) (by simp) rfl rfl ?_
    refine z_hx (fun h2 p2 g2 => ?_)
    refine z_goto (tgt := 20) dLaw_swap_13 (by decide) ?_
    refine z_iconst dLaw_swap_20 ?_
    refine z_iret rfl rfl dLaw_swap_21 ?_
    exact zQw.ok e9 H9 F9 hn p2 g2
theorem xE_reverse {p : Int} {E : String} (h : sp_reverse S p = (.inr E, S')) : E = zE1 := by
  unfold sp_reverse at h
  (try simp only [spPut, spTake, spBec, spRef] at h)
  (repeat' split at h)
  all_goals first
    | exact (Sum.inr.inj (Prod.mk.inj h).1).symm
    | exact absurd (Prod.mk.inj h).1 (by simp)
theorem k_Law_reverse {p : Int}  (hC : zCls G h ad S) (z_p : zI32 p) {ou : Nat} {n0 : Int} {sv : Value} (eo : h ou = some (.inr (zkOut, [zl (zwd n0), sv]))) (hn : ∀ i, i < 20 → ou ≠ ad i) : zMW G l hLaw_reverse yLaw_reverse 10 [.ref (ad 0), zi p, .ref ou] h (zQw G ad ou h (1) (9) (9) (sp_reverse S p)) zNo 6 36 := by
  refine zMW.of [some (.ref (ad 0)), some (zi p), some (.ref ou), none] (by decide +kernel) rfl (by decide) (Nat.le_of_ble_eq_true rfl) rfl ?_
  refine z_aload_n dLaw_reverse_0 rfl ?_
  refine z_aload_n dLaw_reverse_1 rfl ?_
  refine z_iload_n dLaw_reverse_2 rfl ?_
  refine z_callV (bc' := 0) (bs' := 0) MV_Cls_reverse lk_Law_93 dLaw_reverse_3 (k_Cls_reverse hC z_p) rfl rfl (Nat.le_of_ble_eq_true rfl) rfl hC.2.1 (Nat.le_of_ble_eq_true rfl) (Nat.le_of_ble_eq_true rfl) (by decide) (by decide) (fun E h1 q9 => ?_) ?_
  · obtain ⟨S9, e9, H9, F9⟩ := q9
    obtain rfl := xE_reverse e9
    refine z_catch (a := 0) (b := 10) (hp := 13) (ct := 19) [] [] rfl (fun z hz => nomatch hz) (by decide) (by decide) wl_zE1 wk_zE1 (fun qx => ?_)
    refine z_astore_n dLaw_reverse_13 (Nat.le_of_ble_eq_true rfl) ?_
    refine z_iconst dLaw_reverse_14 ?_
    refine z_iret rfl rfl dLaw_reverse_15 ?_
    exact zQw.tw e9 H9 F9 eo hn (Or.inl ⟨rfl, rfl⟩)
  · rintro _ h1 ⟨z, S9, e9, rfl, H9, F9⟩
    have eo1 := (F9 ou hn).trans eo
    rw [zwd_i z]
    refine z_i2l (zwd_r z) dLaw_reverse_6 ?_
    refine z_putN (k := 0) fd_Out (by decide) fl_Law_13 rfl dLaw_reverse_7 (by assumption) (by simp) rfl rfl ?_
    refine z_hx (fun h2 p2 g2 => ?_)
    refine z_goto (tgt := 16) dLaw_reverse_10 (by decide) ?_
    refine z_iconst dLaw_reverse_16 ?_
    refine z_iret rfl rfl dLaw_reverse_17 ?_
    exact zQw.ok e9 H9 F9 hn p2 g2
theorem xE_through {p m i : Int} {E : String} (h : sp_through S p m i = (.inr E, S')) : E = zE1 := by
  unfold sp_through at h
  (try simp only [spPut, spTake, spBec, spRef] at h)
  (repeat' split at h)
  all_goals first
    | exact (Sum.inr.inj (Prod.mk.inj h).1).symm
    | exact absurd (Prod.mk.inj h).1 (by simp)
theorem k_Law_through {p m i : Int}  (hC : zCls G h ad S) (z_p : zI32 p) (z_m : zI32 m) (z_i : zI32 i) {ou : Nat} {n0 : Int} {sv : Value} (eo : h ou = some (.inr (zkOut, [zl (zwd n0), sv]))) (hn : ∀ i, i < 20 → ou ≠ ad i) : zMW G l hLaw_through yLaw_through 10 [.ref (ad 0), zi p, zi m, zi i, .ref ou] h (zQw G ad ou h (1) (9) (9) (sp_through S p m i)) zNo 6 36 := by
  refine zMW.of [some (.ref (ad 0)), some (zi p), some (zi m), some (zi i), some (.ref ou), none] (by decide +kernel) rfl (by decide) (Nat.le_of_ble_eq_true rfl) rfl ?_
  refine z_aload dLaw_through_0 rfl ?_
  refine z_aload_n dLaw_through_2 rfl ?_
  refine z_iload_n dLaw_through_3 rfl ?_
  refine z_iload_n dLaw_through_4 rfl ?_
  refine z_iload_n dLaw_through_5 rfl ?_
  refine z_callV (bc' := 0) (bs' := 0) MV_Cls_through lk_Law_96 dLaw_through_6 (k_Cls_through hC z_p z_m z_i) rfl rfl (Nat.le_of_ble_eq_true rfl) rfl hC.2.1 (Nat.le_of_ble_eq_true rfl) (Nat.le_of_ble_eq_true rfl) (by decide) (by decide) (fun E h1 q9 => ?_) ?_
  · obtain ⟨S9, e9, H9, F9⟩ := q9
    obtain rfl := xE_through e9
    refine z_catch (a := 0) (b := 13) (hp := 16) (ct := 19) [] [] rfl (fun z hz => nomatch hz) (by decide) (by decide) wl_zE1 wk_zE1 (fun qx => ?_)
    refine z_astore dLaw_through_16 (Nat.le_of_ble_eq_true rfl) ?_
    refine z_iconst dLaw_through_18 ?_
    refine z_iret rfl rfl dLaw_through_19 ?_
    exact zQw.tw e9 H9 F9 eo hn (Or.inl ⟨rfl, rfl⟩)
  · rintro _ h1 ⟨z, S9, e9, rfl, H9, F9⟩
    have eo1 := (F9 ou hn).trans eo
    rw [zwd_i z]
    refine z_i2l (zwd_r z) dLaw_through_9 ?_
    refine z_putN (k := 0) fd_Out (by decide) fl_Law_13 rfl dLaw_through_10 (by assumption) (by simp) rfl rfl ?_
    refine z_hx (fun h2 p2 g2 => ?_)
    refine z_goto (tgt := 20) dLaw_through_13 (by decide) ?_
    refine z_iconst dLaw_through_20 ?_
    refine z_iret rfl rfl dLaw_through_21 ?_
    exact zQw.ok e9 H9 F9 hn p2 g2
theorem xE_areSame {p o : Int} {E : String} (h : sp_areSame S p o = (.inr E, S')) : E = zE1 := by
  unfold sp_areSame at h
  (try simp only [spPut, spTake, spBec, spRef] at h)
  (repeat' split at h)
  all_goals first
    | exact (Sum.inr.inj (Prod.mk.inj h).1).symm
    | exact absurd (Prod.mk.inj h).1 (by simp)
theorem xB_areSame {p o : Int} {z : Int} (h : sp_areSame S p o = (.inl z, S')) : z = 0 ∨ z = 1 := by
  unfold sp_areSame at h
  (try simp only [spPut, spTake, spBec, spRef] at h)
  (repeat' split at h)
  all_goals first
    | exact Or.inl (Sum.inl.inj (Prod.mk.inj h).1).symm
    | exact Or.inr (Sum.inl.inj (Prod.mk.inj h).1).symm
    | exact absurd (Prod.mk.inj h).1 (by simp)
theorem k_Law_areSame {p o : Int}  (hC : zCls G h ad S) (z_p : zI32 p) (z_o : zI32 o) {ou : Nat} {n0 : Int} {sv : Value} (eo : h ou = some (.inr (zkOut, [zl (zwd n0), sv]))) (hn : ∀ i, i < 20 → ou ≠ ad i) : zMW G l hLaw_areSame yLaw_areSame 10 [.ref (ad 0), zi p, zi o, .ref ou] h (zQw G ad ou h (1) (9) (9) (sp_areSame S p o)) zNo 6 36 := by
  refine zMW.of [some (.ref (ad 0)), some (zi p), some (zi o), some (.ref ou), none] (by decide +kernel) rfl (by decide) (Nat.le_of_ble_eq_true rfl) rfl ?_
  refine z_aload_n dLaw_areSame_0 rfl ?_
  refine z_aload_n dLaw_areSame_1 rfl ?_
  refine z_iload_n dLaw_areSame_2 rfl ?_
  refine z_iload_n dLaw_areSame_3 rfl ?_
  refine z_callV (bc' := 0) (bs' := 0) MV_Cls_areSame lk_Law_99 dLaw_areSame_4 (k_Cls_areSame hC z_p z_o) rfl rfl (Nat.le_of_ble_eq_true rfl) rfl hC.2.1 (Nat.le_of_ble_eq_true rfl) (Nat.le_of_ble_eq_true rfl) (by decide) (by decide) (fun E h1 q9 => ?_) ?_
  · obtain ⟨S9, e9, H9, F9⟩ := q9
    obtain rfl := xE_areSame e9
    refine z_catch (a := 0) (b := 18) (hp := 21) (ct := 19) [] [] rfl (fun z hz => nomatch hz) (by decide) (by decide) wl_zE1 wk_zE1 (fun qx => ?_)
    refine z_astore dLaw_areSame_21 (Nat.le_of_ble_eq_true rfl) ?_
    refine z_iconst dLaw_areSame_23 ?_
    refine z_iret rfl rfl dLaw_areSame_24 ?_
    exact zQw.tw e9 H9 F9 eo hn (Or.inl ⟨rfl, rfl⟩)
  · rintro _ h1 ⟨z, S9, e9, rfl, H9, F9⟩
    have eo1 := (F9 ou hn).trans eo
    have hz := xB_areSame e9
    refine z_if_eq (tgt := 14) dLaw_areSame_7 (by decide) (by omega) (fun c7 => ?_) (fun c7 => ?_)
    · refine z_lconst dLaw_areSame_14 0 rfl ?_
      refine z_putN (k := 0) fd_Out (by decide) fl_Law_13 rfl dLaw_areSame_15 (by assumption) (by simp) rfl rfl ?_
      refine z_hx (fun h2 p2 g2 => ?_)
      refine z_goto (tgt := 25) dLaw_areSame_18 (by decide) ?_
      refine z_iconst dLaw_areSame_25 ?_
      refine z_iret rfl rfl dLaw_areSame_26 ?_
      first
        | exact zQw.ok e9 H9 F9 hn (by rw [show zwd z = 0 by (rw [show z = 0 by omega]; decide)]; exact p2) g2
        | exact zQw.ok e9 H9 F9 hn (by rw [show zwd z = 1 by (rw [show z = 1 by omega]; decide)]; exact p2) g2
    · refine z_lconst dLaw_areSame_10 1 rfl ?_
      refine z_goto (tgt := 15) dLaw_areSame_11 (by decide) ?_
      refine z_putN (k := 0) fd_Out (by decide) fl_Law_13 rfl dLaw_areSame_15 (by assumption) (by simp) rfl rfl ?_
      refine z_hx (fun h2 p2 g2 => ?_)
      refine z_goto (tgt := 25) dLaw_areSame_18 (by decide) ?_
      refine z_iconst dLaw_areSame_25 ?_
      refine z_iret rfl rfl dLaw_areSame_26 ?_
      first
        | exact zQw.ok e9 H9 F9 hn (by rw [show zwd z = 0 by (rw [show z = 0 by omega]; decide)]; exact p2) g2
        | exact zQw.ok e9 H9 F9 hn (by rw [show zwd z = 1 by (rw [show z = 1 by omega]; decide)]; exact p2) g2
theorem xE_isMirror {p : Int} {E : String} (h : sp_isMirror S p = (.inr E, S')) : E = zE1 := by
  unfold sp_isMirror at h
  (try simp only [spPut, spTake, spBec, spRef] at h)
  (repeat' split at h)
  all_goals first
    | exact (Sum.inr.inj (Prod.mk.inj h).1).symm
    | exact absurd (Prod.mk.inj h).1 (by simp)
theorem xB_isMirror {p : Int} {z : Int} (h : sp_isMirror S p = (.inl z, S')) : z = 0 ∨ z = 1 := by
  unfold sp_isMirror at h
  (try simp only [spPut, spTake, spBec, spRef] at h)
  (repeat' split at h)
  all_goals first
    | exact Or.inl (Sum.inl.inj (Prod.mk.inj h).1).symm
    | exact Or.inr (Sum.inl.inj (Prod.mk.inj h).1).symm
    | exact absurd (Prod.mk.inj h).1 (by simp)
theorem k_Law_isMirror {p : Int}  (hC : zCls G h ad S) (z_p : zI32 p) {ou : Nat} {n0 : Int} {sv : Value} (eo : h ou = some (.inr (zkOut, [zl (zwd n0), sv]))) (hn : ∀ i, i < 20 → ou ≠ ad i) : zMW G l hLaw_isMirror yLaw_isMirror 10 [.ref (ad 0), zi p, .ref ou] h (zQw G ad ou h (1) (9) (9) (sp_isMirror S p)) zNo 6 36 := by
  refine zMW.of [some (.ref (ad 0)), some (zi p), some (.ref ou), none] (by decide +kernel) rfl (by decide) (Nat.le_of_ble_eq_true rfl) rfl ?_
  refine z_aload_n dLaw_isMirror_0 rfl ?_
  refine z_aload_n dLaw_isMirror_1 rfl ?_
  refine z_iload_n dLaw_isMirror_2 rfl ?_
  refine z_callV (bc' := 0) (bs' := 0) MV_Cls_isMirror lk_Law_102 dLaw_isMirror_3 (k_Cls_isMirror hC z_p) rfl rfl (Nat.le_of_ble_eq_true rfl) rfl hC.2.1 (Nat.le_of_ble_eq_true rfl) (Nat.le_of_ble_eq_true rfl) (by decide) (by decide) (fun E h1 q9 => ?_) ?_
  · obtain ⟨S9, e9, H9, F9⟩ := q9
    obtain rfl := xE_isMirror e9
    refine z_catch (a := 0) (b := 17) (hp := 20) (ct := 19) [] [] rfl (fun z hz => nomatch hz) (by decide) (by decide) wl_zE1 wk_zE1 (fun qx => ?_)
    refine z_astore_n dLaw_isMirror_20 (Nat.le_of_ble_eq_true rfl) ?_
    refine z_iconst dLaw_isMirror_21 ?_
    refine z_iret rfl rfl dLaw_isMirror_22 ?_
    exact zQw.tw e9 H9 F9 eo hn (Or.inl ⟨rfl, rfl⟩)
  · rintro _ h1 ⟨z, S9, e9, rfl, H9, F9⟩
    have eo1 := (F9 ou hn).trans eo
    have hz := xB_isMirror e9
    refine z_if_eq (tgt := 13) dLaw_isMirror_6 (by decide) (by omega) (fun c6 => ?_) (fun c6 => ?_)
    · refine z_lconst dLaw_isMirror_13 0 rfl ?_
      refine z_putN (k := 0) fd_Out (by decide) fl_Law_13 rfl dLaw_isMirror_14 (by assumption) (by simp) rfl rfl ?_
      refine z_hx (fun h2 p2 g2 => ?_)
      refine z_goto (tgt := 23) dLaw_isMirror_17 (by decide) ?_
      refine z_iconst dLaw_isMirror_23 ?_
      refine z_iret rfl rfl dLaw_isMirror_24 ?_
      first
        | exact zQw.ok e9 H9 F9 hn (by rw [show zwd z = 0 by (rw [show z = 0 by omega]; decide)]; exact p2) g2
        | exact zQw.ok e9 H9 F9 hn (by rw [show zwd z = 1 by (rw [show z = 1 by omega]; decide)]; exact p2) g2
    · refine z_lconst dLaw_isMirror_9 1 rfl ?_
      refine z_goto (tgt := 14) dLaw_isMirror_10 (by decide) ?_
      refine z_putN (k := 0) fd_Out (by decide) fl_Law_13 rfl dLaw_isMirror_14 (by assumption) (by simp) rfl rfl ?_
      refine z_hx (fun h2 p2 g2 => ?_)
      refine z_goto (tgt := 23) dLaw_isMirror_17 (by decide) ?_
      refine z_iconst dLaw_isMirror_23 ?_
      refine z_iret rfl rfl dLaw_isMirror_24 ?_
      first
        | exact zQw.ok e9 H9 F9 hn (by rw [show zwd z = 0 by (rw [show z = 0 by omega]; decide)]; exact p2) g2
        | exact zQw.ok e9 H9 F9 hn (by rw [show zwd z = 1 by (rw [show z = 1 by omega]; decide)]; exact p2) g2
theorem xE_open {c p q : Int} {E : String} (h : sp_open S c p q = (.inr E, S')) : E = zE1 := by
  unfold sp_open at h
  (try simp only [spPut, spTake, spBec, spRef] at h)
  (repeat' split at h)
  all_goals first
    | exact (Sum.inr.inj (Prod.mk.inj h).1).symm
    | exact absurd (Prod.mk.inj h).1 (by simp)
theorem k_Law_open {c p q : Int}  (hC : zCls G h ad S) (z_c : zI32 c) (z_p : zI32 p) (z_q : zI32 q) {ou : Nat} {n0 : Int} {sv : Value} (eo : h ou = some (.inr (zkOut, [zl (zwd n0), sv]))) (hn : ∀ i, i < 20 → ou ≠ ad i) : zMW G l hLaw_open yLaw_open 10 [.ref (ad 0), zi c, zi p, zi q, .ref ou] h (zQw G ad ou h (1) (9) (9) (sp_open S c p q)) zNo 6 36 := by
  refine zMW.of [some (.ref (ad 0)), some (zi c), some (zi p), some (zi q), some (.ref ou), none] (by decide +kernel) rfl (by decide) (Nat.le_of_ble_eq_true rfl) rfl ?_
  refine z_aload dLaw_open_0 rfl ?_
  refine z_aload_n dLaw_open_2 rfl ?_
  refine z_iload_n dLaw_open_3 rfl ?_
  refine z_iload_n dLaw_open_4 rfl ?_
  refine z_iload_n dLaw_open_5 rfl ?_
  refine z_callV (bc' := 0) (bs' := 0) MV_Cls_open lk_Law_106 dLaw_open_6 (k_Cls_open hC z_c z_p z_q) rfl rfl (Nat.le_of_ble_eq_true rfl) rfl hC.2.1 (Nat.le_of_ble_eq_true rfl) (Nat.le_of_ble_eq_true rfl) (by decide) (by decide) (fun E h1 q9 => ?_) ?_
  · obtain ⟨S9, e9, H9, F9⟩ := q9
    obtain rfl := xE_open e9
    refine z_catch (a := 0) (b := 13) (hp := 16) (ct := 19) [] [] rfl (fun z hz => nomatch hz) (by decide) (by decide) wl_zE1 wk_zE1 (fun qx => ?_)
    refine z_astore dLaw_open_16 (Nat.le_of_ble_eq_true rfl) ?_
    refine z_iconst dLaw_open_18 ?_
    refine z_iret rfl rfl dLaw_open_19 ?_
    exact zQw.tw e9 H9 F9 eo hn (Or.inl ⟨rfl, rfl⟩)
  · rintro _ h1 ⟨z, S9, e9, rfl, H9, F9⟩
    have eo1 := (F9 ou hn).trans eo
    rw [zwd_i z]
    refine z_i2l (zwd_r z) dLaw_open_9 ?_
    refine z_putN (k := 0) fd_Out (by decide) fl_Law_13 rfl dLaw_open_10 (by assumption) (by simp) rfl rfl ?_
    refine z_hx (fun h2 p2 g2 => ?_)
    refine z_goto (tgt := 20) dLaw_open_13 (by decide) ?_
    refine z_iconst dLaw_open_20 ?_
    refine z_iret rfl rfl dLaw_open_21 ?_
    exact zQw.ok e9 H9 F9 hn p2 g2
theorem xE_shut {c : Int} {E : String} (h : sp_shut S c = (.inr E, S')) : E = zE1 := by
  unfold sp_shut at h
  (try simp only [spPut, spTake, spBec, spRef] at h)
  (repeat' split at h)
  all_goals first
    | exact (Sum.inr.inj (Prod.mk.inj h).1).symm
    | exact absurd (Prod.mk.inj h).1 (by simp)
theorem xB_shut {c : Int} {z : Int} (hC : zCls G h ad S) (h : sp_shut S c = (.inl z, S')) : z = 0 ∨ z = 1 := by
  unfold sp_shut at h
  by_cases q : 0 ≤ c ∧ c < 3
  · rw [if_pos q] at h
    obtain ⟨st, li, ix, la, e1, e2, -⟩ := hC.cs (show c.toNat < 3 by omega)
    rw [← Sum.inl.inj (Prod.mk.inj h).1]
    exact e2
  · rw [if_neg q] at h
    exact absurd (Prod.mk.inj h).1 (by simp)
theorem k_Law_shut {c : Int}  (hC : zCls G h ad S) (z_c : zI32 c) {ou : Nat} {n0 : Int} {sv : Value} (eo : h ou = some (.inr (zkOut, [zl (zwd n0), sv]))) (hn : ∀ i, i < 20 → ou ≠ ad i) : zMW G l hLaw_shut yLaw_shut 10 [.ref (ad 0), zi c, .ref ou] h (zQw G ad ou h (1) (9) (9) (sp_shut S c)) zNo 6 36 := by
  refine zMW.of [some (.ref (ad 0)), some (zi c), some (.ref ou), none] (by decide +kernel) rfl (by decide) (Nat.le_of_ble_eq_true rfl) rfl ?_
  refine z_aload_n dLaw_shut_0 rfl ?_
  refine z_aload_n dLaw_shut_1 rfl ?_
  refine z_iload_n dLaw_shut_2 rfl ?_
  refine z_callV (bc' := 0) (bs' := 0) MV_Cls_shut lk_Law_109 dLaw_shut_3 (k_Cls_shut hC z_c) rfl rfl (Nat.le_of_ble_eq_true rfl) rfl hC.2.1 (Nat.le_of_ble_eq_true rfl) (Nat.le_of_ble_eq_true rfl) (by decide) (by decide) (fun E h1 q9 => ?_) ?_
  · obtain ⟨S9, e9, H9, F9⟩ := q9
    obtain rfl := xE_shut e9
    refine z_catch (a := 0) (b := 17) (hp := 20) (ct := 19) [] [] rfl (fun z hz => nomatch hz) (by decide) (by decide) wl_zE1 wk_zE1 (fun qx => ?_)
    refine z_astore_n dLaw_shut_20 (Nat.le_of_ble_eq_true rfl) ?_
    refine z_iconst dLaw_shut_21 ?_
    refine z_iret rfl rfl dLaw_shut_22 ?_
    exact zQw.tw e9 H9 F9 eo hn (Or.inl ⟨rfl, rfl⟩)
  · rintro _ h1 ⟨z, S9, e9, rfl, H9, F9⟩
    have eo1 := (F9 ou hn).trans eo
    have hz := xB_shut hC e9
    refine z_if_eq (tgt := 13) dLaw_shut_6 (by decide) (by omega) (fun c6 => ?_) (fun c6 => ?_)
    · refine z_lconst dLaw_shut_13 0 rfl ?_
      refine z_putN (k := 0) fd_Out (by decide) fl_Law_13 rfl dLaw_shut_14 (by assumption) (by simp) rfl rfl ?_
      refine z_hx (fun h2 p2 g2 => ?_)
      refine z_goto (tgt := 23) dLaw_shut_17 (by decide) ?_
      refine z_iconst dLaw_shut_23 ?_
      refine z_iret rfl rfl dLaw_shut_24 ?_
      first
        | exact zQw.ok e9 H9 F9 hn (by rw [show zwd z = 0 by (rw [show z = 0 by omega]; decide)]; exact p2) g2
        | exact zQw.ok e9 H9 F9 hn (by rw [show zwd z = 1 by (rw [show z = 1 by omega]; decide)]; exact p2) g2
    · refine z_lconst dLaw_shut_9 1 rfl ?_
      refine z_goto (tgt := 14) dLaw_shut_10 (by decide) ?_
      refine z_putN (k := 0) fd_Out (by decide) fl_Law_13 rfl dLaw_shut_14 (by assumption) (by simp) rfl rfl ?_
      refine z_hx (fun h2 p2 g2 => ?_)
      refine z_goto (tgt := 23) dLaw_shut_17 (by decide) ?_
      refine z_iconst dLaw_shut_23 ?_
      refine z_iret rfl rfl dLaw_shut_24 ?_
      first
        | exact zQw.ok e9 H9 F9 hn (by rw [show zwd z = 0 by (rw [show z = 0 by omega]; decide)]; exact p2) g2
        | exact zQw.ok e9 H9 F9 hn (by rw [show zwd z = 1 by (rw [show z = 1 by omega]; decide)]; exact p2) g2
theorem xE_forth {c : Int} {E : String} (h : sp_forth S c = (.inr E, S')) : E = zE1 ∨ E = zE3 := by
  unfold sp_forth at h
  (try simp only [spPut, spTake, spBec, spRef] at h)
  (repeat' split at h)
  all_goals first
    | exact Or.inl (Sum.inr.inj (Prod.mk.inj h).1).symm
    | exact Or.inr ((Sum.inr.inj (Prod.mk.inj h).1).symm)
    | exact absurd (Prod.mk.inj h).1 (by simp)
theorem k_Law_forth {c : Int} (hO : zOk S) (hC : zCls G h ad S) (z_c : zI32 c) {ou : Nat} {n0 : Int} {sv : Value} (eo : h ou = some (.inr (zkOut, [zl (zwd n0), sv]))) (hn : ∀ i, i < 20 → ou ≠ ad i) : zMW G l hLaw_forth yLaw_forth 10 [.ref (ad 0), zi c, .ref ou] h (zQw G ad ou h (1) (9) (2) (sp_forth S c)) zNo 6 36 := by
  refine zMW.of [some (.ref (ad 0)), some (zi c), some (.ref ou), none] (by decide +kernel) rfl (by decide) (Nat.le_of_ble_eq_true rfl) rfl ?_
  refine z_aload_n dLaw_forth_0 rfl ?_
  refine z_aload_n dLaw_forth_1 rfl ?_
  refine z_iload_n dLaw_forth_2 rfl ?_
  refine z_callV (bc' := 0) (bs' := 0) MV_Cls_forth lk_Law_112 dLaw_forth_3 (k_Cls_forth hO hC z_c) rfl rfl (Nat.le_of_ble_eq_true rfl) rfl hC.2.1 (Nat.le_of_ble_eq_true rfl) (Nat.le_of_ble_eq_true rfl) (by decide) (by decide) (fun E h1 q9 => ?_) ?_
  · obtain ⟨S9, e9, H9, F9⟩ := q9
    rcases xE_forth e9 with rfl | rfl
    · refine z_catch (a := 0) (b := 10) (hp := 13) (ct := 19) [] [(0, 10, 16, 115)] rfl (fun z hz => nomatch hz) (by decide) (by decide) wl_zE1 wk_zE1 (fun qx => ?_)
      refine z_astore_n dLaw_forth_13 (Nat.le_of_ble_eq_true rfl) ?_
      refine z_iconst dLaw_forth_14 ?_
      refine z_iret rfl rfl dLaw_forth_15 ?_
      exact zQw.tw e9 H9 F9 eo hn (Or.inl ⟨rfl, rfl⟩)
    · refine z_catch (a := 0) (b := 10) (hp := 16) (ct := 115) [(0, 10, 13, 19)] [] rfl (by intro z hz; simp only [List.mem_cons, List.not_mem_nil, or_false] at hz; rcases hz with rfl <;> first | exact ⟨by decide, _, wl_zE1, by decide⟩) (by decide) (by decide) wl_zE3 wk_zE3 (fun qx => ?_)
      refine z_astore_n dLaw_forth_16 (Nat.le_of_ble_eq_true rfl) ?_
      refine z_iconst dLaw_forth_17 ?_
      refine z_iret rfl rfl dLaw_forth_18 ?_
      exact zQw.tw e9 H9 F9 eo hn (Or.inr (Or.inr ⟨rfl, rfl⟩))
  · rintro _ h1 ⟨z, S9, e9, rfl, H9, F9⟩
    have eo1 := (F9 ou hn).trans eo
    rw [zwd_i z]
    refine z_i2l (zwd_r z) dLaw_forth_6 ?_
    refine z_putN (k := 0) fd_Out (by decide) fl_Law_13 rfl dLaw_forth_7 (by assumption) (by simp) rfl rfl ?_
    refine z_hx (fun h2 p2 g2 => ?_)
    refine z_goto (tgt := 19) dLaw_forth_10 (by decide) ?_
    refine z_iconst dLaw_forth_19 ?_
    refine z_iret rfl rfl dLaw_forth_20 ?_
    exact zQw.ok e9 H9 F9 hn p2 g2
theorem xE_back {c : Int} {E : String} (h : sp_back S c = (.inr E, S')) : E = zE1 ∨ E = zE3 := by
  unfold sp_back at h
  (try simp only [spPut, spTake, spBec, spRef] at h)
  (repeat' split at h)
  all_goals first
    | exact Or.inl (Sum.inr.inj (Prod.mk.inj h).1).symm
    | exact Or.inr ((Sum.inr.inj (Prod.mk.inj h).1).symm)
    | exact absurd (Prod.mk.inj h).1 (by simp)
theorem k_Law_back {c : Int} (hO : zOk S) (hC : zCls G h ad S) (z_c : zI32 c) {ou : Nat} {n0 : Int} {sv : Value} (eo : h ou = some (.inr (zkOut, [zl (zwd n0), sv]))) (hn : ∀ i, i < 20 → ou ≠ ad i) : zMW G l hLaw_back yLaw_back 10 [.ref (ad 0), zi c, .ref ou] h (zQw G ad ou h (1) (9) (2) (sp_back S c)) zNo 6 36 := by
  refine zMW.of [some (.ref (ad 0)), some (zi c), some (.ref ou), none] (by decide +kernel) rfl (by decide) (Nat.le_of_ble_eq_true rfl) rfl ?_
  refine z_aload_n dLaw_back_0 rfl ?_
  refine z_aload_n dLaw_back_1 rfl ?_
  refine z_iload_n dLaw_back_2 rfl ?_
  refine z_callV (bc' := 0) (bs' := 0) MV_Cls_back lk_Law_117 dLaw_back_3 (k_Cls_back hO hC z_c) rfl rfl (Nat.le_of_ble_eq_true rfl) rfl hC.2.1 (Nat.le_of_ble_eq_true rfl) (Nat.le_of_ble_eq_true rfl) (by decide) (by decide) (fun E h1 q9 => ?_) ?_
  · obtain ⟨S9, e9, H9, F9⟩ := q9
    rcases xE_back e9 with rfl | rfl
    · refine z_catch (a := 0) (b := 10) (hp := 13) (ct := 19) [] [(0, 10, 16, 115)] rfl (fun z hz => nomatch hz) (by decide) (by decide) wl_zE1 wk_zE1 (fun qx => ?_)
      refine z_astore_n dLaw_back_13 (Nat.le_of_ble_eq_true rfl) ?_
      refine z_iconst dLaw_back_14 ?_
      refine z_iret rfl rfl dLaw_back_15 ?_
      exact zQw.tw e9 H9 F9 eo hn (Or.inl ⟨rfl, rfl⟩)
    · refine z_catch (a := 0) (b := 10) (hp := 16) (ct := 115) [(0, 10, 13, 19)] [] rfl (by intro z hz; simp only [List.mem_cons, List.not_mem_nil, or_false] at hz; rcases hz with rfl <;> first | exact ⟨by decide, _, wl_zE1, by decide⟩) (by decide) (by decide) wl_zE3 wk_zE3 (fun qx => ?_)
      refine z_astore_n dLaw_back_16 (Nat.le_of_ble_eq_true rfl) ?_
      refine z_iconst dLaw_back_17 ?_
      refine z_iret rfl rfl dLaw_back_18 ?_
      exact zQw.tw e9 H9 F9 eo hn (Or.inr (Or.inr ⟨rfl, rfl⟩))
  · rintro _ h1 ⟨z, S9, e9, rfl, H9, F9⟩
    have eo1 := (F9 ou hn).trans eo
    rw [zwd_i z]
    refine z_i2l (zwd_r z) dLaw_back_6 ?_
    refine z_putN (k := 0) fd_Out (by decide) fl_Law_13 rfl dLaw_back_7 (by assumption) (by simp) rfl rfl ?_
    refine z_hx (fun h2 p2 g2 => ?_)
    refine z_goto (tgt := 19) dLaw_back_10 (by decide) ?_
    refine z_iconst dLaw_back_19 ?_
    refine z_iret rfl rfl dLaw_back_20 ?_
    exact zQw.ok e9 H9 F9 hn p2 g2
theorem xE_puts {c x : Int} {E : String} (h : sp_puts S c x = (.inr E, S')) : E = zE1 ∨ E = zE2 ∨ E = zE3 := by
  unfold sp_puts at h
  (try simp only [spPut, spTake, spBec, spRef] at h)
  (repeat' split at h)
  all_goals first
    | exact Or.inl (Sum.inr.inj (Prod.mk.inj h).1).symm
    | exact Or.inr (Or.inl (Sum.inr.inj (Prod.mk.inj h).1).symm)
    | exact Or.inr (Or.inr ((Sum.inr.inj (Prod.mk.inj h).1).symm))
    | exact absurd (Prod.mk.inj h).1 (by simp)
theorem k_Law_puts {c x : Int} (hO : zOk S) (hC : zCls G h ad S) (z_c : zI32 c) (z_x : zI32 x) {ou : Nat} {n0 : Int} {sv : Value} (eo : h ou = some (.inr (zkOut, [zl (zwd n0), sv]))) (hn : ∀ i, i < 20 → ou ≠ ad i) : zMW G l hLaw_puts yLaw_puts 10 [.ref (ad 0), zi c, zi x, .ref ou] h (zQw G ad ou h (1) (2) (3) (sp_puts S c x)) zNo 6 36 := by
  refine zMW.of [some (.ref (ad 0)), some (zi c), some (zi x), some (.ref ou), none] (by decide +kernel) rfl (by decide) (Nat.le_of_ble_eq_true rfl) rfl ?_
  refine z_aload_n dLaw_puts_0 rfl ?_
  refine z_aload_n dLaw_puts_1 rfl ?_
  refine z_iload_n dLaw_puts_2 rfl ?_
  refine z_iload_n dLaw_puts_3 rfl ?_
  refine z_callV (bc' := 0) (bs' := 0) MV_Cls_puts lk_Law_120 dLaw_puts_4 (k_Cls_puts hO hC z_c z_x) rfl rfl (Nat.le_of_ble_eq_true rfl) rfl hC.2.1 (Nat.le_of_ble_eq_true rfl) (Nat.le_of_ble_eq_true rfl) (by decide) (by decide) (fun E h1 q9 => ?_) ?_
  · obtain ⟨S9, e9, H9, F9⟩ := q9
    rcases xE_puts e9 with rfl | rfl | rfl
    · refine z_catch (a := 0) (b := 11) (hp := 14) (ct := 19) [] [(0, 11, 18, 21), (0, 11, 22, 115)] rfl (fun z hz => nomatch hz) (by decide) (by decide) wl_zE1 wk_zE1 (fun qx => ?_)
      refine z_astore dLaw_puts_14 (Nat.le_of_ble_eq_true rfl) ?_
      refine z_iconst dLaw_puts_16 ?_
      refine z_iret rfl rfl dLaw_puts_17 ?_
      exact zQw.tw e9 H9 F9 eo hn (Or.inl ⟨rfl, rfl⟩)
    · refine z_catch (a := 0) (b := 11) (hp := 18) (ct := 21) [(0, 11, 14, 19)] [(0, 11, 22, 115)] rfl (by intro z hz; simp only [List.mem_cons, List.not_mem_nil, or_false] at hz; rcases hz with rfl <;> first | exact ⟨by decide, _, wl_zE1, by decide⟩) (by decide) (by decide) wl_zE2 wk_zE2 (fun qx => ?_)
      refine z_astore dLaw_puts_18 (Nat.le_of_ble_eq_true rfl) ?_
      refine z_iconst dLaw_puts_20 ?_
      refine z_iret rfl rfl dLaw_puts_21 ?_
      exact zQw.tw e9 H9 F9 eo hn (Or.inr (Or.inl ⟨rfl, rfl⟩))
    · refine z_catch (a := 0) (b := 11) (hp := 22) (ct := 115) [(0, 11, 14, 19), (0, 11, 18, 21)] [] rfl (by intro z hz; simp only [List.mem_cons, List.not_mem_nil, or_false] at hz; rcases hz with rfl | rfl <;> first | exact ⟨by decide, _, wl_zE1, by decide⟩ | exact ⟨by decide, _, wl_zE2, by decide⟩) (by decide) (by decide) wl_zE3 wk_zE3 (fun qx => ?_)
      refine z_astore dLaw_puts_22 (Nat.le_of_ble_eq_true rfl) ?_
      refine z_iconst dLaw_puts_24 ?_
      refine z_iret rfl rfl dLaw_puts_25 ?_
      exact zQw.tw e9 H9 F9 eo hn (Or.inr (Or.inr ⟨rfl, rfl⟩))
  · rintro _ h1 ⟨z, S9, e9, rfl, H9, F9⟩
    have eo1 := (F9 ou hn).trans eo
    rw [zwd_i z]
    refine z_i2l (zwd_r z) dLaw_puts_7 ?_
    refine z_putN (k := 0) fd_Out (by decide) fl_Law_13 rfl dLaw_puts_8 (by assumption) (by simp) rfl rfl ?_
    refine z_hx (fun h2 p2 g2 => ?_)
    refine z_goto (tgt := 26) dLaw_puts_11 (by decide) ?_
    refine z_iconst dLaw_puts_26 ?_
    refine z_iret rfl rfl dLaw_puts_27 ?_
    exact zQw.ok e9 H9 F9 hn p2 g2
theorem xE_cuts {c : Int} {E : String} (h : sp_cuts S c = (.inr E, S')) : E = zE1 ∨ E = zE3 := by
  unfold sp_cuts at h
  (try simp only [spPut, spTake, spBec, spRef] at h)
  (repeat' split at h)
  all_goals first
    | exact Or.inl (Sum.inr.inj (Prod.mk.inj h).1).symm
    | exact Or.inr ((Sum.inr.inj (Prod.mk.inj h).1).symm)
    | exact absurd (Prod.mk.inj h).1 (by simp)
theorem k_Law_cuts {c : Int} (hO : zOk S) (hC : zCls G h ad S) (z_c : zI32 c) {ou : Nat} {n0 : Int} {sv : Value} (eo : h ou = some (.inr (zkOut, [zl (zwd n0), sv]))) (hn : ∀ i, i < 20 → ou ≠ ad i) : zMW G l hLaw_cuts yLaw_cuts 10 [.ref (ad 0), zi c, .ref ou] h (zQw G ad ou h (1) (9) (2) (sp_cuts S c)) zNo 6 36 := by
  refine zMW.of [some (.ref (ad 0)), some (zi c), some (.ref ou), none] (by decide +kernel) rfl (by decide) (Nat.le_of_ble_eq_true rfl) rfl ?_
  refine z_aload_n dLaw_cuts_0 rfl ?_
  refine z_aload_n dLaw_cuts_1 rfl ?_
  refine z_iload_n dLaw_cuts_2 rfl ?_
  refine z_callV (bc' := 0) (bs' := 0) MV_Cls_cuts lk_Law_123 dLaw_cuts_3 (k_Cls_cuts hO hC z_c) rfl rfl (Nat.le_of_ble_eq_true rfl) rfl hC.2.1 (Nat.le_of_ble_eq_true rfl) (Nat.le_of_ble_eq_true rfl) (by decide) (by decide) (fun E h1 q9 => ?_) ?_
  · obtain ⟨S9, e9, H9, F9⟩ := q9
    rcases xE_cuts e9 with rfl | rfl
    · refine z_catch (a := 0) (b := 10) (hp := 13) (ct := 19) [] [(0, 10, 16, 115)] rfl (fun z hz => nomatch hz) (by decide) (by decide) wl_zE1 wk_zE1 (fun qx => ?_)
      refine z_astore_n dLaw_cuts_13 (Nat.le_of_ble_eq_true rfl) ?_
      refine z_iconst dLaw_cuts_14 ?_
      refine z_iret rfl rfl dLaw_cuts_15 ?_
      exact zQw.tw e9 H9 F9 eo hn (Or.inl ⟨rfl, rfl⟩)
    · refine z_catch (a := 0) (b := 10) (hp := 16) (ct := 115) [(0, 10, 13, 19)] [] rfl (by intro z hz; simp only [List.mem_cons, List.not_mem_nil, or_false] at hz; rcases hz with rfl <;> first | exact ⟨by decide, _, wl_zE1, by decide⟩) (by decide) (by decide) wl_zE3 wk_zE3 (fun qx => ?_)
      refine z_astore_n dLaw_cuts_16 (Nat.le_of_ble_eq_true rfl) ?_
      refine z_iconst dLaw_cuts_17 ?_
      refine z_iret rfl rfl dLaw_cuts_18 ?_
      exact zQw.tw e9 H9 F9 eo hn (Or.inr (Or.inr ⟨rfl, rfl⟩))
  · rintro _ h1 ⟨z, S9, e9, rfl, H9, F9⟩
    have eo1 := (F9 ou hn).trans eo
    rw [zwd_i z]
    refine z_i2l (zwd_r z) dLaw_cuts_6 ?_
    refine z_putN (k := 0) fd_Out (by decide) fl_Law_13 rfl dLaw_cuts_7 (by assumption) (by simp) rfl rfl ?_
    refine z_hx (fun h2 p2 g2 => ?_)
    refine z_goto (tgt := 19) dLaw_cuts_10 (by decide) ?_
    refine z_iconst dLaw_cuts_19 ?_
    refine z_iret rfl rfl dLaw_cuts_20 ?_
    exact zQw.ok e9 H9 F9 hn p2 g2
theorem xE_changes {c x : Int} {E : String} (h : sp_changes S c x = (.inr E, S')) : E = zE1 ∨ E = zE2 ∨ E = zE3 := by
  unfold sp_changes at h
  (try simp only [spPut, spTake, spBec, spRef] at h)
  (repeat' split at h)
  all_goals first
    | exact Or.inl (Sum.inr.inj (Prod.mk.inj h).1).symm
    | exact Or.inr (Or.inl (Sum.inr.inj (Prod.mk.inj h).1).symm)
    | exact Or.inr (Or.inr ((Sum.inr.inj (Prod.mk.inj h).1).symm))
    | exact absurd (Prod.mk.inj h).1 (by simp)
theorem k_Law_changes {c x : Int} (hO : zOk S) (hC : zCls G h ad S) (z_c : zI32 c) (z_x : zI32 x) {ou : Nat} {n0 : Int} {sv : Value} (eo : h ou = some (.inr (zkOut, [zl (zwd n0), sv]))) (hn : ∀ i, i < 20 → ou ≠ ad i) : zMW G l hLaw_changes yLaw_changes 10 [.ref (ad 0), zi c, zi x, .ref ou] h (zQw G ad ou h (1) (2) (3) (sp_changes S c x)) zNo 6 36 := by
  refine zMW.of [some (.ref (ad 0)), some (zi c), some (zi x), some (.ref ou), none] (by decide +kernel) rfl (by decide) (Nat.le_of_ble_eq_true rfl) rfl ?_
  refine z_aload_n dLaw_changes_0 rfl ?_
  refine z_aload_n dLaw_changes_1 rfl ?_
  refine z_iload_n dLaw_changes_2 rfl ?_
  refine z_iload_n dLaw_changes_3 rfl ?_
  refine z_callV (bc' := 0) (bs' := 0) MV_Cls_changes lk_Law_126 dLaw_changes_4 (k_Cls_changes hO hC z_c z_x) rfl rfl (Nat.le_of_ble_eq_true rfl) rfl hC.2.1 (Nat.le_of_ble_eq_true rfl) (Nat.le_of_ble_eq_true rfl) (by decide) (by decide) (fun E h1 q9 => ?_) ?_
  · obtain ⟨S9, e9, H9, F9⟩ := q9
    rcases xE_changes e9 with rfl | rfl | rfl
    · refine z_catch (a := 0) (b := 11) (hp := 14) (ct := 19) [] [(0, 11, 18, 21), (0, 11, 22, 115)] rfl (fun z hz => nomatch hz) (by decide) (by decide) wl_zE1 wk_zE1 (fun qx => ?_)
      refine z_astore dLaw_changes_14 (Nat.le_of_ble_eq_true rfl) ?_
      refine z_iconst dLaw_changes_16 ?_
      refine z_iret rfl rfl dLaw_changes_17 ?_
      exact zQw.tw e9 H9 F9 eo hn (Or.inl ⟨rfl, rfl⟩)
    · refine z_catch (a := 0) (b := 11) (hp := 18) (ct := 21) [(0, 11, 14, 19)] [(0, 11, 22, 115)] rfl (by intro z hz; simp only [List.mem_cons, List.not_mem_nil, or_false] at hz; rcases hz with rfl <;> first | exact ⟨by decide, _, wl_zE1, by decide⟩) (by decide) (by decide) wl_zE2 wk_zE2 (fun qx => ?_)
      refine z_astore dLaw_changes_18 (Nat.le_of_ble_eq_true rfl) ?_
      refine z_iconst dLaw_changes_20 ?_
      refine z_iret rfl rfl dLaw_changes_21 ?_
      exact zQw.tw e9 H9 F9 eo hn (Or.inr (Or.inl ⟨rfl, rfl⟩))
    · refine z_catch (a := 0) (b := 11) (hp := 22) (ct := 115) [(0, 11, 14, 19), (0, 11, 18, 21)] [] rfl (by intro z hz; simp only [List.mem_cons, List.not_mem_nil, or_false] at hz; rcases hz with rfl | rfl <;> first | exact ⟨by decide, _, wl_zE1, by decide⟩ | exact ⟨by decide, _, wl_zE2, by decide⟩) (by decide) (by decide) wl_zE3 wk_zE3 (fun qx => ?_)
      refine z_astore dLaw_changes_22 (Nat.le_of_ble_eq_true rfl) ?_
      refine z_iconst dLaw_changes_24 ?_
      refine z_iret rfl rfl dLaw_changes_25 ?_
      exact zQw.tw e9 H9 F9 eo hn (Or.inr (Or.inr ⟨rfl, rfl⟩))
  · rintro _ h1 ⟨z, S9, e9, rfl, H9, F9⟩
    have eo1 := (F9 ou hn).trans eo
    rw [zwd_i z]
    refine z_i2l (zwd_r z) dLaw_changes_7 ?_
    refine z_putN (k := 0) fd_Out (by decide) fl_Law_13 rfl dLaw_changes_8 (by assumption) (by simp) rfl rfl ?_
    refine z_hx (fun h2 p2 g2 => ?_)
    refine z_goto (tgt := 26) dLaw_changes_11 (by decide) ?_
    refine z_iconst dLaw_changes_26 ?_
    refine z_iret rfl rfl dLaw_changes_27 ?_
    exact zQw.ok e9 H9 F9 hn p2 g2
theorem xE_meet {c o : Int} {E : String} (h : sp_meet S c o = (.inr E, S')) : E = zE1 ∨ E = zE2 ∨ E = zE3 := by
  unfold sp_meet at h
  (try simp only [spPut, spTake, spBec, spRef] at h)
  (repeat' split at h)
  all_goals first
    | exact Or.inl (Sum.inr.inj (Prod.mk.inj h).1).symm
    | exact Or.inr (Or.inl (Sum.inr.inj (Prod.mk.inj h).1).symm)
    | exact Or.inr (Or.inr ((Sum.inr.inj (Prod.mk.inj h).1).symm))
    | exact absurd (Prod.mk.inj h).1 (by simp)
theorem k_Law_meet {c o : Int} (hO : zOk S) (hC : zCls G h ad S) (z_c : zI32 c) (z_o : zI32 o) {ou : Nat} {n0 : Int} {sv : Value} (eo : h ou = some (.inr (zkOut, [zl (zwd n0), sv]))) (hn : ∀ i, i < 20 → ou ≠ ad i) : zMW G l hLaw_meet yLaw_meet 10 [.ref (ad 0), zi c, zi o, .ref ou] h (zQw G ad ou h (1) (2) (3) (sp_meet S c o)) zNo 6 36 := by
  refine zMW.of [some (.ref (ad 0)), some (zi c), some (zi o), some (.ref ou), none] (by decide +kernel) rfl (by decide) (Nat.le_of_ble_eq_true rfl) rfl ?_
  refine z_aload_n dLaw_meet_0 rfl ?_
  refine z_aload_n dLaw_meet_1 rfl ?_
  refine z_iload_n dLaw_meet_2 rfl ?_
  refine z_iload_n dLaw_meet_3 rfl ?_
  refine z_callV (bc' := 0) (bs' := 0) MV_Cls_meet lk_Law_129 dLaw_meet_4 (k_Cls_meet hO hC z_c z_o) rfl rfl (Nat.le_of_ble_eq_true rfl) rfl hC.2.1 (Nat.le_of_ble_eq_true rfl) (Nat.le_of_ble_eq_true rfl) (by decide) (by decide) (fun E h1 q9 => ?_) ?_
  · obtain ⟨S9, e9, H9, F9⟩ := q9
    rcases xE_meet e9 with rfl | rfl | rfl
    · refine z_catch (a := 0) (b := 11) (hp := 14) (ct := 19) [] [(0, 11, 18, 21), (0, 11, 22, 115)] rfl (fun z hz => nomatch hz) (by decide) (by decide) wl_zE1 wk_zE1 (fun qx => ?_)
      refine z_astore dLaw_meet_14 (Nat.le_of_ble_eq_true rfl) ?_
      refine z_iconst dLaw_meet_16 ?_
      refine z_iret rfl rfl dLaw_meet_17 ?_
      exact zQw.tw e9 H9 F9 eo hn (Or.inl ⟨rfl, rfl⟩)
    · refine z_catch (a := 0) (b := 11) (hp := 18) (ct := 21) [(0, 11, 14, 19)] [(0, 11, 22, 115)] rfl (by intro z hz; simp only [List.mem_cons, List.not_mem_nil, or_false] at hz; rcases hz with rfl <;> first | exact ⟨by decide, _, wl_zE1, by decide⟩) (by decide) (by decide) wl_zE2 wk_zE2 (fun qx => ?_)
      refine z_astore dLaw_meet_18 (Nat.le_of_ble_eq_true rfl) ?_
      refine z_iconst dLaw_meet_20 ?_
      refine z_iret rfl rfl dLaw_meet_21 ?_
      exact zQw.tw e9 H9 F9 eo hn (Or.inr (Or.inl ⟨rfl, rfl⟩))
    · refine z_catch (a := 0) (b := 11) (hp := 22) (ct := 115) [(0, 11, 14, 19), (0, 11, 18, 21)] [] rfl (by intro z hz; simp only [List.mem_cons, List.not_mem_nil, or_false] at hz; rcases hz with rfl | rfl <;> first | exact ⟨by decide, _, wl_zE1, by decide⟩ | exact ⟨by decide, _, wl_zE2, by decide⟩) (by decide) (by decide) wl_zE3 wk_zE3 (fun qx => ?_)
      refine z_astore dLaw_meet_22 (Nat.le_of_ble_eq_true rfl) ?_
      refine z_iconst dLaw_meet_24 ?_
      refine z_iret rfl rfl dLaw_meet_25 ?_
      exact zQw.tw e9 H9 F9 eo hn (Or.inr (Or.inr ⟨rfl, rfl⟩))
  · rintro _ h1 ⟨z, S9, e9, rfl, H9, F9⟩
    have eo1 := (F9 ou hn).trans eo
    rw [zwd_i z]
    refine z_i2l (zwd_r z) dLaw_meet_7 ?_
    refine z_putN (k := 0) fd_Out (by decide) fl_Law_13 rfl dLaw_meet_8 (by assumption) (by simp) rfl rfl ?_
    refine z_hx (fun h2 p2 g2 => ?_)
    refine z_goto (tgt := 26) dLaw_meet_11 (by decide) ?_
    refine z_iconst dLaw_meet_26 ?_
    refine z_iret rfl rfl dLaw_meet_27 ?_
    exact zQw.ok e9 H9 F9 hn p2 g2
theorem xE_ofCursor {c w : Int} {E : String} (h : sp_ofCursor S c w = (.inr E, S')) : E = zE1 ∨ E = zE2 := by
  unfold sp_ofCursor at h
  (try simp only [spPut, spTake, spBec, spRef] at h)
  (repeat' split at h)
  all_goals first
    | exact Or.inl (Sum.inr.inj (Prod.mk.inj h).1).symm
    | exact Or.inr ((Sum.inr.inj (Prod.mk.inj h).1).symm)
    | exact absurd (Prod.mk.inj h).1 (by simp)
theorem k_Law_ofCursor {c w : Int} (hO : zOk S) (hC : zCls G h ad S) (z_c : zI32 c) (z_w : zI32 w) {ou : Nat} {n0 : Int} {sv : Value} (eo : h ou = some (.inr (zkOut, [zl (zwd n0), sv]))) (hn : ∀ i, i < 20 → ou ≠ ad i) : zMW G l hLaw_ofCursor yLaw_ofCursor 11 [.ref (ad 0), zi c, zi w, .ref ou] h (zQw G ad ou h (1) (2) (9) (sp_ofCursor S c w)) zNo 6 36 := by
  refine zMW.of [some (.ref (ad 0)), some (zi c), some (zi w), some (.ref ou), none] (by decide +kernel) rfl (by decide) (Nat.le_of_ble_eq_true rfl) rfl ?_
  refine z_aload_n dLaw_ofCursor_0 rfl ?_
  refine z_aload_n dLaw_ofCursor_1 rfl ?_
  refine z_iload_n dLaw_ofCursor_2 rfl ?_
  refine z_iload_n dLaw_ofCursor_3 rfl ?_
  refine z_callV (bc' := 0) (bs' := 0) MV_Cls_ofCursor lk_Law_132 dLaw_ofCursor_4 (k_Cls_ofCursor hO hC z_c z_w) rfl rfl (Nat.le_of_ble_eq_true rfl) rfl hC.2.1 (Nat.le_of_ble_eq_true rfl) (Nat.le_of_ble_eq_true rfl) (by decide) (by decide) (fun E h1 q9 => ?_) ?_
  · obtain ⟨S9, e9, H9, F9⟩ := q9
    rcases xE_ofCursor e9 with rfl | rfl
    · refine z_catch (a := 0) (b := 11) (hp := 14) (ct := 19) [] [(0, 11, 18, 21)] rfl (fun z hz => nomatch hz) (by decide) (by decide) wl_zE1 wk_zE1 (fun qx => ?_)
      refine z_astore dLaw_ofCursor_14 (Nat.le_of_ble_eq_true rfl) ?_
      refine z_iconst dLaw_ofCursor_16 ?_
      refine z_iret rfl rfl dLaw_ofCursor_17 ?_
      exact zQw.tw e9 H9 F9 eo hn (Or.inl ⟨rfl, rfl⟩)
    · refine z_catch (a := 0) (b := 11) (hp := 18) (ct := 21) [(0, 11, 14, 19)] [] rfl (by intro z hz; simp only [List.mem_cons, List.not_mem_nil, or_false] at hz; rcases hz with rfl <;> first | exact ⟨by decide, _, wl_zE1, by decide⟩) (by decide) (by decide) wl_zE2 wk_zE2 (fun qx => ?_)
      refine z_astore dLaw_ofCursor_18 (Nat.le_of_ble_eq_true rfl) ?_
      refine z_iconst dLaw_ofCursor_20 ?_
      refine z_iret rfl rfl dLaw_ofCursor_21 ?_
      exact zQw.tw e9 H9 F9 eo hn (Or.inr (Or.inl ⟨rfl, rfl⟩))
  · rintro _ h1 ⟨z, S9, e9, rfl, H9, F9⟩
    have eo1 := (F9 ou hn).trans eo
    rw [zwd_i z]
    refine z_i2l (zwd_r z) dLaw_ofCursor_7 ?_
    refine z_putN (k := 0) fd_Out (by decide) fl_Law_13 rfl dLaw_ofCursor_8 (by assumption) (by simp) rfl rfl ?_
    refine z_hx (fun h2 p2 g2 => ?_)
    refine z_goto (tgt := 22) dLaw_ofCursor_11 (by decide) ?_
    refine z_iconst dLaw_ofCursor_22 ?_
    refine z_iret rfl rfl dLaw_ofCursor_23 ?_
    exact zQw.ok e9 H9 F9 hn p2 g2
theorem xE_plus {p o : Int} {E : String} (h : sp_plus S p o = (.inr E, S')) : E = zE1 := by
  unfold sp_plus at h
  (try simp only [spPut, spTake, spBec, spRef] at h)
  (repeat' split at h)
  all_goals first
    | exact (Sum.inr.inj (Prod.mk.inj h).1).symm
    | exact absurd (Prod.mk.inj h).1 (by simp)
theorem k_Law_plus {p o : Int}  (hC : zCls G h ad S) (z_p : zI32 p) (z_o : zI32 o) {ou : Nat} {n0 : Int} {sv : Value} (eo : h ou = some (.inr (zkOut, [zl (zwd n0), sv]))) (hn : ∀ i, i < 20 → ou ≠ ad i) : zMW G l hLaw_plus yLaw_plus 10 [.ref (ad 0), zi p, zi o, .ref ou] h (zQw G ad ou h (1) (9) (9) (sp_plus S p o)) zNo 6 36 := by
  refine zMW.of [some (.ref (ad 0)), some (zi p), some (zi o), some (.ref ou), none] (by decide +kernel) rfl (by decide) (Nat.le_of_ble_eq_true rfl) rfl ?_
  refine z_aload_n dLaw_plus_0 rfl ?_
  refine z_aload_n dLaw_plus_1 rfl ?_
  refine z_iload_n dLaw_plus_2 rfl ?_
  refine z_iload_n dLaw_plus_3 rfl ?_
  refine z_callV (bc' := 0) (bs' := 0) MV_Cls_plus lk_Law_135 dLaw_plus_4 (k_Cls_plus hC z_p z_o) rfl rfl (Nat.le_of_ble_eq_true rfl) rfl hC.2.1 (Nat.le_of_ble_eq_true rfl) (Nat.le_of_ble_eq_true rfl) (by decide) (by decide) (fun E h1 q9 => ?_) ?_
  · obtain ⟨S9, e9, H9, F9⟩ := q9
    obtain rfl := xE_plus e9
    refine z_catch (a := 0) (b := 11) (hp := 14) (ct := 19) [] [] rfl (fun z hz => nomatch hz) (by decide) (by decide) wl_zE1 wk_zE1 (fun qx => ?_)
    refine z_astore dLaw_plus_14 (Nat.le_of_ble_eq_true rfl) ?_
    refine z_iconst dLaw_plus_16 ?_
    refine z_iret rfl rfl dLaw_plus_17 ?_
    exact zQw.tw e9 H9 F9 eo hn (Or.inl ⟨rfl, rfl⟩)
  · rintro _ h1 ⟨z, S9, e9, rfl, H9, F9⟩
    have eo1 := (F9 ou hn).trans eo
    rw [zwd_i z]
    refine z_i2l (zwd_r z) dLaw_plus_7 ?_
    refine z_putN (k := 0) fd_Out (by decide) fl_Law_13 rfl dLaw_plus_8 (by assumption) (by simp) rfl rfl ?_
    refine z_hx (fun h2 p2 g2 => ?_)
    refine z_goto (tgt := 18) dLaw_plus_11 (by decide) ?_
    refine z_iconst dLaw_plus_18 ?_
    refine z_iret rfl rfl dLaw_plus_19 ?_
    exact zQw.ok e9 H9 F9 hn p2 g2
theorem xE_times {p o : Int} {E : String} (h : sp_times S p o = (.inr E, S')) : E = zE1 := by
  unfold sp_times at h
  (try simp only [spPut, spTake, spBec, spRef] at h)
  (repeat' split at h)
  all_goals first
    | exact (Sum.inr.inj (Prod.mk.inj h).1).symm
    | exact absurd (Prod.mk.inj h).1 (by simp)
theorem k_Law_times {p o : Int}  (hC : zCls G h ad S) (z_p : zI32 p) (z_o : zI32 o) {ou : Nat} {n0 : Int} {sv : Value} (eo : h ou = some (.inr (zkOut, [zl (zwd n0), sv]))) (hn : ∀ i, i < 20 → ou ≠ ad i) : zMW G l hLaw_times yLaw_times 10 [.ref (ad 0), zi p, zi o, .ref ou] h (zQw G ad ou h (1) (9) (9) (sp_times S p o)) zNo 6 36 := by
  refine zMW.of [some (.ref (ad 0)), some (zi p), some (zi o), some (.ref ou), none] (by decide +kernel) rfl (by decide) (Nat.le_of_ble_eq_true rfl) rfl ?_
  refine z_aload_n dLaw_times_0 rfl ?_
  refine z_aload_n dLaw_times_1 rfl ?_
  refine z_iload_n dLaw_times_2 rfl ?_
  refine z_iload_n dLaw_times_3 rfl ?_
  refine z_callV (bc' := 0) (bs' := 0) MV_Cls_times lk_Law_138 dLaw_times_4 (k_Cls_times hC z_p z_o) rfl rfl (Nat.le_of_ble_eq_true rfl) rfl hC.2.1 (Nat.le_of_ble_eq_true rfl) (Nat.le_of_ble_eq_true rfl) (by decide) (by decide) (fun E h1 q9 => ?_) ?_
  · obtain ⟨S9, e9, H9, F9⟩ := q9
    obtain rfl := xE_times e9
    refine z_catch (a := 0) (b := 11) (hp := 14) (ct := 19) [] [] rfl (fun z hz => nomatch hz) (by decide) (by decide) wl_zE1 wk_zE1 (fun qx => ?_)
    refine z_astore dLaw_times_14 (Nat.le_of_ble_eq_true rfl) ?_
    refine z_iconst dLaw_times_16 ?_
    refine z_iret rfl rfl dLaw_times_17 ?_
    exact zQw.tw e9 H9 F9 eo hn (Or.inl ⟨rfl, rfl⟩)
  · rintro _ h1 ⟨z, S9, e9, rfl, H9, F9⟩
    have eo1 := (F9 ou hn).trans eo
    rw [zwd_i z]
    refine z_i2l (zwd_r z) dLaw_times_7 ?_
    refine z_putN (k := 0) fd_Out (by decide) fl_Law_13 rfl dLaw_times_8 (by assumption) (by simp) rfl rfl ?_
    refine z_hx (fun h2 p2 g2 => ?_)
    refine z_goto (tgt := 18) dLaw_times_11 (by decide) ?_
    refine z_iconst dLaw_times_18 ?_
    refine z_iret rfl rfl dLaw_times_19 ?_
    exact zQw.ok e9 H9 F9 hn p2 g2
theorem xE_shift {p : Int} {E : String} (h : sp_shift S p = (.inr E, S')) : E = zE1 := by
  unfold sp_shift at h
  (try simp only [spPut, spTake, spBec, spRef] at h)
  (repeat' split at h)
  all_goals first
    | exact (Sum.inr.inj (Prod.mk.inj h).1).symm
    | exact absurd (Prod.mk.inj h).1 (by simp)
theorem k_Law_shift {p : Int}  (hC : zCls G h ad S) (z_p : zI32 p) {ou : Nat} {n0 : Int} {sv : Value} (eo : h ou = some (.inr (zkOut, [zl (zwd n0), sv]))) (hn : ∀ i, i < 20 → ou ≠ ad i) : zMW G l hLaw_shift yLaw_shift 10 [.ref (ad 0), zi p, .ref ou] h (zQw G ad ou h (1) (9) (9) (sp_shift S p)) zNo 6 36 := by
  refine zMW.of [some (.ref (ad 0)), some (zi p), some (.ref ou), none] (by decide +kernel) rfl (by decide) (Nat.le_of_ble_eq_true rfl) rfl ?_
  refine z_aload_n dLaw_shift_0 rfl ?_
  refine z_aload_n dLaw_shift_1 rfl ?_
  refine z_iload_n dLaw_shift_2 rfl ?_
  refine z_callV (bc' := 0) (bs' := 0) MV_Cls_shift lk_Law_141 dLaw_shift_3 (k_Cls_shift hC z_p) rfl rfl (Nat.le_of_ble_eq_true rfl) rfl hC.2.1 (Nat.le_of_ble_eq_true rfl) (Nat.le_of_ble_eq_true rfl) (by decide) (by decide) (fun E h1 q9 => ?_) ?_
  · obtain ⟨S9, e9, H9, F9⟩ := q9
    obtain rfl := xE_shift e9
    refine z_catch (a := 0) (b := 10) (hp := 13) (ct := 19) [] [] rfl (fun z hz => nomatch hz) (by decide) (by decide) wl_zE1 wk_zE1 (fun qx => ?_)
    refine z_astore_n dLaw_shift_13 (Nat.le_of_ble_eq_true rfl) ?_
    refine z_iconst dLaw_shift_14 ?_
    refine z_iret rfl rfl dLaw_shift_15 ?_
    exact zQw.tw e9 H9 F9 eo hn (Or.inl ⟨rfl, rfl⟩)
  · rintro _ h1 ⟨z, S9, e9, rfl, H9, F9⟩
    have eo1 := (F9 ou hn).trans eo
    rw [zwd_i z]
    refine z_i2l (zwd_r z) dLaw_shift_6 ?_
    refine z_putN (k := 0) fd_Out (by decide) fl_Law_13 rfl dLaw_shift_7 (by assumption) (by simp) rfl rfl ?_
    refine z_hx (fun h2 p2 g2 => ?_)
    refine z_goto (tgt := 16) dLaw_shift_10 (by decide) ?_
    refine z_iconst dLaw_shift_16 ?_
    refine z_iret rfl rfl dLaw_shift_17 ?_
    exact zQw.ok e9 H9 F9 hn p2 g2
theorem xE_trim {p : Int} {E : String} (h : sp_trim S p = (.inr E, S')) : E = zE1 := by
  unfold sp_trim at h
  (try simp only [spPut, spTake, spBec, spRef] at h)
  (repeat' split at h)
  all_goals first
    | exact (Sum.inr.inj (Prod.mk.inj h).1).symm
    | exact absurd (Prod.mk.inj h).1 (by simp)
theorem k_Law_trim {p : Int}  (hC : zCls G h ad S) (z_p : zI32 p) {ou : Nat} {n0 : Int} {sv : Value} (eo : h ou = some (.inr (zkOut, [zl (zwd n0), sv]))) (hn : ∀ i, i < 20 → ou ≠ ad i) : zMW G l hLaw_trim yLaw_trim 10 [.ref (ad 0), zi p, .ref ou] h (zQw G ad ou h (1) (9) (9) (sp_trim S p)) zNo 6 36 := by
  refine zMW.of [some (.ref (ad 0)), some (zi p), some (.ref ou), none] (by decide +kernel) rfl (by decide) (Nat.le_of_ble_eq_true rfl) rfl ?_
  refine z_aload_n dLaw_trim_0 rfl ?_
  refine z_aload_n dLaw_trim_1 rfl ?_
  refine z_iload_n dLaw_trim_2 rfl ?_
  refine z_callV (bc' := 0) (bs' := 0) MV_Cls_trim lk_Law_144 dLaw_trim_3 (k_Cls_trim hC z_p) rfl rfl (Nat.le_of_ble_eq_true rfl) rfl hC.2.1 (Nat.le_of_ble_eq_true rfl) (Nat.le_of_ble_eq_true rfl) (by decide) (by decide) (fun E h1 q9 => ?_) ?_
  · obtain ⟨S9, e9, H9, F9⟩ := q9
    obtain rfl := xE_trim e9
    refine z_catch (a := 0) (b := 10) (hp := 13) (ct := 19) [] [] rfl (fun z hz => nomatch hz) (by decide) (by decide) wl_zE1 wk_zE1 (fun qx => ?_)
    refine z_astore_n dLaw_trim_13 (Nat.le_of_ble_eq_true rfl) ?_
    refine z_iconst dLaw_trim_14 ?_
    refine z_iret rfl rfl dLaw_trim_15 ?_
    exact zQw.tw e9 H9 F9 eo hn (Or.inl ⟨rfl, rfl⟩)
  · rintro _ h1 ⟨z, S9, e9, rfl, H9, F9⟩
    have eo1 := (F9 ou hn).trans eo
    rw [zwd_i z]
    refine z_i2l (zwd_r z) dLaw_trim_6 ?_
    refine z_putN (k := 0) fd_Out (by decide) fl_Law_13 rfl dLaw_trim_7 (by assumption) (by simp) rfl rfl ?_
    refine z_hx (fun h2 p2 g2 => ?_)
    refine z_goto (tgt := 16) dLaw_trim_10 (by decide) ?_
    refine z_iconst dLaw_trim_16 ?_
    refine z_iret rfl rfl dLaw_trim_17 ?_
    exact zQw.ok e9 H9 F9 hn p2 g2
theorem xE_derive {p : Int} {E : String} (h : sp_derive S p = (.inr E, S')) : E = zE1 := by
  unfold sp_derive at h
  (try simp only [spPut, spTake, spBec, spRef] at h)
  (repeat' split at h)
  all_goals first
    | exact (Sum.inr.inj (Prod.mk.inj h).1).symm
    | exact absurd (Prod.mk.inj h).1 (by simp)
theorem k_Law_derive {p : Int}  (hC : zCls G h ad S) (z_p : zI32 p) {ou : Nat} {n0 : Int} {sv : Value} (eo : h ou = some (.inr (zkOut, [zl (zwd n0), sv]))) (hn : ∀ i, i < 20 → ou ≠ ad i) : zMW G l hLaw_derive yLaw_derive 10 [.ref (ad 0), zi p, .ref ou] h (zQw G ad ou h (1) (9) (9) (sp_derive S p)) zNo 6 36 := by
  refine zMW.of [some (.ref (ad 0)), some (zi p), some (.ref ou), none] (by decide +kernel) rfl (by decide) (Nat.le_of_ble_eq_true rfl) rfl ?_
  refine z_aload_n dLaw_derive_0 rfl ?_
  refine z_aload_n dLaw_derive_1 rfl ?_
  refine z_iload_n dLaw_derive_2 rfl ?_
  refine z_callV (bc' := 0) (bs' := 0) MV_Cls_derive lk_Law_147 dLaw_derive_3 (k_Cls_derive hC z_p) rfl rfl (Nat.le_of_ble_eq_true rfl) rfl hC.2.1 (Nat.le_of_ble_eq_true rfl) (Nat.le_of_ble_eq_true rfl) (by decide) (by decide) (fun E h1 q9 => ?_) ?_
  · obtain ⟨S9, e9, H9, F9⟩ := q9
    obtain rfl := xE_derive e9
    refine z_catch (a := 0) (b := 10) (hp := 13) (ct := 19) [] [] rfl (fun z hz => nomatch hz) (by decide) (by decide) wl_zE1 wk_zE1 (fun qx => ?_)
    refine z_astore_n dLaw_derive_13 (Nat.le_of_ble_eq_true rfl) ?_
    refine z_iconst dLaw_derive_14 ?_
    refine z_iret rfl rfl dLaw_derive_15 ?_
    exact zQw.tw e9 H9 F9 eo hn (Or.inl ⟨rfl, rfl⟩)
  · rintro _ h1 ⟨z, S9, e9, rfl, H9, F9⟩
    have eo1 := (F9 ou hn).trans eo
    rw [zwd_i z]
    refine z_i2l (zwd_r z) dLaw_derive_6 ?_
    refine z_putN (k := 0) fd_Out (by decide) fl_Law_13 rfl dLaw_derive_7 (by assumption) (by simp) rfl rfl ?_
    refine z_hx (fun h2 p2 g2 => ?_)
    refine z_goto (tgt := 16) dLaw_derive_10 (by decide) ?_
    refine z_iconst dLaw_derive_16 ?_
    refine z_iret rfl rfl dLaw_derive_17 ?_
    exact zQw.ok e9 H9 F9 hn p2 g2
theorem xE_value {p x : Int} {E : String} (h : sp_value S p x = (.inr E, S')) : E = zE1 ∨ E = zE2 := by
  unfold sp_value at h
  (try simp only [spPut, spTake, spBec, spRef] at h)
  (repeat' split at h)
  all_goals first
    | exact Or.inl (Sum.inr.inj (Prod.mk.inj h).1).symm
    | exact Or.inr ((Sum.inr.inj (Prod.mk.inj h).1).symm)
    | exact absurd (Prod.mk.inj h).1 (by simp)
theorem k_Law_value {p x : Int}  (hC : zCls G h ad S) (z_p : zI32 p) (z_x : zI32 x) {ou : Nat} {n0 : Int} {sv : Value} (eo : h ou = some (.inr (zkOut, [zl (zwd n0), sv]))) (hn : ∀ i, i < 20 → ou ≠ ad i) : zMW G l hLaw_value yLaw_value 10 [.ref (ad 0), zi p, zi x, .ref ou] h (zQw G ad ou h (1) (2) (9) (sp_value S p x)) zNo 6 36 := by
  refine zMW.of [some (.ref (ad 0)), some (zi p), some (zi x), some (.ref ou), none] (by decide +kernel) rfl (by decide) (Nat.le_of_ble_eq_true rfl) rfl ?_
  refine z_aload_n dLaw_value_0 rfl ?_
  refine z_aload_n dLaw_value_1 rfl ?_
  refine z_iload_n dLaw_value_2 rfl ?_
  refine z_iload_n dLaw_value_3 rfl ?_
  refine z_callV (bc' := 0) (bs' := 0) MV_Cls_value lk_Law_150 dLaw_value_4 (k_Cls_value hC z_p z_x) rfl rfl (Nat.le_of_ble_eq_true rfl) rfl hC.2.1 (Nat.le_of_ble_eq_true rfl) (Nat.le_of_ble_eq_true rfl) (by decide) (by decide) (fun E h1 q9 => ?_) ?_
  · obtain ⟨S9, e9, H9, F9⟩ := q9
    rcases xE_value e9 with rfl | rfl
    · refine z_catch (a := 0) (b := 11) (hp := 14) (ct := 19) [] [(0, 11, 18, 21)] rfl (fun z hz => nomatch hz) (by decide) (by decide) wl_zE1 wk_zE1 (fun qx => ?_)
      refine z_astore dLaw_value_14 (Nat.le_of_ble_eq_true rfl) ?_
      refine z_iconst dLaw_value_16 ?_
      refine z_iret rfl rfl dLaw_value_17 ?_
      exact zQw.tw e9 H9 F9 eo hn (Or.inl ⟨rfl, rfl⟩)
    · refine z_catch (a := 0) (b := 11) (hp := 18) (ct := 21) [(0, 11, 14, 19)] [] rfl (by intro z hz; simp only [List.mem_cons, List.not_mem_nil, or_false] at hz; rcases hz with rfl <;> first | exact ⟨by decide, _, wl_zE1, by decide⟩) (by decide) (by decide) wl_zE2 wk_zE2 (fun qx => ?_)
      refine z_astore dLaw_value_18 (Nat.le_of_ble_eq_true rfl) ?_
      refine z_iconst dLaw_value_20 ?_
      refine z_iret rfl rfl dLaw_value_21 ?_
      exact zQw.tw e9 H9 F9 eo hn (Or.inr (Or.inl ⟨rfl, rfl⟩))
  · rintro _ h1 ⟨z, S9, e9, rfl, H9, F9⟩
    have eo1 := (F9 ou hn).trans eo
    rw [zwd_i z]
    refine z_i2l (zwd_r z) dLaw_value_7 ?_
    refine z_putN (k := 0) fd_Out (by decide) fl_Law_13 rfl dLaw_value_8 (by assumption) (by simp) rfl rfl ?_
    refine z_hx (fun h2 p2 g2 => ?_)
    refine z_goto (tgt := 22) dLaw_value_11 (by decide) ?_
    refine z_iconst dLaw_value_22 ?_
    refine z_iret rfl rfl dLaw_value_23 ?_
    exact zQw.ok e9 H9 F9 hn p2 g2
theorem xE_degree {p : Int} {E : String} (h : sp_degree S p = (.inr E, S')) : E = zE1 := by
  unfold sp_degree at h
  (try simp only [spPut, spTake, spBec, spRef] at h)
  (repeat' split at h)
  all_goals first
    | exact (Sum.inr.inj (Prod.mk.inj h).1).symm
    | exact absurd (Prod.mk.inj h).1 (by simp)
theorem k_Law_degree {p : Int}  (hC : zCls G h ad S) (z_p : zI32 p) {ou : Nat} {n0 : Int} {sv : Value} (eo : h ou = some (.inr (zkOut, [zl (zwd n0), sv]))) (hn : ∀ i, i < 20 → ou ≠ ad i) : zMW G l hLaw_degree yLaw_degree 10 [.ref (ad 0), zi p, .ref ou] h (zQw G ad ou h (1) (9) (9) (sp_degree S p)) zNo 6 36 := by
  refine zMW.of [some (.ref (ad 0)), some (zi p), some (.ref ou), none] (by decide +kernel) rfl (by decide) (Nat.le_of_ble_eq_true rfl) rfl ?_
  refine z_aload_n dLaw_degree_0 rfl ?_
  refine z_aload_n dLaw_degree_1 rfl ?_
  refine z_iload_n dLaw_degree_2 rfl ?_
  refine z_callV (bc' := 0) (bs' := 0) MV_Cls_degree lk_Law_153 dLaw_degree_3 (k_Cls_degree hC z_p) rfl rfl (Nat.le_of_ble_eq_true rfl) rfl hC.2.1 (Nat.le_of_ble_eq_true rfl) (Nat.le_of_ble_eq_true rfl) (by decide) (by decide) (fun E h1 q9 => ?_) ?_
  · obtain ⟨S9, e9, H9, F9⟩ := q9
    obtain rfl := xE_degree e9
    refine z_catch (a := 0) (b := 10) (hp := 13) (ct := 19) [] [] rfl (fun z hz => nomatch hz) (by decide) (by decide) wl_zE1 wk_zE1 (fun qx => ?_)
    refine z_astore_n dLaw_degree_13 (Nat.le_of_ble_eq_true rfl) ?_
    refine z_iconst dLaw_degree_14 ?_
    refine z_iret rfl rfl dLaw_degree_15 ?_
    exact zQw.tw e9 H9 F9 eo hn (Or.inl ⟨rfl, rfl⟩)
  · rintro _ h1 ⟨z, S9, e9, rfl, H9, F9⟩
    have eo1 := (F9 ou hn).trans eo
    rw [zwd_i z]
    refine z_i2l (zwd_r z) dLaw_degree_6 ?_
    refine z_putN (k := 0) fd_Out (by decide) fl_Law_13 rfl dLaw_degree_7 (by assumption) (by simp) rfl rfl ?_
    refine z_hx (fun h2 p2 g2 => ?_)
    refine z_goto (tgt := 16) dLaw_degree_10 (by decide) ?_
    refine z_iconst dLaw_degree_16 ?_
    refine z_iret rfl rfl dLaw_degree_17 ?_
    exact zQw.ok e9 H9 F9 hn p2 g2
theorem xE_ask {key : Int} {E : String} (h : sp_ask S key = (.inr E, S')) : E = zE2 ∨ E = zE3 := by
  unfold sp_ask at h
  (try simp only [spPut, spTake, spBec, spRef] at h)
  (repeat' split at h)
  all_goals first
    | exact Or.inl (Sum.inr.inj (Prod.mk.inj h).1).symm
    | exact Or.inr ((Sum.inr.inj (Prod.mk.inj h).1).symm)
    | exact absurd (Prod.mk.inj h).1 (by simp)
theorem k_Law_ask {key : Int} (hO : zOk S) (hC : zCls G h ad S) (z_key : zI32 key) {ou : Nat} {n0 : Int} {sv : Value} (eo : h ou = some (.inr (zkOut, [zl (zwd n0), sv]))) (hn : ∀ i, i < 20 → ou ≠ ad i) : zMW G l hLaw_ask yLaw_ask 10 [.ref (ad 0), zi key, .ref ou] h (zQw G ad ou h (9) (1) (2) (sp_ask S key)) zNo 6 36 := by
  refine zMW.of [some (.ref (ad 0)), some (zi key), some (.ref ou), none] (by decide +kernel) rfl (by decide) (Nat.le_of_ble_eq_true rfl) rfl ?_
  refine z_aload_n dLaw_ask_0 rfl ?_
  refine z_aload_n dLaw_ask_1 rfl ?_
  refine z_iload_n dLaw_ask_2 rfl ?_
  refine z_callV (bc' := 0) (bs' := 0) MV_Cls_ask lk_Law_156 dLaw_ask_3 (k_Cls_ask hO hC z_key) rfl rfl (Nat.le_of_ble_eq_true rfl) rfl hC.2.1 (Nat.le_of_ble_eq_true rfl) (Nat.le_of_ble_eq_true rfl) (by decide) (by decide) (fun E h1 q9 => ?_) ?_
  · obtain ⟨S9, e9, H9, F9⟩ := q9
    rcases xE_ask e9 with rfl | rfl
    · refine z_catch (a := 0) (b := 10) (hp := 13) (ct := 21) [] [(0, 10, 16, 115)] rfl (fun z hz => nomatch hz) (by decide) (by decide) wl_zE2 wk_zE2 (fun qx => ?_)
      refine z_astore_n dLaw_ask_13 (Nat.le_of_ble_eq_true rfl) ?_
      refine z_iconst dLaw_ask_14 ?_
      refine z_iret rfl rfl dLaw_ask_15 ?_
      exact zQw.tw e9 H9 F9 eo hn (Or.inr (Or.inl ⟨rfl, rfl⟩))
    · refine z_catch (a := 0) (b := 10) (hp := 16) (ct := 115) [(0, 10, 13, 21)] [] rfl (by intro z hz; simp only [List.mem_cons, List.not_mem_nil, or_false] at hz; rcases hz with rfl <;> first | exact ⟨by decide, _, wl_zE2, by decide⟩) (by decide) (by decide) wl_zE3 wk_zE3 (fun qx => ?_)
      refine z_astore_n dLaw_ask_16 (Nat.le_of_ble_eq_true rfl) ?_
      refine z_iconst dLaw_ask_17 ?_
      refine z_iret rfl rfl dLaw_ask_18 ?_
      exact zQw.tw e9 H9 F9 eo hn (Or.inr (Or.inr ⟨rfl, rfl⟩))
  · rintro _ h1 ⟨z, S9, e9, rfl, H9, F9⟩
    have eo1 := (F9 ou hn).trans eo
    rw [zwd_i z]
    refine z_i2l (zwd_r z) dLaw_ask_6 ?_
    refine z_putN (k := 0) fd_Out (by decide) fl_Law_13 rfl dLaw_ask_7 (by assumption) (by simp) rfl rfl ?_
    refine z_hx (fun h2 p2 g2 => ?_)
    refine z_goto (tgt := 19) dLaw_ask_10 (by decide) ?_
    refine z_iconst dLaw_ask_19 ?_
    refine z_iret rfl rfl dLaw_ask_20 ?_
    exact zQw.ok e9 H9 F9 hn p2 g2
theorem xE_asked {w : Int} {E : String} (h : sp_asked S w = (.inr E, S')) : E = zE2 := by
  unfold sp_asked at h
  (try simp only [spPut, spTake, spBec, spRef] at h)
  (repeat' split at h)
  all_goals first
    | exact (Sum.inr.inj (Prod.mk.inj h).1).symm
    | exact absurd (Prod.mk.inj h).1 (by simp)
theorem k_Law_asked {w : Int}  (hC : zCls G h ad S) (z_w : zI32 w) {ou : Nat} {n0 : Int} {sv : Value} (eo : h ou = some (.inr (zkOut, [zl (zwd n0), sv]))) (hn : ∀ i, i < 20 → ou ≠ ad i) : zMW G l hLaw_asked yLaw_asked 10 [.ref (ad 0), zi w, .ref ou] h (zQw G ad ou h (9) (1) (9) (sp_asked S w)) zNo 6 36 := by
  refine zMW.of [some (.ref (ad 0)), some (zi w), some (.ref ou), none] (by decide +kernel) rfl (by decide) (Nat.le_of_ble_eq_true rfl) rfl ?_
  refine z_aload_n dLaw_asked_0 rfl ?_
  refine z_aload_n dLaw_asked_1 rfl ?_
  refine z_iload_n dLaw_asked_2 rfl ?_
  refine z_callV (bc' := 0) (bs' := 0) MV_Cls_asked lk_Law_159 dLaw_asked_3 (k_Cls_asked hC z_w) rfl rfl (Nat.le_of_ble_eq_true rfl) rfl hC.2.1 (Nat.le_of_ble_eq_true rfl) (Nat.le_of_ble_eq_true rfl) (by decide) (by decide) (fun E h1 q9 => ?_) ?_
  · obtain ⟨S9, e9, H9, F9⟩ := q9
    obtain rfl := xE_asked e9
    refine z_catch (a := 0) (b := 10) (hp := 13) (ct := 21) [] [] rfl (fun z hz => nomatch hz) (by decide) (by decide) wl_zE2 wk_zE2 (fun qx => ?_)
    refine z_astore_n dLaw_asked_13 (Nat.le_of_ble_eq_true rfl) ?_
    refine z_iconst dLaw_asked_14 ?_
    refine z_iret rfl rfl dLaw_asked_15 ?_
    exact zQw.tw e9 H9 F9 eo hn (Or.inr (Or.inl ⟨rfl, rfl⟩))
  · rintro _ h1 ⟨z, S9, e9, rfl, H9, F9⟩
    have eo1 := (F9 ou hn).trans eo
    rw [zwd_i z]
    refine z_i2l (zwd_r z) dLaw_asked_6 ?_
    refine z_putN (k := 0) fd_Out (by decide) fl_Law_13 rfl dLaw_asked_7 (by assumption) (by simp) rfl rfl ?_
    refine z_hx (fun h2 p2 g2 => ?_)
    refine z_goto (tgt := 16) dLaw_asked_10 (by decide) ?_
    refine z_iconst dLaw_asked_16 ?_
    refine z_iret rfl rfl dLaw_asked_17 ?_
    exact zQw.ok e9 H9 F9 hn p2 g2
theorem xE_byOrder {p w : Int} {E : String} (h : sp_byOrder S p w = (.inr E, S')) : E = zE1 ∨ E = zE2 := by
  unfold sp_byOrder at h
  (try simp only [spPut, spTake, spBec, spRef] at h)
  (repeat' split at h)
  all_goals first
    | exact Or.inl (Sum.inr.inj (Prod.mk.inj h).1).symm
    | exact Or.inr ((Sum.inr.inj (Prod.mk.inj h).1).symm)
    | exact absurd (Prod.mk.inj h).1 (by simp)
theorem k_Law_byOrder {p w : Int}  (hC : zCls G h ad S) (z_p : zI32 p) (z_w : zI32 w) {ou : Nat} {n0 : Int} {sv : Value} (eo : h ou = some (.inr (zkOut, [zl (zwd n0), sv]))) (hn : ∀ i, i < 20 → ou ≠ ad i) : zMW G l hLaw_byOrder yLaw_byOrder 10 [.ref (ad 0), zi p, zi w, .ref ou] h (zQw G ad ou h (1) (2) (9) (sp_byOrder S p w)) zNo 6 36 := by
  refine zMW.of [some (.ref (ad 0)), some (zi p), some (zi w), some (.ref ou), none] (by decide +kernel) rfl (by decide) (Nat.le_of_ble_eq_true rfl) rfl ?_
  refine z_aload_n dLaw_byOrder_0 rfl ?_
  refine z_aload_n dLaw_byOrder_1 rfl ?_
  refine z_iload_n dLaw_byOrder_2 rfl ?_
  refine z_iload_n dLaw_byOrder_3 rfl ?_
  refine z_callV (bc' := 0) (bs' := 0) MV_Cls_byOrder lk_Law_162 dLaw_byOrder_4 (k_Cls_byOrder hC z_p z_w) rfl rfl (Nat.le_of_ble_eq_true rfl) rfl hC.2.1 (Nat.le_of_ble_eq_true rfl) (Nat.le_of_ble_eq_true rfl) (by decide) (by decide) (fun E h1 q9 => ?_) ?_
  · obtain ⟨S9, e9, H9, F9⟩ := q9
    rcases xE_byOrder e9 with rfl | rfl
    · refine z_catch (a := 0) (b := 11) (hp := 14) (ct := 19) [] [(0, 11, 18, 21)] rfl (fun z hz => nomatch hz) (by decide) (by decide) wl_zE1 wk_zE1 (fun qx => ?_)
      refine z_astore dLaw_byOrder_14 (Nat.le_of_ble_eq_true rfl) ?_
      refine z_iconst dLaw_byOrder_16 ?_
      refine z_iret rfl rfl dLaw_byOrder_17 ?_
      exact zQw.tw e9 H9 F9 eo hn (Or.inl ⟨rfl, rfl⟩)
    · refine z_catch (a := 0) (b := 11) (hp := 18) (ct := 21) [(0, 11, 14, 19)] [] rfl (by intro z hz; simp only [List.mem_cons, List.not_mem_nil, or_false] at hz; rcases hz with rfl <;> first | exact ⟨by decide, _, wl_zE1, by decide⟩) (by decide) (by decide) wl_zE2 wk_zE2 (fun qx => ?_)
      refine z_astore dLaw_byOrder_18 (Nat.le_of_ble_eq_true rfl) ?_
      refine z_iconst dLaw_byOrder_20 ?_
      refine z_iret rfl rfl dLaw_byOrder_21 ?_
      exact zQw.tw e9 H9 F9 eo hn (Or.inr (Or.inl ⟨rfl, rfl⟩))
  · rintro _ h1 ⟨z, S9, e9, rfl, H9, F9⟩
    have eo1 := (F9 ou hn).trans eo
    rw [zwd_i z]
    refine z_i2l (zwd_r z) dLaw_byOrder_7 ?_
    refine z_putN (k := 0) fd_Out (by decide) fl_Law_13 rfl dLaw_byOrder_8 (by assumption) (by simp) rfl rfl ?_
    refine z_hx (fun h2 p2 g2 => ?_)
    refine z_goto (tgt := 22) dLaw_byOrder_11 (by decide) ?_
    refine z_iconst dLaw_byOrder_22 ?_
    refine z_iret rfl rfl dLaw_byOrder_23 ?_
    exact zQw.ok e9 H9 F9 hn p2 g2
theorem xE_house {w : Int} {E : String} (h : sp_house S w = (.inr E, S')) : E = zE2 := by
  unfold sp_house at h
  (try simp only [spPut, spTake, spBec, spRef] at h)
  (repeat' split at h)
  all_goals first
    | exact (Sum.inr.inj (Prod.mk.inj h).1).symm
    | exact absurd (Prod.mk.inj h).1 (by simp)
theorem k_Law_house {w : Int}  (hC : zCls G h ad S) (z_w : zI32 w) {ou : Nat} {n0 : Int} {sv : Value} (eo : h ou = some (.inr (zkOut, [zl (zwd n0), sv]))) (hn : ∀ i, i < 20 → ou ≠ ad i) : zMW G l hLaw_house yLaw_house 10 [.ref (ad 0), zi w, .ref ou] h (zQw G ad ou h (9) (1) (9) (sp_house S w)) zNo 6 36 := by
  refine zMW.of [some (.ref (ad 0)), some (zi w), some (.ref ou), none] (by decide +kernel) rfl (by decide) (Nat.le_of_ble_eq_true rfl) rfl ?_
  refine z_aload_n dLaw_house_0 rfl ?_
  refine z_aload_n dLaw_house_1 rfl ?_
  refine z_iload_n dLaw_house_2 rfl ?_
  refine z_callV (bc' := 0) (bs' := 0) MV_Cls_house lk_Law_165 dLaw_house_3 (k_Cls_house hC z_w) rfl rfl (Nat.le_of_ble_eq_true rfl) rfl hC.2.1 (Nat.le_of_ble_eq_true rfl) (Nat.le_of_ble_eq_true rfl) (by decide) (by decide) (fun E h1 q9 => ?_) ?_
  · obtain ⟨S9, e9, H9, F9⟩ := q9
    obtain rfl := xE_house e9
    refine z_catch (a := 0) (b := 10) (hp := 13) (ct := 21) [] [] rfl (fun z hz => nomatch hz) (by decide) (by decide) wl_zE2 wk_zE2 (fun qx => ?_)
    refine z_astore_n dLaw_house_13 (Nat.le_of_ble_eq_true rfl) ?_
    refine z_iconst dLaw_house_14 ?_
    refine z_iret rfl rfl dLaw_house_15 ?_
    exact zQw.tw e9 H9 F9 eo hn (Or.inr (Or.inl ⟨rfl, rfl⟩))
  · rintro _ h1 ⟨z, S9, e9, rfl, H9, F9⟩
    have eo1 := (F9 ou hn).trans eo
    rw [zwd_i z]
    refine z_i2l (zwd_r z) dLaw_house_6 ?_
    refine z_putN (k := 0) fd_Out (by decide) fl_Law_13 rfl dLaw_house_7 (by assumption) (by simp) rfl rfl ?_
    refine z_hx (fun h2 p2 g2 => ?_)
    refine z_goto (tgt := 16) dLaw_house_10 (by decide) ?_
    refine z_iconst dLaw_house_16 ?_
    refine z_iret rfl rfl dLaw_house_17 ?_
    exact zQw.ok e9 H9 F9 hn p2 g2
end LAW1
