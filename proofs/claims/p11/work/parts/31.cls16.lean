section CLS16
variable {G : zG} {l : Launch} {h h' : zHp} {ad : Nat → Nat} {S : zSt}
def zDm (h : zHp) (n : Nat) : Prop := ∀ a e, h a = some e → a < n
theorem k_Rec_init {r : Nat} (e : h r = some (.inr (zkRec, [.null, .null, zi 0, zi 0, zi 0]))) : zM G l hRec_init yRec_init 6 [.ref r] h (fun v h' => v = none ∧ ∃ q qa t, zDm h q ∧ G.2.2 ≤ q ∧ q < qa ∧ qa < t ∧ h' r = some (.inr (zkRec, [.ref q, .ref t, zi 0, zi 0, zi (-1)])) ∧ (∃ T', h' t = some (zInts G 8 T') ∧ ∀ k : Nat, k < 8 → T' k = 0) ∧ zRow G h' q qa (zPl9 8) ∧ ∀ x, x ≠ r → x ≠ q → x ≠ qa → x ≠ t → h' x = h x) zNo 3 26 := by
  refine zM.of [some (.ref r)] (by decide +kernel) rfl (by decide) rfl (Nat.le_of_ble_eq_true rfl) rfl ?_
  refine z_aload_n dRec_init_0 rfl ?_
  refine z_obj lk_Rec_3 ob_i ob_c dRec_init_1 (Nat.le_of_ble_eq_true rfl) (Nat.le_of_ble_eq_true rfl) (Nat.le_of_ble_eq_true rfl) ?_
  refine z_aload_n dRec_init_4 rfl ?_
  refine z_new (fs := [.null, zi 0]) (bc' := 2) (bs' := 24) fd_Row cl_Rec_9 im_Row in_Row (by intro j hj; match j, hj with | 0, _ => rfl | 1, _ => rfl) dRec_init_5 (by omega) (by omega) (fun q hq gq => ?_)
  refine z_hx (fun h1 p1 f1 => ?_)
  have n1 : r ≠ q := Nat.ne_of_lt (hq r _ e)
  refine z_dup rfl dRec_init_8 ?_
  refine z_callIN MI_Row_init lk_Rec_11 dRec_init_9 (k_Row_init p1) rfl rfl (Nat.le_of_ble_eq_true rfl)  (Nat.le_of_ble_eq_true rfl) (Nat.le_of_ble_eq_true rfl) (bc' := 1) (bs' := 8) (by decide) (by decide) (fun _ _ q => q.elim) ?_
  rintro _ h2 ⟨rfl, qa, hqa, gqa, hr2, f2⟩
  have n2 : q < qa := hqa q _ p1
  have n3 : r < qa := hqa r _ ((f1 r n1).trans e)
  have n4 : r < q := hq r _ e
  have e2 := (f2 r n1 (by omega)).trans ((f1 r n1).trans e)
  refine z_putF (k := 0) fd_Rec (by decide) fl_Rec_12 rfl rfl rfl dRec_init_12 (by assumption) (by simp) rfl rfl ?_
  refine z_hx (fun h3 p3 f3 => ?_)
  have hr3 := hr2.kept (f3 q (by omega)) (f3 qa (by omega))
  refine z_aload_n dRec_init_15 rfl ?_
  refine z_bipush dRec_init_16 rfl ?_
  refine z_newa (at9 := .int) (ty := .int) (bc' := 0) (bs' := 0) (t := 0) (x := .inl (fun _ => zI 0)) rfl trivial rfl ac_int (fun cA => by rw [vp_cell_i]; rfl) (by decide) dRec_init_18 (by decide) (by decide) (fun t ht gt => ?_)
  refine z_hx (fun h4 p4 f4 => ?_)
  obtain ⟨fr3, er3, er3b, -⟩ := id hr3
  have n5 : qa < t := ht qa _ er3b
  have n6 : r < t := ht r _ p3
  have n7 : q < t := ht q _ er3
  have et4 : h4 t = some (zInts G 8 (fun _ => 0)) := p4
  have hr4 := hr3.kept (f4 q (by omega)) (f4 qa (by omega))
  have e4 := (f4 r (by omega)).trans p3
  refine z_putF (k := 1) fd_Rec (by decide) fl_Rec_18 rfl rfl rfl dRec_init_20 (by assumption) (by simp) rfl rfl ?_
  refine z_hx (fun h5 p5 f5 => ?_)
  have hr5 := hr4.kept (f5 q (by omega)) (f5 qa (by omega))
  have et5 := (f5 t (by omega)).trans et4
  have e5 : h5 r = some (.inr (zkRec, [.ref q, .ref t, zi 0, zi 0, zi 0])) := p5
  refine z_aload_n dRec_init_23 rfl ?_
  refine z_callV MV_Rec_begin lk_Rec_22 dRec_init_24 (k_Rec_begin e5 et5 hr5 (by omega) (by omega) (by omega) (by omega) (by omega)) rfl rfl (Nat.le_of_ble_eq_true rfl) rfl (by assumption) (Nat.le_of_ble_eq_true rfl) (Nat.le_of_ble_eq_true rfl) (Nat.le_of_eq (Nat.zero_add _)) (Nat.le_of_eq (Nat.zero_add _)) (fun _ _ q => q.elim) ?_
  rintro _ h6 ⟨rfl, p6, q6, hr6, f6⟩
  refine z_vret rfl dRec_init_27 ?_
  refine ⟨rfl, q, qa, t, hq, gq, n2, n5, p6, q6, hr6, fun x x1 x2 x3 x4 => ?_⟩
  exact (f6 x x1 x4 x2 x3).trans ((f5 x x1).trans ((f4 x x4).trans ((f3 x x1).trans ((f2 x x2 x3).trans (f1 x x2)))))
end CLS16
