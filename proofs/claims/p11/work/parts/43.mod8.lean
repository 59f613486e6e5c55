section MOD8
variable {G : zG} {l : Launch} {h h' : zHp} {ma : Nat → Nat} {S : zSt} {th : Int}
theorem k_Mod_becomes {k q : Nat} {L : List Int} (H : zMod G h ma S th) (hk : k < 4) (hq : zAr G h q L) (nq : ∀ i, i < 13 → i ≠ 8 + k → q ≠ ma i) : zM G l hMod_becomes yMod_becomes 2 [.ref (ma 0), zi (k : Int), .ref q] h (fun v h' => v = some (zi (L.length : Int)) ∧ zMod G h' (zup ma (8 + k) q) (zsStale (zsL S k L) k (-1)) th ∧ ∀ z, z ≠ ma 1 → z ≠ ma 3 → h' z = h z) zNo 0 0 := by
  obtain ⟨m1, m2, ⟨g, m3, m3a⟩, m4, ⟨f6, m5, m5a⟩, m6, m7⟩ := id H
  unfold zMfs at m2
  refine zM.of [some (.ref (ma 0)), some (zi (k : Int)), some (.ref q)] (by decide +kernel) rfl (by decide) rfl (Nat.le_of_ble_eq_true rfl) rfl ?_
  refine z_aload_n dMod_becomes_0 rfl ?_
  refine z_iload_n dMod_becomes_1 rfl ?_
  refine z_aload_n dMod_becomes_2 rfl ?_
  refine z_iconst dMod_becomes_3 ?_
  refine z_callV MV_Mod_become lk_Mod_77 dMod_becomes_4 (k_Mod_become H hk hq nq (by omega)) rfl rfl (Nat.le_of_ble_eq_true rfl) rfl (by assumption) (Nat.le_of_ble_eq_true rfl) (Nat.le_of_ble_eq_true rfl) (Nat.le_of_eq (Nat.zero_add _)) (Nat.le_of_eq (Nat.zero_add _)) (fun _ _ q => q.elim) ?_
  rintro _ h1 ⟨rfl, H1, F1⟩
  obtain ⟨fq1, q11, -⟩ := id (hq.kept (F1 q (nq 1 (by omega) (by omega)) (nq 3 (by omega) (by omega))))
  refine z_aload_n dMod_becomes_7 rfl ?_
  refine z_alenI dMod_becomes_8 (by assumption) ?_
  refine z_iret rfl rfl dMod_becomes_9 ?_
  exact ⟨rfl, H1, F1⟩
end MOD8
