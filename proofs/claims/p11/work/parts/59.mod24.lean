section MOD24
variable {G : zG} {l : Launch} {h h' h'' : zHp} {ma : Nat → Nat} {S : zSt} {th : Int}
theorem k_Mod_digest (H : zMod G h ma S th) (hO : zOk S) (hA : zOkA S) (h16 : ∀ k, k < 4 → (S.1 k).length ≤ 16) : zM G l hMod_digest yMod_digest 4 [.ref (ma 0)] h (fun v h' => ∃ d, v = some (zl d) ∧ zMod G h' ma S 0 ∧ zMfr ma h h') zNo 23 133 := by
  obtain ⟨m1, m2, ⟨g, m3, m3a⟩, m4, ⟨f6, m5, m5a⟩, m6, m7⟩ := id H
  unfold zMfs at m2
  refine zM.of [some (.ref (ma 0)), none, none, none, none, none, none, none, none, none, none] (by decide +kernel) rfl (by decide) rfl (Nat.le_of_ble_eq_true rfl) rfl ?_
  refine z_aload_n dMod_digest_0 rfl ?_
  refine z_iconst dMod_digest_1 ?_
  refine z_put (k := 12) fd_Mod (by decide) fl_Mod_37 rfl dMod_digest_2 (by assumption) (by simp) rfl rfl ?_
  refine z_hx (fun h1 p1 f1 => ?_)
  have H1 : zMod G h1 ma S 0 := H.obj (nu := S.2.2.2.2) p1 f1
  have fz1 : zMfr ma h h1 := zMfr.of0 f1
  refine z_ldc2 (v := (7834 : Int64)) dMod_digest_5 (7834) (by decide) ct_Mod_208 ?_
  refine z_lstore_n dMod_digest_8 (Nat.le_of_ble_eq_true rfl) ?_
  refine z_iconst dMod_digest_9 ?_
  refine z_istore_n dMod_digest_10 (Nat.le_of_ble_eq_true rfl) ?_
  refine l_Mod_digA (h := h1) H1 hO hA h16 (fun bc bs h2 d y3 y4 y5 y6 y7 y8 y9 y10 _ _ z3 z4 hx2 => ?_) 6 0 23 133 h1 _ _ _ _ _ _ _ _ (by omega) (by omega) (by omega) (by omega) zExt.rf
  have H2 := H1.ext hx2
  have fz2 : zMfr ma h h2 := fz1.tr (zMfr.ext hx2)
  obtain ⟨-, v2, ⟨vg, v3, v3a⟩, -⟩ := id H2
  unfold zMfs at v2
  refine z_aload_n dMod_digest_33 rfl ?_
  refine z_get (k := 0) fd_Mod (by decide) fl_Mod_11 dMod_digest_34 (by assumption) (by rfl) ?_
  refine z_astore_n dMod_digest_37 (Nat.le_of_ble_eq_true rfl) ?_
  refine z_aload_n dMod_digest_38 rfl ?_
  refine z_alenR dMod_digest_39 v3 ?_
  refine z_istore dMod_digest_40 (Nat.le_of_ble_eq_true rfl) ?_
  refine z_iconst dMod_digest_42 ?_
  refine z_istore dMod_digest_43 (Nat.le_of_ble_eq_true rfl) ?_
  refine l_Mod_digB (h := h2) H2 (fun d y3 y4 y5 y6 y7 y8 y9 y10 => ?_) 5 0 _ _ _ _ _ _ (by omega) (by omega)
  refine z_iconst dMod_digest_134 ?_
  refine z_istore_n dMod_digest_135 (Nat.le_of_ble_eq_true rfl) ?_
  refine l_Mod_digC (h := h2) H2 hO hA h16 (fun bc3 bs3 h3 d y3 y4 y5 y6 y7 y8 y9 y10 hx3 => ?_) 4 0 _ _ h2 _ _ _ _ _ _ _ _ (by omega) (by omega) (by omega) (by omega) zExt.rf
  have H3 := H2.ext hx3
  have fz3 : zMfr ma h h3 := fz2.tr (zMfr.ext hx3)
  refine z_iconst dMod_digest_176 ?_
  refine z_istore_n dMod_digest_177 (Nat.le_of_ble_eq_true rfl) ?_
  refine l_Mod_digD (h := h3) H3 hO (fun d y3 y4 y5 y6 y7 y8 y9 y10 => ?_) 5 0 _ _ _ _ _ _ _ _ (by omega) (by omega)
  obtain ⟨-, u2, ⟨ug, u3, u3a⟩, -, -, u6, rk⟩ := id H3
  unfold zMfs at u2
  obtain ⟨fk, rk1, -⟩ := id rk
  refine z_aload_n dMod_digest_200 rfl ?_
  refine z_get (k := 6) fd_Mod (by decide) fl_Mod_31 dMod_digest_201 (by assumption) (by rfl) ?_
  refine z_astore_n dMod_digest_204 (Nat.le_of_ble_eq_true rfl) ?_
  refine z_aload_n dMod_digest_205 rfl ?_
  refine z_alenI dMod_digest_206 rk1 ?_
  refine z_istore dMod_digest_207 (Nat.le_of_ble_eq_true rfl) ?_
  refine z_iconst dMod_digest_209 ?_
  refine z_istore dMod_digest_210 (Nat.le_of_ble_eq_true rfl) ?_
  refine l_Mod_digE (h := h3) rk (fun d y3 y4 y5 y6 y7 y8 y9 y10 => ?_) (S.2.2.1.length + 1) 0 _ _ _ _ _ _ (by omega) (by omega)
  refine z_aload_n dMod_digest_239 rfl ?_
  refine z_get (k := 0) fd_Mod (by decide) fl_Mod_11 dMod_digest_240 (by assumption) (by rfl) ?_
  refine z_astore_n dMod_digest_243 (Nat.le_of_ble_eq_true rfl) ?_
  refine z_aload_n dMod_digest_244 rfl ?_
  refine z_alenR dMod_digest_245 u3 ?_
  refine z_istore dMod_digest_246 (Nat.le_of_ble_eq_true rfl) ?_
  refine z_iconst dMod_digest_248 ?_
  refine z_istore dMod_digest_249 (Nat.le_of_ble_eq_true rfl) ?_
  refine l_Mod_digF (h := h3) H3 hO hA (fun d y3 y4 y5 y6 y7 y8 y9 y10 => ?_) 5 0 _ _ _ _ _ _ (by omega) (by omega)
  refine z_lload_n dMod_digest_325 rfl ?_
  refine z_lconst dMod_digest_326 1 rfl ?_
  refine z_callS MS_Mod_add lk_Mod_210 dMod_digest_327 k_Mod_add rfl rfl (Nat.le_of_ble_eq_true rfl)  (Nat.le_of_ble_eq_true rfl) (Nat.le_of_ble_eq_true rfl) (Nat.le_of_eq (Nat.zero_add _)) (Nat.le_of_eq (Nat.zero_add _)) (fun _ _ q => q.elim) ?_
  rintro _ _ ⟨rfl, rfl⟩
  refine z_lret rfl dMod_digest_330 ?_
  exact ⟨_, rfl, H3, fz3⟩
end MOD24
