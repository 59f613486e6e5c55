section OK2
variable {S : zSt}
theorem zFd9_get (L : List Int) (x : Int) : ∀ n : Nat, 0 ≤ zFd9 L x 0 n → L.getD (zFd9 L x 0 n).toNat 0 = x
  | 0, h => absurd h (by unfold zFd9; omega)
  | n + 1, h => by
    have ih := zFd9_get L x n
    unfold zFd9 at h ⊢
    split
    · rename_i q
      rw [Int.toNat_natCast]
      exact q.1
    · rename_i q
      rw [if_neg q] at h
      exact ih h
theorem zFd9_mem (L : List Int) (x : Int) : ∀ n j : Nat, j < n → L.getD j 0 = x → 0 ≤ zFd9 L x 0 n
  | 0, j, h, _ => absurd h (by omega)
  | n + 1, j, h, e => by
    have ih := zFd9_mem L x n
    have hin := zFd9_in L x 0 n
    unfold zFd9
    split
    · omega
    · rename_i q
      by_cases c : j = n
      · subst c
        by_cases c2 : zFd9 L x 0 j = -1
        · exact absurd ⟨e, Or.inr c2⟩ q
        · omega
      · exact ih j (by omega) e
theorem zFind_get {L : List Int} {x : Int} (h : 0 ≤ zFind L x 0) : L.getD (zFind L x 0).toNat 0 = x := zFd9_get L x _ h
theorem zFind_mem {L : List Int} {x : Int} {j : Nat} (h : j < L.length) (e : L.getD j 0 = x) : 0 ≤ zFind L x 0 := zFd9_mem L x _ j h e
theorem zFront_find {K : List Int} {key k : Int} (hp : 0 ≤ zFind K key 0) (hk : 0 ≤ zFind K k 0) : 0 ≤ zFind (zIns (zDel K (zFind K key 0)) 0 key) k 0 := by
  have h1 := zFind_in K key 0
  have h2 := zFind_in K k 0
  have hl : (zIns (zDel K (zFind K key 0)) 0 key).length = K.length := by rw [zIns_len, zDel_len]; omega
  have hd := zDel_len K (zFind K key 0)
  have g1 := zFind_get hp
  have g2 := zFind_get hk
  by_cases e : k = key
  · refine zFind_mem (j := 0) (by omega) ?_
    rw [zIns_at (by omega), if_neg (by omega), if_pos (by omega), e]
  · by_cases c : zFind K k 0 < zFind K key 0
    · refine zFind_mem (j := (zFind K k 0).toNat + 1) (by omega) ?_
      rw [zIns_at (by omega), if_neg (by omega), if_neg (by omega), show (zFind K k 0).toNat + 1 - 1 = (zFind K k 0).toNat by omega, zDel_at (by omega), if_pos (by omega)]
      exact g2
    · by_cases c2 : zFind K k 0 = zFind K key 0
      · rw [c2, g1] at g2
        exact absurd g2.symm e
      · refine zFind_mem (j := (zFind K k 0).toNat) (by omega) ?_
        rw [zIns_at (by omega), if_neg (by omega), if_neg (by omega), zDel_at (by omega), if_neg (by omega), show (zFind K k 0).toNat - 1 + 1 = (zFind K k 0).toNat by omega]
        exact g2
theorem zFront_len {K : List Int} {key : Int} (hp : 0 ≤ zFind K key 0) : (zIns (zDel K (zFind K key 0)) 0 key).length = K.length := by
  have h1 := zFind_in K key 0
  rw [zIns_len, zDel_len]; omega
theorem ok_ask {key : Int} (hO : zOk S) : zOk (sp_ask S key).2 := by
  unfold sp_ask
  split
  · rename_i hk
    split
    · rename_i hA
      have hf := hO.2.1 key hk.1 (by omega)
      have h1 := zFind_in S.2.2.1 key 0
      have h8 := hO.2.2.1
      refine ⟨hO.1, fun k k1 k2 => zFront_find hf (hO.2.1 k k1 k2), (zFront_len hf).trans h8, ?_, ?_, ?_⟩
      · show (S.2.2.2.1 ++ [key]).length ≤ 60
        rw [List.length_append]
        show S.2.2.2.1.length + 1 ≤ 60
        omega
      · have := hO.2.2.2.2.1
        show 0 ≤ S.2.2.2.2 0 + (zFind S.2.2.1 key 0 + 1)
        omega
      · have := hO.2.2.2.2.2
        show S.2.2.2.2 0 + (zFind S.2.2.1 key 0 + 1) ≤ 8 * ((S.2.2.2.1 ++ [key]).length : Int)
        rw [List.length_append]
        show S.2.2.2.2 0 + (zFind S.2.2.1 key 0 + 1) ≤ 8 * ((S.2.2.2.1.length + 1 : Nat) : Int)
        omega
    · exact hO
  · exact hO
theorem ok_forget (hO : zOk S) : zOk (sp_forget S).2 := by
  refine ⟨hO.1, fun k k1 k2 => ?_, rfl, ?_, ?_, ?_⟩
  · show 0 ≤ zFind (zPl9 8) k 0
    rcases (show k = 0 ∨ k = 1 ∨ k = 2 ∨ k = 3 ∨ k = 4 ∨ k = 5 ∨ k = 6 ∨ k = 7 by omega) with rfl | rfl | rfl | rfl | rfl | rfl | rfl | rfl <;> decide
  · exact Nat.zero_le _
  · exact Int.le_refl _
  · exact Int.le_refl _
theorem ok_open {c p q : Int} (hO : zOk S) (hL : ∀ k, k < 4 → (S.1 k).length ≤ 16) : zOk (sp_open S c p q).2 := by
  unfold sp_open
  have h16 := hL p.toNat
  (repeat' split)
  all_goals first
    | exact hO
    | exact hO.cur (fun _ => by omega)
theorem ok_shut {c : Int} (hO : zOk S) : zOk (sp_shut S c).2 := by
  unfold sp_shut
  (repeat' split)
  all_goals first
    | exact hO
    | exact hO.cur (fun q => absurd q (by decide))
theorem ok_forth {c : Int} (hO : zOk S) (hL : ∀ k, k < 4 → (S.1 k).length ≤ 16) : zOk (sp_forth S c).2 := by
  unfold sp_forth
  have ho := hO.1 c.toNat
  have h16 := hL (S.2.1 c.toNat 2).toNat
  (repeat' split)
  all_goals first
    | exact hO
    | exact hO.ref
    | (have ho := hO.1 c.toNat (by omega) (by omega)
       exact hO.cur (fun _ => by omega))
theorem ok_back {c : Int} (hO : zOk S) (hL : ∀ k, k < 4 → (S.1 k).length ≤ 16) : zOk (sp_back S c).2 := by
  unfold sp_back
  have h16 := hL (S.2.1 c.toNat 2).toNat
  (repeat' split)
  all_goals first
    | exact hO
    | exact hO.ref
    | (have ho := hO.1 c.toNat (by omega) (by omega)
       exact hO.cur (fun _ => by omega))
theorem ok_changes {c x : Int} (hO : zOk S) : zOk (sp_changes S c x).2 := by
  unfold sp_changes
  (repeat' split)
  all_goals first
    | exact hO
    | exact hO.ref
    | exact hO.lst (zSet_len _ _ _)
theorem ok_puts {c x : Int} (hO : zOk S) (hL : ∀ k, k < 4 → (S.1 k).length ≤ 16) : zOk (sp_puts S c x).2 := by
  by_cases hc : 0 ≤ c ∧ c < 3
  · obtain ⟨k, rfl⟩ := Int.eq_ofNat_of_zero_le hc.1
    unfold sp_puts
    simp only [Int.toNat_natCast]
    have h16 := hL (S.2.1 k 2).toNat
    (repeat' split)
    all_goals first
      | exact hO
      | exact hO.ref
      | (have ho := hO.1 k (by omega) (by omega)
         exact hO.put ho.1 rfl (by omega) (by omega) (by rw [zIns_len]; omega))
  · unfold sp_puts
    rw [if_neg hc]
    exact hO
theorem ok_cuts {c : Int} (hO : zOk S) (hL : ∀ k, k < 4 → (S.1 k).length ≤ 16) : zOk (sp_cuts S c).2 := by
  by_cases hc : 0 ≤ c ∧ c < 3
  · obtain ⟨k, rfl⟩ := Int.eq_ofNat_of_zero_le hc.1
    unfold sp_cuts
    simp only [Int.toNat_natCast]
    have h16 := hL (S.2.1 k 2).toNat
    by_cases c1 : S.2.1 k 0 = 1
    · by_cases c2 : S.2.1 k 1 ≠ 0
      · rw [if_pos hc, if_pos c1, if_pos c2]; exact hO.ref
      · by_cases c3 : S.2.1 k 4 = -1
        · rw [if_pos hc, if_pos c1, if_neg c2, if_pos c3]; exact hO.ref
        · rw [if_pos hc, if_pos c1, if_neg c2, if_neg c3]
          have ho := hO.1 k (by omega) (by omega)
          exact hO.put ho.1 rfl (by split <;> omega) (by omega) (by rw [zDel_len]; split <;> omega)
    · rw [if_pos hc, if_neg c1]; exact hO
  · unfold sp_cuts
    rw [if_neg hc]
    exact hO
theorem zMt_la {L : List Int} {ia la ib lb N : Int} (h0 : 0 ≤ ia ∧ ia ≤ ib ∧ ib ≤ 16) (h1 : -1 ≤ la ∧ la ≤ 15) (h2 : -1 ≤ lb ∧ lb ≤ 15) (hN : ib ≤ N) (g1 : la < N) (g2 : lb < N) : ∀ m : Nat, (zMt L ia la ib lb m).2.2.1 < N ∧ (zMt L ia la ib lb m).2.2.2.2 < N
  | 0 => by unfold zMt; exact ⟨g1, g2⟩
  | m + 1 => by
    have a := zMt_in (L := L) h0 h1 h2 m
    have := zMt_la (L := L) h0 h1 h2 hN g1 g2 m
    unfold zMt
    split
    · split <;> dsimp only <;> omega
    · exact this
theorem ok_meet {c o : Int} (hO : zOk S) (hL : ∀ k, k < 4 → (S.1 k).length ≤ 16) : zOk (sp_meet S c o).2 := by
  unfold sp_meet
  have h16 := hL (S.2.1 c.toNat 2).toNat
  (repeat' split)
  all_goals first
    | exact hO
    | exact hO.ref
    | (have ho := hO.1 c.toNat (by omega) (by omega)
       have ho2 := hO.1 o.toNat (by omega) (by omega)
       have e2 : S.2.1 o.toNat 2 = S.2.1 c.toNat 2 := by omega
       rw [e2] at ho2
       have z1 := zMt_in (L := S.1 (S.2.1 c.toNat 2).toNat) (ia := S.2.1 c.toNat 3) (la := S.2.1 c.toNat 4) (ib := S.2.1 o.toNat 3) (lb := S.2.1 o.toNat 4) (by omega) (by omega) (by omega) 16
       have z2 := zMt_la (L := S.1 (S.2.1 c.toNat 2).toNat) (ia := S.2.1 c.toNat 3) (la := S.2.1 c.toNat 4) (ib := S.2.1 o.toNat 3) (lb := S.2.1 o.toNat 4) (N := ((S.1 (S.2.1 c.toNat 2).toNat).length : Int)) (by omega) (by omega) (by omega) (by omega) (by omega) (by omega) 16
       refine zOk.cur (S := zsC S _) (hO.cur (fun _ => by omega)) (fun _ => ?_)
       rw [e2]
       show (0 ≤ S.2.1 c.toNat 2 ∧ S.2.1 c.toNat 2 < 4) ∧ _ ∧ _ ∧ (_ → _ ≤ (((S.1 (S.2.1 c.toNat 2).toNat).length : Nat) : Int) ∧ _ < (((S.1 (S.2.1 c.toNat 2).toNat).length : Nat) : Int))
       omega)
end OK2
