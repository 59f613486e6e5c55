section OK
variable {S : zSt}
theorem zOk.ref (hO : zOk S) : zOk (zsRef S) := hO
theorem zOk.stl {k : Nat} {L : List Int} (hO : zOk S) : zOk (zsStale (zsL S k L) k (-1)) := by
  refine ⟨fun c hc ht => ?_, hO.2⟩
  have e0 : (zsStale (zsL S k L) k (-1)).2.1 c 0 = S.2.1 c 0 := if_neg (by omega)
  have e2 : (zsStale (zsL S k L) k (-1)).2.1 c 2 = S.2.1 c 2 := if_neg (by omega)
  have e3 : (zsStale (zsL S k L) k (-1)).2.1 c 3 = S.2.1 c 3 := if_neg (by omega)
  have e4 : (zsStale (zsL S k L) k (-1)).2.1 c 4 = S.2.1 c 4 := if_neg (by omega)
  rw [e0] at ht
  obtain ⟨h1, h2, h3, h4⟩ := hO.1 c hc ht
  rw [e2, e3, e4]
  refine ⟨h1, h2, h3, fun hs => ?_⟩
  by_cases q : S.2.1 c 2 = k
  · have : (zsStale (zsL S k L) k (-1)).2.1 c 1 = 1 := if_pos ⟨hc, rfl, ht, q, by omega⟩
    omega
  · have e1 : (zsStale (zsL S k L) k (-1)).2.1 c 1 = S.2.1 c 1 := if_neg (fun z => q z.2.2.2.1)
    have e5 : (zsStale (zsL S k L) k (-1)).1 (S.2.1 c 2).toNat = S.1 (S.2.1 c 2).toNat := zup_ne (by omega)
    rw [e5]
    exact h4 (by omega)
theorem zOk.stl0 {k : Int} (hO : zOk S) : zOk (zsStale S k (-1)) := by
  refine ⟨fun c hc ht => ?_, hO.2⟩
  have e0 : (zsStale S k (-1)).2.1 c 0 = S.2.1 c 0 := if_neg (by omega)
  have e2 : (zsStale S k (-1)).2.1 c 2 = S.2.1 c 2 := if_neg (by omega)
  have e3 : (zsStale S k (-1)).2.1 c 3 = S.2.1 c 3 := if_neg (by omega)
  have e4 : (zsStale S k (-1)).2.1 c 4 = S.2.1 c 4 := if_neg (by omega)
  rw [e0] at ht
  obtain ⟨h1, h2, h3, h4⟩ := hO.1 c hc ht
  rw [e2, e3, e4]
  refine ⟨h1, h2, h3, fun hs => h4 ?_⟩
  by_cases q : S.2.1 c 2 = k
  · have : (zsStale S k (-1)).2.1 c 1 = 1 := if_pos ⟨hc, rfl, ht, q, by omega⟩
    omega
  · have e1 : (zsStale S k (-1)).2.1 c 1 = S.2.1 c 1 := if_neg (fun z => q z.2.2.2.1)
    omega
theorem zOk.lst {k : Nat} {L : List Int} (hO : zOk S) (hL : L.length = (S.1 k).length) : zOk (zsL S k L) := by
  refine ⟨fun c hc ht => ?_, hO.2⟩
  obtain ⟨h1, h2, h3, h4⟩ := hO.1 c hc ht
  refine ⟨h1, h2, h3, fun hs => ?_⟩
  have e5 : ((zsL S k L).1 (S.2.1 c 2).toNat).length = (S.1 (S.2.1 c 2).toNat).length := by
    by_cases e : (S.2.1 c 2).toNat = k
    · rw [e, zsL_l, hL]
    · rw [show (zsL S k L).1 (S.2.1 c 2).toNat = S.1 (S.2.1 c 2).toNat from zup_ne e]
  have := h4 hs
  show S.2.1 c 3 ≤ (((zsL S k L).1 (S.2.1 c 2).toNat).length : Int) ∧ S.2.1 c 4 < (((zsL S k L).1 (S.2.1 c 2).toNat).length : Int)
  rw [e5]
  exact this
theorem zOk.cur {k : Nat} {th st li ix la : Int} (hO : zOk S) (H : th = 1 → (0 ≤ li ∧ li < 4) ∧ (0 ≤ ix ∧ ix ≤ 16) ∧ (-1 ≤ la ∧ la ≤ 15) ∧ (st = 0 → ix ≤ (S.1 li.toNat).length ∧ la < (S.1 li.toNat).length)) : zOk (zsC S (zup S.2.1 k (zCv th st li ix la))) := by
  refine ⟨fun c hc ht => ?_, hO.2⟩
  by_cases e : c = k
  · subst e
    have e9 : (zsC S (zup S.2.1 c (zCv th st li ix la))).2.1 c = zCv th st li ix la := zup_same _ _ _
    rw [e9] at ht ⊢
    exact H ht
  · have e9 : (zsC S (zup S.2.1 k (zCv th st li ix la))).2.1 c = S.2.1 c := zup_ne e
    rw [e9] at ht ⊢
    exact hO.1 c hc ht
/-- the list of cursor k changes under it, and k stays upon it -/
theorem zOk.put {k : Nat} {L : List Int} {li ix la : Int} (hO : zOk S) (hli : 0 ≤ li ∧ li < 4) (hl0 : S.2.1 k 2 = li) (h1 : 0 ≤ ix ∧ ix ≤ 16) (h2 : -1 ≤ la ∧ la ≤ 15) (h3 : ix ≤ L.length ∧ la < L.length) {th st : Int} : zOk (zsStale (zsC (zsL S li.toNat L) (zup S.2.1 k (zCv th st li ix la))) li k) := by
  refine ⟨fun c hc ht => ?_, hO.2⟩
  by_cases e : c = k
  · subst e
    have e9 : (zsStale (zsC (zsL S li.toNat L) (zup S.2.1 c (zCv th st li ix la))) li c).2.1 c = zCv th st li ix la := zsSt_but.trans (zup_same _ _ _)
    have e8 : (zsStale (zsC (zsL S li.toNat L) (zup S.2.1 c (zCv th st li ix la))) li c).1 li.toNat = L := zup_same _ _ _
    rw [e9]
    refine ⟨hli, h1, h2, fun _ => ?_⟩
    show ix ≤ ((zsStale (zsC (zsL S li.toNat L) (zup S.2.1 c (zCv th st li ix la))) li c).1 li.toNat).length ∧ la < ((zsStale (zsC (zsL S li.toNat L) (zup S.2.1 c (zCv th st li ix la))) li c).1 li.toNat).length
    rw [e8]
    exact h3
  · have ec : (zup S.2.1 k (zCv th st li ix la)) c = S.2.1 c := zup_ne e
    have en : ∀ f, f ≠ 1 → (zsStale (zsC (zsL S li.toNat L) (zup S.2.1 k (zCv th st li ix la))) li k).2.1 c f = S.2.1 c f := fun f hf => (if_neg (fun z => hf z.2.1)).trans (congrFun ec f)
    rw [en 0 (by omega)] at ht
    obtain ⟨j1, j2, j3, j4⟩ := hO.1 c hc ht
    rw [en 2 (by omega), en 3 (by omega), en 4 (by omega)]
    refine ⟨j1, j2, j3, fun hs => ?_⟩
    by_cases q : S.2.1 c 2 = li
    · have : (zsStale (zsC (zsL S li.toNat L) (zup S.2.1 k (zCv th st li ix la))) li k).2.1 c 1 = 1 := if_pos ⟨hc, rfl, (congrFun ec 0).trans ht, (congrFun ec 2).trans q, by omega⟩
      omega
    · have e1 : (zsStale (zsC (zsL S li.toNat L) (zup S.2.1 k (zCv th st li ix la))) li k).2.1 c 1 = S.2.1 c 1 := (if_neg (fun z => q ((congrFun ec 2).symm.trans z.2.2.2.1))).trans (congrFun ec 1)
      have e5 : (zsStale (zsC (zsL S li.toNat L) (zup S.2.1 k (zCv th st li ix la))) li k).1 (S.2.1 c 2).toNat = S.1 (S.2.1 c 2).toNat := zup_ne (by omega)
      rw [e5]
      exact j4 (by omega)
theorem ok_put {p w x : Int} (hO : zOk S) : zOk (sp_put S p w x).2 := by
  unfold sp_put
  (try unfold spPut)
  (repeat' split)
  all_goals first
    | exact hO
    | exact hO.ref
    | exact hO.stl
    | exact hO.stl0
    | exact hO.lst rfl
theorem ok_take {p w : Int} (hO : zOk S) : zOk (sp_take S p w).2 := by
  unfold sp_take
  (try unfold spPut)
  (repeat' split)
  all_goals first
    | exact hO
    | exact hO.ref
    | exact hO.stl
    | exact hO.stl0
    | exact hO.lst rfl
theorem ok_look {p w : Int} (hO : zOk S) : zOk (sp_look S p w).2 := by
  unfold sp_look
  (try unfold spPut)
  (repeat' split)
  all_goals first
    | exact hO
    | exact hO.ref
    | exact hO.stl
    | exact hO.stl0
    | exact hO.lst rfl
theorem ok_get {p q : Int} (hO : zOk S) : zOk (sp_get S p q).2 := by
  unfold sp_get
  (try unfold spPut)
  (repeat' split)
  all_goals first
    | exact hO
    | exact hO.ref
    | exact hO.stl
    | exact hO.stl0
    | exact hO.lst rfl
theorem ok_set {p q x : Int} (hO : zOk S) : zOk (sp_set S p q x).2 := by
  unfold sp_set
  (try unfold spPut)
  (repeat' split)
  all_goals first
    | exact hO
    | exact hO.ref
    | exact hO.stl
    | exact hO.stl0
    | exact hO.lst (zSet_len _ _ _)
theorem ok_insert {p q x : Int} (hO : zOk S) : zOk (sp_insert S p q x).2 := by
  unfold sp_insert
  (try unfold spPut)
  (repeat' split)
  all_goals first
    | exact hO
    | exact hO.ref
    | exact hO.stl
    | exact hO.stl0
    | exact hO.lst rfl
theorem ok_removeAt {p q : Int} (hO : zOk S) : zOk (sp_removeAt S p q).2 := by
  unfold sp_removeAt
  (try unfold spPut)
  (repeat' split)
  all_goals first
    | exact hO
    | exact hO.ref
    | exact hO.stl
    | exact hO.stl0
    | exact hO.lst rfl
theorem ok_drop {p x b : Int} (hO : zOk S) : zOk (sp_drop S p x b).2 := by
  unfold sp_drop
  (try unfold spPut)
  (repeat' split)
  all_goals first
    | exact hO
    | exact hO.ref
    | exact hO.stl
    | exact hO.stl0
    | exact hO.lst rfl
theorem ok_thin {p x : Int} (hO : zOk S) : zOk (sp_thin S p x).2 := by
  unfold sp_thin
  (try unfold spPut)
  (repeat' split)
  all_goals first
    | exact hO
    | exact hO.ref
    | exact hO.stl
    | exact hO.stl0
    | exact hO.lst rfl
theorem ok_indexOf {p x b : Int} (hO : zOk S) : zOk (sp_indexOf S p x b).2 := by
  unfold sp_indexOf
  (try unfold spPut)
  (repeat' split)
  all_goals first
    | exact hO
    | exact hO.ref
    | exact hO.stl
    | exact hO.stl0
    | exact hO.lst rfl
theorem ok_has {p x : Int} (hO : zOk S) : zOk (sp_has S p x).2 := by
  unfold sp_has
  (try unfold spPut)
  (repeat' split)
  all_goals first
    | exact hO
    | exact hO.ref
    | exact hO.stl
    | exact hO.stl0
    | exact hO.lst rfl
theorem ok_size {p : Int} (hO : zOk S) : zOk (sp_size S p).2 := by
  unfold sp_size
  (try unfold spPut)
  (repeat' split)
  all_goals first
    | exact hO
    | exact hO.ref
    | exact hO.stl
    | exact hO.stl0
    | exact hO.lst rfl
theorem ok_clear {p : Int} (hO : zOk S) : zOk (sp_clear S p).2 := by
  unfold sp_clear
  (try unfold spPut)
  (repeat' split)
  all_goals first
    | exact hO
    | exact hO.ref
    | exact hO.stl
    | exact hO.stl0
    | exact hO.lst rfl
theorem ok_append {p f : Int} (hO : zOk S) : zOk (sp_append S p f).2 := by
  unfold sp_append
  (try unfold spPut)
  (repeat' split)
  all_goals first
    | exact hO
    | exact hO.ref
    | exact hO.stl
    | exact hO.stl0
    | exact hO.lst rfl
theorem ok_appendAt {p q f : Int} (hO : zOk S) : zOk (sp_appendAt S p q f).2 := by
  unfold sp_appendAt
  (try unfold spPut)
  (repeat' split)
  all_goals first
    | exact hO
    | exact hO.ref
    | exact hO.stl
    | exact hO.stl0
    | exact hO.lst rfl
theorem ok_copy {p i : Int} (hO : zOk S) : zOk (sp_copy S p i).2 := by
  unfold sp_copy
  (try unfold spPut)
  (repeat' split)
  all_goals first
    | exact hO
    | exact hO.ref
    | exact hO.stl
    | exact hO.stl0
    | exact hO.lst rfl
theorem ok_places {p m : Int} (hO : zOk S) : zOk (sp_places S p m).2 := by
  unfold sp_places
  (try unfold spPut)
  (repeat' split)
  all_goals first
    | exact hO
    | exact hO.ref
    | exact hO.stl
    | exact hO.stl0
    | exact hO.lst rfl
theorem ok_rotate {p b : Int} (hO : zOk S) : zOk (sp_rotate S p b).2 := by
  unfold sp_rotate
  (try unfold spPut)
  (repeat' split)
  all_goals first
    | exact hO
    | exact hO.ref
    | exact hO.stl
    | exact hO.stl0
    | exact hO.lst rfl
theorem ok_move {p f t : Int} (hO : zOk S) : zOk (sp_move S p f t).2 := by
  unfold sp_move
  (try unfold spPut)
  (repeat' split)
  all_goals first
    | exact hO
    | exact hO.ref
    | exact hO.stl
    | exact hO.stl0
    | exact hO.lst rfl
theorem ok_swap {p i j : Int} (hO : zOk S) : zOk (sp_swap S p i j).2 := by
  unfold sp_swap
  (try unfold spPut)
  (repeat' split)
  all_goals first
    | exact hO
    | exact hO.ref
    | exact hO.stl
    | exact hO.stl0
    | exact hO.lst (by unfold zSwp; rw [zSet_len, zSet_len])
theorem ok_reverse {p : Int} (hO : zOk S) : zOk (sp_reverse S p).2 := by
  unfold sp_reverse
  (try unfold spPut)
  (repeat' split)
  all_goals first
    | exact hO
    | exact hO.ref
    | exact hO.stl
    | exact hO.stl0
    | exact hO.lst (zmk_len _ _)
theorem ok_through {p m i : Int} (hO : zOk S) : zOk (sp_through S p m i).2 := by
  unfold sp_through
  (try unfold spPut)
  (repeat' split)
  all_goals first
    | exact hO
    | exact hO.ref
    | exact hO.stl
    | exact hO.stl0
    | exact hO.lst rfl
theorem ok_areSame {p o : Int} (hO : zOk S) : zOk (sp_areSame S p o).2 := by
  unfold sp_areSame
  (try unfold spPut)
  (repeat' split)
  all_goals first
    | exact hO
    | exact hO.ref
    | exact hO.stl
    | exact hO.stl0
    | exact hO.lst rfl
theorem ok_isMirror {p : Int} (hO : zOk S) : zOk (sp_isMirror S p).2 := by
  unfold sp_isMirror
  (try unfold spPut)
  (repeat' split)
  all_goals first
    | exact hO
    | exact hO.ref
    | exact hO.stl
    | exact hO.stl0
    | exact hO.lst rfl
theorem ok_plus {p o : Int} (hO : zOk S) : zOk (sp_plus S p o).2 := by
  unfold sp_plus
  (try unfold spPut)
  (repeat' split)
  all_goals first
    | exact hO
    | exact hO.ref
    | exact hO.stl
    | exact hO.stl0
    | exact hO.lst rfl
theorem ok_times {p o : Int} (hO : zOk S) : zOk (sp_times S p o).2 := by
  unfold sp_times
  (try unfold spPut)
  (repeat' split)
  all_goals first
    | exact hO
    | exact hO.ref
    | exact hO.stl
    | exact hO.stl0
    | exact hO.lst rfl
theorem ok_shift {p : Int} (hO : zOk S) : zOk (sp_shift S p).2 := by
  unfold sp_shift
  (try unfold spPut)
  (repeat' split)
  all_goals first
    | exact hO
    | exact hO.ref
    | exact hO.stl
    | exact hO.stl0
    | exact hO.lst rfl
theorem ok_trim {p : Int} (hO : zOk S) : zOk (sp_trim S p).2 := by
  unfold sp_trim
  (try unfold spPut)
  (repeat' split)
  all_goals first
    | exact hO
    | exact hO.ref
    | exact hO.stl
    | exact hO.stl0
    | exact hO.lst rfl
theorem ok_derive {p : Int} (hO : zOk S) : zOk (sp_derive S p).2 := by
  unfold sp_derive
  (try unfold spPut)
  (repeat' split)
  all_goals first
    | exact hO
    | exact hO.ref
    | exact hO.stl
    | exact hO.stl0
    | exact hO.lst rfl
theorem ok_value {p x : Int} (hO : zOk S) : zOk (sp_value S p x).2 := by
  unfold sp_value
  (try unfold spPut)
  (repeat' split)
  all_goals first
    | exact hO
    | exact hO.ref
    | exact hO.stl
    | exact hO.stl0
    | exact hO.lst rfl
theorem ok_degree {p : Int} (hO : zOk S) : zOk (sp_degree S p).2 := by
  unfold sp_degree
  (try unfold spPut)
  (repeat' split)
  all_goals first
    | exact hO
    | exact hO.ref
    | exact hO.stl
    | exact hO.stl0
    | exact hO.lst rfl
theorem ok_ofCursor {c w : Int} (hO : zOk S) : zOk (sp_ofCursor S c w).2 := by
  unfold sp_ofCursor
  (try unfold spPut)
  (repeat' split)
  all_goals first
    | exact hO
    | exact hO.ref
    | exact hO.stl
    | exact hO.stl0
    | exact hO.lst rfl
theorem ok_house {w : Int} (hO : zOk S) : zOk (sp_house S w).2 := by
  unfold sp_house
  (try unfold spPut)
  (repeat' split)
  all_goals first
    | exact hO
    | exact hO.ref
    | exact hO.stl
    | exact hO.stl0
    | exact hO.lst rfl
theorem ok_asked {w : Int} (hO : zOk S) : zOk (sp_asked S w).2 := by
  unfold sp_asked
  (try unfold spPut)
  (repeat' split)
  all_goals first
    | exact hO
    | exact hO.ref
    | exact hO.stl
    | exact hO.stl0
    | exact hO.lst rfl
theorem ok_byOrder {p w : Int} (hO : zOk S) : zOk (sp_byOrder S p w).2 := by
  unfold sp_byOrder
  (try unfold spPut)
  (repeat' split)
  all_goals first
    | exact hO
    | exact hO.ref
    | exact hO.stl
    | exact hO.stl0
    | exact hO.lst rfl
theorem ok_knock (hO : zOk S) : zOk (sp_knock S).2 := hO
end OK
