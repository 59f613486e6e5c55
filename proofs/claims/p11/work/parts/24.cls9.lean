section CLS9
variable {G : zG} {l : Launch} {h h' : zHp} {ad : Nat → Nat} {S : zSt}
theorem zMt_stay {L : List Int} {ia la ib lb : Int} {m : Nat} (hs : ¬ (zMt L ia la ib lb m).2.1 < (zMt L ia la ib lb m).2.2.2.1) : ∀ j : Nat, zMt L ia la ib lb (m + j) = zMt L ia la ib lb m
  | 0 => rfl
  | j + 1 => by
    show zMt L ia la ib lb ((m + j) + 1) = _
    conv => lhs; unfold zMt
    rw [zMt_stay hs j, if_neg hs]
theorem zMt_in {L : List Int} {ia la ib lb : Int} (h0 : 0 ≤ ia ∧ ia ≤ ib ∧ ib ≤ 16) (h1 : -1 ≤ la ∧ la ≤ 15) (h2 : -1 ≤ lb ∧ lb ≤ 15) : ∀ m : Nat, (0 ≤ (zMt L ia la ib lb m).2.1 ∧ (zMt L ia la ib lb m).2.1 ≤ (zMt L ia la ib lb m).2.2.2.1 ∧ (zMt L ia la ib lb m).2.2.2.1 ≤ 16) ∧ (-1 ≤ (zMt L ia la ib lb m).2.2.1 ∧ (zMt L ia la ib lb m).2.2.1 ≤ 15) ∧ (-1 ≤ (zMt L ia la ib lb m).2.2.2.2 ∧ (zMt L ia la ib lb m).2.2.2.2 ≤ 15) ∧ (zMt L ia la ib lb m).2.2.2.1 ≤ ib
  | 0 => by unfold zMt; dsimp only; omega
  | m + 1 => by
    have := zMt_in (L := L) h0 h1 h2 m
    unfold zMt
    split
    · split <;> dsimp only <;> omega
    · exact this
theorem zMt_evn {L : List Int} {ia la ib lb : Int} {m : Nat} (hs : (zMt L ia la ib lb m).2.1 < (zMt L ia la ib lb m).2.2.2.1) (he : m % 2 = 0) : zMt L ia la ib lb (m + 1) = ((zMt L ia la ib lb m).1 + zAt L (zMt L ia la ib lb m).2.1, (zMt L ia la ib lb m).2.1 + 1, (zMt L ia la ib lb m).2.1, (zMt L ia la ib lb m).2.2.2.1, (zMt L ia la ib lb m).2.2.2.2) := by
  conv => lhs; unfold zMt
  rw [if_pos hs, if_pos he]
theorem zMt_odd {L : List Int} {ia la ib lb : Int} {m : Nat} (hs : (zMt L ia la ib lb m).2.1 < (zMt L ia la ib lb m).2.2.2.1) (he : ¬ m % 2 = 0) : zMt L ia la ib lb (m + 1) = ((zMt L ia la ib lb m).1 + zAt L ((zMt L ia la ib lb m).2.2.2.1 - 1), (zMt L ia la ib lb m).2.1, (zMt L ia la ib lb m).2.2.1, (zMt L ia la ib lb m).2.2.2.1 - 1, (zMt L ia la ib lb m).2.2.2.1 - 1) := by
  conv => lhs; unfold zMt
  rw [if_pos hs, if_neg he]
theorem l_Cls_sumUntilMet {d mc ms bc bs : Nat} {Qn : Option Value → zHp → Prop} {Qx : String → zHp → Prop} {a b r ar : Nat} {L : List Int} {th st li th2 st2 li2 ia la ib lb : Int} (hd : 4 ≤ d) (hab : a ≠ b) (na : r ≠ a) (nb : ar ≠ a) (na2 : r ≠ b) (nb2 : ar ≠ b) (h0 : 0 ≤ ia ∧ ia ≤ ib ∧ ib ≤ 16) (hl : ib ≤ L.length) (hla : -1 ≤ la ∧ la ≤ 15) (hlb : -1 ≤ lb ∧ lb ≤ 15)
    (K : ∀ (h1 : zHp) y, zCe h1 a th st li (zMt L ia la ib lb 16).2.1 (zMt L ia la ib lb 16).2.2.1 → zCe h1 b th2 st2 li2 (zMt L ia la ib lb 16).2.2.2.1 (zMt L ia la ib lb 16).2.2.2.2 → (∀ q, q ≠ a → q ≠ b → h1 q = h q) → zR G l (zMJ G hCls_sumUntilMet d Qn Qx mc ms) bc bs h1 52 [some (.ref a), some (.ref b), some (.ref r), some (zi (zMt L ia la ib lb 16).1), y] []) :
    ∀ (n : Nat) (m : Nat) (h1 : zHp), 16 - m < n → m ≤ 16 → zCe h1 a th st li (zMt L ia la ib lb m).2.1 (zMt L ia la ib lb m).2.2.1 → zCe h1 b th2 st2 li2 (zMt L ia la ib lb m).2.2.2.1 (zMt L ia la ib lb m).2.2.2.2 → zRow G h1 r ar L → (∀ q, q ≠ a → q ≠ b → h1 q = h q) →
      zR G l (zMJ G hCls_sumUntilMet d Qn Qx mc ms) bc bs h1 5 [some (.ref a), some (.ref b), some (.ref r), some (zi (zMt L ia la ib lb m).1), some (zi (m : Int))] [] := by
  intro n
  induction n with
  | zero => intro m h1 q1 q2 ea eb hrm hf; omega
  | succ n ih =>
  intro m h1 q1 q2 ea eb hrm hf
  have hin := zMt_in (L := L) h0 hla hlb m
  unfold zCe at ea eb
  obtain ⟨fr, er, -⟩ := id hrm
  refine z_iload dCls_sumUntilMet_5 rfl ?_
  refine z_bipush dCls_sumUntilMet_7 rfl ?_
  refine z_icmp_ge (tgt := 52) dCls_sumUntilMet_9 (by decide) (by omega) (by omega) (fun c9 => ?_) (fun c9 => ?_)
  · first
      | (have em : m = 16 := by omega
         subst em
         exact K h1 _ ea eb hf)
      | (have e9 := zMt_stay (L := L) (ia := ia) (la := la) (ib := ib) (lb := lb) (m := m) (by omega) (16 - m)
         rw [show m + (16 - m) = 16 by omega] at e9
         rw [← e9] at ea eb ⊢
         exact K h1 _ ea eb hf)
  · refine z_aload_n dCls_sumUntilMet_12 rfl ?_
    refine z_getN (k := 3) fd_Cur (by decide) fl_Cls_172 dCls_sumUntilMet_13 (by assumption) (by rfl) ?_
    refine z_aload_n dCls_sumUntilMet_16 rfl ?_
    refine z_getN (k := 3) fd_Cur (by decide) fl_Cls_172 dCls_sumUntilMet_17 (by assumption) (by rfl) ?_
    refine z_icmp_ge (tgt := 52) dCls_sumUntilMet_20 (by decide) (by omega) (by omega) (fun c20 => ?_) (fun c20 => ?_)
    · first
        | (have em : m = 16 := by omega
           subst em
           exact K h1 _ ea eb hf)
        | (have e9 := zMt_stay (L := L) (ia := ia) (la := la) (ib := ib) (lb := lb) (m := m) (by omega) (16 - m)
           rw [show m + (16 - m) = 16 by omega] at e9
           rw [← e9] at ea eb ⊢
           exact K h1 _ ea eb hf)
    · refine z_iload_n dCls_sumUntilMet_23 rfl ?_
      refine z_iload dCls_sumUntilMet_24 rfl ?_
      refine z_iconst dCls_sumUntilMet_26 ?_
      refine z_irem _ (zI_rem (by omega) (by omega)) (by decide) dCls_sumUntilMet_27 ?_
      rw [Int.tmod_eq_emod_of_nonneg (by omega)]
      refine z_if_ne (tgt := 39) dCls_sumUntilMet_28 (by decide) (by omega) (fun c28 => ?_) (fun c28 => ?_)
      · refine z_aload_n dCls_sumUntilMet_39 rfl ?_
        refine z_aload_n dCls_sumUntilMet_40 rfl ?_
        refine z_callVN MV_Cur_stepBack lk_Cls_162 dCls_sumUntilMet_41 (k_Cur_stepBack (show zCe _ _ _ _ _ _ _ from eb) hrm na2 nb2 (by omega)) rfl rfl (Nat.le_of_ble_eq_true rfl) rfl (by assumption) (by show 3 + 1 ≤ d; omega) (by show 3 * 64 + 64 ≤ d * 64; omega) (Nat.le_of_eq (Nat.zero_add _)) (Nat.le_of_eq (Nat.zero_add _)) (fun _ _ q => q.elim) ?_
        rintro _ h3 ⟨(⟨rfl, m1, p3⟩ | ⟨rfl, m1, rfl⟩), f3⟩
        rotate_left
        · exact absurd (by omega) m1
        refine z_iadd dCls_sumUntilMet_44 ?_
        refine z_istore_n dCls_sumUntilMet_45 (Nat.le_of_ble_eq_true rfl) ?_
        refine z_iinc dCls_sumUntilMet_46 rfl (Nat.le_of_ble_eq_true rfl) ?_
        refine z_goto (tgt := 5) dCls_sumUntilMet_49 (by decide) ?_
        replace ih := ih (m + 1) h3 (by omega) (by omega)
        rw [zMt_odd (by omega) (by omega)] at ih
        exact ih ((f3 a hab).trans ea) p3 (hrm.kept (f3 r na2) (f3 ar nb2)) (fun q q1 q2 => (f3 q q2).trans (hf q q1 q2))
      · refine z_aload_n dCls_sumUntilMet_31 rfl ?_
        refine z_aload_n dCls_sumUntilMet_32 rfl ?_
        refine z_callVN MV_Cur_stepForth lk_Cls_159 dCls_sumUntilMet_33 (k_Cur_stepForth (show zCe _ _ _ _ _ _ _ from ea) hrm na nb (by omega)) rfl rfl (Nat.le_of_ble_eq_true rfl) rfl (by assumption) (by show 3 + 1 ≤ d; omega) (by show 3 * 64 + 64 ≤ d * 64; omega) (Nat.le_of_eq (Nat.zero_add _)) (Nat.le_of_eq (Nat.zero_add _)) (fun _ _ q => q.elim) ?_
        rintro _ h3 ⟨(⟨rfl, m1, p3⟩ | ⟨rfl, m1, rfl⟩), f3⟩
        rotate_left
        · exact absurd (by omega) m1
        refine z_goto (tgt := 44) dCls_sumUntilMet_36 (by decide) ?_
        refine z_iadd dCls_sumUntilMet_44 ?_
        refine z_istore_n dCls_sumUntilMet_45 (Nat.le_of_ble_eq_true rfl) ?_
        refine z_iinc dCls_sumUntilMet_46 rfl (Nat.le_of_ble_eq_true rfl) ?_
        refine z_goto (tgt := 5) dCls_sumUntilMet_49 (by decide) ?_
        replace ih := ih (m + 1) h3 (by omega) (by omega)
        rw [zMt_evn (by omega) (by omega)] at ih
        exact ih p3 ((f3 b hab.symm).trans eb) (hrm.kept (f3 r na) (f3 ar nb)) (fun q q1 q2 => (f3 q q1).trans (hf q q1 q2))
theorem k_Cls_sumUntilMet {a b r ar : Nat} {L : List Int} {th st li th2 st2 li2 ia la ib lb : Int} (hab : a ≠ b) (na : r ≠ a) (nb : ar ≠ a) (na2 : r ≠ b) (nb2 : ar ≠ b) (h0 : 0 ≤ ia ∧ ia ≤ ib ∧ ib ≤ 16) (hl : ib ≤ L.length) (hla : -1 ≤ la ∧ la ≤ 15) (hlb : -1 ≤ lb ∧ lb ≤ 15) (hr : zRow G h r ar L) (ea : zCe h a th st li ia la) (eb : zCe h b th2 st2 li2 ib lb) : zM G l hCls_sumUntilMet yCls_sumUntilMet 4 [.ref a, .ref b, .ref r] h (fun v h' => v = some (zi (zMt L ia la ib lb 16).1) ∧ zCe h' a th st li (zMt L ia la ib lb 16).2.1 (zMt L ia la ib lb 16).2.2.1 ∧ zCe h' b th2 st2 li2 (zMt L ia la ib lb 16).2.2.2.1 (zMt L ia la ib lb 16).2.2.2.2 ∧ ∀ q, q ≠ a → q ≠ b → h' q = h q) zNo 0 0 := by
  refine zM.of [some (.ref a), some (.ref b), some (.ref r), none, none] (by decide +kernel) rfl (by decide) rfl (Nat.le_of_ble_eq_true rfl) rfl ?_
  refine z_iconst dCls_sumUntilMet_0 ?_
  refine z_istore_n dCls_sumUntilMet_1 (Nat.le_of_ble_eq_true rfl) ?_
  refine z_iconst dCls_sumUntilMet_2 ?_
  refine z_istore dCls_sumUntilMet_3 (Nat.le_of_ble_eq_true rfl) ?_
  refine l_Cls_sumUntilMet (by omega) hab na nb na2 nb2 h0 hl hla hlb (fun h1 y p1 p2 f1 => ?_) 17 0 h (by omega) (by omega) ea eb hr (fun q _ _ => rfl)
  refine z_iload_n dCls_sumUntilMet_52 rfl ?_
  refine z_iret rfl rfl dCls_sumUntilMet_53 ?_
  exact ⟨rfl, p1, p2, f1⟩
end CLS9
