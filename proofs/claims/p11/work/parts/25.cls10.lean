section CLS10
variable {G : zG} {l : Launch} {h h' : zHp} {ad : Nat → Nat} {S : zSt}
theorem zCls.cu2 {c o : Nat} {t1 s1 l1 i1 a1 t2 s2 l2 i2 a2 : Int} (hC : zCls G h ad S) (hc : c < 3) (ho : o < 3) (hne : c ≠ o) (p1 : zCe h' (ad (5 + c)) t1 s1 l1 i1 a1) (p2 : zCe h' (ad (5 + o)) t2 s2 l2 i2 a2) (x0 : t1 = 0 ∨ t1 = 1) (x1 : s1 = 0 ∨ s1 = 1) (x2 : zI32 l1) (x3 : zI32 i1) (x4 : zI32 a1) (y0 : t2 = 0 ∨ t2 = 1) (y1 : s2 = 0 ∨ s2 = 1) (y2 : zI32 l2) (y3 : zI32 i2) (y4 : zI32 a2) (hf : ∀ q, q ≠ ad (5 + c) → q ≠ ad (5 + o) → h' q = h q) : zCls G h' ad (zsC (zsC S (zup S.2.1 c (zCv t1 s1 l1 i1 a1))) (zup (zup S.2.1 c (zCv t1 s1 l1 i1 a1)) o (zCv t2 s2 l2 i2 a2))) := by
  have hm : zCls G (zup h' (ad (5 + o)) (h (ad (5 + o)))) ad (zsC S (zup S.2.1 c (zCv t1 s1 l1 i1 a1))) := hC.cu hc ((zup_ne (hC.inj (by omega) (by omega) (by omega))).trans p1) x0 x1 x2 x3 x4 (fun q a => by
    by_cases e : q = ad (5 + o)
    · subst e; exact zup_same _ _ _
    · exact (zup_ne e).trans (hf q a e))
  exact hm.cu ho p2 y0 y1 y2 y3 y4 (fun q hq => (zup_ne hq).symm)
theorem zCost_cn {T T' : Nat → Int} {L : List Int} (H : ∀ k : Nat, k < 8 → T k = T' k) : ∀ n : Nat, n ≤ 8 → zCost T L n = zCost T' L n
  | 0, _ => rfl
  | n + 1, hn => by
    unfold zCost
    rw [zCost_cn H n (by omega), H n (by omega)]
theorem zCost_cg {T : Nat → Int} {A L : List Int} (H : ∀ k : Nat, k < 8 → T k = (zCnt A k : Int)) : zCost T L 8 = zCost (zCntT A) L 8 := zCost_cn H 8 (by omega)
theorem k_Cls_meet {c o : Int} (hO : zOk S) (hC : zCls G h ad S) (z_c : zI32 c) (z_o : zI32 o) : zM G l hCls_meet yCls_meet 9 [.ref (ad 0), zi c, zi o] h (zQc G ad h (sp_meet S c o)) (zXc G ad h (sp_meet S c o)) 6 36 := by
  obtain ⟨c1, c2, ⟨g3, c3, d3⟩, ⟨g4, c4, d4⟩, c5, ⟨T6, c6, d6⟩, c7, c8, ⟨R9, c9⟩, c10⟩ := id hC
  obtain ⟨f16, e16, -⟩ := id c9
  refine zM.of [some (.ref (ad 0)), some (zi c), some (zi o), none, none] (by decide +kernel) rfl (by decide) rfl (Nat.le_of_ble_eq_true rfl) rfl ?_
  refine z_aload_n dCls_meet_0 rfl ?_
  refine z_iload_n dCls_meet_1 rfl ?_
  refine z_callV (bc' := 5) (bs' := 30) MV_Cls_cursorAt lk_Cls_137 dCls_meet_2 (k_Cls_cursorAt (by assumption) (by omega)) rfl rfl (Nat.le_of_ble_eq_true rfl) rfl (by assumption) (Nat.le_of_ble_eq_true rfl) (Nat.le_of_ble_eq_true rfl) (by decide) (by decide) (fun E h9 q9 => z_out rfl (by obtain ⟨rfl, q1, rfl⟩ := q9; exact zXc.mk (by assumption) (by first | exact zFrm.rf | assumption) (by unfold sp_meet; (try unfold spPut); (try simp only [Int.toNat_natCast]); (repeat (first | rw [if_pos (by omega)] | rw [if_neg (by omega)] | rw [if_pos (by assumption)] | rw [if_neg (by assumption)] | rw [if_pos (True.intro : True)])); all_goals (first | rfl | (congr 2; omega) | (congr 1; congr 1; omega))))) ?_
  rintro _ _ ⟨rfl, aA1, aA2, rfl⟩
  obtain ⟨kA, rfl⟩ := Int.eq_ofNat_of_zero_le aA1
  simp only [Int.toNat_natCast]
  have hkA : kA < 3 := by omega
  have hcA := hC.cs hkA
  obtain ⟨stA, liA, ixA, laA, eA, bA0, bA1, iA2, iA3, iA4, eA7⟩ := id hcA
  refine z_astore_n dCls_meet_5 (Nat.le_of_ble_eq_true rfl) ?_
  refine z_aload_n dCls_meet_6 rfl ?_
  refine z_iload_n dCls_meet_7 rfl ?_
  refine z_callV (bc' := 4) (bs' := 24) MV_Cls_cursorAt lk_Cls_137 dCls_meet_8 (k_Cls_cursorAt (by assumption) (by omega)) rfl rfl (Nat.le_of_ble_eq_true rfl) rfl (by assumption) (Nat.le_of_ble_eq_true rfl) (Nat.le_of_ble_eq_true rfl) (by decide) (by decide) (fun E h9 q9 => z_out rfl (by obtain ⟨rfl, q1, rfl⟩ := q9; exact zXc.mk (by assumption) (by first | exact zFrm.rf | assumption) (by unfold sp_meet; (try unfold spPut); (try simp only [Int.toNat_natCast]); (repeat (first | rw [if_pos (by omega)] | rw [if_neg (by omega)] | rw [if_pos (by assumption)] | rw [if_neg (by assumption)] | rw [if_pos (True.intro : True)])); all_goals (first | rfl | (congr 2; omega) | (congr 1; congr 1; omega))))) ?_
  rintro _ _ ⟨rfl, aB1, aB2, rfl⟩
  obtain ⟨kB, rfl⟩ := Int.eq_ofNat_of_zero_le aB1
  simp only [Int.toNat_natCast]
  have hkB : kB < 3 := by omega
  have hcB := hC.cs hkB
  obtain ⟨stB, liB, ixB, laB, eB, bB0, bB1, iB2, iB3, iB4, eB7⟩ := id hcB
  refine z_astore dCls_meet_11 (Nat.le_of_ble_eq_true rfl) ?_
  refine z_iload_n dCls_meet_13 rfl ?_
  refine z_iload_n dCls_meet_14 rfl ?_
  refine z_icmp_ne (tgt := 28) dCls_meet_15 (by decide) (by omega) (by omega) (fun c15 => ?_) (fun c15 => ?_)
  · refine z_aload_n dCls_meet_28 rfl ?_
    refine z_callS (bc' := 3) (bs' := 18) MS_Cls_demandThere lk_Cls_148 dCls_meet_29 (k_Cls_demandThere hcA) rfl rfl (Nat.le_of_ble_eq_true rfl)  (Nat.le_of_ble_eq_true rfl) (Nat.le_of_ble_eq_true rfl) (by decide) (by decide) (fun E h9 q9 => z_out rfl (by obtain ⟨rfl, q1, rfl⟩ := q9; exact zXc.mk (by assumption) (by first | exact zFrm.rf | assumption) (by unfold sp_meet; (try unfold spPut); (try simp only [Int.toNat_natCast]); (repeat (first | rw [if_pos (by omega)] | rw [if_neg (by omega)] | rw [if_pos (by assumption)] | rw [if_neg (by assumption)] | rw [if_pos (True.intro : True)])); all_goals (first | rfl | (congr 2; omega) | (congr 1; congr 1; omega))))) ?_
    rintro _ _ ⟨rfl, tA, rfl⟩
    obtain ⟨rfl, rfl, rfl, rfl⟩ := eA7 tA
    obtain ⟨oA2, oA3, oA4, oA5⟩ := hO.1 kA hkA tA
    refine z_aload dCls_meet_32 rfl ?_
    refine z_callS (bc' := 2) (bs' := 12) MS_Cls_demandThere lk_Cls_148 dCls_meet_34 (k_Cls_demandThere hcB) rfl rfl (Nat.le_of_ble_eq_true rfl)  (Nat.le_of_ble_eq_true rfl) (Nat.le_of_ble_eq_true rfl) (by decide) (by decide) (fun E h9 q9 => z_out rfl (by obtain ⟨rfl, q1, rfl⟩ := q9; exact zXc.mk (by assumption) (by first | exact zFrm.rf | assumption) (by unfold sp_meet; (try unfold spPut); (try simp only [Int.toNat_natCast]); (repeat (first | rw [if_pos (by omega)] | rw [if_neg (by omega)] | rw [if_pos (by assumption)] | rw [if_neg (by assumption)] | rw [if_pos (True.intro : True)])); all_goals (first | rfl | (congr 2; omega) | (congr 1; congr 1; omega))))) ?_
    rintro _ _ ⟨rfl, tB, rfl⟩
    obtain ⟨rfl, rfl, rfl, rfl⟩ := eB7 tB
    obtain ⟨oB2, oB3, oB4, oB5⟩ := hO.1 kB hkB tB
    refine z_aload_n dCls_meet_37 rfl ?_
    refine z_getN (k := 1) fd_Cur (by decide) fl_Cls_152 dCls_meet_38 (by assumption) (by rfl) ?_
    refine z_if_ne (tgt := 76) dCls_meet_41 (by decide) (by omega) (fun c41 => ?_) (fun c41 => ?_)
    · refine z_aload_n dCls_meet_76 rfl ?_
      refine z_callV MV_Cls_refuse lk_Cls_54 dCls_meet_77 (k_Cls_refuse (by assumption)) rfl rfl (Nat.le_of_ble_eq_true rfl) rfl (by assumption) (Nat.le_of_ble_eq_true rfl) (Nat.le_of_ble_eq_true rfl) (Nat.le_of_eq (Nat.zero_add _)) (Nat.le_of_eq (Nat.zero_add _)) (fun _ _ q => q.elim) ?_
      rintro _ h9 ⟨rfl, hC9, fz9⟩
      refine z_iret rfl rfl dCls_meet_80 ?_
      first
        | (exfalso; omega)
        | exact zQc.mk (by assumption) (by first | exact zFrm.rf | assumption) (by unfold sp_meet; (try unfold spPut); (try simp only [Int.toNat_natCast]); (repeat (first | rw [if_pos (by omega)] | rw [if_neg (by omega)] | rw [if_pos (by assumption)] | rw [if_neg (by assumption)] | rw [if_pos (True.intro : True)])); all_goals (first | rfl | (congr 2; omega) | (congr 1; congr 1; omega)))
    · refine z_aload dCls_meet_44 rfl ?_
      refine z_getN (k := 1) fd_Cur (by decide) fl_Cls_152 dCls_meet_46 (by assumption) (by rfl) ?_
      refine z_if_ne (tgt := 76) dCls_meet_49 (by decide) (by omega) (fun c49 => ?_) (fun c49 => ?_)
      · refine z_aload_n dCls_meet_76 rfl ?_
        refine z_callV MV_Cls_refuse lk_Cls_54 dCls_meet_77 (k_Cls_refuse (by assumption)) rfl rfl (Nat.le_of_ble_eq_true rfl) rfl (by assumption) (Nat.le_of_ble_eq_true rfl) (Nat.le_of_ble_eq_true rfl) (Nat.le_of_eq (Nat.zero_add _)) (Nat.le_of_eq (Nat.zero_add _)) (fun _ _ q => q.elim) ?_
        rintro _ h9 ⟨rfl, hC9, fz9⟩
        refine z_iret rfl rfl dCls_meet_80 ?_
        first
          | (exfalso; omega)
          | exact zQc.mk (by assumption) (by first | exact zFrm.rf | assumption) (by unfold sp_meet; (try unfold spPut); (try simp only [Int.toNat_natCast]); (repeat (first | rw [if_pos (by omega)] | rw [if_neg (by omega)] | rw [if_pos (by assumption)] | rw [if_neg (by assumption)] | rw [if_pos (True.intro : True)])); all_goals (first | rfl | (congr 2; omega) | (congr 1; congr 1; omega)))
      · refine z_aload_n dCls_meet_52 rfl ?_
        refine z_getN (k := 2) fd_Cur (by decide) fl_Cls_169 dCls_meet_53 (by assumption) (by rfl) ?_
        refine z_aload dCls_meet_56 rfl ?_
        refine z_getN (k := 2) fd_Cur (by decide) fl_Cls_169 dCls_meet_58 (by assumption) (by rfl) ?_
        refine z_icmp_ne (tgt := 76) dCls_meet_61 (by decide) (by omega) (by omega) (fun c61 => ?_) (fun c61 => ?_)
        · refine z_aload_n dCls_meet_76 rfl ?_
          refine z_callV MV_Cls_refuse lk_Cls_54 dCls_meet_77 (k_Cls_refuse (by assumption)) rfl rfl (Nat.le_of_ble_eq_true rfl) rfl (by assumption) (Nat.le_of_ble_eq_true rfl) (Nat.le_of_ble_eq_true rfl) (Nat.le_of_eq (Nat.zero_add _)) (Nat.le_of_eq (Nat.zero_add _)) (fun _ _ q => q.elim) ?_
          rintro _ h9 ⟨rfl, hC9, fz9⟩
          refine z_iret rfl rfl dCls_meet_80 ?_
          first
            | (exfalso; omega)
            | exact zQc.mk (by assumption) (by first | exact zFrm.rf | assumption) (by unfold sp_meet; (try unfold spPut); (try simp only [Int.toNat_natCast]); (repeat (first | rw [if_pos (by omega)] | rw [if_neg (by omega)] | rw [if_pos (by assumption)] | rw [if_neg (by assumption)] | rw [if_pos (True.intro : True)])); all_goals (first | rfl | (congr 2; omega) | (congr 1; congr 1; omega)))
        · refine z_aload_n dCls_meet_64 rfl ?_
          refine z_getN (k := 3) fd_Cur (by decide) fl_Cls_172 dCls_meet_65 (by assumption) (by rfl) ?_
          refine z_aload dCls_meet_68 rfl ?_
          refine z_getN (k := 3) fd_Cur (by decide) fl_Cls_172 dCls_meet_70 (by assumption) (by rfl) ?_
          refine z_icmp_le (tgt := 81) dCls_meet_73 (by decide) (by omega) (by omega) (fun c73 => ?_) (fun c73 => ?_)
          · refine z_aload_n dCls_meet_81 rfl ?_
            refine z_aload dCls_meet_82 rfl ?_
            refine z_aload_n dCls_meet_84 rfl ?_
            refine z_aload_n dCls_meet_85 rfl ?_
            refine z_callV (bc' := 1) (bs' := 6) MV_Cls_rowUnder lk_Cls_155 dCls_meet_86 (k_Cls_rowUnder (c := 0) (by assumption) hcA tA (by omega)) rfl rfl (Nat.le_of_ble_eq_true rfl) rfl (by assumption) (Nat.le_of_ble_eq_true rfl) (Nat.le_of_ble_eq_true rfl) (by decide) (by decide) (fun _ _ q => q.elim) ?_
            rintro _ _ ⟨rfl, rfl⟩
            have hkU : (S.2.1 kA 2).toNat < 4 := by omega
            have hrU := hC.ls hkU
            obtain ⟨fU, eU, -⟩ := id hrU
            have hlU := hrU.len
            have hle := oB5 (by omega)
            rw [← (show S.2.1 kA 2 = S.2.1 kB 2 by omega)] at hle
            refine z_callS MS_Cls_sumUntilMet lk_Cls_188 dCls_meet_89 (k_Cls_sumUntilMet (hC.inj (i := 5 + kA) (j := 5 + kB) (by omega) (by omega) (by omega)) (hC.inj (by omega) (by omega) (by omega)) (hC.inj (by omega) (by omega) (by omega)) (hC.inj (by omega) (by omega) (by omega)) (hC.inj (by omega) (by omega) (by omega)) (by omega) (by omega) (by omega) (by omega) hrU (show zCe _ _ _ _ _ _ _ from eA) (show zCe _ _ _ _ _ _ _ from eB)) rfl rfl (Nat.le_of_ble_eq_true rfl)  (Nat.le_of_ble_eq_true rfl) (Nat.le_of_ble_eq_true rfl) (Nat.le_of_eq (Nat.zero_add _)) (Nat.le_of_eq (Nat.zero_add _)) (fun _ _ q => q.elim) ?_
            rintro _ h1 ⟨rfl, p1, p2, f1⟩
            have hin := (zMt_in (L := S.1 (S.2.1 kA 2).toNat) (ia := S.2.1 kA 3) (la := S.2.1 kA 4) (ib := S.2.1 kB 3) (lb := S.2.1 kB 4) (by omega) (by omega) (by omega) 16)
            have hC1 := hC.cu2 hkA hkB (by omega) p1 p2 bA0 bA1 (by omega) (by omega) (by omega) bB0 bB1 (by omega) (by omega) (by omega) f1
            have fz1 : zFrm ad h h1 := fun q hq => f1 q (hq _ (by omega)) (hq _ (by omega))
            refine z_iret rfl rfl dCls_meet_92 ?_
            first
              | (exfalso; omega)
              | exact zQc.mk (by assumption) (by first | exact zFrm.rf | assumption) (by unfold sp_meet; (try unfold spPut); (try simp only [Int.toNat_natCast]); (repeat (first | rw [if_pos (by omega)] | rw [if_neg (by omega)] | rw [if_pos (by assumption)] | rw [if_neg (by assumption)] | rw [if_pos (True.intro : True)])); all_goals (first | rfl | (congr 2; omega) | (congr 1; congr 1; omega)))
          · refine z_aload_n dCls_meet_76 rfl ?_
            refine z_callV MV_Cls_refuse lk_Cls_54 dCls_meet_77 (k_Cls_refuse (by assumption)) rfl rfl (Nat.le_of_ble_eq_true rfl) rfl (by assumption) (Nat.le_of_ble_eq_true rfl) (Nat.le_of_ble_eq_true rfl) (Nat.le_of_eq (Nat.zero_add _)) (Nat.le_of_eq (Nat.zero_add _)) (fun _ _ q => q.elim) ?_
            rintro _ h9 ⟨rfl, hC9, fz9⟩
            refine z_iret rfl rfl dCls_meet_80 ?_
            first
              | (exfalso; omega)
              | exact zQc.mk (by assumption) (by first | exact zFrm.rf | assumption) (by unfold sp_meet; (try unfold spPut); (try simp only [Int.toNat_natCast]); (repeat (first | rw [if_pos (by omega)] | rw [if_neg (by omega)] | rw [if_pos (by assumption)] | rw [if_neg (by assumption)] | rw [if_pos (True.intro : True)])); all_goals (first | rfl | (congr 2; omega) | (congr 1; congr 1; omega)))
  · refine z_throw (text := "a cursor does not meet itself") (names := ["java/lang/RuntimeException", "java/lang/Exception"]) tw_185.2.2.2.1 tw_185.2.2.2.2 cl_Cls_181 in_IllegalArgumentException (by decide +kernel) tw_185.1 tw_185.2.1 tw_185.2.2.1 rfl dCls_meet_18 dCls_meet_21 dCls_meet_22 dCls_meet_24 dCls_meet_27 (by decide) (Nat.le_of_ble_eq_true rfl) (by decide) (by decide) ?_
    exact zXc.mk (by assumption) zFrm.rf (by unfold sp_meet; (try unfold spPut); (try simp only [Int.toNat_natCast]); (repeat (first | rw [if_pos (by omega)] | rw [if_neg (by omega)] | rw [if_pos (by assumption)] | rw [if_neg (by assumption)] | rw [if_pos (True.intro : True)])); all_goals (first | rfl | (congr 2; omega) | (congr 1; congr 1; omega)))
theorem k_Cls_ask {key : Int} (hO : zOk S) (hC : zCls G h ad S) (z_key : zI32 key) : zM G l hCls_ask yCls_ask 9 [.ref (ad 0), zi key] h (zQc G ad h (sp_ask S key)) (zXc G ad h (sp_ask S key)) 6 36 := by
  obtain ⟨c1, c2, ⟨g3, c3, d3⟩, ⟨g4, c4, d4⟩, c5, ⟨T6, c6, d6⟩, c7, c8, ⟨R9, c9⟩, c10⟩ := id hC
  obtain ⟨f16, e16, -⟩ := id c9
  have hA60 := hO.2.2.2.1
  obtain ⟨f18, e18, -⟩ := id c10
  refine zM.of [some (.ref (ad 0)), some (zi key)] (by decide +kernel) rfl (by decide) rfl (Nat.le_of_ble_eq_true rfl) rfl ?_
  refine z_iload_n dCls_ask_0 rfl ?_
  refine z_iconst dCls_ask_1 ?_
  refine z_bipush dCls_ask_2 rfl ?_
  refine z_callS (bc' := 5) (bs' := 30) MS_Cls_demandWithin lk_Cls_38 dCls_ask_4 (k_Cls_demandWithin (by omega) (by omega) (by omega)) rfl rfl (Nat.le_of_ble_eq_true rfl)  (Nat.le_of_ble_eq_true rfl) (Nat.le_of_ble_eq_true rfl) (by decide) (by decide) (fun E h9 q9 => z_out rfl (by obtain ⟨rfl, q1, rfl⟩ := q9; exact zXc.mk (by assumption) (by first | exact zFrm.rf | assumption) (by unfold sp_ask; (try unfold spPut); (try simp only [Int.toNat_natCast]); (repeat (first | rw [if_pos (by omega)] | rw [if_neg (by omega)] | rw [if_pos (by assumption)] | rw [if_neg (by assumption)] | rw [if_pos (True.intro : True)])); all_goals (first | rfl | (congr 2; omega) | (congr 1; congr 1; omega))))) ?_
  rintro _ _ ⟨rfl, w1, w2, rfl⟩
  refine z_aload_n dCls_ask_7 rfl ?_
  refine z_get (k := 2) fd_Cls (by decide) fl_Cls_24 dCls_ask_8 (by assumption) (by rfl) ?_
  refine z_getN (k := 2) fd_Rec (by decide) fl_Cls_215 dCls_ask_11 (by assumption) (by rfl) ?_
  refine z_bipush dCls_ask_14 rfl ?_
  refine z_icmp_lt (tgt := 29) dCls_ask_16 (by decide) (by omega) (by omega) (fun c16 => ?_) (fun c16 => ?_)
  · refine z_aload_n dCls_ask_29 rfl ?_
    refine z_get (k := 2) fd_Cls (by decide) fl_Cls_24 dCls_ask_30 (by assumption) (by rfl) ?_
    refine z_iload_n dCls_ask_33 rfl ?_
    refine z_callVN MV_Rec_bringAhead lk_Cls_223 dCls_ask_34 (k_Rec_bringAhead c5 c6 c10 (hC.inj (by omega) (by omega) (by omega)) (hC.inj (by omega) (by omega) (by omega)) (hC.inj (by omega) (by omega) (by omega)) (hC.inj (by omega) (by omega) (by omega)) (hC.inj (by omega) (by omega) (by omega)) (by omega) (hO.2.1 key (by omega) (by omega))) rfl rfl (Nat.le_of_ble_eq_true rfl) rfl (by assumption) (Nat.le_of_ble_eq_true rfl) (Nat.le_of_ble_eq_true rfl) (Nat.le_of_eq (Nat.zero_add _)) (Nat.le_of_eq (Nat.zero_add _)) (fun _ _ q => q.elim) ?_
    rintro _ h1 ⟨rfl, p1, p2, p3, f1⟩
    have e8 : ((S.2.2.2.1 ++ [key]).length : Int) = (S.2.2.2.1.length : Int) + 1 := by simp
    have hC1 := hC.rc (A' := S.2.2.2.1 ++ [key]) (by rw [e8, zLastOf_app]; exact p1) p2 (fun k hk => by
      rw [zCnt_app]
      by_cases e : (k : Int) = key
      · have e' : k = key.toNat := by omega
        rw [if_pos e, ← d6 k hk, e']
        exact zup_same _ _ _
      · rw [if_neg e, ← d6 k hk, Int.add_zero]
        exact zup_ne (by omega)) p3 f1
    have fz1 : zFrm ad h h1 := zFrm.of4 f1
    refine z_iret rfl rfl dCls_ask_37 ?_
    first
      | (exfalso; omega)
      | exact zQc.mk (by assumption) (by first | exact zFrm.rf | assumption) (by unfold sp_ask; (try unfold spPut); (try simp only [Int.toNat_natCast]); (repeat (first | rw [if_pos (by omega)] | rw [if_neg (by omega)] | rw [if_pos (by assumption)] | rw [if_neg (by assumption)] | rw [if_pos (True.intro : True)])); all_goals (first | rfl | (congr 2; omega) | (congr 1; congr 1; omega)))
  · refine z_throw (text := "no more askings") (names := ["java/lang/RuntimeException", "java/lang/Exception"]) tw_222.2.2.2.1 tw_222.2.2.2.2 cl_Cls_218 in_IllegalStateException (by decide +kernel) tw_222.1 tw_222.2.1 tw_222.2.2.1 rfl dCls_ask_19 dCls_ask_22 dCls_ask_23 dCls_ask_25 dCls_ask_28 (by decide) (Nat.le_of_ble_eq_true rfl) (by decide) (by decide) ?_
    exact zXc.mk (by assumption) zFrm.rf (by unfold sp_ask; (try unfold spPut); (try simp only [Int.toNat_natCast]); (repeat (first | rw [if_pos (by omega)] | rw [if_neg (by omega)] | rw [if_pos (by assumption)] | rw [if_neg (by assumption)] | rw [if_pos (True.intro : True)])); all_goals (first | rfl | (congr 2; omega) | (congr 1; congr 1; omega)))
theorem k_Cls_forget  (hC : zCls G h ad S)  : zM G l hCls_forget yCls_forget 9 [.ref (ad 0)] h (zQc G ad h (sp_forget S)) (zXc G ad h (sp_forget S)) 6 36 := by
  obtain ⟨c1, c2, ⟨g3, c3, d3⟩, ⟨g4, c4, d4⟩, c5, ⟨T6, c6, d6⟩, c7, c8, ⟨R9, c9⟩, c10⟩ := id hC
  obtain ⟨f16, e16, -⟩ := id c9
  refine zM.of [some (.ref (ad 0)), none] (by decide +kernel) rfl (by decide) rfl (Nat.le_of_ble_eq_true rfl) rfl ?_
  refine z_aload_n dCls_forget_0 rfl ?_
  refine z_get (k := 2) fd_Cls (by decide) fl_Cls_24 dCls_forget_1 (by assumption) (by rfl) ?_
  refine z_getN (k := 2) fd_Rec (by decide) fl_Cls_215 dCls_forget_4 (by assumption) (by rfl) ?_
  refine z_istore_n dCls_forget_7 (Nat.le_of_ble_eq_true rfl) ?_
  refine z_aload_n dCls_forget_8 rfl ?_
  refine z_get (k := 2) fd_Cls (by decide) fl_Cls_24 dCls_forget_9 (by assumption) (by rfl) ?_
  refine z_callVN MV_Rec_begin lk_Cls_226 dCls_forget_12 (k_Rec_begin c5 c6 c10 (hC.inj (by omega) (by omega) (by omega)) (hC.inj (by omega) (by omega) (by omega)) (hC.inj (by omega) (by omega) (by omega)) (hC.inj (by omega) (by omega) (by omega)) (hC.inj (by omega) (by omega) (by omega))) rfl rfl (Nat.le_of_ble_eq_true rfl) rfl (by assumption) (Nat.le_of_ble_eq_true rfl) (Nat.le_of_ble_eq_true rfl) (Nat.le_of_eq (Nat.zero_add _)) (Nat.le_of_eq (Nat.zero_add _)) (fun _ _ q => q.elim) ?_
  rintro _ h1 ⟨rfl, p1, ⟨T9, p2, q2⟩, p3, f1⟩
  have hC1 := hC.rc (A' := []) (x := 0) p1 p2 (fun k hk => q2 k hk) p3 f1
  have fz1 : zFrm ad h h1 := zFrm.of4 f1
  refine z_iload_n dCls_forget_15 rfl ?_
  refine z_iret rfl rfl dCls_forget_16 ?_
  exact zQc.mk hC1 fz1 rfl
theorem k_Cls_asked {w : Int}  (hC : zCls G h ad S) (z_w : zI32 w) : zM G l hCls_asked yCls_asked 9 [.ref (ad 0), zi w] h (zQc G ad h (sp_asked S w)) (zXc G ad h (sp_asked S w)) 6 36 := by
  obtain ⟨c1, c2, ⟨g3, c3, d3⟩, ⟨g4, c4, d4⟩, c5, ⟨T6, c6, d6⟩, c7, c8, ⟨R9, c9⟩, c10⟩ := id hC
  obtain ⟨f16, e16, -⟩ := id c9
  obtain ⟨f18, e18, -⟩ := id c10
  refine zM.of [some (.ref (ad 0)), some (zi w)] (by decide +kernel) rfl (by decide) rfl (Nat.le_of_ble_eq_true rfl) rfl ?_
  refine z_iload_n dCls_asked_0 rfl ?_
  refine z_iconst dCls_asked_1 ?_
  refine z_iconst dCls_asked_2 ?_
  refine z_callS (bc' := 5) (bs' := 30) MS_Cls_demandWithin lk_Cls_38 dCls_asked_3 (k_Cls_demandWithin (by omega) (by omega) (by omega)) rfl rfl (Nat.le_of_ble_eq_true rfl)  (Nat.le_of_ble_eq_true rfl) (Nat.le_of_ble_eq_true rfl) (by decide) (by decide) (fun E h9 q9 => z_out rfl (by obtain ⟨rfl, q1, rfl⟩ := q9; exact zXc.mk (by assumption) (by first | exact zFrm.rf | assumption) (by unfold sp_asked; (try unfold spPut); (try simp only [Int.toNat_natCast]); (repeat (first | rw [if_pos (by omega)] | rw [if_neg (by omega)] | rw [if_pos (by assumption)] | rw [if_neg (by assumption)] | rw [if_pos (True.intro : True)])); all_goals (first | rfl | (congr 2; omega) | (congr 1; congr 1; omega))))) ?_
  rintro _ _ ⟨rfl, w1, w2, rfl⟩
  refine z_iload_n dCls_asked_6 rfl ?_
  rcases (show w = 0 ∨ w = 1 ∨ w = 2 ∨ w = 3 by omega) with rfl | rfl | rfl | rfl
  · refine z_tableIn (tgt := 32) dCls_asked_7 (by omega) (by omega) (by omega) rfl (by decide) ?_
    refine z_aload_n dCls_asked_32 rfl ?_
    refine z_get (k := 2) fd_Cls (by decide) fl_Cls_24 dCls_asked_33 (by assumption) (by rfl) ?_
    refine z_getN (k := 2) fd_Rec (by decide) fl_Cls_215 dCls_asked_36 (by assumption) (by rfl) ?_
    refine z_iret rfl rfl dCls_asked_39 ?_
    first
      | (exfalso; omega)
      | exact zQc.mk (by assumption) (by first | exact zFrm.rf | assumption) (by unfold sp_asked; (try unfold spPut); (try simp only [Int.toNat_natCast]); (repeat (first | rw [if_pos (by omega)] | rw [if_neg (by omega)] | rw [if_pos (by assumption)] | rw [if_neg (by assumption)] | rw [if_pos (True.intro : True)])); all_goals (first | rfl | (congr 2; omega) | (congr 1; congr 1; omega)))
  · refine z_tableIn (tgt := 40) dCls_asked_7 (by omega) (by omega) (by omega) rfl (by decide) ?_
    refine z_aload_n dCls_asked_40 rfl ?_
    refine z_get (k := 2) fd_Cls (by decide) fl_Cls_24 dCls_asked_41 (by assumption) (by rfl) ?_
    refine z_getN (k := 3) fd_Rec (by decide) fl_Cls_228 dCls_asked_44 (by assumption) (by rfl) ?_
    refine z_iret rfl rfl dCls_asked_47 ?_
    first
      | (exfalso; omega)
      | exact zQc.mk (by assumption) (by first | exact zFrm.rf | assumption) (by unfold sp_asked; (try unfold spPut); (try simp only [Int.toNat_natCast]); (repeat (first | rw [if_pos (by omega)] | rw [if_neg (by omega)] | rw [if_pos (by assumption)] | rw [if_neg (by assumption)] | rw [if_pos (True.intro : True)])); all_goals (first | rfl | (congr 2; omega) | (congr 1; congr 1; omega)))
  · refine z_tableIn (tgt := 48) dCls_asked_7 (by omega) (by omega) (by omega) rfl (by decide) ?_
    refine z_aload_n dCls_asked_48 rfl ?_
    refine z_get (k := 2) fd_Cls (by decide) fl_Cls_24 dCls_asked_49 (by assumption) (by rfl) ?_
    refine z_getN (k := 4) fd_Rec (by decide) fl_Cls_231 dCls_asked_52 (by assumption) (by rfl) ?_
    refine z_iret rfl rfl dCls_asked_55 ?_
    first
      | (exfalso; omega)
      | exact zQc.mk (by assumption) (by first | exact zFrm.rf | assumption) (by unfold sp_asked; (try unfold spPut); (try simp only [Int.toNat_natCast]); (repeat (first | rw [if_pos (by omega)] | rw [if_neg (by omega)] | rw [if_pos (by assumption)] | rw [if_neg (by assumption)] | rw [if_pos (True.intro : True)])); all_goals (first | rfl | (congr 2; omega) | (congr 1; congr 1; omega)))
  · refine z_tableOut (tgt := 56) dCls_asked_7 (by omega) (by omega) (by decide) ?_
    refine z_aload_n dCls_asked_56 rfl ?_
    refine z_get (k := 2) fd_Cls (by decide) fl_Cls_24 dCls_asked_57 (by assumption) (by rfl) ?_
    refine z_getN (k := 0) fd_Rec (by decide) fl_Cls_234 dCls_asked_60 (by assumption) (by rfl) ?_
    refine z_bipush dCls_asked_63 rfl ?_
    refine z_callVN MV_Row_itemAt lk_Cls_70 dCls_asked_65 (k_Row_itemAt c10 (by omega)) rfl rfl (Nat.le_of_ble_eq_true rfl) rfl (by assumption) (Nat.le_of_ble_eq_true rfl) (Nat.le_of_ble_eq_true rfl) (Nat.le_of_eq (Nat.zero_add _)) (Nat.le_of_eq (Nat.zero_add _)) (fun _ _ q => q.elim) ?_
    rintro _ _ ⟨rfl, rfl⟩
    refine z_iret rfl rfl dCls_asked_68 ?_
    first
      | (exfalso; omega)
      | exact zQc.mk (by assumption) (by first | exact zFrm.rf | assumption) (by unfold sp_asked; (try unfold spPut); (try simp only [Int.toNat_natCast]); (repeat (first | rw [if_pos (by omega)] | rw [if_neg (by omega)] | rw [if_pos (by assumption)] | rw [if_neg (by assumption)] | rw [if_pos (True.intro : True)])); all_goals (first | rfl | (congr 2; omega) | (congr 1; congr 1; omega)))
theorem k_Cls_byOrder {p w : Int}  (hC : zCls G h ad S) (z_p : zI32 p) (z_w : zI32 w) : zM G l hCls_byOrder yCls_byOrder 9 [.ref (ad 0), zi p, zi w] h (zQc G ad h (sp_byOrder S p w)) (zXc G ad h (sp_byOrder S p w)) 6 36 := by
  obtain ⟨c1, c2, ⟨g3, c3, d3⟩, ⟨g4, c4, d4⟩, c5, ⟨T6, c6, d6⟩, c7, c8, ⟨R9, c9⟩, c10⟩ := id hC
  obtain ⟨f16, e16, -⟩ := id c9
  refine zM.of [some (.ref (ad 0)), some (zi p), some (zi w), none] (by decide +kernel) rfl (by decide) rfl (Nat.le_of_ble_eq_true rfl) rfl ?_
  refine z_aload_n dCls_byOrder_0 rfl ?_
  refine z_iload_n dCls_byOrder_1 rfl ?_
  refine z_callV (bc' := 5) (bs' := 30) MV_Cls_listAt lk_Cls_34 dCls_byOrder_2 (k_Cls_listAt (by assumption) (by omega)) rfl rfl (Nat.le_of_ble_eq_true rfl) rfl (by assumption) (Nat.le_of_ble_eq_true rfl) (Nat.le_of_ble_eq_true rfl) (by decide) (by decide) (fun E h9 q9 => z_out rfl (by obtain ⟨rfl, q1, rfl⟩ := q9; exact zXc.mk (by assumption) (by first | exact zFrm.rf | assumption) (by unfold sp_byOrder; (try unfold spPut); (try simp only [Int.toNat_natCast]); (repeat (first | rw [if_pos (by omega)] | rw [if_neg (by omega)] | rw [if_pos (by assumption)] | rw [if_neg (by assumption)] | rw [if_pos (True.intro : True)])); all_goals (first | rfl | (congr 2; omega) | (congr 1; congr 1; omega))))) ?_
  rintro _ _ ⟨rfl, aA1, aA2, rfl⟩
  obtain ⟨kA, rfl⟩ := Int.eq_ofNat_of_zero_le aA1
  simp only [Int.toNat_natCast]
  have hkA : kA < 4 := by omega
  have hrA := hC.ls hkA
  obtain ⟨fA, eA, -⟩ := id hrA
  have hlA := hrA.len
  refine z_astore_n dCls_byOrder_5 (Nat.le_of_ble_eq_true rfl) ?_
  refine z_iload_n dCls_byOrder_6 rfl ?_
  refine z_iconst dCls_byOrder_7 ?_
  refine z_iconst dCls_byOrder_8 ?_
  refine z_callS (bc' := 4) (bs' := 24) MS_Cls_demandWithin lk_Cls_38 dCls_byOrder_9 (k_Cls_demandWithin (by omega) (by omega) (by omega)) rfl rfl (Nat.le_of_ble_eq_true rfl)  (Nat.le_of_ble_eq_true rfl) (Nat.le_of_ble_eq_true rfl) (by decide) (by decide) (fun E h9 q9 => z_out rfl (by obtain ⟨rfl, q1, rfl⟩ := q9; exact zXc.mk (by assumption) (by first | exact zFrm.rf | assumption) (by unfold sp_byOrder; (try unfold spPut); (try simp only [Int.toNat_natCast]); (repeat (first | rw [if_pos (by omega)] | rw [if_neg (by omega)] | rw [if_pos (by assumption)] | rw [if_neg (by assumption)] | rw [if_pos (True.intro : True)])); all_goals (first | rfl | (congr 2; omega) | (congr 1; congr 1; omega))))) ?_
  rintro _ _ ⟨rfl, w1, w2, rfl⟩
  refine z_aload_n dCls_byOrder_12 rfl ?_
  refine z_callVN MV_Row_isOrder lk_Cls_237 dCls_byOrder_13 (k_Row_isOrder hrA) rfl rfl (Nat.le_of_ble_eq_true rfl) rfl (by assumption) (Nat.le_of_ble_eq_true rfl) (Nat.le_of_ble_eq_true rfl) (Nat.le_of_eq (Nat.zero_add _)) (Nat.le_of_eq (Nat.zero_add _)) (fun _ _ q => q.elim) ?_
  rintro _ _ ⟨b9, rfl, (⟨rfl, m1⟩ | ⟨rfl, m1⟩), rfl⟩
  all_goals unfold zOrd at m1
  · refine z_if_ne (tgt := 24) dCls_byOrder_16 (by decide) (by omega) (fun c16 => ?_) (fun c16 => ?_)
    · refine z_iload_n dCls_byOrder_24 rfl ?_
      rcases (show w = 0 ∨ w = 1 ∨ w = 2 by omega) with rfl | rfl | rfl
      · refine z_lookup (tgt := 52) (off := 27) dCls_byOrder_25 (by omega) (by decide) (by decide) (by decide) ?_
        refine z_aload_n dCls_byOrder_52 rfl ?_
        refine z_get (k := 2) fd_Cls (by decide) fl_Cls_24 dCls_byOrder_53 (by assumption) (by rfl) ?_
        refine z_aload_n dCls_byOrder_56 rfl ?_
        refine z_callVN MV_Rec_costBy lk_Cls_241 dCls_byOrder_57 (k_Rec_costBy hrA c5 c6) rfl rfl (Nat.le_of_ble_eq_true rfl) rfl (by assumption) (Nat.le_of_ble_eq_true rfl) (Nat.le_of_ble_eq_true rfl) (Nat.le_of_eq (Nat.zero_add _)) (Nat.le_of_eq (Nat.zero_add _)) (fun _ _ q => q.elim) ?_
        rintro _ _ ⟨rfl, rfl⟩
        rw [zCost_cg d6]
        refine z_iret rfl rfl dCls_byOrder_60 ?_
        first
          | (exfalso; omega)
          | exact zQc.mk (by assumption) (by first | exact zFrm.rf | assumption) (by unfold sp_byOrder; (try unfold spPut); (try simp only [Int.toNat_natCast]); (repeat (first | rw [if_pos (by omega)] | rw [if_neg (by omega)] | rw [if_pos (by assumption)] | rw [if_neg (by assumption)] | rw [if_pos (True.intro : True)])); all_goals (first | rfl | (congr 2; omega) | (congr 1; congr 1; omega)))
      · refine z_lookup (tgt := 61) (off := 36) dCls_byOrder_25 (by omega) (by decide) (by decide) (by decide) ?_
        refine z_aload_n dCls_byOrder_61 rfl ?_
        refine z_callVN MV_Row_inversions lk_Cls_244 dCls_byOrder_62 (k_Row_inversions hrA) rfl rfl (Nat.le_of_ble_eq_true rfl) rfl (by assumption) (Nat.le_of_ble_eq_true rfl) (Nat.le_of_ble_eq_true rfl) (Nat.le_of_eq (Nat.zero_add _)) (Nat.le_of_eq (Nat.zero_add _)) (fun _ _ q => q.elim) ?_
        rintro _ _ ⟨rfl, rfl⟩
        refine z_iret rfl rfl dCls_byOrder_65 ?_
        first
          | (exfalso; omega)
          | exact zQc.mk (by assumption) (by first | exact zFrm.rf | assumption) (by unfold sp_byOrder; (try unfold spPut); (try simp only [Int.toNat_natCast]); (repeat (first | rw [if_pos (by omega)] | rw [if_neg (by omega)] | rw [if_pos (by assumption)] | rw [if_neg (by assumption)] | rw [if_pos (True.intro : True)])); all_goals (first | rfl | (congr 2; omega) | (congr 1; congr 1; omega)))
      · refine z_lookup (tgt := 66) (off := 41) dCls_byOrder_25 (by omega) (by decide) (by decide) (by decide) ?_
        refine z_aload_n dCls_byOrder_66 rfl ?_
        refine z_get (k := 2) fd_Cls (by decide) fl_Cls_24 dCls_byOrder_67 (by assumption) (by rfl) ?_
        refine z_aload_n dCls_byOrder_70 rfl ?_
        refine z_callVN MV_Rec_boundBy lk_Cls_247 dCls_byOrder_71 (k_Rec_boundBy hrA c5 c6) rfl rfl (Nat.le_of_ble_eq_true rfl) rfl (by assumption) (Nat.le_of_ble_eq_true rfl) (Nat.le_of_ble_eq_true rfl) (Nat.le_of_eq (Nat.zero_add _)) (Nat.le_of_eq (Nat.zero_add _)) (fun _ _ q => q.elim) ?_
        rintro _ _ ⟨rfl, rfl⟩
        rw [zCost_cg d6]
        refine z_iret rfl rfl dCls_byOrder_74 ?_
        first
          | (exfalso; omega)
          | exact zQc.mk (by assumption) (by first | exact zFrm.rf | assumption) (by unfold sp_byOrder; (try unfold spPut); (try simp only [Int.toNat_natCast]); (repeat (first | rw [if_pos (by omega)] | rw [if_neg (by omega)] | rw [if_pos (by assumption)] | rw [if_neg (by assumption)] | rw [if_pos (True.intro : True)])); all_goals (first | rfl | (congr 2; omega) | (congr 1; congr 1; omega)))
    · refine z_aload_n dCls_byOrder_19 rfl ?_
      refine z_callV MV_Cls_refuse lk_Cls_54 dCls_byOrder_20 (k_Cls_refuse (by assumption)) rfl rfl (Nat.le_of_ble_eq_true rfl) rfl (by assumption) (Nat.le_of_ble_eq_true rfl) (Nat.le_of_ble_eq_true rfl) (Nat.le_of_eq (Nat.zero_add _)) (Nat.le_of_eq (Nat.zero_add _)) (fun _ _ q => q.elim) ?_
      rintro _ h9 ⟨rfl, hC9, fz9⟩
      refine z_iret rfl rfl dCls_byOrder_23 ?_
      first
        | (exfalso; omega)
        | exact zQc.mk (by assumption) (by first | exact zFrm.rf | assumption) (by unfold sp_byOrder; (try unfold spPut); (try simp only [Int.toNat_natCast]); (repeat (first | rw [if_pos (by omega)] | rw [if_neg (by omega)] | rw [if_pos (by assumption)] | rw [if_neg (by assumption)] | rw [if_pos (True.intro : True)])); all_goals (first | rfl | (congr 2; omega) | (congr 1; congr 1; omega)))
  · refine z_if_ne (tgt := 24) dCls_byOrder_16 (by decide) (by omega) (fun c16 => ?_) (fun c16 => ?_)
    · refine z_iload_n dCls_byOrder_24 rfl ?_
      rcases (show w = 0 ∨ w = 1 ∨ w = 2 by omega) with rfl | rfl | rfl
      · refine z_lookup (tgt := 52) (off := 27) dCls_byOrder_25 (by omega) (by decide) (by decide) (by decide) ?_
        refine z_aload_n dCls_byOrder_52 rfl ?_
        refine z_get (k := 2) fd_Cls (by decide) fl_Cls_24 dCls_byOrder_53 (by assumption) (by rfl) ?_
        refine z_aload_n dCls_byOrder_56 rfl ?_
        refine z_callVN MV_Rec_costBy lk_Cls_241 dCls_byOrder_57 (k_Rec_costBy hrA c5 c6) rfl rfl (Nat.le_of_ble_eq_true rfl) rfl (by assumption) (Nat.le_of_ble_eq_true rfl) (Nat.le_of_ble_eq_true rfl) (Nat.le_of_eq (Nat.zero_add _)) (Nat.le_of_eq (Nat.zero_add _)) (fun _ _ q => q.elim) ?_
        rintro _ _ ⟨rfl, rfl⟩
        rw [zCost_cg d6]
        refine z_iret rfl rfl dCls_byOrder_60 ?_
        first
          | (exfalso; omega)
          | exact zQc.mk (by assumption) (by first | exact zFrm.rf | assumption) (by unfold sp_byOrder; (try unfold spPut); (try simp only [Int.toNat_natCast]); (repeat (first | rw [if_pos (by omega)] | rw [if_neg (by omega)] | rw [if_pos (by assumption)] | rw [if_neg (by assumption)] | rw [if_pos (True.intro : True)])); all_goals (first | rfl | (congr 2; omega) | (congr 1; congr 1; omega)))
      · refine z_lookup (tgt := 61) (off := 36) dCls_byOrder_25 (by omega) (by decide) (by decide) (by decide) ?_
        refine z_aload_n dCls_byOrder_61 rfl ?_
        refine z_callVN MV_Row_inversions lk_Cls_244 dCls_byOrder_62 (k_Row_inversions hrA) rfl rfl (Nat.le_of_ble_eq_true rfl) rfl (by assumption) (Nat.le_of_ble_eq_true rfl) (Nat.le_of_ble_eq_true rfl) (Nat.le_of_eq (Nat.zero_add _)) (Nat.le_of_eq (Nat.zero_add _)) (fun _ _ q => q.elim) ?_
        rintro _ _ ⟨rfl, rfl⟩
        refine z_iret rfl rfl dCls_byOrder_65 ?_
        first
          | (exfalso; omega)
          | exact zQc.mk (by assumption) (by first | exact zFrm.rf | assumption) (by unfold sp_byOrder; (try unfold spPut); (try simp only [Int.toNat_natCast]); (repeat (first | rw [if_pos (by omega)] | rw [if_neg (by omega)] | rw [if_pos (by assumption)] | rw [if_neg (by assumption)] | rw [if_pos (True.intro : True)])); all_goals (first | rfl | (congr 2; omega) | (congr 1; congr 1; omega)))
      · refine z_lookup (tgt := 66) (off := 41) dCls_byOrder_25 (by omega) (by decide) (by decide) (by decide) ?_
        refine z_aload_n dCls_byOrder_66 rfl ?_
        refine z_get (k := 2) fd_Cls (by decide) fl_Cls_24 dCls_byOrder_67 (by assumption) (by rfl) ?_
        refine z_aload_n dCls_byOrder_70 rfl ?_
        refine z_callVN MV_Rec_boundBy lk_Cls_247 dCls_byOrder_71 (k_Rec_boundBy hrA c5 c6) rfl rfl (Nat.le_of_ble_eq_true rfl) rfl (by assumption) (Nat.le_of_ble_eq_true rfl) (Nat.le_of_ble_eq_true rfl) (Nat.le_of_eq (Nat.zero_add _)) (Nat.le_of_eq (Nat.zero_add _)) (fun _ _ q => q.elim) ?_
        rintro _ _ ⟨rfl, rfl⟩
        rw [zCost_cg d6]
        refine z_iret rfl rfl dCls_byOrder_74 ?_
        first
          | (exfalso; omega)
          | exact zQc.mk (by assumption) (by first | exact zFrm.rf | assumption) (by unfold sp_byOrder; (try unfold spPut); (try simp only [Int.toNat_natCast]); (repeat (first | rw [if_pos (by omega)] | rw [if_neg (by omega)] | rw [if_pos (by assumption)] | rw [if_neg (by assumption)] | rw [if_pos (True.intro : True)])); all_goals (first | rfl | (congr 2; omega) | (congr 1; congr 1; omega)))
    · refine z_aload_n dCls_byOrder_19 rfl ?_
      refine z_callV MV_Cls_refuse lk_Cls_54 dCls_byOrder_20 (k_Cls_refuse (by assumption)) rfl rfl (Nat.le_of_ble_eq_true rfl) rfl (by assumption) (Nat.le_of_ble_eq_true rfl) (Nat.le_of_ble_eq_true rfl) (Nat.le_of_eq (Nat.zero_add _)) (Nat.le_of_eq (Nat.zero_add _)) (fun _ _ q => q.elim) ?_
      rintro _ h9 ⟨rfl, hC9, fz9⟩
      refine z_iret rfl rfl dCls_byOrder_23 ?_
      first
        | (exfalso; omega)
        | exact zQc.mk (by assumption) (by first | exact zFrm.rf | assumption) (by unfold sp_byOrder; (try unfold spPut); (try simp only [Int.toNat_natCast]); (repeat (first | rw [if_pos (by omega)] | rw [if_neg (by omega)] | rw [if_pos (by assumption)] | rw [if_neg (by assumption)] | rw [if_pos (True.intro : True)])); all_goals (first | rfl | (congr 2; omega) | (congr 1; congr 1; omega)))
end CLS10
