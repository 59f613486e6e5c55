/-! ===== the start: what the tables and the premises say of the classes, the statics and the constants ===== -/
theorem ws_sub {args : Array Value} {s : State} {C : String} {y z : MethodName} (hz : z.cls = y.cls) (hy : y.cls ≠ "java/lang/invoke/MethodHandle" ∧ y.cls ≠ "java/lang/invoke/VarHandle") (h0 : (Cond.selects C z z).before args s = true) (hpriv : (Cond.privateMethod y).before args s = true) (hinst : (Cond.instanceMethod y).before args s = true) : (Cond.selects C y y).before args s = true := by
  obtain ⟨c2, r2, m2, q1, q2, q3, q4, kP, hkP, hkPi⟩ := Cond.selects_spec h0
  obtain ⟨mk, methM, hnamed, hmethM, -, -⟩ := Cond.instanceMethod_spec hinst
  have hfound : s.methodFound? y.cls y.name y.desc = some mk := State.methodFound?_of_named hnamed hy
  have e1 := findClass_of_methodNamed q3
  rw [hz] at e1
  have hcls : m2.cls = mk.cls := Option.some.inj (e1.symm.trans (findClass_of_methodNamed hnamed))
  rw [hcls] at hkP
  have hsel : selectMethod {} s.vm c2 mk = .method mk := selectMethod_private hmethM (Cond.privateMethod_at hpriv mk methM hnamed hmethM)
  simp only [Cond.before, Cond.holds, Cond.value, q1, hfound, hnamed, hsel, hkP]
  simp
  exact hkPi
def zDO : List Int32 := [48, 49, 50, 51, 52, 53, 54, 55, 56, 57, 48, 49, 50, 51, 52, 53, 54, 55, 56, 57, 48, 49, 50, 51, 52, 53, 54, 55, 56, 57, 48, 49, 50, 51, 52, 53, 54, 55, 56, 57, 48, 49, 50, 51, 52, 53, 54, 55, 56, 57, 48, 49, 50, 51, 52, 53, 54, 55, 56, 57, 48, 49, 50, 51, 52, 53, 54, 55, 56, 57, 48, 49, 50, 51, 52, 53, 54, 55, 56, 57, 48, 49, 50, 51, 52, 53, 54, 55, 56, 57, 48, 49, 50, 51, 52, 53, 54, 55, 56, 57]
def zDT : List Int32 := [48, 48, 48, 48, 48, 48, 48, 48, 48, 48, 49, 49, 49, 49, 49, 49, 49, 49, 49, 49, 50, 50, 50, 50, 50, 50, 50, 50, 50, 50, 51, 51, 51, 51, 51, 51, 51, 51, 51, 51, 52, 52, 52, 52, 52, 52, 52, 52, 52, 52, 53, 53, 53, 53, 53, 53, 53, 53, 53, 53, 54, 54, 54, 54, 54, 54, 54, 54, 54, 54, 55, 55, 55, 55, 55, 55, 55, 55, 55, 55, 56, 56, 56, 56, 56, 56, 56, 56, 56, 56, 57, 57, 57, 57, 57, 57, 57, 57, 57, 57]
abbrev zFl0 : List Cond := flatC (Jvm.Cond.and given_1 narrow_1)
theorem zm_texts : ∀ q ∈ zTexts, Cond.stringRef q.1 q.2.1 q.2.2 ∈ lw_tbl ∧ Cond.exactly (.string q.1 q.2.1) "java/lang/String" ∈ zFl0 := by decide +kernel
theorem zm_ncs : ∀ q ∈ zNcs, Cond.not (.castable q.1 q.2) ∈ zFl0 := by decide +kernel
theorem z_run {Ls : List Cond} {N p : Nat} {f : Nat → Cond} (h : (List.range N).map f = (Ls.drop p).take N) (j : Nat) (hj : j < N) : f j ∈ Ls := by
  have h1 : f j ∈ (List.range N).map f := List.mem_map.mpr ⟨j, List.mem_range.mpr hj, rfl⟩
  rw [h] at h1
  exact List.mem_of_mem_drop (List.mem_of_mem_take h1)
theorem zm_do : ∀ j, j < 100 → Cond.eq (.elem (.static "java/lang/Integer" "DigitOnes" "[B") (.int (Int32.ofNat j))) (.int (zDO.getD j 0)) ∈ zFl0 := z_run (p := 12) (by decide +kernel)
theorem zm_dt : ∀ j, j < 100 → Cond.eq (.elem (.static "java/lang/Integer" "DigitTens" "[B") (.int (Int32.ofNat j))) (.int (zDT.getD j 0)) ∈ zFl0 := z_run (p := 115) (by decide +kernel)
theorem zm_sub : ∀ y ∈ zSbP, y.cls = yAsb_isLatin1_aae02.cls ∧ (y.cls ≠ "java/lang/invoke/MethodHandle" ∧ y.cls ≠ "java/lang/invoke/VarHandle") ∧ Cond.privateMethod y ∈ lw_tbl ∧ Cond.instanceMethod y ∈ lw_tbl := by decide +kernel
section LAW5
variable {s : State} {b : Nat}
/-- a string constant of the model's, by its premises -/
theorem z_str {k : Nat} {tx : String} {n : Nat} {f : Nat → Int32} (hn : n < 2 ^ 31) (h1 : (Cond.stringRef "CursorlistModel" k tx).before #[Value.ref b] s = true) (hex : (Cond.exactly (.string "CursorlistModel" k) "java/lang/String").before #[Value.ref b] s = true) (hco : (Cond.eq (.field (.string "CursorlistModel" k) "java/lang/String" "coder" "B") (.int 0)).before #[Value.ref b] s = true)
    (har : (Cond.arrayOf (.field (.string "CursorlistModel" k) "java/lang/String" "value" "[B") .byte).before #[Value.ref b] s = true) (hlen : (Cond.eq (.length (.field (.string "CursorlistModel" k) "java/lang/String" "value" "[B")) (.int (Int32.ofNat n))).before #[Value.ref b] s = true) (hel : ∀ j, j < n → (Cond.eq (.elem (.field (.string "CursorlistModel" k) "java/lang/String" "value" "[B") (.int (Int32.ofNat j))) (.int (f j))).before #[Value.ref b] s = true) :
    ∃ a t : Nat, vk_R "CursorlistModel" k tx a s ∧ va_O "java/lang/String" a (fun q => s.heap.size ≤ q) s s.heap ∧ va_OF "java/lang/String" "coder" "B" (.int 0) a (fun q => s.heap.size ≤ q) s s.heap ∧ va_OF "java/lang/String" "value" "[B" (.ref t) a (fun q => s.heap.size ≤ q) s s.heap ∧ va_T .byte t n (fun j => .int (f j)) (fun q => s.heap.size ≤ q) s s.heap := by
  have hA : ∀ a : Nat, a < s.heap.size → ¬ (s.heap.size ≤ a) := fun a h q => by omega
  obtain ⟨a, c, cA, kA, q1, q2, q3, q4, q5, q6, -⟩ := Cond.exactly_spec hex
  obtain ⟨t, ht, hT⟩ := va_Tof (A := fun q => s.heap.size ≤ q) (f := fun j => .int (f j)) hn har (va_eqt hlen) (fun j hj => va_eqt (hel j hj)) hA
  exact ⟨a, t, vk_R.of h1 q1, ⟨cA, q3, q5, by rw [q6]; exact q2, hA a (Array.getElem?_eq_some_iff.mp q3).1⟩, vk_OFof q1 (va_eqt hco) hA, vk_OFof q1 ht hA, hT⟩
theorem zS_start (hts : ∀ w ∈ lw_tbl, w.before #[Value.ref b] s = true) (hs : ∀ c ∈ zFl0, c.before #[Value.ref b] s = true) : ∃ G : zG, G.2.2 = s.heap.size ∧ zS G s s.heap := by
  have hA : ∀ a : Nat, a < s.heap.size → ¬ (s.heap.size ≤ a) := fun a h q => by omega
  have hz : ∀ w ∈ zWS, w.before #[Value.ref b] s = true := fun w hw => hts w (List.mem_filter.mp hw).1
  have hk : ∀ c : Nat, ∃ r : ClassId × (Nat → Nat), ∀ q, vwCl[c]? = some q → u_Kn s q.1 q.2.1 q.2.2 r.1 r.2 := fun c => match c with
    | 0 => by
      obtain ⟨cC, iS, h⟩ := u_known hz fd_Str.2.1 (hz _ im_Str)
      exact ⟨(cC, iS), fun q hq => by cases hq; exact h⟩
    | 1 => by
      obtain ⟨cC, iS, h⟩ := u_known hz fd_Sbd.2.1 (hz _ im_Sbd)
      exact ⟨(cC, iS), fun q hq => by cases hq; exact h⟩
    | 2 => by
      obtain ⟨cC, iS, h⟩ := u_known hz fd_Cur.2.1 (hz _ im_Cur)
      exact ⟨(cC, iS), fun q hq => by cases hq; exact h⟩
    | 3 => by
      obtain ⟨cC, iS, h⟩ := u_known hz fd_Rec.2.1 (hz _ im_Rec)
      exact ⟨(cC, iS), fun q hq => by cases hq; exact h⟩
    | 4 => by
      obtain ⟨cC, iS, h⟩ := u_known hz fd_Row.2.1 (hz _ im_Row)
      exact ⟨(cC, iS), fun q hq => by cases hq; exact h⟩
    | 5 => by
      obtain ⟨cC, iS, h⟩ := u_known hz fd_Cls.2.1 (hz _ im_Cls)
      exact ⟨(cC, iS), fun q hq => by cases hq; exact h⟩
    | 6 => by
      obtain ⟨cC, iS, h⟩ := u_known hz fd_Out.2.1 (hz _ im_Out)
      exact ⟨(cC, iS), fun q hq => by cases hq; exact h⟩
    | 7 => by
      obtain ⟨cC, iS, h⟩ := u_known hz fd_Mod.2.1 (hz _ im_Mod)
      exact ⟨(cC, iS), fun q hq => by cases hq; exact h⟩
    | n + 8 => ⟨(0, fun _ => 0), fun q hq => by simp at hq⟩
  obtain ⟨D, hD⟩ := Classical.axiomOfChoice hk
  obtain ⟨cI, kI, coI, fI, gI, eI⟩ := Cond.arrayClass_spec (hz _ ac_int)
  obtain ⟨cZ, kZ, coZ, fZ, gZ, eZ⟩ := Cond.arrayClass_spec (hz _ ac_boolean)
  obtain ⟨cB, kB, coB, fB, gB, eB⟩ := Cond.arrayClass_spec (hz _ ac_byte)
  obtain ⟨cL, kL, coL, fL, gL, eL⟩ := Cond.arrayClass_spec (hz _ ac_long)
  have hAOA : va_AOA .int s := hts (.arrayOver (.array .int)) (by decide +kernel)
  obtain ⟨coA, cA, kA, fA, iA, gA, eA, nA⟩ := hAOA.spec
  have hR9 := hts (.arrayOver (.object "Cursorlist$Row")) (by decide +kernel)
  have hC9 := hts (.arrayOver (.object "Cursorlist$Cursor")) (by decide +kernel)
  obtain ⟨coR, cR, kR, fR, iR, gR, eR, nR⟩ := Cond.arrayOver_spec hR9
  obtain ⟨coC, cC, kC, fC, iC, gC, eC, nC⟩ := Cond.arrayOver_spec hC9
  obtain ⟨a7, t8, s1, s2, s3, s4, s5⟩ := z_str (b := b) (k := zkE) (tx := "") (n := 0) (f := fun _ => 32) (by decide) (hts _ (by decide +kernel)) (hs _ (by decide +kernel)) (hs _ (by decide +kernel)) (hs _ (by decide +kernel)) (hs _ (by decide +kernel)) (fun j hj => absurd hj (Nat.not_lt_zero j))
  obtain ⟨a9, t10, r1, r2, r3, r4, r5⟩ := z_str (b := b) (k := zkB) (tx := " ") (n := 1) (f := fun _ => 32) (by decide) (hts _ (by decide +kernel)) (hs _ (by decide +kernel)) (hs _ (by decide +kernel)) (hs _ (by decide +kernel)) (hs _ (by decide +kernel)) (fun j hj => match j, hj with | 0, _ => hs _ (by decide +kernel))
  obtain ⟨tO, vO, TO⟩ := va_Tof (args := #[Value.ref b]) (A := fun q => s.heap.size ≤ q) (N := 100) (ty := .byte) (tm := .static "java/lang/Integer" "DigitOnes" "[B") (f := fun j => .int (zDO.getD j 0)) (by decide) (hs _ (by decide +kernel)) (va_eqt (z := Int32.ofNat 100) (hs _ (by decide +kernel))) (fun j hj => va_eqt (hs _ (zm_do j hj))) hA
  obtain ⟨tT, vT, TT⟩ := va_Tof (args := #[Value.ref b]) (A := fun q => s.heap.size ≤ q) (N := 100) (ty := .byte) (tm := .static "java/lang/Integer" "DigitTens" "[B") (f := fun j => .int (zDT.getD j 0)) (by decide) (hs _ (by decide +kernel)) (va_eqt (z := Int32.ofNat 100) (hs _ (by decide +kernel))) (fun j hj => va_eqt (hs _ (zm_dt j hj))) hA
  let ids : Nat → Nat := fun j => match j with
    | 0 => cI
    | 1 => cZ
    | 2 => cB
    | 3 => cL
    | 4 => cA
    | 5 => cR
    | 6 => cC
    | 7 => a7
    | 8 => t8
    | 9 => a9
    | 10 => t10
    | 11 => tO
    | _ => tT
  refine ⟨((fun c => (D c).1, fun c => (D c).2), ids, s.heap.size), rfl, ⟨fun c q hq => hD c q hq, fun k q hq => ?_⟩, ⟨kA, kI, coI, gA, ?_, gI, eI⟩, fun w hw => ?_, fun q hq => ?_, fun q hq => va_Nc.of (hs _ (zm_ncs q hq)), ?_, ?_, va_AO.of hR9, va_AO.of hC9, hAOA, ?_, ?_, ⟨_, ?_, TO⟩, ⟨_, ?_, TT⟩, ⟨_, s1, s2, s3, s4, s5, fun j hj => absurd hj (Nat.not_lt_zero j)⟩, ⟨_, r1, r2, r3, r4, r5, fun j hj => rfl⟩, fun y hy => ?_⟩
  · match k, hq with
    | 0, hq => cases hq; exact ⟨fun n z => ⟨(fun k h => by cases h), kI, gI, coI, eI⟩, fI⟩
    | 1, hq => cases hq; exact ⟨fun n z => ⟨(fun k h => by cases h), kZ, gZ, coZ, eZ⟩, fZ⟩
    | 2, hq => cases hq; exact ⟨fun n z => ⟨(fun k h => by cases h), kB, gB, coB, eB⟩, fB⟩
    | 3, hq => cases hq; exact ⟨fun n z => ⟨(fun k h => by cases h), kL, gL, coL, eL⟩, fL⟩
    | 4, hq => cases hq; exact ⟨fun n z => ⟨(fun k h => by cases h), kA, gA, coA, eA⟩, nA⟩
    | 5, hq => cases hq; exact ⟨fun n z => ⟨(fun k h => by cases h), kR, gR, coR, eR⟩, kR, coR, gR, eR, fR, nR⟩
    | 6, hq => cases hq; exact ⟨fun n z => ⟨(fun k h => by cases h), kC, gC, coC, eC⟩, kC, coC, gC, eC, fC, nC⟩
    | n + 7, hq => simp [zTys] at hq
  · have e9 : coA = cI := Option.some.inj (fA.symm.trans fI)
    rw [eA, e9]
    rfl
  · have h1 := List.mem_filter.mp hw
    have h2 := hts w h1.1
    have h3 : zIsN w = true := h1.2
    cases w <;> first | exact va_Nw.of rfl h2 | (simp [zIsN] at h3)
  · obtain ⟨a, c, cA, kA, q1, q2, q3, q4, q5, q6, -⟩ := Cond.exactly_spec (hs _ (zm_texts q hq).2)
    exact ⟨a, vk_R.of (hts _ (zm_texts q hq).1) q1⟩
  · exact vx_Zqof (hts _ (by decide +kernel)) (hts _ (by decide +kernel)) (hs _ (by decide +kernel)) hA
  · exact vx_Zqof (hts _ (by decide +kernel)) (hts _ (by decide +kernel)) (hs _ (by decide +kernel)) hA
  · exact va_Zof (hts _ (by decide +kernel)) (hts _ (by decide +kernel)) (va_eqi (z := 1) (hs _ (by decide +kernel))) hA
  · exact va_Zqof (hts _ (by decide +kernel)) (hts _ (by decide +kernel)) (hs _ (by decide +kernel)) hA
  · exact va_Zof (hts _ (by decide +kernel)) (hts _ (by decide +kernel)) vO hA
  · exact va_Zof (hts _ (by decide +kernel)) (hts _ (by decide +kernel)) vT hA
  · obtain ⟨y1, y2, y3, y4⟩ := zm_sub y hy
    exact ws_sub (args := #[]) (z := yAsb_isLatin1_aae02) y1.symm y2 (hts (.selects "java/lang/StringBuilder" yAsb_isLatin1_aae02 yAsb_isLatin1_aae02) (by decide +kernel)) (hts _ y3) (hts _ y4)
end LAW5
