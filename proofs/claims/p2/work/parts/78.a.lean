/-- from the entry the law comes to its end with true -/
theorem whole_start {p : Program} {e : Env} {s : State} {m : MethodId} {below : List Frame} {meth : Method} {c : Code} (l : Launch) (hflags : l.flags = flags0) (ht9 : c.exceptionTable.toList = []) {b L : Nat} {xs : Nat → Int32} (hL : L ≤ 2048) (C0 : lw_At p s m meth c b L xs) : W p l e room_1 s m #[Value.ref b] below meth c s.heap [] 0 0 (lw_Z below #[Value.ref b] s) (entryFrame m ([Value.ref b] : List Value).toArray 7) := by
  obtain ⟨hx, hb, hr, hml, hown, hts, hX, hbl, hlocks, hgv⟩ := C0
  have hs := flat_of_before _ hgv
  obtain ⟨G, hG, hZ⟩ := zS_start hts hs
  have hst : l.stackTraces = false := by
    show (!l.flags.contains noTraceFlag) = false
    rw [hflags]
    decide +kernel
  have hl0 := lv_entry ([.ref b]) (n := 7) (Nat.le_of_ble_eq_true rfl)
  rw [lg_entry_eq]
  have hC : zCx G l (zLJ G b L xs) p s m #[Value.ref b] meth c := ⟨hx, hb, hml, hr, ht9, (fun h => nomatch h), hown, fun w hw => hts w (List.mem_filter.mp hw).1, hlocks, hZ, hst, ⟨rfl, hG, hX, hbl, hL⟩, Nat.le_of_eq hG⟩
  exact l_Law_start hL p e s m #[Value.ref b] below meth c s.heap [] 0 0 _ hC ⟨Nat.le_of_eq hG, fun a e9 h9 => by cases h9⟩ va_S.rf ⟨hl0.1, hl0.2.1, fun q hq => hl0.2.2 q hq⟩ (Nat.le_of_ble_eq_true rfl) (Nat.le_of_ble_eq_true rfl)
