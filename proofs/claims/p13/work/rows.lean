section
-- ===== PART A: goes FIRST, ahead of the names: the tables' words, and 'selects' of the private methods out of them =====
/-- a private method of a class that the tables say can be made, by its rows of tables_1 -/
def lw_okq (q : MethodName × Nat) : Prop := (q.1.cls ≠ "java/lang/invoke/MethodHandle" ∧ q.1.cls ≠ "java/lang/invoke/VarHandle") ∧ Cond.instantiable q.1.cls q.2 ∈ tables_1 ∧ Cond.privateMethod q.1 ∈ tables_1 ∧ Cond.instanceMethod q.1 ∈ tables_1
theorem lw_p0 : lw_okq (⟨"Cursorlist$Recency", "begin", "()V"⟩, 5) := ⟨⟨by decide +kernel, by decide +kernel⟩, List.mem_of_getElem? (i := 37) (by decide +kernel), List.mem_of_getElem? (i := 58) (by decide +kernel), List.mem_of_getElem? (i := 59) (by decide +kernel)⟩
theorem lw_p1 : lw_okq (⟨"Cursorlist$Row", "becomePlaces", "(I)V"⟩, 2) := ⟨⟨by decide +kernel, by decide +kernel⟩, List.mem_of_getElem? (i := 43) (by decide +kernel), List.mem_of_getElem? (i := 62) (by decide +kernel), List.mem_of_getElem? (i := 63) (by decide +kernel)⟩
theorem lw_p2 : lw_okq (⟨"Cursorlist$Row", "addBehind", "(I)Z"⟩, 2) := ⟨⟨by decide +kernel, by decide +kernel⟩, List.mem_of_getElem? (i := 43) (by decide +kernel), List.mem_of_getElem? (i := 66) (by decide +kernel), List.mem_of_getElem? (i := 67) (by decide +kernel)⟩
theorem lw_p3 : lw_okq (⟨"Cursorlist$Row", "putIn", "(II)Z"⟩, 2) := ⟨⟨by decide +kernel, by decide +kernel⟩, List.mem_of_getElem? (i := 43) (by decide +kernel), List.mem_of_getElem? (i := 70) (by decide +kernel), List.mem_of_getElem? (i := 71) (by decide +kernel)⟩
theorem lw_p4 : lw_okq (⟨"Cursorlist$Row", "hasGap", "(I)Z"⟩, 2) := ⟨⟨by decide +kernel, by decide +kernel⟩, List.mem_of_getElem? (i := 43) (by decide +kernel), List.mem_of_getElem? (i := 74) (by decide +kernel), List.mem_of_getElem? (i := 75) (by decide +kernel)⟩
theorem lw_p5 : lw_okq (⟨"Cursorlist$Row", "joined", "(Z)Ljava/lang/String;"⟩, 2) := ⟨⟨by decide +kernel, by decide +kernel⟩, List.mem_of_getElem? (i := 43) (by decide +kernel), List.mem_of_getElem? (i := 153) (by decide +kernel), List.mem_of_getElem? (i := 154) (by decide +kernel)⟩
theorem lw_p6 : lw_okq (⟨"java/lang/Throwable", "fillInStackTrace", "(I)Ljava/lang/Throwable;"⟩, 6) := ⟨⟨by decide +kernel, by decide +kernel⟩, List.mem_of_getElem? (i := 392) (by decide +kernel), List.mem_of_getElem? (i := 390) (by decide +kernel), List.mem_of_getElem? (i := 391) (by decide +kernel)⟩
theorem lw_p7 : lw_okq (⟨"Cursorlist", "turnsBack", "(LCursorlist$Row;)Z"⟩, 6) := ⟨⟨by decide +kernel, by decide +kernel⟩, List.mem_of_getElem? (i := 25) (by decide +kernel), List.mem_of_getElem? (i := 495) (by decide +kernel), List.mem_of_getElem? (i := 496) (by decide +kernel)⟩
theorem lw_p8 : lw_okq (⟨"Cursorlist$Row", "become", "(LCursorlist$Row;)V"⟩, 2) := ⟨⟨by decide +kernel, by decide +kernel⟩, List.mem_of_getElem? (i := 43) (by decide +kernel), List.mem_of_getElem? (i := 499) (by decide +kernel), List.mem_of_getElem? (i := 500) (by decide +kernel)⟩
theorem lw_p9 : lw_okq (⟨"Cursorlist$Row", "turnRound", "()V"⟩, 2) := ⟨⟨by decide +kernel, by decide +kernel⟩, List.mem_of_getElem? (i := 43) (by decide +kernel), List.mem_of_getElem? (i := 503) (by decide +kernel), List.mem_of_getElem? (i := 504) (by decide +kernel)⟩
theorem lw_p10 : lw_okq (⟨"Cursorlist$Row", "exchange", "(II)V"⟩, 2) := ⟨⟨by decide +kernel, by decide +kernel⟩, List.mem_of_getElem? (i := 43) (by decide +kernel), List.mem_of_getElem? (i := 507) (by decide +kernel), List.mem_of_getElem? (i := 508) (by decide +kernel)⟩
theorem lw_p11 : lw_okq (⟨"Cursorlist$Row", "itemAt", "(I)I"⟩, 2) := ⟨⟨by decide +kernel, by decide +kernel⟩, List.mem_of_getElem? (i := 43) (by decide +kernel), List.mem_of_getElem? (i := 511) (by decide +kernel), List.mem_of_getElem? (i := 512) (by decide +kernel)⟩
theorem lw_p12 : lw_okq (⟨"Cursorlist$Row", "hasPlace", "(I)Z"⟩, 2) := ⟨⟨by decide +kernel, by decide +kernel⟩, List.mem_of_getElem? (i := 43) (by decide +kernel), List.mem_of_getElem? (i := 515) (by decide +kernel), List.mem_of_getElem? (i := 516) (by decide +kernel)⟩
theorem lw_p13 : lw_okq (⟨"Cursorlist$Row", "changeAt", "(II)V"⟩, 2) := ⟨⟨by decide +kernel, by decide +kernel⟩, List.mem_of_getElem? (i := 43) (by decide +kernel), List.mem_of_getElem? (i := 519) (by decide +kernel), List.mem_of_getElem? (i := 520) (by decide +kernel)⟩
theorem lw_p14 : lw_okq (⟨"Cursorlist$Row", "isAs", "(LCursorlist$Row;)Z"⟩, 2) := ⟨⟨by decide +kernel, by decide +kernel⟩, List.mem_of_getElem? (i := 43) (by decide +kernel), List.mem_of_getElem? (i := 523) (by decide +kernel), List.mem_of_getElem? (i := 524) (by decide +kernel)⟩
theorem lw_p15 : lw_okq (⟨"Cursorlist$Row", "turnBy", "(I)V"⟩, 2) := ⟨⟨by decide +kernel, by decide +kernel⟩, List.mem_of_getElem? (i := 43) (by decide +kernel), List.mem_of_getElem? (i := 527) (by decide +kernel), List.mem_of_getElem? (i := 528) (by decide +kernel)⟩
def lw_privs_1 : List (MethodName × Nat) := [(⟨"Cursorlist$Recency", "begin", "()V"⟩, 5), (⟨"Cursorlist$Row", "becomePlaces", "(I)V"⟩, 2), (⟨"Cursorlist$Row", "addBehind", "(I)Z"⟩, 2), (⟨"Cursorlist$Row", "putIn", "(II)Z"⟩, 2), (⟨"Cursorlist$Row", "hasGap", "(I)Z"⟩, 2), (⟨"Cursorlist$Row", "joined", "(Z)Ljava/lang/String;"⟩, 2), (⟨"java/lang/Throwable", "fillInStackTrace", "(I)Ljava/lang/Throwable;"⟩, 6), (⟨"Cursorlist", "turnsBack", "(LCursorlist$Row;)Z"⟩, 6), (⟨"Cursorlist$Row", "become", "(LCursorlist$Row;)V"⟩, 2), (⟨"Cursorlist$Row", "turnRound", "()V"⟩, 2), (⟨"Cursorlist$Row", "exchange", "(II)V"⟩, 2), (⟨"Cursorlist$Row", "itemAt", "(I)I"⟩, 2), (⟨"Cursorlist$Row", "hasPlace", "(I)Z"⟩, 2), (⟨"Cursorlist$Row", "changeAt", "(II)V"⟩, 2), (⟨"Cursorlist$Row", "isAs", "(LCursorlist$Row;)Z"⟩, 2), (⟨"Cursorlist$Row", "turnBy", "(I)V"⟩, 2)]
theorem lw_r1 : ∀ q ∈ lw_privs_1, lw_okq q := List.forall_mem_cons.mpr ⟨lw_p0, List.forall_mem_cons.mpr ⟨lw_p1, List.forall_mem_cons.mpr ⟨lw_p2, List.forall_mem_cons.mpr ⟨lw_p3, List.forall_mem_cons.mpr ⟨lw_p4, List.forall_mem_cons.mpr ⟨lw_p5, List.forall_mem_cons.mpr ⟨lw_p6, List.forall_mem_cons.mpr ⟨lw_p7, List.forall_mem_cons.mpr ⟨lw_p8, List.forall_mem_cons.mpr ⟨lw_p9, List.forall_mem_cons.mpr ⟨lw_p10, List.forall_mem_cons.mpr ⟨lw_p11, List.forall_mem_cons.mpr ⟨lw_p12, List.forall_mem_cons.mpr ⟨lw_p13, List.forall_mem_cons.mpr ⟨lw_p14, List.forall_mem_cons.mpr ⟨lw_p15, fun _ h => absurd h List.not_mem_nil⟩⟩⟩⟩⟩⟩⟩⟩⟩⟩⟩⟩⟩⟩⟩⟩
theorem lw_p16 : lw_okq (⟨"Cursorlist$Row", "takeOut", "(I)I"⟩, 2) := ⟨⟨by decide +kernel, by decide +kernel⟩, List.mem_of_getElem? (i := 43) (by decide +kernel), List.mem_of_getElem? (i := 534) (by decide +kernel), List.mem_of_getElem? (i := 535) (by decide +kernel)⟩
theorem lw_p17 : lw_okq (⟨"Cursorlist", "addsUp", "(LCursorlist$Row;LCursorlist$Row;)Z"⟩, 6) := ⟨⟨by decide +kernel, by decide +kernel⟩, List.mem_of_getElem? (i := 25) (by decide +kernel), List.mem_of_getElem? (i := 538) (by decide +kernel), List.mem_of_getElem? (i := 539) (by decide +kernel)⟩
theorem lw_p18 : lw_okq (⟨"Cursorlist$Row", "becomeSum", "(LCursorlist$Row;LCursorlist$Row;)Z"⟩, 2) := ⟨⟨by decide +kernel, by decide +kernel⟩, List.mem_of_getElem? (i := 43) (by decide +kernel), List.mem_of_getElem? (i := 542) (by decide +kernel), List.mem_of_getElem? (i := 543) (by decide +kernel)⟩
theorem lw_p19 : lw_okq (⟨"Cursorlist", "agreesWithResult", "(LCursorlist$Row;LCursorlist$Row;Z)Z"⟩, 6) := ⟨⟨by decide +kernel, by decide +kernel⟩, List.mem_of_getElem? (i := 25) (by decide +kernel), List.mem_of_getElem? (i := 547) (by decide +kernel), List.mem_of_getElem? (i := 548) (by decide +kernel)⟩
theorem lw_p20 : lw_okq (⟨"Cursorlist", "isResultAt", "(LCursorlist$Row;LCursorlist$Row;ZI)Z"⟩, 6) := ⟨⟨by decide +kernel, by decide +kernel⟩, List.mem_of_getElem? (i := 25) (by decide +kernel), List.mem_of_getElem? (i := 551) (by decide +kernel), List.mem_of_getElem? (i := 552) (by decide +kernel)⟩
theorem lw_p21 : lw_okq (⟨"Cursorlist$Row", "restAt", "(I)I"⟩, 2) := ⟨⟨by decide +kernel, by decide +kernel⟩, List.mem_of_getElem? (i := 43) (by decide +kernel), List.mem_of_getElem? (i := 555) (by decide +kernel), List.mem_of_getElem? (i := 556) (by decide +kernel)⟩
theorem lw_p22 : lw_okq (⟨"Cursorlist$Row", "becomeProduct", "(LCursorlist$Row;LCursorlist$Row;)Z"⟩, 2) := ⟨⟨by decide +kernel, by decide +kernel⟩, List.mem_of_getElem? (i := 43) (by decide +kernel), List.mem_of_getElem? (i := 560) (by decide +kernel), List.mem_of_getElem? (i := 561) (by decide +kernel)⟩
theorem lw_p23 : lw_okq (⟨"Cursorlist", "isRecencySound", "()Z"⟩, 6) := ⟨⟨by decide +kernel, by decide +kernel⟩, List.mem_of_getElem? (i := 25) (by decide +kernel), List.mem_of_getElem? (i := 567) (by decide +kernel), List.mem_of_getElem? (i := 568) (by decide +kernel)⟩
theorem lw_p24 : lw_okq (⟨"Cursorlist$Row", "isOrder", "()Z"⟩, 2) := ⟨⟨by decide +kernel, by decide +kernel⟩, List.mem_of_getElem? (i := 43) (by decide +kernel), List.mem_of_getElem? (i := 571) (by decide +kernel), List.mem_of_getElem? (i := 572) (by decide +kernel)⟩
theorem lw_p25 : lw_okq (⟨"Cursorlist$Row", "placeOf", "(IZ)I"⟩, 2) := ⟨⟨by decide +kernel, by decide +kernel⟩, List.mem_of_getElem? (i := 43) (by decide +kernel), List.mem_of_getElem? (i := 575) (by decide +kernel), List.mem_of_getElem? (i := 576) (by decide +kernel)⟩
theorem lw_p26 : lw_okq (⟨"Cursorlist$Recency", "boundBy", "(LCursorlist$Row;)I"⟩, 5) := ⟨⟨by decide +kernel, by decide +kernel⟩, List.mem_of_getElem? (i := 37) (by decide +kernel), List.mem_of_getElem? (i := 579) (by decide +kernel), List.mem_of_getElem? (i := 580) (by decide +kernel)⟩
theorem lw_p27 : lw_okq (⟨"Cursorlist$Recency", "costBy", "(LCursorlist$Row;)I"⟩, 5) := ⟨⟨by decide +kernel, by decide +kernel⟩, List.mem_of_getElem? (i := 37) (by decide +kernel), List.mem_of_getElem? (i := 583) (by decide +kernel), List.mem_of_getElem? (i := 584) (by decide +kernel)⟩
theorem lw_p28 : lw_okq (⟨"Cursorlist$Row", "inversions", "()I"⟩, 2) := ⟨⟨by decide +kernel, by decide +kernel⟩, List.mem_of_getElem? (i := 43) (by decide +kernel), List.mem_of_getElem? (i := 588) (by decide +kernel), List.mem_of_getElem? (i := 589) (by decide +kernel)⟩
theorem lw_p29 : lw_okq (⟨"Cursorlist", "itemsOfAll", "()I"⟩, 6) := ⟨⟨by decide +kernel, by decide +kernel⟩, List.mem_of_getElem? (i := 25) (by decide +kernel), List.mem_of_getElem? (i := 607) (by decide +kernel), List.mem_of_getElem? (i := 608) (by decide +kernel)⟩
theorem lw_p30 : lw_okq (⟨"Cursorlist", "cursorsThere", "()I"⟩, 6) := ⟨⟨by decide +kernel, by decide +kernel⟩, List.mem_of_getElem? (i := 25) (by decide +kernel), List.mem_of_getElem? (i := 611) (by decide +kernel), List.mem_of_getElem? (i := 612) (by decide +kernel)⟩
theorem lw_p31 : lw_okq (⟨"Cursorlist", "cursorsStale", "()I"⟩, 6) := ⟨⟨by decide +kernel, by decide +kernel⟩, List.mem_of_getElem? (i := 25) (by decide +kernel), List.mem_of_getElem? (i := 618) (by decide +kernel), List.mem_of_getElem? (i := 619) (by decide +kernel)⟩
def lw_privs_2 : List (MethodName × Nat) := [(⟨"Cursorlist$Row", "takeOut", "(I)I"⟩, 2), (⟨"Cursorlist", "addsUp", "(LCursorlist$Row;LCursorlist$Row;)Z"⟩, 6), (⟨"Cursorlist$Row", "becomeSum", "(LCursorlist$Row;LCursorlist$Row;)Z"⟩, 2), (⟨"Cursorlist", "agreesWithResult", "(LCursorlist$Row;LCursorlist$Row;Z)Z"⟩, 6), (⟨"Cursorlist", "isResultAt", "(LCursorlist$Row;LCursorlist$Row;ZI)Z"⟩, 6), (⟨"Cursorlist$Row", "restAt", "(I)I"⟩, 2), (⟨"Cursorlist$Row", "becomeProduct", "(LCursorlist$Row;LCursorlist$Row;)Z"⟩, 2), (⟨"Cursorlist", "isRecencySound", "()Z"⟩, 6), (⟨"Cursorlist$Row", "isOrder", "()Z"⟩, 2), (⟨"Cursorlist$Row", "placeOf", "(IZ)I"⟩, 2), (⟨"Cursorlist$Recency", "boundBy", "(LCursorlist$Row;)I"⟩, 5), (⟨"Cursorlist$Recency", "costBy", "(LCursorlist$Row;)I"⟩, 5), (⟨"Cursorlist$Row", "inversions", "()I"⟩, 2), (⟨"Cursorlist", "itemsOfAll", "()I"⟩, 6), (⟨"Cursorlist", "cursorsThere", "()I"⟩, 6), (⟨"Cursorlist", "cursorsStale", "()I"⟩, 6)]
theorem lw_r2 : ∀ q ∈ lw_privs_2, lw_okq q := List.forall_mem_cons.mpr ⟨lw_p16, List.forall_mem_cons.mpr ⟨lw_p17, List.forall_mem_cons.mpr ⟨lw_p18, List.forall_mem_cons.mpr ⟨lw_p19, List.forall_mem_cons.mpr ⟨lw_p20, List.forall_mem_cons.mpr ⟨lw_p21, List.forall_mem_cons.mpr ⟨lw_p22, List.forall_mem_cons.mpr ⟨lw_p23, List.forall_mem_cons.mpr ⟨lw_p24, List.forall_mem_cons.mpr ⟨lw_p25, List.forall_mem_cons.mpr ⟨lw_p26, List.forall_mem_cons.mpr ⟨lw_p27, List.forall_mem_cons.mpr ⟨lw_p28, List.forall_mem_cons.mpr ⟨lw_p29, List.forall_mem_cons.mpr ⟨lw_p30, List.forall_mem_cons.mpr ⟨lw_p31, fun _ h => absurd h List.not_mem_nil⟩⟩⟩⟩⟩⟩⟩⟩⟩⟩⟩⟩⟩⟩⟩⟩
theorem lw_p32 : lw_okq (⟨"Cursorlist$Row", "lastNotZero", "()I"⟩, 2) := ⟨⟨by decide +kernel, by decide +kernel⟩, List.mem_of_getElem? (i := 43) (by decide +kernel), List.mem_of_getElem? (i := 633) (by decide +kernel), List.mem_of_getElem? (i := 634) (by decide +kernel)⟩
theorem lw_p33 : lw_okq (⟨"Cursorlist", "cursorAt", "(I)LCursorlist$Cursor;"⟩, 6) := ⟨⟨by decide +kernel, by decide +kernel⟩, List.mem_of_getElem? (i := 25) (by decide +kernel), List.mem_of_getElem? (i := 641) (by decide +kernel), List.mem_of_getElem? (i := 642) (by decide +kernel)⟩
theorem lw_p34 : lw_okq (⟨"Cursorlist", "whereIs", "(LCursorlist$Cursor;I)I"⟩, 6) := ⟨⟨by decide +kernel, by decide +kernel⟩, List.mem_of_getElem? (i := 25) (by decide +kernel), List.mem_of_getElem? (i := 661) (by decide +kernel), List.mem_of_getElem? (i := 662) (by decide +kernel)⟩
theorem lw_p35 : lw_okq (⟨"Cursorlist", "rowUnder", "(LCursorlist$Cursor;)LCursorlist$Row;"⟩, 6) := ⟨⟨by decide +kernel, by decide +kernel⟩, List.mem_of_getElem? (i := 25) (by decide +kernel), List.mem_of_getElem? (i := 665) (by decide +kernel), List.mem_of_getElem? (i := 666) (by decide +kernel)⟩
theorem lw_p36 : lw_okq (⟨"Cursorlist", "listAt", "(I)LCursorlist$Row;"⟩, 6) := ⟨⟨by decide +kernel, by decide +kernel⟩, List.mem_of_getElem? (i := 25) (by decide +kernel), List.mem_of_getElem? (i := 669) (by decide +kernel), List.mem_of_getElem? (i := 670) (by decide +kernel)⟩
theorem lw_p37 : lw_okq (⟨"Cursorlist", "mixedWithOrder", "(JLCursorlist$Row;)J"⟩, 6) := ⟨⟨by decide +kernel, by decide +kernel⟩, List.mem_of_getElem? (i := 25) (by decide +kernel), List.mem_of_getElem? (i := 678) (by decide +kernel), List.mem_of_getElem? (i := 679) (by decide +kernel)⟩
theorem lw_p38 : lw_okq (⟨"Cursorlist", "putInto", "(III)I"⟩, 6) := ⟨⟨by decide +kernel, by decide +kernel⟩, List.mem_of_getElem? (i := 25) (by decide +kernel), List.mem_of_getElem? (i := 710) (by decide +kernel), List.mem_of_getElem? (i := 711) (by decide +kernel)⟩
theorem lw_p39 : lw_okq (⟨"Cursorlist", "refuse", "()I"⟩, 6) := ⟨⟨by decide +kernel, by decide +kernel⟩, List.mem_of_getElem? (i := 25) (by decide +kernel), List.mem_of_getElem? (i := 715) (by decide +kernel), List.mem_of_getElem? (i := 716) (by decide +kernel)⟩
theorem lw_p40 : lw_okq (⟨"Cursorlist", "makeStale", "(II)V"⟩, 6) := ⟨⟨by decide +kernel, by decide +kernel⟩, List.mem_of_getElem? (i := 25) (by decide +kernel), List.mem_of_getElem? (i := 720) (by decide +kernel), List.mem_of_getElem? (i := 721) (by decide +kernel)⟩
theorem lw_p41 : lw_okq (⟨"Cursorlist", "takeFrom", "(II)I"⟩, 6) := ⟨⟨by decide +kernel, by decide +kernel⟩, List.mem_of_getElem? (i := 25) (by decide +kernel), List.mem_of_getElem? (i := 734) (by decide +kernel), List.mem_of_getElem? (i := 735) (by decide +kernel)⟩
theorem lw_p42 : lw_okq (⟨"Cursorlist$Row", "takeOutAll", "(I)I"⟩, 2) := ⟨⟨by decide +kernel, by decide +kernel⟩, List.mem_of_getElem? (i := 43) (by decide +kernel), List.mem_of_getElem? (i := 800) (by decide +kernel), List.mem_of_getElem? (i := 801) (by decide +kernel)⟩
theorem lw_p43 : lw_okq (⟨"Cursorlist$Row", "becomeJoined", "(LCursorlist$Row;ILCursorlist$Row;)Z"⟩, 2) := ⟨⟨by decide +kernel, by decide +kernel⟩, List.mem_of_getElem? (i := 43) (by decide +kernel), List.mem_of_getElem? (i := 846) (by decide +kernel), List.mem_of_getElem? (i := 847) (by decide +kernel)⟩
theorem lw_p44 : lw_okq (⟨"Cursorlist", "becomeResult", "(IZ)I"⟩, 6) := ⟨⟨by decide +kernel, by decide +kernel⟩, List.mem_of_getElem? (i := 25) (by decide +kernel), List.mem_of_getElem? (i := 851) (by decide +kernel), List.mem_of_getElem? (i := 852) (by decide +kernel)⟩
theorem lw_p45 : lw_okq (⟨"Cursorlist$Row", "becomeThrough", "(LCursorlist$Row;LCursorlist$Row;)Z"⟩, 2) := ⟨⟨by decide +kernel, by decide +kernel⟩, List.mem_of_getElem? (i := 43) (by decide +kernel), List.mem_of_getElem? (i := 916) (by decide +kernel), List.mem_of_getElem? (i := 917) (by decide +kernel)⟩
theorem lw_p46 : lw_okq (⟨"Cursorlist$Cursor", "begin", "(II)V"⟩, 5) := ⟨⟨by decide +kernel, by decide +kernel⟩, List.mem_of_getElem? (i := 98) (by decide +kernel), List.mem_of_getElem? (i := 941) (by decide +kernel), List.mem_of_getElem? (i := 942) (by decide +kernel)⟩
theorem lw_p47 : lw_okq (⟨"Cursorlist$Cursor", "stepForth", "(LCursorlist$Row;)I"⟩, 5) := ⟨⟨by decide +kernel, by decide +kernel⟩, List.mem_of_getElem? (i := 98) (by decide +kernel), List.mem_of_getElem? (i := 979) (by decide +kernel), List.mem_of_getElem? (i := 980) (by decide +kernel)⟩
def lw_privs_3 : List (MethodName × Nat) := [(⟨"Cursorlist$Row", "lastNotZero", "()I"⟩, 2), (⟨"Cursorlist", "cursorAt", "(I)LCursorlist$Cursor;"⟩, 6), (⟨"Cursorlist", "whereIs", "(LCursorlist$Cursor;I)I"⟩, 6), (⟨"Cursorlist", "rowUnder", "(LCursorlist$Cursor;)LCursorlist$Row;"⟩, 6), (⟨"Cursorlist", "listAt", "(I)LCursorlist$Row;"⟩, 6), (⟨"Cursorlist", "mixedWithOrder", "(JLCursorlist$Row;)J"⟩, 6), (⟨"Cursorlist", "putInto", "(III)I"⟩, 6), (⟨"Cursorlist", "refuse", "()I"⟩, 6), (⟨"Cursorlist", "makeStale", "(II)V"⟩, 6), (⟨"Cursorlist", "takeFrom", "(II)I"⟩, 6), (⟨"Cursorlist$Row", "takeOutAll", "(I)I"⟩, 2), (⟨"Cursorlist$Row", "becomeJoined", "(LCursorlist$Row;ILCursorlist$Row;)Z"⟩, 2), (⟨"Cursorlist", "becomeResult", "(IZ)I"⟩, 6), (⟨"Cursorlist$Row", "becomeThrough", "(LCursorlist$Row;LCursorlist$Row;)Z"⟩, 2), (⟨"Cursorlist$Cursor", "begin", "(II)V"⟩, 5), (⟨"Cursorlist$Cursor", "stepForth", "(LCursorlist$Row;)I"⟩, 5)]
theorem lw_r3 : ∀ q ∈ lw_privs_3, lw_okq q := List.forall_mem_cons.mpr ⟨lw_p32, List.forall_mem_cons.mpr ⟨lw_p33, List.forall_mem_cons.mpr ⟨lw_p34, List.forall_mem_cons.mpr ⟨lw_p35, List.forall_mem_cons.mpr ⟨lw_p36, List.forall_mem_cons.mpr ⟨lw_p37, List.forall_mem_cons.mpr ⟨lw_p38, List.forall_mem_cons.mpr ⟨lw_p39, List.forall_mem_cons.mpr ⟨lw_p40, List.forall_mem_cons.mpr ⟨lw_p41, List.forall_mem_cons.mpr ⟨lw_p42, List.forall_mem_cons.mpr ⟨lw_p43, List.forall_mem_cons.mpr ⟨lw_p44, List.forall_mem_cons.mpr ⟨lw_p45, List.forall_mem_cons.mpr ⟨lw_p46, List.forall_mem_cons.mpr ⟨lw_p47, fun _ h => absurd h List.not_mem_nil⟩⟩⟩⟩⟩⟩⟩⟩⟩⟩⟩⟩⟩⟩⟩⟩
theorem lw_p48 : lw_okq (⟨"Cursorlist$Cursor", "stepBack", "(LCursorlist$Row;)I"⟩, 5) := ⟨⟨by decide +kernel, by decide +kernel⟩, List.mem_of_getElem? (i := 98) (by decide +kernel), List.mem_of_getElem? (i := 992) (by decide +kernel), List.mem_of_getElem? (i := 993) (by decide +kernel)⟩
theorem lw_p49 : lw_okq (⟨"Cursorlist$Cursor", "putHere", "(LCursorlist$Row;I)Z"⟩, 5) := ⟨⟨by decide +kernel, by decide +kernel⟩, List.mem_of_getElem? (i := 98) (by decide +kernel), List.mem_of_getElem? (i := 1003) (by decide +kernel), List.mem_of_getElem? (i := 1004) (by decide +kernel)⟩
theorem lw_p50 : lw_okq (⟨"Cursorlist$Cursor", "cutLast", "(LCursorlist$Row;)V"⟩, 5) := ⟨⟨by decide +kernel, by decide +kernel⟩, List.mem_of_getElem? (i := 98) (by decide +kernel), List.mem_of_getElem? (i := 1015) (by decide +kernel), List.mem_of_getElem? (i := 1016) (by decide +kernel)⟩
theorem lw_p51 : lw_okq (⟨"Cursorlist$Row", "becomeDerived", "(LCursorlist$Row;)Z"⟩, 2) := ⟨⟨by decide +kernel, by decide +kernel⟩, List.mem_of_getElem? (i := 43) (by decide +kernel), List.mem_of_getElem? (i := 1077) (by decide +kernel), List.mem_of_getElem? (i := 1078) (by decide +kernel)⟩
theorem lw_p52 : lw_okq (⟨"Cursorlist$Recency", "bringAhead", "(I)I"⟩, 5) := ⟨⟨by decide +kernel, by decide +kernel⟩, List.mem_of_getElem? (i := 37) (by decide +kernel), List.mem_of_getElem? (i := 1103) (by decide +kernel), List.mem_of_getElem? (i := 1104) (by decide +kernel)⟩
theorem lw_p53 : lw_okq (⟨"CursorlistModel", "fails", "(ZZZ)Z"⟩, 13) := ⟨⟨by decide +kernel, by decide +kernel⟩, List.mem_of_getElem? (i := 1124) (by decide +kernel), List.mem_of_getElem? (i := 1190) (by decide +kernel), List.mem_of_getElem? (i := 1191) (by decide +kernel)⟩
theorem lw_p54 : lw_okq (⟨"CursorlistModel", "refused", "()I"⟩, 13) := ⟨⟨by decide +kernel, by decide +kernel⟩, List.mem_of_getElem? (i := 1124) (by decide +kernel), List.mem_of_getElem? (i := 1194) (by decide +kernel), List.mem_of_getElem? (i := 1195) (by decide +kernel)⟩
theorem lw_p55 : lw_okq (⟨"CursorlistModel", "becomes", "(I[I)I"⟩, 13) := ⟨⟨by decide +kernel, by decide +kernel⟩, List.mem_of_getElem? (i := 1124) (by decide +kernel), List.mem_of_getElem? (i := 1202) (by decide +kernel), List.mem_of_getElem? (i := 1203) (by decide +kernel)⟩
theorem lw_p56 : lw_okq (⟨"CursorlistModel", "become", "(I[II)V"⟩, 13) := ⟨⟨by decide +kernel, by decide +kernel⟩, List.mem_of_getElem? (i := 1124) (by decide +kernel), List.mem_of_getElem? (i := 1206) (by decide +kernel), List.mem_of_getElem? (i := 1207) (by decide +kernel)⟩
theorem lw_p57 : lw_okq (⟨"CursorlistModel", "isNoPlace", "(II)Z"⟩, 13) := ⟨⟨by decide +kernel, by decide +kernel⟩, List.mem_of_getElem? (i := 1124) (by decide +kernel), List.mem_of_getElem? (i := 1228) (by decide +kernel), List.mem_of_getElem? (i := 1229) (by decide +kernel)⟩
theorem lw_p58 : lw_okq (⟨"CursorlistModel", "joins", "(III)I"⟩, 13) := ⟨⟨by decide +kernel, by decide +kernel⟩, List.mem_of_getElem? (i := 1124) (by decide +kernel), List.mem_of_getElem? (i := 1293) (by decide +kernel), List.mem_of_getElem? (i := 1294) (by decide +kernel)⟩
theorem lw_p59 : lw_okq (⟨"CursorlistModel", "first", "(I)I"⟩, 13) := ⟨⟨by decide +kernel, by decide +kernel⟩, List.mem_of_getElem? (i := 1124) (by decide +kernel), List.mem_of_getElem? (i := 1319) (by decide +kernel), List.mem_of_getElem? (i := 1320) (by decide +kernel)⟩
theorem lw_p60 : lw_okq (⟨"CursorlistModel", "asksOn", "(IZ)I"⟩, 13) := ⟨⟨by decide +kernel, by decide +kernel⟩, List.mem_of_getElem? (i := 1124) (by decide +kernel), List.mem_of_getElem? (i := 1365) (by decide +kernel), List.mem_of_getElem? (i := 1366) (by decide +kernel)⟩
theorem lw_p61 : lw_okq (⟨"CursorlistModel", "isNotThere", "(I)Z"⟩, 13) := ⟨⟨by decide +kernel, by decide +kernel⟩, List.mem_of_getElem? (i := 1124) (by decide +kernel), List.mem_of_getElem? (i := 1369) (by decide +kernel), List.mem_of_getElem? (i := 1370) (by decide +kernel)⟩
theorem lw_p62 : lw_okq (⟨"CursorlistModel", "goes", "(IZ)I"⟩, 13) := ⟨⟨by decide +kernel, by decide +kernel⟩, List.mem_of_getElem? (i := 1124) (by decide +kernel), List.mem_of_getElem? (i := 1373) (by decide +kernel), List.mem_of_getElem? (i := 1374) (by decide +kernel)⟩
theorem lw_p63 : lw_okq (⟨"CursorlistModel", "ofCursorNow", "(II)I"⟩, 13) := ⟨⟨by decide +kernel, by decide +kernel⟩, List.mem_of_getElem? (i := 1124) (by decide +kernel), List.mem_of_getElem? (i := 1401) (by decide +kernel), List.mem_of_getElem? (i := 1402) (by decide +kernel)⟩
def lw_privs_4 : List (MethodName × Nat) := [(⟨"Cursorlist$Cursor", "stepBack", "(LCursorlist$Row;)I"⟩, 5), (⟨"Cursorlist$Cursor", "putHere", "(LCursorlist$Row;I)Z"⟩, 5), (⟨"Cursorlist$Cursor", "cutLast", "(LCursorlist$Row;)V"⟩, 5), (⟨"Cursorlist$Row", "becomeDerived", "(LCursorlist$Row;)Z"⟩, 2), (⟨"Cursorlist$Recency", "bringAhead", "(I)I"⟩, 5), (⟨"CursorlistModel", "fails", "(ZZZ)Z"⟩, 13), (⟨"CursorlistModel", "refused", "()I"⟩, 13), (⟨"CursorlistModel", "becomes", "(I[I)I"⟩, 13), (⟨"CursorlistModel", "become", "(I[II)V"⟩, 13), (⟨"CursorlistModel", "isNoPlace", "(II)Z"⟩, 13), (⟨"CursorlistModel", "joins", "(III)I"⟩, 13), (⟨"CursorlistModel", "first", "(I)I"⟩, 13), (⟨"CursorlistModel", "asksOn", "(IZ)I"⟩, 13), (⟨"CursorlistModel", "isNotThere", "(I)Z"⟩, 13), (⟨"CursorlistModel", "goes", "(IZ)I"⟩, 13), (⟨"CursorlistModel", "ofCursorNow", "(II)I"⟩, 13)]
theorem lw_r4 : ∀ q ∈ lw_privs_4, lw_okq q := List.forall_mem_cons.mpr ⟨lw_p48, List.forall_mem_cons.mpr ⟨lw_p49, List.forall_mem_cons.mpr ⟨lw_p50, List.forall_mem_cons.mpr ⟨lw_p51, List.forall_mem_cons.mpr ⟨lw_p52, List.forall_mem_cons.mpr ⟨lw_p53, List.forall_mem_cons.mpr ⟨lw_p54, List.forall_mem_cons.mpr ⟨lw_p55, List.forall_mem_cons.mpr ⟨lw_p56, List.forall_mem_cons.mpr ⟨lw_p57, List.forall_mem_cons.mpr ⟨lw_p58, List.forall_mem_cons.mpr ⟨lw_p59, List.forall_mem_cons.mpr ⟨lw_p60, List.forall_mem_cons.mpr ⟨lw_p61, List.forall_mem_cons.mpr ⟨lw_p62, List.forall_mem_cons.mpr ⟨lw_p63, fun _ h => absurd h List.not_mem_nil⟩⟩⟩⟩⟩⟩⟩⟩⟩⟩⟩⟩⟩⟩⟩⟩
theorem lw_p64 : lw_okq (⟨"CursorlistModel", "fits", "(I[J)I"⟩, 13) := ⟨⟨by decide +kernel, by decide +kernel⟩, List.mem_of_getElem? (i := 1124) (by decide +kernel), List.mem_of_getElem? (i := 1409) (by decide +kernel), List.mem_of_getElem? (i := 1410) (by decide +kernel)⟩
theorem lw_p65 : lw_okq (⟨"CursorlistModel", "askedNow", "(I)I"⟩, 13) := ⟨⟨by decide +kernel, by decide +kernel⟩, List.mem_of_getElem? (i := 1124) (by decide +kernel), List.mem_of_getElem? (i := 1465) (by decide +kernel), List.mem_of_getElem? (i := 1466) (by decide +kernel)⟩
theorem lw_p66 : lw_okq (⟨"CursorlistModel", "byOrderNow", "([II)I"⟩, 13) := ⟨⟨by decide +kernel, by decide +kernel⟩, List.mem_of_getElem? (i := 1124) (by decide +kernel), List.mem_of_getElem? (i := 1480) (by decide +kernel), List.mem_of_getElem? (i := 1481) (by decide +kernel)⟩
theorem lw_p67 : lw_okq (⟨"CursorlistModel", "houseNow", "(I)I"⟩, 13) := ⟨⟨by decide +kernel, by decide +kernel⟩, List.mem_of_getElem? (i := 1124) (by decide +kernel), List.mem_of_getElem? (i := 1488) (by decide +kernel), List.mem_of_getElem? (i := 1489) (by decide +kernel)⟩
def lw_privs_5 : List (MethodName × Nat) := [(⟨"CursorlistModel", "fits", "(I[J)I"⟩, 13), (⟨"CursorlistModel", "askedNow", "(I)I"⟩, 13), (⟨"CursorlistModel", "byOrderNow", "([II)I"⟩, 13), (⟨"CursorlistModel", "houseNow", "(I)I"⟩, 13)]
theorem lw_r5 : ∀ q ∈ lw_privs_5, lw_okq q := List.forall_mem_cons.mpr ⟨lw_p64, List.forall_mem_cons.mpr ⟨lw_p65, List.forall_mem_cons.mpr ⟨lw_p66, List.forall_mem_cons.mpr ⟨lw_p67, fun _ h => absurd h List.not_mem_nil⟩⟩⟩⟩
def lw_privs : List (MethodName × Nat) := lw_privs_1 ++ (lw_privs_2 ++ (lw_privs_3 ++ (lw_privs_4 ++ (lw_privs_5))))
def lw_tbl : List Cond := k2_sels lw_privs ++ tables_1
theorem lw_privs_ok : ∀ q ∈ lw_privs, lw_okq q := by
  show ∀ q ∈ lw_privs_1 ++ (lw_privs_2 ++ (lw_privs_3 ++ (lw_privs_4 ++ (lw_privs_5)))), lw_okq q
  exact List.forall_mem_append.mpr ⟨lw_r1, List.forall_mem_append.mpr ⟨lw_r2, List.forall_mem_append.mpr ⟨lw_r3, List.forall_mem_append.mpr ⟨lw_r4, lw_r5⟩⟩⟩⟩
end
section
/-! ===== BEGIN words of one list among another's, by their places ===== -/
theorem goodIn_r {big : List Cond} (ws : List Cond) (ps : List Nat) (hp : ws = ps.filterMap (fun i => big[i]?)) (h : ws.all goodWord = true) : GoodIn big ws := by
  intro w hw
  have h1 := List.all_eq_true.mp h w hw
  rw [hp] at hw
  obtain ⟨i, -, hi⟩ := List.mem_filterMap.mp hw
  have hm : w ∈ big := by first | exact List.mem_of_getElem? hi | exact List.getElem?_mem hi
  exact ⟨hm, good_of_word h1⟩
theorem goodIn_app {big a b : List Cond} (ha : GoodIn big a) (hb : GoodIn big b) : GoodIn big (a ++ b) := fun w h => (List.mem_append.mp h).elim (ha w) (hb w)
theorem goodIn_ca {big a b : List Cond} {c : Cond} (ha : GoodIn big (c :: a)) (hb : GoodIn big b) : GoodIn big (c :: (a ++ b)) := fun w h => (List.mem_cons.mp h).elim (fun e => ha w (List.mem_cons.mpr (Or.inl e))) (fun h => (List.mem_append.mp h).elim (fun h => ha w (List.mem_cons.mpr (Or.inr h))) (hb w))
theorem goodIn_sub {big ws : List Cond} (hm : ∀ w ∈ ws, w ∈ big) (h : ws.all goodWord = true) : GoodIn big ws := fun w hw => ⟨hm w hw, good_of_word (List.all_eq_true.mp h w hw)⟩
/-! ===== END ===== -/
/-! ===== BEGIN exceptions that leave a method, and their catching by the caller (launches without stack traces) ===== -/
section VXA
/-! The laws vx_back, vx_callV, vx_callS, vx_callSW, vx_throw0, vx_throwS follow proofs of the library, with one case more: JvmDerived/Free/Laws.lean (Back.of_free), Shelf42/LK1.lean (callV, callS), Shelf/KitTraced.lean (throwNew0V, throwNewS). -/
/-- where a method has thrown q: the class by its name, the cell, what was written, the world -/
def vx_T (XC : String → State → State → Prop) (st : State) (q : Addr) (t : State) (mc ms : Nat) (free : Addr → Prop) : Prop :=
  ∃ (E : String) (ce : Cell) (L : List Loc), XC E st t ∧ t.heap[q]? = some ce ∧ ce.vm = .none ∧ st.vm.findClass E = some ce.cls ∧ st.WarmedH t.vm ∧ st.sameButNew ({ t with vm := st.vm } : State) L mc ms ∧ ∀ z ∈ L, free z.base
def vx_Q (Qc : Array Value → State → Outcome → State → Prop) (XC : String → State → State → Prop) (mc ms : Nat) (free : Addr → Prop) : Array Value → State → Outcome → State → Prop := fun a st o t =>
  (Qc a st o t ∧ ∃ L, FrameEnd st o t L mc ms ∧ ∀ q ∈ L, free q.base) ∨ ∃ q, o = .threw q ∧ vx_T XC st q t mc ms free
/-- a callee that returns or throws -/
def vx_Met (l : Launch) (y : MethodName) (ws : List Cond) (rm : Room) (Pc : Array Value → State → Prop) (Qc : Array Value → State → Outcome → State → Prop) (XC : String → State → State → Prop) (mc ms : Nat) (free : Addr → Prop) : Prop :=
  MetFree l y (headSpec ws rm) Pc (fun _ _ _ _ _ => True) (vx_Q Qc XC mc ms free)
def vx_Post (XC : String → State → State → Prop) (mc ms : Nat) (free : Addr → Prop) : Pt → Array Value → Addr → Pt → Prop := fun A a q B =>
  ∃ (g : JFrame) (mk : MethodId) (t : State) (L : List Loc) (E : String) (ce : Cell), B.U.heap = t.heap ∧ B.U.vm = t.vm ∧ XC E (A.U.calling g mk a) t ∧ t.heap[q]? = some ce ∧ ce.vm = .none ∧ A.U.vm.findClass E = some ce.cls ∧ B.locs = A.locs ++ L ∧ (∀ z ∈ L, free z.base) ∧ B.cells = A.cells + mc ∧ B.slots = A.slots + ms
def vx_Back (l : Launch) (R : Room) (p : Program) (e : Env) (below : List Frame) (s : State) (sargs : Array Value) (y : MethodName) (len W9 : Nat)
    (Pre : Pt → Array Value → Prop) (Post : Pt → Array Value → Option Value → Pt → Prop) (PostX : Pt → Array Value → Addr → Pt → Prop) : Prop :=
  ∀ (m : MethodId) (meth : Method) (c : Code) (A : Pt) (g : JFrame) (ig : Instr) (mk : MethodId) (a : Array Value),
    Stand p l e R s m sargs below meth c A.U A.locs A.cells A.slots → g.method = m → g.locals.size = c.maxLocals → decode c.code g.pc = .ok (ig, len) →
    2 * g.monitorRoom + (g.stack.map fun v => v.category).sum ≤ W9 → A.U.methodNamed? y = some mk → Pre A a →
    (∃ (v : Option Value) (B : Pt), Stand p l e R s m sargs below meth c B.U B.locs B.cells B.slots ∧ Post A a v B ∧
      Steps p.tables e below (doInvoke e (A.U.setTop g) [] mk a).1 (B.U.setTop { g with pc := g.pc + len, stack := v.toList ++ g.stack })) ∨
    (∃ (q : Addr) (B : Pt), Stand p l e R s m sargs below meth c B.U B.locs B.cells B.slots ∧ PostX A a q B ∧
      Steps p.tables e below (doInvoke e (A.U.setTop g) [] mk a).1 ((B.U.setTop g).pushFrame (.throwing q)))
section Payer
variable {l : Launch} {R : Room} {p : Program} {e : Env} {below : List Frame} {s : State} {sargs : Array Value} {y : MethodName} {len W9 : Nat}
theorem vx_back {ws : List Cond} {rm : Room} {Pc : Array Value → State → Prop} {Qc : Array Value → State → Outcome → State → Prop} {XC : String → State → State → Prop} {mc ms : Nat} {free : Addr → Prop} {bytes : ByteArray} {maxL : Nat} {ret : Option FieldType}
    (hM : vx_Met l y ws rm Pc Qc XC mc ms free) (hblind : FrameBlind Pc) (hrc : rm.cells = mc) (hrs : rm.slots = ms)
    (hframes : rm.frames + 1 ≤ R.frames) (hlocals : W9 + (maxL + 11) + rm.locals ≤ R.locals)
    (hws : ∀ w ∈ ws, ∀ a' U, s.WarmedH U.vm → w.before a' U = true) (hcode : Cond.code y bytes maxL ret ∈ ws) (hinit : ∀ a' U, s.WarmedH U.vm → (Cond.initialized y.cls).before a' U = true) :
    vx_Back l R p e below s sargs y len W9 (PreOf R mc ms Pc) (PostOf Qc mc ms free) (vx_Post XC mc ms free) := by
  intro m meth c A g ig mk a X hg hsize hdg hW hn hp
  have h1 : (headSpec ws rm).pre.before a A.U = true := atoms_intro fun w hw => hws w hw _ _ X.warmed
  have h2 : (Cond.code y bytes maxL ret).before a A.U = true := hws _ hcode _ _ X.warmed
  have h3 : (Cond.initialized y.cls).before a A.U = true := hinit _ _ X.warmed
  have h4 : A.cells + (headSpec ws rm).room.cells ≤ R.cells := by rw [show (headSpec ws rm).room.cells = mc from hrc]; exact hp.1
  have h5 : A.slots + (headSpec ws rm).room.slots ≤ R.slots := by rw [show (headSpec ws rm).room.slots = ms from hrs]; exact hp.2.1
  have hPc : Pc a (A.U.calling g mk a) := hblind _ _ _ _ hp.2.2
  obtain ⟨U, Ls, c0, s0⟩ := A
  dsimp only [Pt.U, Pt.locs, Pt.cells, Pt.slots] at h1 h2 h3 h4 h5 X hn hPc ⊢
  obtain ⟨methY, cY, hmY, hcY, -, hlY, -, -, -, -⟩ := Cond.code_spec hn h2
  obtain ⟨kY, hkY, -⟩ := className_of_methodNamed hn
  have hinitY : kY.init = .initialized := Cond.initialized_spec (findClass_of_methodNamed hn) hkY h3
  have h : At U g.method c below := by rw [hg]; exact X.here
  have hlocals9 : W9 + (maxL + 11) + (headSpec ws rm).room.locals ≤ R.locals := hlocals
  have happ : (headSpec ws rm).appliesLoose y e.platform (U.calling g mk a) = true :=
    Spec.appliesLoose_calling (g := g) h hdg hn hkY hinitY
      (X.room_calling (g := g) (R' := (headSpec ws rm).room) hsize hmY hcY hframes (by rw [hlY]; omega) h4 h5) h1
  obtain ⟨mid, hmid⟩ := h.above
  have hfr : (U.setTop g).frames = (.java g :: mid) ++ below := by rw [State.frames_setTop' g h.top, hmid]; rfl
  obtain ⟨o, s₂, hsteps, -, hend, hq⟩ := Steps.callFree hM p X.admits X.cas X.clock (acts := []) hfr happ hPc trivial
  have hq' : vx_Q Qc XC mc ms free a (U.calling g mk a) o s₂ := hq
  rw [State.frames_setTop' g h.top] at hend
  obtain ⟨g₀, hg0⟩ := Option.isSome_iff_exists.mp h.top
  obtain ⟨r, hr⟩ := State.topJava?_eq_some.mp hg0
  have hr' : (({ U with heap := s₂.heap, slotsUsed := s₂.slotsUsed } : State).setVm s₂.vm).frames = .java g₀ :: r := hr
  rcases hq' with ⟨hqc, L, hfe, hL⟩ | ⟨q, rfl, E, ce, L, hx, hce, hcv, hcl, hW₂, hsm, hL⟩
  · obtain ⟨⟨v, rfl⟩, hW₂, e2, q2, q3, q4, q5, q6⟩ := id hfe
    have e3 : s₂ = ({ (U.calling g mk a).setFrames s₂.frames with heap := s₂.heap, slotsUsed := s₂.slotsUsed } : State).setVm s₂.vm := by
      have : s₂ = ({ s₂ with vm := (U.calling g mk a).vm } : State).setVm s₂.vm := rfl
      rw [e2] at this
      exact this
    obtain ⟨c₂, i₂, len₂, hc₂, hd₂, hf₂⟩ := hend
    have hW' : U.WarmedH s₂.vm := hW₂
    have hcc : c₂ = c := by
      have h1 : s₂.code? g.method = U.code? g.method := by
        rw [State.code?_eq, State.code?_eq, hW'.alike.method?]
      exact Option.some.inj (hc₂.symm.trans (h1.trans h.code))
    subst hcc
    have hlen : len₂ = len := by rw [hdg] at hd₂; cases hd₂; rfl
    subst hlen
    have hs₂ : s₂ = (({ U with heap := s₂.heap, slotsUsed := s₂.slotsUsed } : State).setVm s₂.vm).setTop { g with pc := g.pc + len₂, stack := v.toList ++ g.stack } := by
      refine e3.trans ?_
      rw [hf₂, State.calling_eq h.top, State.setFrames_setFrames, State.setTop_of_frames _ hr', hr]
      rfl
    have hsame : U.sameButNew ({ U with heap := s₂.heap, slotsUsed := s₂.slotsUsed } : State) L mc ms := by
      refine ⟨?_, q2, q3, q4, q5, q6⟩
      obtain ⟨t, ht, -⟩ := State.frames_cons hr
      show ({ U with heap := s₂.heap, slotsUsed := s₂.slotsUsed } : State) = { U.setFrames U.frames with heap := s₂.heap, slotsUsed := s₂.slotsUsed }
      rw [State.setFrames_self ht]
    subst hg
    refine Or.inl ⟨v, ⟨(({ U with heap := s₂.heap, slotsUsed := s₂.slotsUsed } : State).setVm s₂.vm), Ls ++ L, c0 + mc, s0 + ms⟩,
      ⟨X.admits, X.cas, X.clock, X.frames, X.room, X.hears, X.method, X.code, (X.here.setHeapUsed s₂.heap s₂.slotsUsed).setVm hW'.alike, X.tail, State.WarmedH.trans X.warmed hW', X.limits, X.bytes, X.same.trans (hsame.setVm s.vm)⟩,
      ⟨g, mk, s₂, L, rfl, rfl, hqc, rfl, hL, rfl, rfl⟩, ?_⟩
    show Steps p.tables e below _ ((({ U with heap := s₂.heap, slotsUsed := s₂.slotsUsed } : State).setVm s₂.vm).setTop { g with pc := g.pc + len₂, stack := v.toList ++ g.stack })
    rw [← hs₂]
    exact hsteps
  · obtain ⟨e2, q2, q3, q4, q5, q6⟩ := id hsm
    have e3 : s₂ = ({ (U.calling g mk a).setFrames s₂.frames with heap := s₂.heap, slotsUsed := s₂.slotsUsed } : State).setVm s₂.vm := by
      have : s₂ = ({ s₂ with vm := (U.calling g mk a).vm } : State).setVm s₂.vm := rfl
      rw [e2] at this
      exact this
    have hf₂ : s₂.frames = .throwing q :: .java g :: U.frames.tail := hend
    have hW' : U.WarmedH s₂.vm := hW₂
    have hs₂ : s₂ = ((({ U with heap := s₂.heap, slotsUsed := s₂.slotsUsed } : State).setVm s₂.vm).setTop g).pushFrame (.throwing q) := by
      refine e3.trans ?_
      rw [hf₂, State.calling_eq h.top, State.setFrames_setFrames, State.pushFrame, State.frames_setTop _ hr', State.setTop_of_frames _ hr', State.setFrames_setFrames, hr]
      rfl
    have hsame : U.sameButNew ({ U with heap := s₂.heap, slotsUsed := s₂.slotsUsed } : State) L mc ms := by
      refine ⟨?_, q2, q3, q4, q5, q6⟩
      obtain ⟨t, ht, -⟩ := State.frames_cons hr
      show ({ U with heap := s₂.heap, slotsUsed := s₂.slotsUsed } : State) = { U.setFrames U.frames with heap := s₂.heap, slotsUsed := s₂.slotsUsed }
      rw [State.setFrames_self ht]
    subst hg
    refine Or.inr ⟨q, ⟨(({ U with heap := s₂.heap, slotsUsed := s₂.slotsUsed } : State).setVm s₂.vm), Ls ++ L, c0 + mc, s0 + ms⟩,
      ⟨X.admits, X.cas, X.clock, X.frames, X.room, X.hears, X.method, X.code, (X.here.setHeapUsed s₂.heap s₂.slotsUsed).setVm hW'.alike, X.tail, State.WarmedH.trans X.warmed hW', X.limits, X.bytes, X.same.trans (hsame.setVm s.vm)⟩,
      ⟨g, mk, s₂, L, E, ce, rfl, rfl, hx, hce, hcv, hcl, rfl, hL, rfl, rfl⟩, ?_⟩
    show Steps p.tables e below _ (((({ U with heap := s₂.heap, slotsUsed := s₂.slotsUsed } : State).setVm s₂.vm).setTop g).pushFrame (.throwing q))
    rw [← hs₂]
    exact hsteps
end Payer
section Calls
variable {p : Program} {l : Launch} {e : Env} {R : Room} {s : State} {m : MethodId} {args : Array Value} {below : List Frame} {meth : Method} {c : Code} {T : State} {locs : List Loc} {cells slots : Nat}
theorem vx_callV (X : Stand p l e R s m args below meth c T locs cells slots) (hexec : p.tables.exec = Jvm.exec) {own C : String} {index : Nat} {y : MethodName} {bytes : ByteArray} {maxL : Nat} {ret : Option FieldType}
    (hown : s.vm.findClass own = some m.cls) (hlink : (Cond.methodLink own index y).before args s = true) (hinst : (Cond.instanceMethod y).before args s = true) (hsel : (Cond.selects C y y).before args s = true)
    (hcode : (Cond.code y bytes maxL ret).before args s = true) (hy : y.cls ≠ "java/lang/invoke/MethodHandle" ∧ y.cls ≠ "java/lang/invoke/VarHandle")
    {W9 : Nat} {Pre : Pt → Array Value → Prop} {Post : Pt → Array Value → Option Value → Pt → Prop} {PostX : Pt → Array Value → Addr → Pt → Prop} (hK : vx_Back l R p e below s args y 3 W9 Pre Post PostX)
    {b : Addr} {cellB : Cell} (hcell : T.heap[b]? = some cellB) (hobj : cellB.vm.isStatics = false) (hcls : s.vm.findClass C = some cellB.cls)
    {g : JFrame} (hg : g.method = m) (hsize : g.locals.size = c.maxLocals) {argsL rest : List Value} (hlen : ∀ sig, parseMethodDescriptor y.desc = some sig → argsL.length = sig.parameters.length)
    (hstack : g.stack = argsL.reverse ++ .ref b :: rest) (hW : 2 * g.monitorRoom + (rest.map fun v => v.category).sum ≤ W9) (hdg : decode c.code g.pc = .ok (.invokevirtual index, 3))
    (hpre : ∀ vm₁, s.WarmedH vm₁ → Pre ⟨T.setVm vm₁, locs, cells, slots⟩ (Value.ref b :: argsL).toArray) :
    (∃ (v : Option Value) (vm₁ : Vm) (B : Pt), s.WarmedH vm₁ ∧ Stand p l e R s m args below meth c B.U B.locs B.cells B.slots ∧ Post ⟨T.setVm vm₁, locs, cells, slots⟩ (Value.ref b :: argsL).toArray v B ∧
      ∀ target, Steps p.tables e below (B.U.setTop { g with pc := g.pc + 3, stack := v.toList ++ rest }) target → Steps p.tables e below (T.setTop g) target) ∨
    (∃ (q : Addr) (vm₁ : Vm) (B : Pt), s.WarmedH vm₁ ∧ Stand p l e R s m args below meth c B.U B.locs B.cells B.slots ∧ PostX ⟨T.setVm vm₁, locs, cells, slots⟩ (Value.ref b :: argsL).toArray q B ∧
      Steps p.tables e below (T.setTop g) ((B.U.setTop { g with stack := rest }).pushFrame (.throwing q))) := by
  obtain ⟨mk, methM, hnamed, hmethM, hstM, habM⟩ := Cond.instanceMethod_spec hinst
  obtain ⟨methM', cM, hmethM', -, -, -, -, -, -, hsigM⟩ := Cond.code_spec hnamed hcode
  cases hmethM.symm.trans hmethM'
  obtain ⟨c2, r2, m2, q1, q2, q3, q4, kP, hkP, hkPi⟩ := Cond.selects_spec hsel
  cases hcls.symm.trans q1
  cases (State.methodFound?_of_named hnamed hy).symm.trans q2
  cases hnamed.symm.trans q3
  have hselP : selectMethod e.platform s.vm cellB.cls mk = .method mk := by rw [Launch.admits_selectMethod X.admits]; exact q4
  obtain ⟨vm₁, X₁, hstep₁⟩ := X.invokevirtual hexec hown hlink hnamed hmethM hstM hkP hkPi hy (a := b) (cell := cellB) hcell
    (fun z h => by rw [h] at hobj; cases hobj) hselP hmethM habM hkP hkPi (g := g) hg (argsL := argsL) (rest := rest) (hlen _ hsigM) hstack hdg
  rcases hK m meth c ⟨T.setVm vm₁, locs, cells, slots⟩ { g with stack := rest } (.invokevirtual index) mk (Value.ref b :: argsL).toArray X₁ hg hsize hdg hW (X₁.named hnamed) (hpre vm₁ X₁.warmed) with ⟨v, B, X', hpost, hsteps⟩ | ⟨q, B, X', hpost, hsteps⟩
  · exact Or.inl ⟨v, vm₁, B, X₁.warmed, X', hpost, fun target h => hstep₁ _ fun acts => by rw [doInvoke_state]; exact hsteps.trans h⟩
  · exact Or.inr ⟨q, vm₁, B, X₁.warmed, X', hpost, hstep₁ _ fun acts => by rw [doInvoke_state]; exact hsteps⟩
theorem vx_callS (X : Stand p l e R s m args below meth c T locs cells slots) (hexec : p.tables.exec = Jvm.exec) {own : String} {index : Nat} {y : MethodName} {bytes : ByteArray} {maxL : Nat} {ret : Option FieldType}
    (hown : s.vm.findClass own = some m.cls) (hlink : (Cond.methodLink own index y).before args s = true) (hstat : (Cond.static y).before args s = true) (hinit : (Cond.initialized y.cls).before args s = true)
    (hcode : (Cond.code y bytes maxL ret).before args s = true) (hy : y.cls ≠ "java/lang/invoke/MethodHandle" ∧ y.cls ≠ "java/lang/invoke/VarHandle")
    {W9 : Nat} {Pre : Pt → Array Value → Prop} {Post : Pt → Array Value → Option Value → Pt → Prop} {PostX : Pt → Array Value → Addr → Pt → Prop} (hK : vx_Back l R p e below s args y 3 W9 Pre Post PostX)
    {g : JFrame} (hg : g.method = m) (hsize : g.locals.size = c.maxLocals) {argsL rest : List Value} (hlen : ∀ sig, parseMethodDescriptor y.desc = some sig → argsL.length = sig.parameters.length)
    (hstack : g.stack = argsL.reverse ++ rest) (hW : 2 * g.monitorRoom + (rest.map fun v => v.category).sum ≤ W9) (hdg : decode c.code g.pc = .ok (.invokestatic index, 3))
    (hpre : ∀ vm₁, s.WarmedH vm₁ → Pre ⟨T.setVm vm₁, locs, cells, slots⟩ argsL.toArray) :
    (∃ (v : Option Value) (vm₁ : Vm) (B : Pt), s.WarmedH vm₁ ∧ Stand p l e R s m args below meth c B.U B.locs B.cells B.slots ∧ Post ⟨T.setVm vm₁, locs, cells, slots⟩ argsL.toArray v B ∧
      ∀ target, Steps p.tables e below (B.U.setTop { g with pc := g.pc + 3, stack := v.toList ++ rest }) target → Steps p.tables e below (T.setTop g) target) ∨
    (∃ (q : Addr) (vm₁ : Vm) (B : Pt), s.WarmedH vm₁ ∧ Stand p l e R s m args below meth c B.U B.locs B.cells B.slots ∧ PostX ⟨T.setVm vm₁, locs, cells, slots⟩ argsL.toArray q B ∧
      Steps p.tables e below (T.setTop g) ((B.U.setTop { g with stack := rest }).pushFrame (.throwing q))) := by
  obtain ⟨mk, hnamed⟩ := Cond.code_named hcode
  obtain ⟨methM, cM, hmethM, -, -, -, -, -, -, hsigM⟩ := Cond.code_spec hnamed hcode
  have hstatic : methM.isStatic = true := Cond.static_spec hnamed hmethM hstat
  obtain ⟨kP, hkP, -⟩ := className_of_methodNamed hnamed
  have hinitP : kP.init = .initialized := Cond.initialized_spec (findClass_of_methodNamed hnamed) hkP hinit
  obtain ⟨vm₁, X₁, hstep₁⟩ := X.invokestatic hexec hown hlink hnamed hmethM hstatic hkP hinitP hy (g := g) hg (argsL := argsL) (rest := rest) (hlen _ hsigM) hstack hdg
  rcases hK m meth c ⟨T.setVm vm₁, locs, cells, slots⟩ { g with stack := rest } (.invokestatic index) mk argsL.toArray X₁ hg hsize hdg hW (X₁.named hnamed) (hpre vm₁ X₁.warmed) with ⟨v, B, X', hpost, hsteps⟩ | ⟨q, B, X', hpost, hsteps⟩
  · exact Or.inl ⟨v, vm₁, B, X₁.warmed, X', hpost, fun target h => hstep₁ _ fun acts => by rw [doInvoke_state]; exact hsteps.trans h⟩
  · exact Or.inr ⟨q, vm₁, B, X₁.warmed, X', hpost, hstep₁ _ fun acts => by rw [doInvoke_state]; exact hsteps⟩
end Calls
theorem vx_cls {s : State} {T : State} {vm₁ : Vm} {E : String} {k : ClassId} (hW : s.WarmedH vm₁) (h : (T.setVm vm₁).vm.findClass E = some k) : s.vm.findClass E = some k := by
  have h1 : vm₁.findClass E = some k := h
  rw [hW.alike.findClass] at h1
  exact h1
/-- the method's frame g, with q thrown over it -/
def vx_W (p : Program) (l : Launch) (e : Env) (R : Room) (s : State) (m : MethodId) (args : Array Value) (below : List Frame) (meth : Method) (c : Code) (H : Heap) (locs : List Loc) (cells slots : Nat) (Q : State → Prop) (g : JFrame) (q : Addr) : Prop :=
  ∀ T : State, T.heap = H → Stand p l e R s m args below meth c T locs cells slots → ∃ t, Steps p.tables e below ((T.setTop g).pushFrame (.throwing q)) t ∧ Q t
def vx_Run (p : Program) (l : Launch) (e : Env) (R : Room) (s : State) (m : MethodId) (args : Array Value) (below : List Frame) (meth : Method) (c : Code) (H : Heap) (locs : List Loc) (cells slots mc ms : Nat) (g : JFrame) (rest : List Value) (Qa : State → Outcome → State → Prop) (XC : String → State → State → Prop) (free : Addr → Prop) : Prop :=
  ∀ T : State, T.heap = H → Stand p l e R s m args below meth c T locs cells slots →
    (∃ (v : Option Value) (st₀ t T' : State) (L : List Loc), st₀.heap = H ∧ Stand p l e R s m args below meth c T' (locs ++ L) (cells + mc) (slots + ms) ∧ (∀ q ∈ L, free q.base) ∧ T'.heap = t.heap ∧ T'.vm = t.vm ∧ Qa st₀ (.returned v) t ∧
      Goes p e below T g T' { g with pc := g.pc + 3, stack := v.toList ++ rest }) ∨
    (∃ (q : Addr) (st₀ t T' : State) (L : List Loc) (E : String) (ce : Cell), st₀.heap = H ∧ Stand p l e R s m args below meth c T' (locs ++ L) (cells + mc) (slots + ms) ∧ (∀ z ∈ L, free z.base) ∧ T'.heap = t.heap ∧ T'.vm = t.vm ∧ XC E st₀ t ∧ t.heap[q]? = some ce ∧ ce.vm = .none ∧ s.vm.findClass E = some ce.cls ∧
      Steps p.tables e below (T.setTop g) ((T'.setTop { g with stack := rest }).pushFrame (.throwing q)))
def vx_X {S : Type} (px : S → Prop) (B : String → S → State → Prop) (A : Nat → Prop) : String → State → State → Prop := fun E st t => ∃ u : S, px u ∧ B E u t ∧ va_F A st t
section Runs
variable {p : Program} {l : Launch} {e : Env} {R : Room} {s : State} {m : MethodId} {args : Array Value} {below : List Frame} {meth : Method} {c : Code} {H : Heap} {locs : List Loc} {cells slots : Nat}
variable {y : MethodName} {bytes cc : ByteArray} {maxL nL mc ms n index : Nat} {ret : Option FieldType} {ws : List Cond} {rm : Room} {Pc : Array Value → State → Prop} {Qc : Array Value → State → Outcome → State → Prop} {XC : String → State → State → Prop} {free : Addr → Prop} {Ts : List Cond} {own C : String} {b : Addr} {As rest : List Value} {g : JFrame}
theorem vx_callBack (cb : CallB R s args own index y bytes maxL ret ws rm mc ms n) (hM : vx_Met l y ws rm Pc Qc XC mc ms free) (hbl : FrameBlind Pc) : vx_Back l R p e below s args y 3 8 (PreOf R mc ms Pc) (PostOf Qc mc ms free) (vx_Post XC mc ms free) := by
  obtain ⟨hrc, hrs, hfr, hlo, hws, hcw, -, hini, -⟩ := cb
  exact vx_back (bytes := bytes) (maxL := maxL) (ret := ret) hM hbl hrc hrs hfr hlo hws hcw (fun a' U hW => word_at hW (Or.inl (by first | rfl | simp [Cond.onTables, Cond.keeps, Cond.steady])) hini)
theorem vx_runV (S : CallFix p m c cc nL s args Ts own) (hM : vx_Met l y ws rm Pc Qc XC mc ms free) (cw : CallW R s args own C index y bytes maxL ret ws rm mc ms n) (hp : PreV s H C b Pc As)
    (hg : g.method = m) (hn : As.length = n) (hsize : g.locals.size = nL) (hstack : g.stack = As.reverse ++ .ref b :: rest) (hW : 2 * g.monitorRoom + (rest.map fun v => v.category).sum ≤ 8) (hdg : decode cc g.pc = .ok (.invokevirtual index, 3)) (hf : cells + mc ≤ R.cells ∧ slots + ms ≤ R.slots) :
    vx_Run p l e R s m args below meth c H locs cells slots mc ms g rest (Qc (Value.ref b :: As).toArray) XC free := by
  have hK : vx_Back l R p e below s args y 3 8 (PreOf R mc ms Pc) (PostOf Qc mc ms free) (vx_Post XC mc ms free) := vx_callBack cw.1 hM hp.1
  obtain ⟨⟨-, -, -, -, -, -, hcode, -, hy, hlen, hl⟩, hin, hse⟩ := cw
  obtain ⟨hx, hb, hml, ho, -⟩ := S
  obtain ⟨-, ⟨cellB, hcB, hoB, hclB⟩, hPc⟩ := hp
  intro T hT X
  rcases vx_callV X hx (C := C) (bytes := bytes) (maxL := maxL) (ret := ret) ho hl hin hse hcode hy hK (by rw [hT]; exact hcB) hoB hclB hg (hsize.trans hml.symm) (argsL := As) (rest := rest) (fun sig h => hn.trans (hlen sig h)) hstack hW (by rw [hb]; exact hdg)
    (fun vm₁ hW₁ => ⟨hf.1, hf.2, hPc (T.setVm vm₁) hT hW₁⟩) with ⟨v, vm₁, ⟨U', l2, c2, s2⟩, hW₁, X', ⟨g', mk, t, L, e1, e2, hq, h1, hL, h2, h3⟩, st⟩ | ⟨q, vm₁, ⟨U', l2, c2, s2⟩, hW₁, X', ⟨g', mk, t, L, E, ce, e1, e2, hq, hce, hcv, hcl, h1, hL, h2, h3⟩, st⟩
  · dsimp only [Pt.U, Pt.locs, Pt.cells, Pt.slots] at X' e1 e2 h1 h2 h3 st
    subst h1; subst h2; subst h3
    exact Or.inl ⟨v, (T.setVm vm₁).calling g' mk (Value.ref b :: As).toArray, t, U', L, hT, X', hL, e1, e2, hq, st⟩
  · dsimp only [Pt.U, Pt.locs, Pt.cells, Pt.slots] at X' e1 e2 h1 h2 h3 st hcl
    subst h1; subst h2; subst h3
    exact Or.inr ⟨q, (T.setVm vm₁).calling g' mk (Value.ref b :: As).toArray, t, U', L, E, ce, hT, X', hL, e1, e2, hq, hce, hcv, vx_cls hW₁ hcl, st⟩
theorem vx_runS (S : CallFix p m c cc nL s args Ts own) (hM : vx_Met l y ws rm Pc Qc XC mc ms free) (cw : CallB R s args own index y bytes maxL ret ws rm mc ms n ∧ (Cond.static y).before args s = true) (hp : PreS s H Pc As)
    (hg : g.method = m) (hn : As.length = n) (hsize : g.locals.size = nL) (hstack : g.stack = As.reverse ++ rest) (hW : 2 * g.monitorRoom + (rest.map fun v => v.category).sum ≤ 8) (hdg : decode cc g.pc = .ok (.invokestatic index, 3)) (hf : cells + mc ≤ R.cells ∧ slots + ms ≤ R.slots) :
    vx_Run p l e R s m args below meth c H locs cells slots mc ms g rest (Qc As.toArray) XC free := by
  have hK : vx_Back l R p e below s args y 3 8 (PreOf R mc ms Pc) (PostOf Qc mc ms free) (vx_Post XC mc ms free) := vx_callBack cw.1 hM hp.1
  obtain ⟨⟨-, -, -, -, -, -, hcode, hini, hy, hlen, hl⟩, hstt⟩ := cw
  obtain ⟨hx, hb, hml, ho, -⟩ := S
  intro T hT X
  rcases vx_callS X hx (bytes := bytes) (maxL := maxL) (ret := ret) ho hl hstt hini hcode hy hK hg (hsize.trans hml.symm) (argsL := As) (rest := rest) (fun sig h => hn.trans (hlen sig h)) hstack hW (by rw [hb]; exact hdg)
    (fun vm₁ hW₁ => ⟨hf.1, hf.2, hp.2 (T.setVm vm₁) hT hW₁⟩) with ⟨v, vm₁, ⟨U', l2, c2, s2⟩, hW₁, X', ⟨g', mk, t, L, e1, e2, hq, h1, hL, h2, h3⟩, st⟩ | ⟨q, vm₁, ⟨U', l2, c2, s2⟩, hW₁, X', ⟨g', mk, t, L, E, ce, e1, e2, hq, hce, hcv, hcl, h1, hL, h2, h3⟩, st⟩
  · dsimp only [Pt.U, Pt.locs, Pt.cells, Pt.slots] at X' e1 e2 h1 h2 h3 st
    subst h1; subst h2; subst h3
    exact Or.inl ⟨v, (T.setVm vm₁).calling g' mk As.toArray, t, U', L, hT, X', hL, e1, e2, hq, st⟩
  · dsimp only [Pt.U, Pt.locs, Pt.cells, Pt.slots] at X' e1 e2 h1 h2 h3 st hcl
    subst h1; subst h2; subst h3
    exact Or.inr ⟨q, (T.setVm vm₁).calling g' mk As.toArray, t, U', L, E, ce, hT, X', hL, e1, e2, hq, hce, hcv, vx_cls hW₁ hcl, st⟩
end Runs
section Rows
variable {p : Program} {l : Launch} {e : Env} {R : Room} {s : State} {m : MethodId} {args : Array Value} {below : List Frame} {meth : Method} {c : Code} {H : Heap} {locs : List Loc} {cells slots : Nat} {Q : State → Prop}
variable {mc ms : Nat} {free : Addr → Prop} {A0 A1 : Nat → Prop} {H0 : Heap} {a : Array Value} {pc : Nat} {ls : Array Slot} {st0 rest : List Value}
theorem vx_keep {st₀ t T' : State} {L : List Loc} (h0 : st₀.heap = H) (e1 : T'.heap = t.heap) (hS : va_S A0 H0 H locs) (hA : ∀ q, q < H.size → A1 q → A0 q) (hf : ∀ q, free q → A0 q) (hL : ∀ q ∈ L, free q.base) (hF : va_F A1 st₀ t) :
    H.size ≤ T'.heap.size ∧ (∀ q : Nat, q < H.size → ¬ A1 q → T'.heap[q]? = H[q]?) ∧ va_S A0 H0 T'.heap (locs ++ L) := by
  obtain ⟨hz, hk⟩ := hF
  rw [h0] at hz hk
  exact ⟨by rw [e1]; exact hz, fun q h1 h2 => by rw [e1]; exact hk q h1 h2,
    ⟨Nat.le_trans hS.1 (by rw [e1]; exact hz), fun q h1 h2 => by rw [e1, hk q (Nat.lt_of_lt_of_le h1 hS.1) (fun z => h2 (hA q (Nat.lt_of_lt_of_le h1 hS.1) z))]; exact hS.2.1 q h1 h2, fun q hq => by
      rcases List.mem_append.mp hq with h | h
      · exact hS.2.2 q h
      · exact hf _ (hL q h)⟩⟩
theorem vx_calli {S SX : Type} {post : Int32 → S → Prop} {px : SX → Prop} {B : S → State → Prop} {BX : String → SX → State → Prop} {AX : Nat → Prop} (hr : vx_Run p l e R s m args below meth c H locs cells slots mc ms (F0 m pc ls st0) rest (va_Qi post B A1 a) (vx_X px BX AX) free) (hS : va_S A0 H0 H locs) (hA : ∀ q, q < H.size → A1 q → A0 q) (hf : ∀ q, free q → A0 q) (hAX : ∀ q, q < H.size → AX q → A0 q)
    (kx : ∀ (E : String) (ce : Cell) (q9 : Addr) (u : SX) (t : State) (H1 : Heap) (locs1 : List Loc), t.heap = H1 → s.vm.Alike t.vm → px u → BX E u t → H.size ≤ H1.size → (∀ q : Nat, q < H.size → ¬ AX q → H1[q]? = H[q]?) → va_S A0 H0 H1 locs1 → H1[q9]? = some ce → ce.vm = .none → s.vm.findClass E = some ce.cls → vx_W p l e R s m args below meth c H1 locs1 (cells + mc) (slots + ms) Q (F0 m pc ls rest) q9)
    (kk : ∀ (r : Int32) (u : S) (t : State) (H1 : Heap) (locs1 : List Loc), t.heap = H1 → s.vm.Alike t.vm → post r u → B u t → H.size ≤ H1.size → (∀ q : Nat, q < H.size → ¬ A1 q → H1[q]? = H[q]?) → va_S A0 H0 H1 locs1 → W p l e R s m args below meth c H1 locs1 (cells + mc) (slots + ms) Q (F0 m (pc + 3) ls (.int r :: rest))) : W p l e R s m args below meth c H locs cells slots Q (F0 m pc ls st0) := by
  intro T hT X
  rcases hr T hT X with ⟨v, st₀, t, T', L, h0, X', hL, e1, e2, ⟨⟨r, u, hv, hp, hb⟩, hF⟩, st⟩ | ⟨q, st₀, t, T', L, E, ce, h0, X', hL, e1, e2, ⟨u, hp, hb, hF⟩, hce, hcv, hcl, st⟩
  · cases hv
    obtain ⟨k1, k2, k3⟩ := vx_keep h0 e1 hS hA hf hL hF
    obtain ⟨t2, a1, b1⟩ := kk r u t T'.heap (locs ++ L) e1.symm (by rw [← e2]; exact X'.warmed.alike) hp hb k1 k2 k3 T' rfl X'
    exact ⟨t2, st t2 a1, b1⟩
  · obtain ⟨k1, k2, k3⟩ := vx_keep h0 e1 hS hAX hf hL hF
    obtain ⟨t2, a1, b1⟩ := kx E ce q u t T'.heap (locs ++ L) e1.symm (by rw [← e2]; exact X'.warmed.alike) hp hb k1 k2 k3 (by rw [e1]; exact hce) hcv hcl T' rfl X'
    exact ⟨t2, st.trans a1, b1⟩
theorem vx_calll {S SX : Type} {post : Int64 → S → Prop} {px : SX → Prop} {B : S → State → Prop} {BX : String → SX → State → Prop} {AX : Nat → Prop} (hr : vx_Run p l e R s m args below meth c H locs cells slots mc ms (F0 m pc ls st0) rest (va_Ql post B A1 a) (vx_X px BX AX) free) (hS : va_S A0 H0 H locs) (hA : ∀ q, q < H.size → A1 q → A0 q) (hf : ∀ q, free q → A0 q) (hAX : ∀ q, q < H.size → AX q → A0 q)
    (kx : ∀ (E : String) (ce : Cell) (q9 : Addr) (u : SX) (t : State) (H1 : Heap) (locs1 : List Loc), t.heap = H1 → s.vm.Alike t.vm → px u → BX E u t → H.size ≤ H1.size → (∀ q : Nat, q < H.size → ¬ AX q → H1[q]? = H[q]?) → va_S A0 H0 H1 locs1 → H1[q9]? = some ce → ce.vm = .none → s.vm.findClass E = some ce.cls → vx_W p l e R s m args below meth c H1 locs1 (cells + mc) (slots + ms) Q (F0 m pc ls rest) q9)
    (kk : ∀ (r : Int64) (u : S) (t : State) (H1 : Heap) (locs1 : List Loc), t.heap = H1 → s.vm.Alike t.vm → post r u → B u t → H.size ≤ H1.size → (∀ q : Nat, q < H.size → ¬ A1 q → H1[q]? = H[q]?) → va_S A0 H0 H1 locs1 → W p l e R s m args below meth c H1 locs1 (cells + mc) (slots + ms) Q (F0 m (pc + 3) ls (.long r :: rest))) : W p l e R s m args below meth c H locs cells slots Q (F0 m pc ls st0) := by
  intro T hT X
  rcases hr T hT X with ⟨v, st₀, t, T', L, h0, X', hL, e1, e2, ⟨⟨r, u, hv, hp, hb⟩, hF⟩, st⟩ | ⟨q, st₀, t, T', L, E, ce, h0, X', hL, e1, e2, ⟨u, hp, hb, hF⟩, hce, hcv, hcl, st⟩
  · cases hv
    obtain ⟨k1, k2, k3⟩ := vx_keep h0 e1 hS hA hf hL hF
    obtain ⟨t2, a1, b1⟩ := kk r u t T'.heap (locs ++ L) e1.symm (by rw [← e2]; exact X'.warmed.alike) hp hb k1 k2 k3 T' rfl X'
    exact ⟨t2, st t2 a1, b1⟩
  · obtain ⟨k1, k2, k3⟩ := vx_keep h0 e1 hS hAX hf hL hF
    obtain ⟨t2, a1, b1⟩ := kx E ce q u t T'.heap (locs ++ L) e1.symm (by rw [← e2]; exact X'.warmed.alike) hp hb k1 k2 k3 (by rw [e1]; exact hce) hcv hcl T' rfl X'
    exact ⟨t2, st.trans a1, b1⟩
theorem vx_callf {S SX : Type} {post : UInt32 → S → Prop} {px : SX → Prop} {B : S → State → Prop} {BX : String → SX → State → Prop} {AX : Nat → Prop} (hr : vx_Run p l e R s m args below meth c H locs cells slots mc ms (F0 m pc ls st0) rest (va_Qf post B A1 a) (vx_X px BX AX) free) (hS : va_S A0 H0 H locs) (hA : ∀ q, q < H.size → A1 q → A0 q) (hf : ∀ q, free q → A0 q) (hAX : ∀ q, q < H.size → AX q → A0 q)
    (kx : ∀ (E : String) (ce : Cell) (q9 : Addr) (u : SX) (t : State) (H1 : Heap) (locs1 : List Loc), t.heap = H1 → s.vm.Alike t.vm → px u → BX E u t → H.size ≤ H1.size → (∀ q : Nat, q < H.size → ¬ AX q → H1[q]? = H[q]?) → va_S A0 H0 H1 locs1 → H1[q9]? = some ce → ce.vm = .none → s.vm.findClass E = some ce.cls → vx_W p l e R s m args below meth c H1 locs1 (cells + mc) (slots + ms) Q (F0 m pc ls rest) q9)
    (kk : ∀ (r : UInt32) (u : S) (t : State) (H1 : Heap) (locs1 : List Loc), t.heap = H1 → s.vm.Alike t.vm → post r u → B u t → H.size ≤ H1.size → (∀ q : Nat, q < H.size → ¬ A1 q → H1[q]? = H[q]?) → va_S A0 H0 H1 locs1 → W p l e R s m args below meth c H1 locs1 (cells + mc) (slots + ms) Q (F0 m (pc + 3) ls (.float r :: rest))) : W p l e R s m args below meth c H locs cells slots Q (F0 m pc ls st0) := by
  intro T hT X
  rcases hr T hT X with ⟨v, st₀, t, T', L, h0, X', hL, e1, e2, ⟨⟨r, u, hv, hp, hb⟩, hF⟩, st⟩ | ⟨q, st₀, t, T', L, E, ce, h0, X', hL, e1, e2, ⟨u, hp, hb, hF⟩, hce, hcv, hcl, st⟩
  · cases hv
    obtain ⟨k1, k2, k3⟩ := vx_keep h0 e1 hS hA hf hL hF
    obtain ⟨t2, a1, b1⟩ := kk r u t T'.heap (locs ++ L) e1.symm (by rw [← e2]; exact X'.warmed.alike) hp hb k1 k2 k3 T' rfl X'
    exact ⟨t2, st t2 a1, b1⟩
  · obtain ⟨k1, k2, k3⟩ := vx_keep h0 e1 hS hAX hf hL hF
    obtain ⟨t2, a1, b1⟩ := kx E ce q u t T'.heap (locs ++ L) e1.symm (by rw [← e2]; exact X'.warmed.alike) hp hb k1 k2 k3 (by rw [e1]; exact hce) hcv hcl T' rfl X'
    exact ⟨t2, st.trans a1, b1⟩
theorem vx_calld {S SX : Type} {post : UInt64 → S → Prop} {px : SX → Prop} {B : S → State → Prop} {BX : String → SX → State → Prop} {AX : Nat → Prop} (hr : vx_Run p l e R s m args below meth c H locs cells slots mc ms (F0 m pc ls st0) rest (va_Qd post B A1 a) (vx_X px BX AX) free) (hS : va_S A0 H0 H locs) (hA : ∀ q, q < H.size → A1 q → A0 q) (hf : ∀ q, free q → A0 q) (hAX : ∀ q, q < H.size → AX q → A0 q)
    (kx : ∀ (E : String) (ce : Cell) (q9 : Addr) (u : SX) (t : State) (H1 : Heap) (locs1 : List Loc), t.heap = H1 → s.vm.Alike t.vm → px u → BX E u t → H.size ≤ H1.size → (∀ q : Nat, q < H.size → ¬ AX q → H1[q]? = H[q]?) → va_S A0 H0 H1 locs1 → H1[q9]? = some ce → ce.vm = .none → s.vm.findClass E = some ce.cls → vx_W p l e R s m args below meth c H1 locs1 (cells + mc) (slots + ms) Q (F0 m pc ls rest) q9)
    (kk : ∀ (r : UInt64) (u : S) (t : State) (H1 : Heap) (locs1 : List Loc), t.heap = H1 → s.vm.Alike t.vm → post r u → B u t → H.size ≤ H1.size → (∀ q : Nat, q < H.size → ¬ A1 q → H1[q]? = H[q]?) → va_S A0 H0 H1 locs1 → W p l e R s m args below meth c H1 locs1 (cells + mc) (slots + ms) Q (F0 m (pc + 3) ls (.double r :: rest))) : W p l e R s m args below meth c H locs cells slots Q (F0 m pc ls st0) := by
  intro T hT X
  rcases hr T hT X with ⟨v, st₀, t, T', L, h0, X', hL, e1, e2, ⟨⟨r, u, hv, hp, hb⟩, hF⟩, st⟩ | ⟨q, st₀, t, T', L, E, ce, h0, X', hL, e1, e2, ⟨u, hp, hb, hF⟩, hce, hcv, hcl, st⟩
  · cases hv
    obtain ⟨k1, k2, k3⟩ := vx_keep h0 e1 hS hA hf hL hF
    obtain ⟨t2, a1, b1⟩ := kk r u t T'.heap (locs ++ L) e1.symm (by rw [← e2]; exact X'.warmed.alike) hp hb k1 k2 k3 T' rfl X'
    exact ⟨t2, st t2 a1, b1⟩
  · obtain ⟨k1, k2, k3⟩ := vx_keep h0 e1 hS hAX hf hL hF
    obtain ⟨t2, a1, b1⟩ := kx E ce q u t T'.heap (locs ++ L) e1.symm (by rw [← e2]; exact X'.warmed.alike) hp hb k1 k2 k3 (by rw [e1]; exact hce) hcv hcl T' rfl X'
    exact ⟨t2, st.trans a1, b1⟩
theorem vx_callv {S SX : Type} {post : S → Prop} {px : SX → Prop} {B : S → State → Prop} {BX : String → SX → State → Prop} {AX : Nat → Prop} (hr : vx_Run p l e R s m args below meth c H locs cells slots mc ms (F0 m pc ls st0) rest (va_Qv post B A1 a) (vx_X px BX AX) free) (hS : va_S A0 H0 H locs) (hA : ∀ q, q < H.size → A1 q → A0 q) (hf : ∀ q, free q → A0 q) (hAX : ∀ q, q < H.size → AX q → A0 q)
    (kx : ∀ (E : String) (ce : Cell) (q9 : Addr) (u : SX) (t : State) (H1 : Heap) (locs1 : List Loc), t.heap = H1 → s.vm.Alike t.vm → px u → BX E u t → H.size ≤ H1.size → (∀ q : Nat, q < H.size → ¬ AX q → H1[q]? = H[q]?) → va_S A0 H0 H1 locs1 → H1[q9]? = some ce → ce.vm = .none → s.vm.findClass E = some ce.cls → vx_W p l e R s m args below meth c H1 locs1 (cells + mc) (slots + ms) Q (F0 m pc ls rest) q9)
    (kk : ∀ (u : S) (t : State) (H1 : Heap) (locs1 : List Loc), t.heap = H1 → s.vm.Alike t.vm → post u → B u t → H.size ≤ H1.size → (∀ q : Nat, q < H.size → ¬ A1 q → H1[q]? = H[q]?) → va_S A0 H0 H1 locs1 → W p l e R s m args below meth c H1 locs1 (cells + mc) (slots + ms) Q (F0 m (pc + 3) ls (rest))) : W p l e R s m args below meth c H locs cells slots Q (F0 m pc ls st0) := by
  intro T hT X
  rcases hr T hT X with ⟨v, st₀, t, T', L, h0, X', hL, e1, e2, ⟨⟨u, hv, hp, hb⟩, hF⟩, st⟩ | ⟨q, st₀, t, T', L, E, ce, h0, X', hL, e1, e2, ⟨u, hp, hb, hF⟩, hce, hcv, hcl, st⟩
  · cases hv
    obtain ⟨k1, k2, k3⟩ := vx_keep h0 e1 hS hA hf hL hF
    obtain ⟨t2, a1, b1⟩ := kk u t T'.heap (locs ++ L) e1.symm (by rw [← e2]; exact X'.warmed.alike) hp hb k1 k2 k3 T' rfl X'
    exact ⟨t2, st t2 a1, b1⟩
  · obtain ⟨k1, k2, k3⟩ := vx_keep h0 e1 hS hAX hf hL hF
    obtain ⟨t2, a1, b1⟩ := kx E ce q u t T'.heap (locs ++ L) e1.symm (by rw [← e2]; exact X'.warmed.alike) hp hb k1 k2 k3 (by rw [e1]; exact hce) hcv hcl T' rfl X'
    exact ⟨t2, st.trans a1, b1⟩
/-- caught by the row x of this method's table; the rows ahead don't take it -/
theorem vx_catch {own name : String} {E : String} {ce : Cell} {q : Addr} (hown : s.vm.findClass own = some m.cls) (pre : List ExceptionTableEntry) (x : ExceptionTableEntry) (suf : List ExceptionTableEntry) (hsplit : c.exceptionTable.toList = pre ++ x :: suf)
    (hpass : ∀ z ∈ pre, covers z pc = false ∨ (z.catchType ≠ 0 ∧ ∃ nm : String, (Cond.classLink own z.catchType nm).before args s = true ∧ va_Nc E nm s)) (hx : covers x pc = true) (h0 : x.catchType ≠ 0)
    (hlink : (Cond.classLink own x.catchType name).before args s = true) (hcast : (Cond.castable E name).before args s = true) (hcell : H[q]? = some ce) (hv : ce.vm = .none) (hcl : s.vm.findClass E = some ce.cls)
    (kk : W p l e R s m args below meth c H locs cells slots Q (F0 m x.handlerPc ls [.ref q])) : vx_W p l e R s m args below meth c H locs cells slots Q (F0 m pc ls rest) q := by
  intro T hT X
  have hpl : e.platform.magicAccessors = ({} : Platform).magicAccessors := by rw [X.admits.platform]
  obtain ⟨c3, c4, hc3, hc4, hasg⟩ := Cond.castable_spec hcast
  cases Option.some.inj (hc3.symm.trans hcl)
  obtain ⟨c5, hc5, hcl5⟩ := Cond.classLink_spec hown hlink e.platform hpl
  cases Option.some.inj (hc4.symm.trans hc5)
  obtain ⟨vm', X', st⟩ := X.thenCaughtThrough q (g := F0 m pc ls rest) rfl (Steps.refl _) (by rw [hT]; exact hcell) (by rw [hv]; rfl) (by obtain ⟨k9, h9, -⟩ := Vm.findClass_spec hcl; exact ⟨k9, h9⟩) pre x suf hsplit
    (fun z hz => by
      rcases hpass z hz with h | ⟨hz0, nm, hl1, hn1⟩
      · exact Or.inl h
      · obtain ⟨c6, hc6, hcl6⟩ := Cond.classLink_spec hown hl1 e.platform hpl
        obtain ⟨a8, b8, h1, h2, h3⟩ := hn1
        cases Option.some.inj (h1.symm.trans hcl)
        cases Option.some.inj (h2.symm.trans hc6)
        exact Or.inr ⟨hz0, _, hcl6, h3⟩) hx (Or.inr ⟨h0, c4, hcl5, hasg⟩)
  obtain ⟨t, a1, b1⟩ := kk (T.setVm vm') hT X'
  exact ⟨t, st.trans a1, b1⟩
end Rows
section Ends
variable {p : Program} {l : Launch} {e : Env} {R : Room} {s : State} {m : MethodId} {args : Array Value} {below : List Frame} {meth : Method} {c : Code} {H : Heap} {locs : List Loc} {cells slots : Nat} {Q : State → Prop}
variable {mc ms : Nat} {free : Addr → Prop} {A0 A1 : Nat → Prop} {H0 : Heap} {a : Array Value} {ls : Array Slot} {st0 rest : List Value}
variable {Qc : Array Value → State → Outcome → State → Prop} {XC : String → State → State → Prop}
/-- what a body that may throw owes at its end -/
def vx_MQ (below : List Frame) (Qc : Array Value → State → Outcome → State → Prop) (XC : String → State → State → Prop) (a : Array Value) (s : State) (mc ms : Nat) (free : Addr → Prop) : State → Prop := fun t =>
  ∃ o, t.status = .running ∧ Ended t below o ∧ vx_Q Qc XC mc ms free a s o t
theorem vx_ret {g : JFrame} {mc ms : Nat} (k : W p l e R s m args below meth c H locs cells slots (MQ below Qc args s mc ms free) g) : W p l e R s m args below meth c H locs cells slots (vx_MQ below Qc XC args s mc ms free) g := by
  intro T hT X
  obtain ⟨t, a1, o, b1, b2, b3, b4⟩ := k T hT X
  exact ⟨t, a1, o, b1, b2, Or.inl ⟨b3, b4⟩⟩
/-- not caught here: it goes on to the caller -/
theorem vx_widen {g : JFrame} {q : Addr} {k n : Nat} (h1 : cells ≤ k) (h2 : slots ≤ n) (kk : vx_W p l e R s m args below meth c H locs k n Q g q) : vx_W p l e R s m args below meth c H locs cells slots Q g q := fun T hT X => kk T hT (stand_widen X h1 h2)
theorem vx_out {pc : Nat} {E : String} {ce : Cell} {q : Addr} {mc ms : Nat} (hout : ∀ x ∈ c.exceptionTable.toList, covers x pc = false) (hlocks : meth.locks = false) (hcell : H[q]? = some ce) (hv : ce.vm = .none) (hcl : s.vm.findClass E = some ce.cls)
    (hx : ∀ t : State, t.heap = H → s.vm.Alike t.vm → XC E s t) (hf : ∀ z ∈ locs, free z.base) (hc : cells ≤ mc) (hs : slots ≤ ms) :
    vx_W p l e R s m args below meth c H locs cells slots (vx_MQ below Qc XC args s mc ms free) (F0 m pc ls rest) q := by
  intro T hT X
  obtain ⟨st1, hrun, hend, hW, hsm⟩ := X.leaveThrown q (g := F0 m pc ls rest) rfl rfl rfl hout hlocks
  have hcell9 : (T.setFrames (.throwing q :: below)).heap[q]? = some ce := by
    show T.heap[q]? = some ce
    rw [hT]; exact hcell
  exact ⟨_, st1, .threw q, hrun, hend, Or.inr ⟨q, rfl, E, ce, locs, hx _ hT hW.alike, hcell9, hv, hcl, hW, hsm.mono hc hs, hf⟩⟩
theorem vx_frame {U : State} {k n : Nat} (h : s.sameButNew ({ U with vm := s.vm } : State) locs k n) : s.heap.size ≤ U.heap.size ∧ ∀ q : Nat, q < s.heap.size → (∀ z ∈ locs, z.base ≠ q) → U.heap[q]? = s.heap[q]? := by
  obtain ⟨-, h2, -, -, -, h6⟩ := h
  refine ⟨h2, fun q hq hz => ?_⟩
  obtain ⟨c9, e1, e2, e3, e4⟩ := h6 q _ (Array.getElem?_eq_getElem hq)
  have hs : c9.slots = (s.heap[q]).slots := Array.ext_getElem? fun i => e4 i fun hm => hz _ hm rfl
  have h9 : c9 = s.heap[q] := by
    rw [hs] at e2
    exact e2
  have e5 : U.heap[q]? = some c9 := e1
  rw [e5, h9, Array.getElem?_eq_getElem hq]
/-- the words of a throw but the four that speak of the heap -/
def vx_no (w : Cond) : Bool := decide (w ≠ .isRef (.static Bundle.tN "UNASSIGNED_STACK" Bundle.steD)) && decide (w ≠ .isRef (.static Bundle.tN "SUPPRESSED_SENTINEL" Bundle.listD)) && decide (w ≠ .laysStatic Bundle.tN "UNASSIGNED_STACK" Bundle.steD) && decide (w ≠ .laysStatic Bundle.tN "SUPPRESSED_SENTINEL" Bundle.listD)
def vx_at0 (own : String) (ic : Nat) (X : String) (names : List String) : List Cond := (Bundle.ownAtoms0 own ic X names).filter vx_no
def vx_atS (own : String) (ic : Nat) (X : String) (names : List String) : List Cond := (Bundle.ownAtoms own ic X names).filter vx_no
/-- a word that the tables alone decide, or a good one -/
def vx_ot (w : Cond) : Bool := w.onTables || goodWord w
theorem vx_ot_at {args a' : Array Value} {s U : State} {w : Cond} (hW : s.WarmedH U.vm) (hvm : s.vm = U.vm) (hg : vx_ot w = true) (h : w.before args s = true) : w.before a' U = true := by
  simp only [vx_ot, Bool.or_eq_true] at hg
  rcases hg with hg | hg
  · exact va_tabs hg hvm h
  · exact word_at hW (good_of_word hg) h
/-- a list's words: the good ones out of the method's own list, the others by premises of their own -/
theorem vx_hat {args : Array Value} {s : State} {L B : List Cond} (h1 : ∀ w ∈ L.filter goodWord, w.before args s = true) (h2 : ∀ w ∈ L.filter (fun w => !goodWord w), w ∈ B) (h3 : ∀ w ∈ B, w.before args s = true) : ∀ w ∈ L, w.before args s = true := by
  intro w hw
  by_cases g : goodWord w = true
  · exact h1 w (List.mem_filter.mpr ⟨hw, g⟩)
  · refine h3 w (h2 w (List.mem_filter.mpr ⟨hw, ?_⟩))
    show (!goodWord w) = true
    cases hgw : goodWord w
    · rfl
    · exact absurd hgw g
theorem vx_c {args : Array Value} {s : State} {w : Cond} {B : List Cond} (h : w.before args s = true) (t : ∀ w ∈ B, w.before args s = true) : ∀ w' ∈ w :: B, w'.before args s = true := fun w' h' => (List.mem_cons.mp h').elim (fun e => by rw [e]; exact h) (t w')
theorem vx_n {args : Array Value} {s : State} : ∀ w ∈ ([] : List Cond), w.before args s = true := fun _ h => nomatch h
theorem vx_own {args : Array Value} {s : State} {L : List Cond} (h1 : ∀ w ∈ L.filter vx_no, w.before args s = true)
    (hU : (Cond.isRef (.static Bundle.tN "UNASSIGNED_STACK" Bundle.steD)).before args s = true) (hN : (Cond.isRef (.static Bundle.tN "SUPPRESSED_SENTINEL" Bundle.listD)).before args s = true)
    (lU : (Cond.laysStatic Bundle.tN "UNASSIGNED_STACK" Bundle.steD).before args s = true) (lN : (Cond.laysStatic Bundle.tN "SUPPRESSED_SENTINEL" Bundle.listD).before args s = true) : ∀ w ∈ L, w.before args s = true := by
  intro w hw
  by_cases e1 : w = .isRef (.static Bundle.tN "UNASSIGNED_STACK" Bundle.steD)
  · rw [e1]; exact hU
  · by_cases e2 : w = .isRef (.static Bundle.tN "SUPPRESSED_SENTINEL" Bundle.listD)
    · rw [e2]; exact hN
    · by_cases e3 : w = .laysStatic Bundle.tN "UNASSIGNED_STACK" Bundle.steD
      · rw [e3]; exact lU
      · by_cases e4 : w = .laysStatic Bundle.tN "SUPPRESSED_SENTINEL" Bundle.listD
        · rw [e4]; exact lN
        · exact h1 w (List.mem_filter.mpr ⟨hw, by unfold vx_no; rw [decide_eq_true e1, decide_eq_true e2, decide_eq_true e3, decide_eq_true e4]; rfl⟩)
/-- where a static field lies, its class's statics cell in H -/
def vx_L (C n d : String) (A : Nat → Prop) (U : State) (H : Heap) : Prop := ∃ (c : ClassId) (k : Class) (i : Nat) (f : Field) (a : Nat) (cell : Cell), U.vm.findClass C = some c ∧ U.fieldFound? C n d = some (c, k, i, f) ∧ f.isStatic = true ∧ k.statics = some a ∧ H[a]? = some cell ∧ cell.vm.isStatics = true ∧ cell.cls = c ∧ f.slot < cell.slots.size ∧ k.staticTypes[f.slot]? = some f.type ∧ ¬ A a
theorem vx_L.moved {C n d : String} {A : Nat → Prop} {u U : State} {H : Heap} (hvm : u.vm.Alike U.vm) (h : vx_L C n d A u H) : vx_L C n d A U H := by
  obtain ⟨c, k, i, f, a, cell, h1, h2, h3, h4, h5, h6, h7, h8, h9, h10⟩ := h
  obtain ⟨k', hi', he⟩ := State.fieldFound?_setVm hvm h2
  exact ⟨c, k', i, f, a, cell, by rw [hvm.findClass]; exact h1, hi', h3, by rw [he]; exact h4, h5, h6, h7, h8, by rw [he]; exact h9, h10⟩
theorem vx_L.kept {C n d : String} {A : Nat → Prop} {U : State} {H H1 : Heap} (h : vx_L C n d A U H) (hq : ∀ a : Nat, a < H.size → ¬ A a → H1[a]? = H[a]?) : vx_L C n d A U H1 := by
  obtain ⟨c, k, i, f, a, cell, h1, h2, h3, h4, h5, h6, h7, h8, h9, h10⟩ := h
  exact ⟨c, k, i, f, a, cell, h1, h2, h3, h4, by rw [hq a (Array.getElem?_eq_some_iff.mp h5).1 h10]; exact h5, h6, h7, h8, h9, h10⟩
theorem vx_L.narrow {C n d : String} {A B : Nat → Prop} {U : State} {H : Heap} (h : vx_L C n d A U H) (hAB : ∀ q, B q → A q) : vx_L C n d B U H := by
  obtain ⟨c, k, i, f, a, cell, h1, h2, h3, h4, h5, h6, h7, h8, h9, h10⟩ := h
  exact ⟨c, k, i, f, a, cell, h1, h2, h3, h4, h5, h6, h7, h8, h9, fun z => h10 (hAB _ z)⟩
theorem vx_L.word {C n d : String} {A : Nat → Prop} {s : State} {args : Array Value} (h : vx_L C n d A s s.heap) : (Cond.laysStatic C n d).before args s = true := by
  obtain ⟨c, k, i, f, a, cell, h1, h2, h3, h4, h5, h6, h7, h8, h9, -⟩ := h
  show (Cond.laysStatic C n d).holds args s none s [] = true
  exact Cond.laysStatic_of h1 h2 h3 h4 h5 h6 h7 h8 h9
/-- .. and what it holds: null or some reference -/
def vx_Zq (C n d : String) (A : Nat → Prop) (U : State) (H : Heap) : Prop := va_Zq C n d A U H ∧ vx_L C n d A U H
theorem vx_Zq.moved {C n d : String} {A : Nat → Prop} {u U : State} {H : Heap} (hvm : u.vm.Alike U.vm) (h : vx_Zq C n d A u H) : vx_Zq C n d A U H := ⟨va_Zq.moved hvm h.1, vx_L.moved hvm h.2⟩
theorem vx_Zq.kept {C n d : String} {A : Nat → Prop} {U : State} {H H1 : Heap} (h : vx_Zq C n d A U H) (hq : ∀ a : Nat, a < H.size → ¬ A a → H1[a]? = H[a]?) : vx_Zq C n d A U H1 := ⟨va_Zq.kept h.1 hq, vx_L.kept h.2 hq⟩
theorem vx_Zq.narrow {C n d : String} {A B : Nat → Prop} {U : State} {H : Heap} (h : vx_Zq C n d A U H) (hAB : ∀ q, B q → A q) : vx_Zq C n d B U H := ⟨va_Zq.narrow h.1 hAB, vx_L.narrow h.2 hAB⟩
theorem vx_Zqof {args : Array Value} {s : State} {C n d : String} {A : Nat → Prop} (hl : (Cond.laysStatic C n d).before args s = true) (hini : (Cond.initialized C).before args s = true) (h : (Cond.isRef (.static C n d)).before args s = true) (hA : ∀ a : Nat, a < s.heap.size → ¬ A a) : vx_Zq C n d A s s.heap := by
  refine ⟨va_Zqof hl hini h hA, ?_⟩
  obtain ⟨c, k, i, f, a, cell, h1, h2, h3, h4, h5, h6, h7, h8, h9⟩ := Cond.laysStatic_spec hl
  exact ⟨c, k, i, f, a, cell, h1, h2, h3, h4, h5, h6, h7, h8, h9, hA a (Array.getElem?_eq_some_iff.mp h5).1⟩
theorem vx_isRef {C n d : String} {v : Value} {A : Nat → Prop} {s : State} {args : Array Value} (h : va_Z C n d v A s s.heap) (hv : v.isRef = true) : (Cond.isRef (.static C n d)).before args s = true := by
  obtain ⟨cf, kf, fi, f, a, cell, h1, h2, h3, h4, h5, h6, h7, -⟩ := h
  have he : (Term.static C n d).eval args s none [] s = some v := by
    simp [Term.eval, State.fieldNamed?, h1, h2, h4, h5, h6, h7]
  simp only [Cond.before, Cond.holds, Cond.value, he]
  cases v <;> simp_all [Value.isRef]
theorem vx_isRefq {C n d : String} {A : Nat → Prop} {s : State} {args : Array Value} (h : va_Zq C n d A s s.heap) : (Cond.isRef (.static C n d)).before args s = true := by
  rcases h with h | ⟨t, h⟩
  · exact vx_isRef h rfl
  · exact vx_isRef h rfl
/-- the same frame, seen from here: as if the method were called anew in this heap -/
theorem vx_rebase {T : State} (X : Stand p l e R s m args below meth c T locs cells slots) {R' : Room} (hf : R'.frames ≤ R.frames) (hl : R'.locals ≤ R.locals) (hc : cells + R'.cells ≤ R.cells) (hs : slots + R'.slots ≤ R.slots) :
    Stand p l e R' ((T.setVm s.vm).setFrames (.invoking m args :: below)) m args below meth c T [] 0 0 := by
  have htop : (T.setVm s.vm).topJava?.isSome := X.here.top
  have hF : ((T.setVm s.vm).setFrames (.invoking m args :: below)).frames = .invoking m args :: below := State.frames_setFrames _ (State.cur_lt_of_top htop)
  obtain ⟨g₀, hg0⟩ := Option.isSome_iff_exists.mp htop
  obtain ⟨r, hr⟩ := State.topJava?_eq_some.mp hg0
  have hl9 : e.platform.stackLimits (T.setVm s.vm).me = e.platform.stackLimits s.me := X.limits
  have hb9 : (T.setVm s.vm).me.stackBytes = s.me.stackBytes := X.bytes
  refine ⟨X.admits, X.cas, X.clock, hF, ?_, X.hears, X.method, X.code, X.here, X.tail, X.warmed, ?_, ?_, ?_⟩
  · have h := X.room
    have hU : ((T.setVm s.vm).setFrames (.invoking m args :: below)).localsInUse = s.localsInUse := by
      rw [State.localsInUse_invoking hF (meth := meth) (c := c) X.method X.code, State.localsInUse_invoking X.frames X.method X.code]
    simp only [State.hasRoom, Bool.and_eq_true, decide_eq_true_eq] at h ⊢
    obtain ⟨⟨⟨⟨h1, h2, h3, h4, h5, h6⟩, h7⟩, h8⟩, h9⟩ := h
    rw [X.frames, List.length_cons] at h2 h3
    have q1 := X.heapSize
    have q2 := X.used
    simp only [hF, hU, List.length_cons, State.stackLimits_setFrames, State.stackBytes_setFrames, hl9, hb9]
    refine ⟨⟨⟨⟨by omega, by omega, by omega, by omega, by omega, h6⟩, ?_⟩, ?_⟩, X.book⟩
    · show T.heap.size + R'.cells ≤ e.platform.maxCells
      omega
    · show T.slotsUsed + R'.slots ≤ e.platform.maxSlots
      omega
  · rw [State.stackLimits_setFrames]; rfl
  · rw [State.stackBytes_setFrames]; rfl
  · refine ⟨?_, Nat.le_refl _, Nat.le_refl _, ?_, ?_, fun a c9 h9 => ⟨c9, h9, rfl, rfl, fun _ _ => rfl⟩⟩
    · obtain ⟨t, ht, -⟩ := State.frames_cons hr
      show T.setVm s.vm = { ((T.setVm s.vm).setFrames (.invoking m args :: below)).setFrames (T.setVm s.vm).frames with heap := T.heap, slotsUsed := T.slotsUsed }
      rw [State.setFrames_setFrames, State.setFrames_self ht]
      rfl
    · show T.slotsUsed = T.slotsUsed + ((T.heap.toList.drop T.heap.size).map (·.slots.size)).sum
      rw [List.drop_eq_nil_of_le (Nat.le_of_eq Array.length_toList)]
      rfl
    · show ((T.heap.toList.drop T.heap.size).map (·.slots.size)).sum ≤ 0
      rw [List.drop_eq_nil_of_le (Nat.le_of_eq Array.length_toList)]
      exact Nat.le_refl _
/-- 'throw new E()': new; dup; invokespecial; athrow -/
theorem vx_throw0 {cc : ByteArray} {pc : Nat} (hexec : p.tables.exec = Jvm.exec) (hb : c.code = cc) (hl : l.stackTraces = false) {own cls : String} {names : List String} {ik ic mc ms : Nat} {A : Nat → Prop}
    (hown : s.vm.findClass own = some m.cls) (hcls : Bundle.fit cls = true) (hnames : ∀ n ∈ names, Bundle.fit n = true)
    (hk : (Cond.classLink own ik cls).before args s = true) (hini : (Cond.initialized cls).before args s = true) (hat : ∀ w ∈ vx_at0 own ic cls names, w.before args s = true)
    (hgood : ∀ w ∈ Cond.classLink own ik cls :: Cond.initialized cls :: vx_at0 own ic cls names, vx_ot w = true)
    (hU : vx_Zq Bundle.tN "UNASSIGNED_STACK" Bundle.steD A s s.heap) (hN : vx_Zq Bundle.tN "SUPPRESSED_SENTINEL" Bundle.listD A s s.heap) (hS : va_S A s.heap H locs) (hsize : ls.size = c.maxLocals)
    (d0 : decode cc pc = .ok (.new ik, 3)) (d3 : decode cc (pc + 3) = .ok (.dup, 1)) (d4 : decode cc (pc + 4) = .ok (.invokespecial ic, 3)) (d7 : decode cc (pc + 7) = .ok (.athrow, 1))
    (hout : ∀ x ∈ c.exceptionTable.toList, covers x (pc + 7) = false)
    (hRframes : names.length + 3 < R.frames) (hRlocals : (rest.map fun v => v.category).sum + (13 * (names.length + 1) + 42) ≤ R.locals) (hRcells : cells + 1 ≤ R.cells) (hRslots : slots + 6 ≤ R.slots) (hlocks : meth.locks = false)
    (hx : ∀ t : State, s.vm.Alike t.vm → H.size ≤ t.heap.size → (∀ q : Nat, q < H.size → t.heap[q]? = H[q]?) → XC cls s t)
    (hf : ∀ z ∈ locs, free z.base) (hc : cells + 1 ≤ mc) (hs : slots + 6 ≤ ms) :
    W p l e R s m args below meth c H locs cells slots (vx_MQ below Qc XC args s mc ms free) (F0 m pc ls rest) := by
  intro T hT X
  have htr : e.platform.stackTraces = false := (show e.platform.stackTraces = l.stackTraces by rw [X.admits.platform]).trans hl
  have Y := vx_rebase X (R' := { frames := R.frames, locals := R.locals, cells := 1, slots := 6 }) (Nat.le_refl _) (Nat.le_refl _) hRcells hRslots
  obtain ⟨s', hA⟩ : ∃ z, z = (T.setVm s.vm).setFrames (.invoking m args :: below) := ⟨_, rfl⟩
  rw [← hA] at Y
  have hvm : s'.vm = s.vm := by rw [hA]; rfl
  have hhp : s'.heap = H := by rw [hA]; exact hT
  have hW0 : s.WarmedH s'.vm := by rw [hvm]; exact State.WarmedH.refl s
  have hat' : ∀ w ∈ vx_at0 own ic cls names, w.before args s' = true := fun w hw => vx_ot_at hW0 hvm.symm (hgood w (List.mem_cons_of_mem _ (List.mem_cons_of_mem _ hw))) (hat w hw)
  have hk' : (Cond.classLink own ik cls).before args s' = true := vx_ot_at hW0 hvm.symm (hgood _ List.mem_cons_self) hk
  have hini' : (Cond.initialized cls).before args s' = true := vx_ot_at hW0 hvm.symm (hgood _ (List.mem_cons_of_mem _ List.mem_cons_self)) hini
  have hU' : vx_Zq Bundle.tN "UNASSIGNED_STACK" Bundle.steD A s' s'.heap := by rw [hhp]; exact vx_Zq.moved hW0.alike (hU.kept hS.2.1)
  have hN' : vx_Zq Bundle.tN "SUPPRESSED_SENTINEL" Bundle.listD A s' s'.heap := by rw [hhp]; exact vx_Zq.moved hW0.alike (hN.kept hS.2.1)
  have h : ∀ w ∈ Bundle.ownAtoms0 own ic cls names, w.before args s' = true := vx_own hat' (vx_isRefq hU'.1) (vx_isRefq hN'.1) hU'.2.word hN'.2.word
  have hown' : s'.vm.findClass own = some m.cls := by rw [hvm]; exact hown
  have hins : (Cond.instantiable cls 6).before args s' = true := h _ (by simp [Bundle.ownAtoms0])
  obtain ⟨vm₁, cX, kX, hfX, hkX, -, -, X₁, st1⟩ := Y.newCold hexec (own := own) (C := cls) (index := ik) (n := 6) hown' hk' hins hini'
    (g := F0 m pc ls rest) rfl (by rw [hb]; exact d0) (Nat.le_refl _) (Nat.le_refl _)
  generalize hT1 : (T.setVm vm₁).pushCell { cls := cX, slots := kX.instanceTypes.map defaultValue, vm := .none } = T1 at X₁ st1
  have hcat : (Value.ref T.heap.size).category = 1 := rfl
  have hcellA : T1.heap[T.heap.size]? = some (freshCell cX kX) := by rw [← hT1]; exact State.heap_pushCell_size _ _
  have d3' : decode c.code (pc + 3) = .ok (.dup, 1) := by rw [hb]; exact d3
  obtain ⟨U, hsteps, hrun, hend, hW, hsame, ce, hce, hO⟩ := X₁.ctorThrow0 hexec htr (own := own) (cls := cls) (names := names) (ic := ic) hown' hcls hnames h (fun x hx => nomatch hx) hfX hkX hcellA (by rw [hhp, hT]; exact Nat.le_refl _)
    (g := { method := m, pc := pc + 4, locals := ls, stack := .ref T.heap.size :: .ref T.heap.size :: rest, locked := none }) rfl hsize rfl rfl (rest := rest) rfl
    (by rw [hb]; exact d4) (by rw [hb]; exact d7) hout hRframes (by simp only [List.map_cons, List.sum_cons, hcat]; omega) hlocks
  obtain ⟨f1, f2⟩ := vx_frame hsame
  rw [hhp] at f1 f2
  have hWs : s.WarmedH U.vm := State.WarmedH.trans hW0 hW
  have hcl : s.vm.findClass cls = some ce.cls := by
    have h9 := hO.cls
    rw [hvm] at h9
    exact h9
  have hall : s.sameButNew ({ U with vm := s.vm } : State) locs mc ms := by
    subst hA
    obtain ⟨e1, e2⟩ := hsame
    rw [State.setFrames_setFrames] at e1
    have h2 : (T.setVm s.vm).sameButNew ({ U with vm := s.vm } : State) [] (0 + 1) (0 + 6) := ⟨e1, e2⟩
    have h3 := X.same.trans h2
    rw [List.append_nil] at h3
    exact h3.mono hc hs
  refine ⟨U, ?_, .threw T.heap.size, hrun, hend, Or.inr ⟨T.heap.size, rfl, cls, ce, locs, hx U hWs.alike f1 (fun q hq => f2 q hq (fun z hz => nomatch hz)), hce, hO.vm, hcl, hWs, hall, hf⟩⟩
  refine st1 _ ?_
  show Steps p.tables e below (T1.setTop { method := m, pc := pc + 3, locals := ls, stack := .ref T.heap.size :: rest, locked := none }) _
  jvm_step X₁.here [X₁.here.top, hexec, d3', Value.category]
  exact hsteps
/-- 'throw new E("text")': new; dup; ldc; invokespecial; athrow -/
theorem vx_throwS {cc : ByteArray} {pc : Nat} (hexec : p.tables.exec = Jvm.exec) (hb : c.code = cc) (hl : l.stackTraces = false) {own cls text : String} {names : List String} {ik is ic mc ms sa : Nat} {A : Nat → Prop}
    (hown : s.vm.findClass own = some m.cls) (hcls : Bundle.fit cls = true) (hnames : ∀ n ∈ names, Bundle.fit n = true)
    (hk : (Cond.classLink own ik cls).before args s = true) (hini : (Cond.initialized cls).before args s = true) (hstr : vk_R own is text sa s) (hat : ∀ w ∈ vx_atS own ic cls names, w.before args s = true)
    (hgood : ∀ w ∈ Cond.classLink own ik cls :: Cond.initialized cls :: vx_atS own ic cls names, vx_ot w = true)
    (hU : vx_Zq Bundle.tN "UNASSIGNED_STACK" Bundle.steD A s s.heap) (hN : vx_Zq Bundle.tN "SUPPRESSED_SENTINEL" Bundle.listD A s s.heap) (hS : va_S A s.heap H locs) (hsize : ls.size = c.maxLocals)
    (d0 : decode cc pc = .ok (.new ik, 3)) (d3 : decode cc (pc + 3) = .ok (.dup, 1)) (d4 : decode cc (pc + 4) = .ok (.ldc is, 2)) (d6 : decode cc (pc + 6) = .ok (.invokespecial ic, 3)) (d9 : decode cc (pc + 9) = .ok (.athrow, 1))
    (hout : ∀ x ∈ c.exceptionTable.toList, covers x (pc + 9) = false)
    (hRframes : names.length + 3 < R.frames) (hRlocals : (rest.map fun v => v.category).sum + (13 * (names.length + 1) + 43) ≤ R.locals) (hRcells : cells + 1 ≤ R.cells) (hRslots : slots + 6 ≤ R.slots) (hlocks : meth.locks = false)
    (hx : ∀ t : State, s.vm.Alike t.vm → H.size ≤ t.heap.size → (∀ q : Nat, q < H.size → t.heap[q]? = H[q]?) → XC cls s t)
    (hf : ∀ z ∈ locs, free z.base) (hc : cells + 1 ≤ mc) (hs : slots + 6 ≤ ms) :
    W p l e R s m args below meth c H locs cells slots (vx_MQ below Qc XC args s mc ms free) (F0 m pc ls rest) := by
  intro T hT X
  have htr : e.platform.stackTraces = false := (show e.platform.stackTraces = l.stackTraces by rw [X.admits.platform]).trans hl
  have Y := vx_rebase X (R' := { frames := R.frames, locals := R.locals, cells := 1, slots := 6 }) (Nat.le_refl _) (Nat.le_refl _) hRcells hRslots
  obtain ⟨s', hA⟩ : ∃ z, z = (T.setVm s.vm).setFrames (.invoking m args :: below) := ⟨_, rfl⟩
  rw [← hA] at Y
  have hvm : s'.vm = s.vm := by rw [hA]; rfl
  have hhp : s'.heap = H := by rw [hA]; exact hT
  have hW0 : s.WarmedH s'.vm := by rw [hvm]; exact State.WarmedH.refl s
  have hat' : ∀ w ∈ vx_atS own ic cls names, w.before args s' = true := fun w hw => vx_ot_at hW0 hvm.symm (hgood w (List.mem_cons_of_mem _ (List.mem_cons_of_mem _ hw))) (hat w hw)
  have hk' : (Cond.classLink own ik cls).before args s' = true := vx_ot_at hW0 hvm.symm (hgood _ List.mem_cons_self) hk
  have hini' : (Cond.initialized cls).before args s' = true := vx_ot_at hW0 hvm.symm (hgood _ (List.mem_cons_of_mem _ List.mem_cons_self)) hini
  have hU' : vx_Zq Bundle.tN "UNASSIGNED_STACK" Bundle.steD A s' s'.heap := by rw [hhp]; exact vx_Zq.moved hW0.alike (hU.kept hS.2.1)
  have hN' : vx_Zq Bundle.tN "SUPPRESSED_SENTINEL" Bundle.listD A s' s'.heap := by rw [hhp]; exact vx_Zq.moved hW0.alike (hN.kept hS.2.1)
  have h : ∀ w ∈ Bundle.ownAtoms own ic cls names, w.before args s' = true := vx_own hat' (vx_isRefq hU'.1) (vx_isRefq hN'.1) hU'.2.word hN'.2.word
  have hown' : s'.vm.findClass own = some m.cls := by rw [hvm]; exact hown
  have hins : (Cond.instantiable cls 6).before args s' = true := h _ (by simp [Bundle.ownAtoms])
  obtain ⟨vm₁, cX, kX, hfX, hkX, -, -, X₁, st1⟩ := Y.newCold hexec (own := own) (C := cls) (index := ik) (n := 6) hown' hk' hins hini'
    (g := F0 m pc ls rest) rfl (by rw [hb]; exact d0) (Nat.le_refl _) (Nat.le_refl _)
  generalize hT1 : (T.setVm vm₁).pushCell { cls := cX, slots := kX.instanceTypes.map defaultValue, vm := .none } = T1 at X₁ st1
  have hcat : (Value.ref T.heap.size).category = 1 := rfl
  have hcellA : T1.heap[T.heap.size]? = some (freshCell cX kX) := by rw [← hT1]; exact State.heap_pushCell_size _ _
  have d3' : decode c.code (pc + 3) = .ok (.dup, 1) := by rw [hb]; exact d3
  have d4' : decode c.code (pc + 4) = .ok (.ldc is, 2) := by rw [hb]; exact d4
  have hstr' : vk_R own is text sa s' := vk_R.warm hW0 hstr
  obtain ⟨U, hsteps, hrun, hend, hW, hsame, ce, hce, hO⟩ := X₁.ctorThrowS hexec htr (own := own) (cls := cls) (names := names) (ic := ic) hown' hcls hnames h (fun x hx => nomatch hx) hfX hkX hcellA (by rw [hhp, hT]; exact Nat.le_refl _) (msg := .ref sa) rfl
    (g := { method := m, pc := pc + 6, locals := ls, stack := .ref sa :: .ref T.heap.size :: .ref T.heap.size :: rest, locked := none }) rfl hsize rfl rfl (rest := rest) rfl
    (by rw [hb]; exact d6) (by rw [hb]; exact d9) hout hRframes (by simp only [List.map_cons, List.sum_cons, hcat]; omega) hlocks
  obtain ⟨f1, f2⟩ := vx_frame hsame
  rw [hhp] at f1 f2
  have hWs : s.WarmedH U.vm := State.WarmedH.trans hW0 hW
  have hcl : s.vm.findClass cls = some ce.cls := by
    have h9 := hO.cls
    rw [hvm] at h9
    exact h9
  have hall : s.sameButNew ({ U with vm := s.vm } : State) locs mc ms := by
    subst hA
    obtain ⟨e1, e2⟩ := hsame
    rw [State.setFrames_setFrames] at e1
    have h2 : (T.setVm s.vm).sameButNew ({ U with vm := s.vm } : State) [] (0 + 1) (0 + 6) := ⟨e1, e2⟩
    have h3 := X.same.trans h2
    rw [List.append_nil] at h3
    exact h3.mono hc hs
  refine ⟨U, ?_, .threw T.heap.size, hrun, hend, Or.inr ⟨T.heap.size, rfl, cls, ce, locs, hx U hWs.alike f1 (fun q hq => f2 q hq (fun z hz => nomatch hz)), hce, hO.vm, hcl, hWs, hall, hf⟩⟩
  refine st1 _ ?_
  show Steps p.tables e below (T1.setTop { method := m, pc := pc + 3, locals := ls, stack := .ref T.heap.size :: rest, locked := none }) _
  jvm_step X₁.here [X₁.here.top, hexec, d3', Value.category]
  exact X₁.ldcString hexec (own := own) (text := text) (index := is) (a := sa) hown' hstr'.1 hstr'.2
    (g := { method := m, pc := pc + 4, locals := ls, stack := .ref T.heap.size :: .ref T.heap.size :: rest, locked := none }) rfl d4' _ hsteps
/-- 'throw new E("text")', the text by a wide index -/
theorem vx_throwSW {cc : ByteArray} {pc : Nat} (hexec : p.tables.exec = Jvm.exec) (hb : c.code = cc) (hl : l.stackTraces = false) {own cls text : String} {names : List String} {ik is ic mc ms sa : Nat} {A : Nat → Prop}
    (hown : s.vm.findClass own = some m.cls) (hcls : Bundle.fit cls = true) (hnames : ∀ n ∈ names, Bundle.fit n = true)
    (hk : (Cond.classLink own ik cls).before args s = true) (hini : (Cond.initialized cls).before args s = true) (hstr : vk_R own is text sa s) (hat : ∀ w ∈ vx_atS own ic cls names, w.before args s = true)
    (hgood : ∀ w ∈ Cond.classLink own ik cls :: Cond.initialized cls :: vx_atS own ic cls names, vx_ot w = true)
    (hU : vx_Zq Bundle.tN "UNASSIGNED_STACK" Bundle.steD A s s.heap) (hN : vx_Zq Bundle.tN "SUPPRESSED_SENTINEL" Bundle.listD A s s.heap) (hS : va_S A s.heap H locs) (hsize : ls.size = c.maxLocals)
    (d0 : decode cc pc = .ok (.new ik, 3)) (d3 : decode cc (pc + 3) = .ok (.dup, 1)) (d4 : decode cc (pc + 4) = .ok (.ldc_w is, 3)) (d7 : decode cc (pc + 7) = .ok (.invokespecial ic, 3)) (d10 : decode cc (pc + 10) = .ok (.athrow, 1))
    (hout : ∀ x ∈ c.exceptionTable.toList, covers x (pc + 10) = false)
    (hRframes : names.length + 3 < R.frames) (hRlocals : (rest.map fun v => v.category).sum + (13 * (names.length + 1) + 43) ≤ R.locals) (hRcells : cells + 1 ≤ R.cells) (hRslots : slots + 6 ≤ R.slots) (hlocks : meth.locks = false)
    (hx : ∀ t : State, s.vm.Alike t.vm → H.size ≤ t.heap.size → (∀ q : Nat, q < H.size → t.heap[q]? = H[q]?) → XC cls s t)
    (hf : ∀ z ∈ locs, free z.base) (hc : cells + 1 ≤ mc) (hs : slots + 6 ≤ ms) :
    W p l e R s m args below meth c H locs cells slots (vx_MQ below Qc XC args s mc ms free) (F0 m pc ls rest) := by
  intro T hT X
  have htr : e.platform.stackTraces = false := (show e.platform.stackTraces = l.stackTraces by rw [X.admits.platform]).trans hl
  have Y := vx_rebase X (R' := { frames := R.frames, locals := R.locals, cells := 1, slots := 6 }) (Nat.le_refl _) (Nat.le_refl _) hRcells hRslots
  obtain ⟨s', hA⟩ : ∃ z, z = (T.setVm s.vm).setFrames (.invoking m args :: below) := ⟨_, rfl⟩
  rw [← hA] at Y
  have hvm : s'.vm = s.vm := by rw [hA]; rfl
  have hhp : s'.heap = H := by rw [hA]; exact hT
  have hW0 : s.WarmedH s'.vm := by rw [hvm]; exact State.WarmedH.refl s
  have hat' : ∀ w ∈ vx_atS own ic cls names, w.before args s' = true := fun w hw => vx_ot_at hW0 hvm.symm (hgood w (List.mem_cons_of_mem _ (List.mem_cons_of_mem _ hw))) (hat w hw)
  have hk' : (Cond.classLink own ik cls).before args s' = true := vx_ot_at hW0 hvm.symm (hgood _ List.mem_cons_self) hk
  have hini' : (Cond.initialized cls).before args s' = true := vx_ot_at hW0 hvm.symm (hgood _ (List.mem_cons_of_mem _ List.mem_cons_self)) hini
  have hU' : vx_Zq Bundle.tN "UNASSIGNED_STACK" Bundle.steD A s' s'.heap := by rw [hhp]; exact vx_Zq.moved hW0.alike (hU.kept hS.2.1)
  have hN' : vx_Zq Bundle.tN "SUPPRESSED_SENTINEL" Bundle.listD A s' s'.heap := by rw [hhp]; exact vx_Zq.moved hW0.alike (hN.kept hS.2.1)
  have h : ∀ w ∈ Bundle.ownAtoms own ic cls names, w.before args s' = true := vx_own hat' (vx_isRefq hU'.1) (vx_isRefq hN'.1) hU'.2.word hN'.2.word
  have hown' : s'.vm.findClass own = some m.cls := by rw [hvm]; exact hown
  have hins : (Cond.instantiable cls 6).before args s' = true := h _ (by simp [Bundle.ownAtoms])
  obtain ⟨vm₁, cX, kX, hfX, hkX, -, -, X₁, st1⟩ := Y.newCold hexec (own := own) (C := cls) (index := ik) (n := 6) hown' hk' hins hini'
    (g := F0 m pc ls rest) rfl (by rw [hb]; exact d0) (Nat.le_refl _) (Nat.le_refl _)
  generalize hT1 : (T.setVm vm₁).pushCell { cls := cX, slots := kX.instanceTypes.map defaultValue, vm := .none } = T1 at X₁ st1
  have hcat : (Value.ref T.heap.size).category = 1 := rfl
  have hcellA : T1.heap[T.heap.size]? = some (freshCell cX kX) := by rw [← hT1]; exact State.heap_pushCell_size _ _
  have d3' : decode c.code (pc + 3) = .ok (.dup, 1) := by rw [hb]; exact d3
  have d4' : decode c.code (pc + 4) = .ok (.ldc_w is, 3) := by rw [hb]; exact d4
  have hstr' : vk_R own is text sa s' := vk_R.warm hW0 hstr
  obtain ⟨U, hsteps, hrun, hend, hW, hsame, ce, hce, hO⟩ := X₁.ctorThrowS hexec htr (own := own) (cls := cls) (names := names) (ic := ic) hown' hcls hnames h (fun x hx => nomatch hx) hfX hkX hcellA (by rw [hhp, hT]; exact Nat.le_refl _) (msg := .ref sa) rfl
    (g := { method := m, pc := pc + 7, locals := ls, stack := .ref sa :: .ref T.heap.size :: .ref T.heap.size :: rest, locked := none }) rfl hsize rfl rfl (rest := rest) rfl
    (by rw [hb]; exact d7) (by rw [hb]; exact d10) hout hRframes (by simp only [List.map_cons, List.sum_cons, hcat]; omega) hlocks
  obtain ⟨f1, f2⟩ := vx_frame hsame
  rw [hhp] at f1 f2
  have hWs : s.WarmedH U.vm := State.WarmedH.trans hW0 hW
  have hcl : s.vm.findClass cls = some ce.cls := by
    have h9 := hO.cls
    rw [hvm] at h9
    exact h9
  have hall : s.sameButNew ({ U with vm := s.vm } : State) locs mc ms := by
    subst hA
    obtain ⟨e1, e2⟩ := hsame
    rw [State.setFrames_setFrames] at e1
    have h2 : (T.setVm s.vm).sameButNew ({ U with vm := s.vm } : State) [] (0 + 1) (0 + 6) := ⟨e1, e2⟩
    have h3 := X.same.trans h2
    rw [List.append_nil] at h3
    exact h3.mono hc hs
  refine ⟨U, ?_, .threw T.heap.size, hrun, hend, Or.inr ⟨T.heap.size, rfl, cls, ce, locs, hx U hWs.alike f1 (fun q hq => f2 q hq (fun z hz => nomatch hz)), hce, hO.vm, hcl, hWs, hall, hf⟩⟩
  refine st1 _ ?_
  show Steps p.tables e below (T1.setTop { method := m, pc := pc + 3, locals := ls, stack := .ref T.heap.size :: rest, locked := none }) _
  jvm_step X₁.here [X₁.here.top, hexec, d3', Value.category]
  exact X₁.ldcStringW hexec (own := own) (text := text) (index := is) (a := sa) hown' hstr'.1 hstr'.2
    (g := { method := m, pc := pc + 4, locals := ls, stack := .ref T.heap.size :: .ref T.heap.size :: rest, locked := none }) rfl d4' _ hsteps
end Ends
section Bodies
variable {l : Launch}
theorem vx_ofW {y : MethodName} {ws ws' : List Cond} {rm : Room} {Pc : Array Value → State → Prop} {Qc : Array Value → State → Outcome → State → Prop} {XC : String → State → State → Prop} {mc ms : Nat} {free : Addr → Prop} {cc : ByteArray} {maxL : Nat} {ret : Option FieldType}
    (hy : plainName y.cls = true) (hw : ws = Cond.code y cc maxL ret :: ws')
    (body : ∀ p e s m args below meth c s₁, BodyLoose p l y (headSpec ws rm) cc maxL ret e s m args below meth c s₁ → c.maxLocals = maxL → (∀ x ∈ c.exceptionTable.toList, False) → Pc args s →
      W p l e (headSpec ws rm).room s m args below meth c s.heap [] 0 0 (vx_MQ below Qc XC args s mc ms free) (entryFrame m args maxL)) : vx_Met l y ws rm Pc Qc XC mc ms free := by
  refine MetFree.of_bodyS (code := cc) (maxLocals := maxL) (ret := ret) hy ?_ ?_
  · intro args s m h hn
    obtain ⟨meth, c, h1, h2, h3, h4, h5, h6, -, -⟩ := Cond.code_spec hn (atoms_spec (ws := ws) h _ (by rw [hw]; exact List.mem_cons_self))
    exact ⟨meth, c, h1, h2, h3, h4, h5, h6⟩
  · intro p e s m args below meth c s₁ B hml hP _
    have hh0 : s₁.heap = s.heap := by rw [B.state]; rfl
    have ht : ∀ x ∈ c.exceptionTable.toList, False := by
      obtain ⟨meth9, c9, h1, h2, -, -, -, -, h7, -⟩ := Cond.code_spec B.named (atoms_spec (ws := ws) B.pre _ (by rw [hw]; exact List.mem_cons_self))
      cases Option.some.inj (h1.symm.trans B.method)
      cases Option.some.inj (h2.symm.trans (Stand.of_body B).code)
      intro x hx
      rw [Array.isEmpty_iff.mp h7] at hx
      cases hx
    obtain ⟨t, a1, o, b1, b2, b3⟩ := body p e s m args below meth c s₁ B hml ht hP s₁ hh0 (Stand.of_body B)
    exact ⟨t, o, a1, b1, b2, b3⟩
/-- the table of a body with handlers -/
theorem vx_table {p : Program} {x y : MethodName} {S : Spec} {cc bytes : ByteArray} {maxL maxL' : Nat} {ret ret' : Option FieldType} {e : Env} {s s₁ : State} {m : MethodId} {args : Array Value} {below : List Frame} {meth : Method} {c : Code} {hh : List (Nat × Nat × Nat × Nat)}
    (B : BodyLoose p l y S cc maxL ret e s m args below meth c s₁) (h : (Cond.codeWith y bytes maxL' ret' hh).before args s = true) : c.exceptionTable.toList = tableOf hh := by
  obtain ⟨m9, meth9, c9, hn9, h1, h2, -, -, h6, -⟩ := Cond.codeWith_spec h
  cases Option.some.inj (hn9.symm.trans B.named)
  cases Option.some.inj (h1.symm.trans B.method)
  cases Option.some.inj (h2.symm.trans (Stand.of_body B).code)
  rw [← h6, table_eq]
end Bodies
end VXA
/-! ===== END ===== -/
/-! ===== BEGIN a static call of a method with an exception table ===== -/
section VXS
variable {p : Program} {l : Launch} {e : Env} {R : Room} {s : State} {m : MethodId} {args : Array Value} {below : List Frame} {meth : Method} {c : Code} {T : State} {H : Heap} {locs : List Loc} {cells slots : Nat}
abbrev vx_CSW (R : Room) (s : State) (args : Array Value) (own : String) (index : Nat) (y : MethodName) (bytes : ByteArray) (maxL : Nat) (ret : Option FieldType) (hh : List (Nat × Nat × Nat × Nat)) (ws : List Cond) (rm : Room) (mc ms n : Nat) : Prop :=
  (rm.cells = mc ∧ rm.slots = ms ∧ rm.frames + 1 ≤ R.frames ∧ 8 + (maxL + 11) + rm.locals ≤ R.locals ∧ (∀ w ∈ ws, ∀ (a' : Array Value) (U : State), s.WarmedH U.vm → w.before a' U = true) ∧ Cond.codeWith y bytes maxL ret hh ∈ ws) ∧
  (Cond.codeWith y bytes maxL ret hh).before args s = true ∧ (Cond.initialized y.cls).before args s = true ∧ (y.cls ≠ "java/lang/invoke/MethodHandle" ∧ y.cls ≠ "java/lang/invoke/VarHandle") ∧
  (∀ sig, parseMethodDescriptor y.desc = some sig → n = sig.parameters.length) ∧ (Cond.methodLink own index y).before args s = true ∧ (Cond.static y).before args s = true
theorem vx_cwSW {own : String} {index maxL mc ms : Nat} {y : MethodName} {bytes : ByteArray} {ret : Option FieldType} {hh : List (Nat × Nat × Nat × Nat)} {Ts ws ws' : List Cond} {rm : Room} (n : Nat) (ht : ∀ w ∈ Ts, w.before args s = true) (hT : GoodIn Ts (va_wsS own index y ws)) (hw : ws = Cond.codeWith y bytes maxL ret hh :: ws') (hrc : rm.cells = mc) (hrs : rm.slots = ms)
    (hd : y.cls ≠ "java/lang/invoke/MethodHandle" ∧ y.cls ≠ "java/lang/invoke/VarHandle" ∧ (parseMethodDescriptor y.desc).map (fun d => d.parameters.length) = some n) (hR : rm.frames + 1 ≤ R.frames ∧ 8 + (maxL + 11) + rm.locals ≤ R.locals) :
    vx_CSW R s args own index y bytes maxL ret hh ws rm mc ms n := by
  have ok : ∀ w ∈ va_wsS own index y ws, w.before args s = true := fun w h => ht w (hT w h).1
  have hG : GoodIn Ts ws := fun w h => hT w (by unfold va_wsS; exact List.mem_append_right _ h)
  have hc : Cond.codeWith y bytes maxL ret hh ∈ ws := by rw [hw]; exact List.mem_cons_self
  refine ⟨⟨hrc, hrs, hR.1, hR.2, pay_in ht hG, hc⟩, ht _ (hG _ hc).1, ok _ (by simp [va_wsS]), ⟨hd.1, hd.2.1⟩, fun sig h => ?_, ok _ (by simp [va_wsS]), ok _ (by simp [va_wsS])⟩
  have h2 := hd.2.2
  rw [h] at h2
  exact (Option.some.inj h2).symm
theorem vx_callSW (X : Stand p l e R s m args below meth c T locs cells slots) (hexec : p.tables.exec = Jvm.exec) {own : String} {index : Nat} {y : MethodName} {bytes : ByteArray} {maxL : Nat} {ret : Option FieldType} {hh : List (Nat × Nat × Nat × Nat)}
    (hown : s.vm.findClass own = some m.cls) (hlink : (Cond.methodLink own index y).before args s = true) (hstat : (Cond.static y).before args s = true) (hinit : (Cond.initialized y.cls).before args s = true)
    (hcode : (Cond.codeWith y bytes maxL ret hh).before args s = true) (hy : y.cls ≠ "java/lang/invoke/MethodHandle" ∧ y.cls ≠ "java/lang/invoke/VarHandle")
    {W9 : Nat} {Pre : Pt → Array Value → Prop} {Post : Pt → Array Value → Option Value → Pt → Prop} (hK : Back l R p e below s args y 3 W9 Pre Post)
    {g : JFrame} (hg : g.method = m) (hsize : g.locals.size = c.maxLocals) {argsL rest : List Value} (hlen : ∀ sig, parseMethodDescriptor y.desc = some sig → argsL.length = sig.parameters.length)
    (hstack : g.stack = argsL.reverse ++ rest) (hW : 2 * g.monitorRoom + (rest.map fun v => v.category).sum ≤ W9) (hdg : decode c.code g.pc = .ok (.invokestatic index, 3))
    (hpre : ∀ vm₁, s.WarmedH vm₁ → Pre ⟨T.setVm vm₁, locs, cells, slots⟩ argsL.toArray) :
    ∃ (v : Option Value) (vm₁ : Vm) (B : Pt), s.WarmedH vm₁ ∧ Stand p l e R s m args below meth c B.U B.locs B.cells B.slots ∧ Post ⟨T.setVm vm₁, locs, cells, slots⟩ argsL.toArray v B ∧
      ∀ target, Steps p.tables e below (B.U.setTop { g with pc := g.pc + 3, stack := v.toList ++ rest }) target → Steps p.tables e below (T.setTop g) target := by
  obtain ⟨mk, methM, cM, hnamed, hmethM, -, -, -, -, -, -, hsigM⟩ := Cond.codeWith_spec hcode
  have hstatic : methM.isStatic = true := Cond.static_spec hnamed hmethM hstat
  obtain ⟨kP, hkP, -⟩ := className_of_methodNamed hnamed
  have hinitP : kP.init = .initialized := Cond.initialized_spec (findClass_of_methodNamed hnamed) hkP hinit
  obtain ⟨vm₁, X₁, hstep₁⟩ := X.invokestatic hexec hown hlink hnamed hmethM hstatic hkP hinitP hy (g := g) hg (argsL := argsL) (rest := rest) (hlen _ hsigM) hstack hdg
  obtain ⟨v, B, X', hpost, hsteps⟩ := hK m meth c ⟨T.setVm vm₁, locs, cells, slots⟩ { g with stack := rest } (.invokestatic index) mk argsL.toArray X₁ hg hsize hdg hW (X₁.named hnamed) (hpre vm₁ X₁.warmed)
  exact ⟨v, vm₁, B, X₁.warmed, X', hpost, fun target h => hstep₁ _ fun acts => by rw [doInvoke_state]; exact hsteps.trans h⟩
theorem vx_runSW {y : MethodName} {bytes cc : ByteArray} {maxL nL mc ms n index : Nat} {ret : Option FieldType} {hh : List (Nat × Nat × Nat × Nat)} {ws : List Cond} {rm : Room} {Pc : Array Value → State → Prop} {Qc : Array Value → State → Outcome → State → Prop} {free : Addr → Prop} {Ts : List Cond} {own : String} {As rest : List Value} {g : JFrame}
    (S : CallFix p m c cc nL s args Ts own) (hM : Met l y ws rm Pc Qc mc ms free) (cw : vx_CSW R s args own index y bytes maxL ret hh ws rm mc ms n) (hp : PreS s H Pc As)
    (hg : g.method = m) (hn : As.length = n) (hsize : g.locals.size = nL) (hstack : g.stack = As.reverse ++ rest) (hW : 2 * g.monitorRoom + (rest.map fun v => v.category).sum ≤ 8) (hdg : decode cc g.pc = .ok (.invokestatic index, 3)) (hf : cells + mc ≤ R.cells ∧ slots + ms ≤ R.slots) :
    va_Run p l e R s m args below meth c H locs cells slots mc ms g rest (Qc As.toArray) (free) := by
  obtain ⟨⟨hrc, hrs, hfr, hlo, hws, hcw⟩, hcode, hini, hy, hlen, hl, hstt⟩ := cw
  have hK : Back l R p e below s args y 3 8 (PreOf R mc ms Pc) (PostOf Qc mc ms free) := va_backW (hh := hh) (bytes := bytes) (maxL := maxL) (ret := ret) hM hp.1 hrc hrs hfr hlo hws hcw (fun a' U hW => word_at hW (Or.inl (by first | rfl | simp [Cond.onTables, Cond.keeps, Cond.steady])) hini)
  obtain ⟨hx, hb, hml, ho, -⟩ := S
  intro T hT X
  obtain ⟨v, vm₁, ⟨U', l2, c2, s2⟩, hW₁, X', ⟨g', mk, t, L, e1, e2, hq, h1, hL, h2, h3⟩, st⟩ := vx_callSW X hx (hh := hh) (bytes := bytes) (maxL := maxL) (ret := ret) ho hl hstt hini hcode hy hK hg (hsize.trans hml.symm) (argsL := As) (rest := rest) (fun sig h => hn.trans (hlen sig h)) hstack hW (by rw [hb]; exact hdg)
    (fun vm₁ hW₁ => ⟨hf.1, hf.2, hp.2 (T.setVm vm₁) hT hW₁⟩)
  dsimp only [Pt.U, Pt.locs, Pt.cells, Pt.slots] at X' e1 e2 h1 h2 h3 st
  subst h1; subst h2; subst h3
  exact ⟨v, (T.setVm vm₁).calling g' mk As.toArray, t, U', L, hT, X', hL, e1, e2, hq, st⟩
/-- not caught here, past rows that name other classes: it goes on to the caller -/
theorem vx_outP {p : Program} {l : Launch} {e : Env} {R : Room} {s : State} {m : MethodId} {args : Array Value} {below : List Frame} {meth : Method} {c : Code} {H : Heap} {locs : List Loc} {cells slots : Nat} {free : Addr → Prop} {ls : Array Slot} {rest : List Value} {Qc : Array Value → State → Outcome → State → Prop} {XC : String → State → State → Prop}
    {pc : Nat} {own E : String} {ce : Cell} {q : Addr} {mc ms : Nat} (hown : s.vm.findClass own = some m.cls) (hlocks : meth.locks = false)
    (hpass : ∀ z ∈ c.exceptionTable.toList, covers z pc = false ∨ (z.catchType ≠ 0 ∧ ∃ nm : String, (Cond.classLink own z.catchType nm).before args s = true ∧ va_Nc E nm s)) (hcell : H[q]? = some ce) (hv : ce.vm = .none) (hcl : s.vm.findClass E = some ce.cls)
    (hx : ∀ t : State, t.heap = H → s.vm.Alike t.vm → XC E s t) (hf : ∀ z ∈ locs, free z.base) (hc : cells ≤ mc) (hs : slots ≤ ms) :
    vx_W p l e R s m args below meth c H locs cells slots (vx_MQ below Qc XC args s mc ms free) (F0 m pc ls rest) q := by
  intro T hT X
  have hpl : e.platform.magicAccessors = ({} : Platform).magicAccessors := by rw [X.admits.platform]
  obtain ⟨vm', hW', X', st⟩ := X.outThrough hlocks q (g := F0 m pc ls rest) rfl rfl rfl (cell := ce) (by rw [hT]; exact hcell) (by rw [hv]; rfl)
    (by obtain ⟨k9, h9, -⟩ := Vm.findClass_spec hcl; exact ⟨k9, h9⟩) (fun z hz => by
      rcases hpass z hz with h | ⟨hz0, nm, hl1, hn1⟩
      · exact Or.inl h
      · obtain ⟨c6, hc6, hcl6⟩ := Cond.classLink_spec hown hl1 e.platform hpl
        obtain ⟨a8, b8, h1, h2, h3⟩ := hn1
        cases Option.some.inj (h1.symm.trans hcl)
        cases Option.some.inj (h2.symm.trans hc6)
        exact Or.inr ⟨hz0, _, hcl6, h3⟩)
  obtain ⟨g₀, hfr⟩ := X'.frames_eq
  have hcell9 : ((T.setVm vm').setFrames (.throwing q :: below)).heap[q]? = some ce := by
    show T.heap[q]? = some ce
    rw [hT]; exact hcell
  have hend : Ended ((T.setVm vm').setFrames (.throwing q :: below)) below (.threw q) := State.frames_setFrames _ (State.cur_lt_of_frames hfr)
  refine ⟨(T.setVm vm').setFrames (.throwing q :: below), ?_, .threw q, X'.here.running, hend, Or.inr ⟨q, rfl, E, ce, locs, hx _ hT (X'.ends _).1.alike, hcell9, hv, hcl, (X'.ends _).1, (X'.ends _).2.mono hc hs, hf⟩⟩
  rw [X.pushThrowing_eq]
  exact st
/-- a thing of a world lies in the heap -/
theorem vx_lt {D : va_G} {cl : List vw_C} {ws : va_W} {H1 : Heap} (h : va_P D cl ws H1) {k : Nat} {q : Nat × va_E} (hk : ws[k]? = some q) : q.1 < H1.size := (h k q hk).lt
end VXS
/-! ===== END ===== -/
/-! ===== BEGIN methods with a table of their own: called by a name, returning or throwing ===== -/
section VXH
/-! vx_backW, vx_callVX, vx_callSX, vx_callVW, vx_runVW, vx_runVX, vx_runSX, vx_ofWH follow the same proofs as their sisters above (Free/Laws.lean, Shelf42/LK1.lean); vx_outP calls Shelf42/NT130.lean (outThrough). -/
section
variable {l : Launch} {R : Room} {p : Program} {e : Env} {below : List Frame} {s : State} {sargs : Array Value} {y : MethodName} {len W9 : Nat}
theorem vx_backW {ws : List Cond} {rm : Room} {Pc : Array Value → State → Prop} {Qc : Array Value → State → Outcome → State → Prop} {XC : String → State → State → Prop} {mc ms : Nat} {free : Addr → Prop} {bytes : ByteArray} {maxL : Nat} {ret : Option FieldType} {hh : List (Nat × Nat × Nat × Nat)}
    (hM : vx_Met l y ws rm Pc Qc XC mc ms free) (hblind : FrameBlind Pc) (hrc : rm.cells = mc) (hrs : rm.slots = ms)
    (hframes : rm.frames + 1 ≤ R.frames) (hlocals : W9 + (maxL + 11) + rm.locals ≤ R.locals)
    (hws : ∀ w ∈ ws, ∀ a' U, s.WarmedH U.vm → w.before a' U = true) (hcode : Cond.codeWith y bytes maxL ret hh ∈ ws) (hinit : ∀ a' U, s.WarmedH U.vm → (Cond.initialized y.cls).before a' U = true) :
    vx_Back l R p e below s sargs y len W9 (PreOf R mc ms Pc) (PostOf Qc mc ms free) (vx_Post XC mc ms free) := by
  intro m meth c A g ig mk a X hg hsize hdg hW hn hp
  have h1 : (headSpec ws rm).pre.before a A.U = true := atoms_intro fun w hw => hws w hw _ _ X.warmed
  have h2 : (Cond.codeWith y bytes maxL ret hh).before a A.U = true := hws _ hcode _ _ X.warmed
  have h3 : (Cond.initialized y.cls).before a A.U = true := hinit _ _ X.warmed
  have h4 : A.cells + (headSpec ws rm).room.cells ≤ R.cells := by rw [show (headSpec ws rm).room.cells = mc from hrc]; exact hp.1
  have h5 : A.slots + (headSpec ws rm).room.slots ≤ R.slots := by rw [show (headSpec ws rm).room.slots = ms from hrs]; exact hp.2.1
  have hPc : Pc a (A.U.calling g mk a) := hblind _ _ _ _ hp.2.2
  obtain ⟨U, Ls, c0, s0⟩ := A
  dsimp only [Pt.U, Pt.locs, Pt.cells, Pt.slots] at h1 h2 h3 h4 h5 X hn hPc ⊢
  obtain ⟨m9, methY, cY, hn9, hmY, hcY, -, hlY, -⟩ := Cond.codeWith_spec h2
  cases Option.some.inj (hn9.symm.trans hn)
  obtain ⟨kY, hkY, -⟩ := className_of_methodNamed hn
  have hinitY : kY.init = .initialized := Cond.initialized_spec (findClass_of_methodNamed hn) hkY h3
  have h : At U g.method c below := by rw [hg]; exact X.here
  have hlocals9 : W9 + (maxL + 11) + (headSpec ws rm).room.locals ≤ R.locals := hlocals
  have happ : (headSpec ws rm).appliesLoose y e.platform (U.calling g mk a) = true :=
    Spec.appliesLoose_calling (g := g) h hdg hn hkY hinitY
      (X.room_calling (g := g) (R' := (headSpec ws rm).room) hsize hmY hcY hframes (by rw [hlY]; omega) h4 h5) h1
  obtain ⟨mid, hmid⟩ := h.above
  have hfr : (U.setTop g).frames = (.java g :: mid) ++ below := by rw [State.frames_setTop' g h.top, hmid]; rfl
  obtain ⟨o, s₂, hsteps, -, hend, hq⟩ := Steps.callFree hM p X.admits X.cas X.clock (acts := []) hfr happ hPc trivial
  have hq' : vx_Q Qc XC mc ms free a (U.calling g mk a) o s₂ := hq
  rw [State.frames_setTop' g h.top] at hend
  obtain ⟨g₀, hg0⟩ := Option.isSome_iff_exists.mp h.top
  obtain ⟨r, hr⟩ := State.topJava?_eq_some.mp hg0
  have hr' : (({ U with heap := s₂.heap, slotsUsed := s₂.slotsUsed } : State).setVm s₂.vm).frames = .java g₀ :: r := hr
  rcases hq' with ⟨hqc, L, hfe, hL⟩ | ⟨q, rfl, E, ce, L, hx, hce, hcv, hcl, hW₂, hsm, hL⟩
  · obtain ⟨⟨v, rfl⟩, hW₂, e2, q2, q3, q4, q5, q6⟩ := id hfe
    have e3 : s₂ = ({ (U.calling g mk a).setFrames s₂.frames with heap := s₂.heap, slotsUsed := s₂.slotsUsed } : State).setVm s₂.vm := by
      have : s₂ = ({ s₂ with vm := (U.calling g mk a).vm } : State).setVm s₂.vm := rfl
      rw [e2] at this
      exact this
    obtain ⟨c₂, i₂, len₂, hc₂, hd₂, hf₂⟩ := hend
    have hW' : U.WarmedH s₂.vm := hW₂
    have hcc : c₂ = c := by
      have h1 : s₂.code? g.method = U.code? g.method := by
        rw [State.code?_eq, State.code?_eq, hW'.alike.method?]
      exact Option.some.inj (hc₂.symm.trans (h1.trans h.code))
    subst hcc
    have hlen : len₂ = len := by rw [hdg] at hd₂; cases hd₂; rfl
    subst hlen
    have hs₂ : s₂ = (({ U with heap := s₂.heap, slotsUsed := s₂.slotsUsed } : State).setVm s₂.vm).setTop { g with pc := g.pc + len₂, stack := v.toList ++ g.stack } := by
      refine e3.trans ?_
      rw [hf₂, State.calling_eq h.top, State.setFrames_setFrames, State.setTop_of_frames _ hr', hr]
      rfl
    have hsame : U.sameButNew ({ U with heap := s₂.heap, slotsUsed := s₂.slotsUsed } : State) L mc ms := by
      refine ⟨?_, q2, q3, q4, q5, q6⟩
      obtain ⟨t, ht, -⟩ := State.frames_cons hr
      show ({ U with heap := s₂.heap, slotsUsed := s₂.slotsUsed } : State) = { U.setFrames U.frames with heap := s₂.heap, slotsUsed := s₂.slotsUsed }
      rw [State.setFrames_self ht]
    subst hg
    refine Or.inl ⟨v, ⟨(({ U with heap := s₂.heap, slotsUsed := s₂.slotsUsed } : State).setVm s₂.vm), Ls ++ L, c0 + mc, s0 + ms⟩,
      ⟨X.admits, X.cas, X.clock, X.frames, X.room, X.hears, X.method, X.code, (X.here.setHeapUsed s₂.heap s₂.slotsUsed).setVm hW'.alike, X.tail, State.WarmedH.trans X.warmed hW', X.limits, X.bytes, X.same.trans (hsame.setVm s.vm)⟩,
      ⟨g, mk, s₂, L, rfl, rfl, hqc, rfl, hL, rfl, rfl⟩, ?_⟩
    show Steps p.tables e below _ ((({ U with heap := s₂.heap, slotsUsed := s₂.slotsUsed } : State).setVm s₂.vm).setTop { g with pc := g.pc + len₂, stack := v.toList ++ g.stack })
    rw [← hs₂]
    exact hsteps
  · obtain ⟨e2, q2, q3, q4, q5, q6⟩ := id hsm
    have e3 : s₂ = ({ (U.calling g mk a).setFrames s₂.frames with heap := s₂.heap, slotsUsed := s₂.slotsUsed } : State).setVm s₂.vm := by
      have : s₂ = ({ s₂ with vm := (U.calling g mk a).vm } : State).setVm s₂.vm := rfl
      rw [e2] at this
      exact this
    have hf₂ : s₂.frames = .throwing q :: .java g :: U.frames.tail := hend
    have hW' : U.WarmedH s₂.vm := hW₂
    have hs₂ : s₂ = ((({ U with heap := s₂.heap, slotsUsed := s₂.slotsUsed } : State).setVm s₂.vm).setTop g).pushFrame (.throwing q) := by
      refine e3.trans ?_
      rw [hf₂, State.calling_eq h.top, State.setFrames_setFrames, State.pushFrame, State.frames_setTop _ hr', State.setTop_of_frames _ hr', State.setFrames_setFrames, hr]
      rfl
    have hsame : U.sameButNew ({ U with heap := s₂.heap, slotsUsed := s₂.slotsUsed } : State) L mc ms := by
      refine ⟨?_, q2, q3, q4, q5, q6⟩
      obtain ⟨t, ht, -⟩ := State.frames_cons hr
      show ({ U with heap := s₂.heap, slotsUsed := s₂.slotsUsed } : State) = { U.setFrames U.frames with heap := s₂.heap, slotsUsed := s₂.slotsUsed }
      rw [State.setFrames_self ht]
    subst hg
    refine Or.inr ⟨q, ⟨(({ U with heap := s₂.heap, slotsUsed := s₂.slotsUsed } : State).setVm s₂.vm), Ls ++ L, c0 + mc, s0 + ms⟩,
      ⟨X.admits, X.cas, X.clock, X.frames, X.room, X.hears, X.method, X.code, (X.here.setHeapUsed s₂.heap s₂.slotsUsed).setVm hW'.alike, X.tail, State.WarmedH.trans X.warmed hW', X.limits, X.bytes, X.same.trans (hsame.setVm s.vm)⟩,
      ⟨g, mk, s₂, L, E, ce, rfl, rfl, hx, hce, hcv, hcl, rfl, hL, rfl, rfl⟩, ?_⟩
    show Steps p.tables e below _ (((({ U with heap := s₂.heap, slotsUsed := s₂.slotsUsed } : State).setVm s₂.vm).setTop g).pushFrame (.throwing q))
    rw [← hs₂]
    exact hsteps
end
variable {p : Program} {l : Launch} {e : Env} {R : Room} {s : State} {m : MethodId} {args : Array Value} {below : List Frame} {meth : Method} {c : Code} {T : State} {H : Heap} {locs : List Loc} {cells slots : Nat}
theorem vx_callVX (X : Stand p l e R s m args below meth c T locs cells slots) (hexec : p.tables.exec = Jvm.exec) {own C : String} {index : Nat} {y : MethodName} {bytes : ByteArray} {maxL : Nat} {ret : Option FieldType} {hh : List (Nat × Nat × Nat × Nat)}
    (hown : s.vm.findClass own = some m.cls) (hlink : (Cond.methodLink own index y).before args s = true) (hinst : (Cond.instanceMethod y).before args s = true) (hsel : (Cond.selects C y y).before args s = true)
    (hcode : (Cond.codeWith y bytes maxL ret hh).before args s = true) (hy : y.cls ≠ "java/lang/invoke/MethodHandle" ∧ y.cls ≠ "java/lang/invoke/VarHandle")
    {W9 : Nat} {Pre : Pt → Array Value → Prop} {Post : Pt → Array Value → Option Value → Pt → Prop} {PostX : Pt → Array Value → Addr → Pt → Prop} (hK : vx_Back l R p e below s args y 3 W9 Pre Post PostX)
    {b : Addr} {cellB : Cell} (hcell : T.heap[b]? = some cellB) (hobj : cellB.vm.isStatics = false) (hcls : s.vm.findClass C = some cellB.cls)
    {g : JFrame} (hg : g.method = m) (hsize : g.locals.size = c.maxLocals) {argsL rest : List Value} (hlen : ∀ sig, parseMethodDescriptor y.desc = some sig → argsL.length = sig.parameters.length)
    (hstack : g.stack = argsL.reverse ++ .ref b :: rest) (hW : 2 * g.monitorRoom + (rest.map fun v => v.category).sum ≤ W9) (hdg : decode c.code g.pc = .ok (.invokevirtual index, 3))
    (hpre : ∀ vm₁, s.WarmedH vm₁ → Pre ⟨T.setVm vm₁, locs, cells, slots⟩ (Value.ref b :: argsL).toArray) :
    (∃ (v : Option Value) (vm₁ : Vm) (B : Pt), s.WarmedH vm₁ ∧ Stand p l e R s m args below meth c B.U B.locs B.cells B.slots ∧ Post ⟨T.setVm vm₁, locs, cells, slots⟩ (Value.ref b :: argsL).toArray v B ∧
      ∀ target, Steps p.tables e below (B.U.setTop { g with pc := g.pc + 3, stack := v.toList ++ rest }) target → Steps p.tables e below (T.setTop g) target) ∨
    (∃ (q : Addr) (vm₁ : Vm) (B : Pt), s.WarmedH vm₁ ∧ Stand p l e R s m args below meth c B.U B.locs B.cells B.slots ∧ PostX ⟨T.setVm vm₁, locs, cells, slots⟩ (Value.ref b :: argsL).toArray q B ∧
      Steps p.tables e below (T.setTop g) ((B.U.setTop { g with stack := rest }).pushFrame (.throwing q))) := by
  obtain ⟨mk, methM, hnamed, hmethM, hstM, habM⟩ := Cond.instanceMethod_spec hinst
  obtain ⟨m8, methM', cM, hn8, hmethM', -, -, -, -, -, -, hsigM⟩ := Cond.codeWith_spec hcode
  cases Option.some.inj (hn8.symm.trans hnamed)
  cases hmethM.symm.trans hmethM'
  obtain ⟨c2, r2, m2, q1, q2, q3, q4, kP, hkP, hkPi⟩ := Cond.selects_spec hsel
  cases hcls.symm.trans q1
  cases (State.methodFound?_of_named hnamed hy).symm.trans q2
  cases hnamed.symm.trans q3
  have hselP : selectMethod e.platform s.vm cellB.cls mk = .method mk := by rw [Launch.admits_selectMethod X.admits]; exact q4
  obtain ⟨vm₁, X₁, hstep₁⟩ := X.invokevirtual hexec hown hlink hnamed hmethM hstM hkP hkPi hy (a := b) (cell := cellB) hcell
    (fun z h => by rw [h] at hobj; cases hobj) hselP hmethM habM hkP hkPi (g := g) hg (argsL := argsL) (rest := rest) (hlen _ hsigM) hstack hdg
  rcases hK m meth c ⟨T.setVm vm₁, locs, cells, slots⟩ { g with stack := rest } (.invokevirtual index) mk (Value.ref b :: argsL).toArray X₁ hg hsize hdg hW (X₁.named hnamed) (hpre vm₁ X₁.warmed) with ⟨v, B, X', hpost, hsteps⟩ | ⟨q, B, X', hpost, hsteps⟩
  · exact Or.inl ⟨v, vm₁, B, X₁.warmed, X', hpost, fun target h => hstep₁ _ fun acts => by rw [doInvoke_state]; exact hsteps.trans h⟩
  · exact Or.inr ⟨q, vm₁, B, X₁.warmed, X', hpost, hstep₁ _ fun acts => by rw [doInvoke_state]; exact hsteps⟩
theorem vx_callSX (X : Stand p l e R s m args below meth c T locs cells slots) (hexec : p.tables.exec = Jvm.exec) {own : String} {index : Nat} {y : MethodName} {bytes : ByteArray} {maxL : Nat} {ret : Option FieldType} {hh : List (Nat × Nat × Nat × Nat)}
    (hown : s.vm.findClass own = some m.cls) (hlink : (Cond.methodLink own index y).before args s = true) (hstat : (Cond.static y).before args s = true) (hinit : (Cond.initialized y.cls).before args s = true)
    (hcode : (Cond.codeWith y bytes maxL ret hh).before args s = true) (hy : y.cls ≠ "java/lang/invoke/MethodHandle" ∧ y.cls ≠ "java/lang/invoke/VarHandle")
    {W9 : Nat} {Pre : Pt → Array Value → Prop} {Post : Pt → Array Value → Option Value → Pt → Prop} {PostX : Pt → Array Value → Addr → Pt → Prop} (hK : vx_Back l R p e below s args y 3 W9 Pre Post PostX)
    {g : JFrame} (hg : g.method = m) (hsize : g.locals.size = c.maxLocals) {argsL rest : List Value} (hlen : ∀ sig, parseMethodDescriptor y.desc = some sig → argsL.length = sig.parameters.length)
    (hstack : g.stack = argsL.reverse ++ rest) (hW : 2 * g.monitorRoom + (rest.map fun v => v.category).sum ≤ W9) (hdg : decode c.code g.pc = .ok (.invokestatic index, 3))
    (hpre : ∀ vm₁, s.WarmedH vm₁ → Pre ⟨T.setVm vm₁, locs, cells, slots⟩ argsL.toArray) :
    (∃ (v : Option Value) (vm₁ : Vm) (B : Pt), s.WarmedH vm₁ ∧ Stand p l e R s m args below meth c B.U B.locs B.cells B.slots ∧ Post ⟨T.setVm vm₁, locs, cells, slots⟩ argsL.toArray v B ∧
      ∀ target, Steps p.tables e below (B.U.setTop { g with pc := g.pc + 3, stack := v.toList ++ rest }) target → Steps p.tables e below (T.setTop g) target) ∨
    (∃ (q : Addr) (vm₁ : Vm) (B : Pt), s.WarmedH vm₁ ∧ Stand p l e R s m args below meth c B.U B.locs B.cells B.slots ∧ PostX ⟨T.setVm vm₁, locs, cells, slots⟩ argsL.toArray q B ∧
      Steps p.tables e below (T.setTop g) ((B.U.setTop { g with stack := rest }).pushFrame (.throwing q))) := by
  obtain ⟨mk, methM, cM, hnamed, hmethM, -, -, -, -, -, -, hsigM⟩ := Cond.codeWith_spec hcode
  have hstatic : methM.isStatic = true := Cond.static_spec hnamed hmethM hstat
  obtain ⟨kP, hkP, -⟩ := className_of_methodNamed hnamed
  have hinitP : kP.init = .initialized := Cond.initialized_spec (findClass_of_methodNamed hnamed) hkP hinit
  obtain ⟨vm₁, X₁, hstep₁⟩ := X.invokestatic hexec hown hlink hnamed hmethM hstatic hkP hinitP hy (g := g) hg (argsL := argsL) (rest := rest) (hlen _ hsigM) hstack hdg
  rcases hK m meth c ⟨T.setVm vm₁, locs, cells, slots⟩ { g with stack := rest } (.invokestatic index) mk argsL.toArray X₁ hg hsize hdg hW (X₁.named hnamed) (hpre vm₁ X₁.warmed) with ⟨v, B, X', hpost, hsteps⟩ | ⟨q, B, X', hpost, hsteps⟩
  · exact Or.inl ⟨v, vm₁, B, X₁.warmed, X', hpost, fun target h => hstep₁ _ fun acts => by rw [doInvoke_state]; exact hsteps.trans h⟩
  · exact Or.inr ⟨q, vm₁, B, X₁.warmed, X', hpost, hstep₁ _ fun acts => by rw [doInvoke_state]; exact hsteps⟩
theorem vx_callVW (X : Stand p l e R s m args below meth c T locs cells slots) (hexec : p.tables.exec = Jvm.exec) {own C : String} {index : Nat} {y : MethodName} {bytes : ByteArray} {maxL : Nat} {ret : Option FieldType} {hh : List (Nat × Nat × Nat × Nat)}
    (hown : s.vm.findClass own = some m.cls) (hlink : (Cond.methodLink own index y).before args s = true) (hinst : (Cond.instanceMethod y).before args s = true) (hsel : (Cond.selects C y y).before args s = true)
    (hcode : (Cond.codeWith y bytes maxL ret hh).before args s = true) (hy : y.cls ≠ "java/lang/invoke/MethodHandle" ∧ y.cls ≠ "java/lang/invoke/VarHandle")
    {W9 : Nat} {Pre : Pt → Array Value → Prop} {Post : Pt → Array Value → Option Value → Pt → Prop} (hK : Back l R p e below s args y 3 W9 Pre Post)
    {b : Addr} {cellB : Cell} (hcell : T.heap[b]? = some cellB) (hobj : cellB.vm.isStatics = false) (hcls : s.vm.findClass C = some cellB.cls)
    {g : JFrame} (hg : g.method = m) (hsize : g.locals.size = c.maxLocals) {argsL rest : List Value} (hlen : ∀ sig, parseMethodDescriptor y.desc = some sig → argsL.length = sig.parameters.length)
    (hstack : g.stack = argsL.reverse ++ .ref b :: rest) (hW : 2 * g.monitorRoom + (rest.map fun v => v.category).sum ≤ W9) (hdg : decode c.code g.pc = .ok (.invokevirtual index, 3))
    (hpre : ∀ vm₁, s.WarmedH vm₁ → Pre ⟨T.setVm vm₁, locs, cells, slots⟩ (Value.ref b :: argsL).toArray) :
    ∃ (v : Option Value) (vm₁ : Vm) (B : Pt), s.WarmedH vm₁ ∧ Stand p l e R s m args below meth c B.U B.locs B.cells B.slots ∧ Post ⟨T.setVm vm₁, locs, cells, slots⟩ (Value.ref b :: argsL).toArray v B ∧
      ∀ target, Steps p.tables e below (B.U.setTop { g with pc := g.pc + 3, stack := v.toList ++ rest }) target → Steps p.tables e below (T.setTop g) target := by
  obtain ⟨mk, methM, hnamed, hmethM, hstM, habM⟩ := Cond.instanceMethod_spec hinst
  obtain ⟨m8, methM', cM, hn8, hmethM', -, -, -, -, -, -, hsigM⟩ := Cond.codeWith_spec hcode
  cases Option.some.inj (hn8.symm.trans hnamed)
  cases hmethM.symm.trans hmethM'
  obtain ⟨c2, r2, m2, q1, q2, q3, q4, kP, hkP, hkPi⟩ := Cond.selects_spec hsel
  cases hcls.symm.trans q1
  cases (State.methodFound?_of_named hnamed hy).symm.trans q2
  cases hnamed.symm.trans q3
  have hselP : selectMethod e.platform s.vm cellB.cls mk = .method mk := by rw [Launch.admits_selectMethod X.admits]; exact q4
  obtain ⟨vm₁, X₁, hstep₁⟩ := X.invokevirtual hexec hown hlink hnamed hmethM hstM hkP hkPi hy (a := b) (cell := cellB) hcell
    (fun z h => by rw [h] at hobj; cases hobj) hselP hmethM habM hkP hkPi (g := g) hg (argsL := argsL) (rest := rest) (hlen _ hsigM) hstack hdg
  obtain ⟨v, B, X', hpost, hsteps⟩ := hK m meth c ⟨T.setVm vm₁, locs, cells, slots⟩ { g with stack := rest } (.invokevirtual index) mk (Value.ref b :: argsL).toArray X₁ hg hsize hdg hW (X₁.named hnamed) (hpre vm₁ X₁.warmed)
  exact ⟨v, vm₁, B, X₁.warmed, X', hpost, fun target h => hstep₁ _ fun acts => by rw [doInvoke_state]; exact hsteps.trans h⟩
abbrev vx_CVW (R : Room) (s : State) (args : Array Value) (own C : String) (index : Nat) (y : MethodName) (bytes : ByteArray) (maxL : Nat) (ret : Option FieldType) (hh : List (Nat × Nat × Nat × Nat)) (ws : List Cond) (rm : Room) (mc ms n : Nat) : Prop :=
  (rm.cells = mc ∧ rm.slots = ms ∧ rm.frames + 1 ≤ R.frames ∧ 8 + (maxL + 11) + rm.locals ≤ R.locals ∧ (∀ w ∈ ws, ∀ (a' : Array Value) (U : State), s.WarmedH U.vm → w.before a' U = true) ∧ Cond.codeWith y bytes maxL ret hh ∈ ws) ∧
  (Cond.codeWith y bytes maxL ret hh).before args s = true ∧ (Cond.initialized y.cls).before args s = true ∧ (y.cls ≠ "java/lang/invoke/MethodHandle" ∧ y.cls ≠ "java/lang/invoke/VarHandle") ∧
  (∀ sig, parseMethodDescriptor y.desc = some sig → n = sig.parameters.length) ∧ (Cond.methodLink own index y).before args s = true ∧ (Cond.instanceMethod y).before args s = true ∧ (Cond.selects C y y).before args s = true
theorem vx_cwVW {own C : String} {index maxL mc ms : Nat} {y : MethodName} {bytes : ByteArray} {ret : Option FieldType} {hh : List (Nat × Nat × Nat × Nat)} {Ts ws ws' : List Cond} {rm : Room} (n : Nat) (ht : ∀ w ∈ Ts, w.before args s = true) (hT : GoodIn Ts (wsV own index C y ws)) (hw : ws = Cond.codeWith y bytes maxL ret hh :: ws') (hrc : rm.cells = mc) (hrs : rm.slots = ms)
    (hd : y.cls = C ∧ y.cls ≠ "java/lang/invoke/MethodHandle" ∧ y.cls ≠ "java/lang/invoke/VarHandle" ∧ (parseMethodDescriptor y.desc).map (fun d => d.parameters.length) = some n) (hR : rm.frames + 1 ≤ R.frames ∧ 8 + (maxL + 11) + rm.locals ≤ R.locals) :
    vx_CVW R s args own C index y bytes maxL ret hh ws rm mc ms n := by
  obtain ⟨hC, hd⟩ := hd
  subst hC
  have ok : ∀ w ∈ wsV own index y.cls y ws, w.before args s = true := fun w h => ht w (hT w h).1
  have hG : GoodIn Ts ws := fun w h => hT w (by unfold wsV; exact List.mem_append_right _ h)
  have hc : Cond.codeWith y bytes maxL ret hh ∈ ws := by rw [hw]; exact List.mem_cons_self
  refine ⟨⟨hrc, hrs, hR.1, hR.2, pay_in ht hG, hc⟩, ht _ (hG _ hc).1, ok _ (by simp [wsV]), ⟨hd.1, hd.2.1⟩, fun sig h => ?_, ok _ (by simp [wsV]), ok _ (by simp [wsV]), ok _ (by simp [wsV])⟩
  have h2 := hd.2.2
  rw [h] at h2
  exact (Option.some.inj h2).symm
theorem vx_runVW {y : MethodName} {bytes cc : ByteArray} {maxL nL mc ms n index : Nat} {ret : Option FieldType} {hh : List (Nat × Nat × Nat × Nat)} {ws : List Cond} {rm : Room} {Pc : Array Value → State → Prop} {Qc : Array Value → State → Outcome → State → Prop} {free : Addr → Prop} {Ts : List Cond} {own C : String} {b : Addr} {As rest : List Value} {g : JFrame}
    (S : CallFix p m c cc nL s args Ts own) (hM : Met l y ws rm Pc Qc mc ms free) (cw : vx_CVW R s args own C index y bytes maxL ret hh ws rm mc ms n) (hp : PreV s H C b Pc As)
    (hg : g.method = m) (hn : As.length = n) (hsize : g.locals.size = nL) (hstack : g.stack = As.reverse ++ .ref b :: rest) (hW : 2 * g.monitorRoom + (rest.map fun v => v.category).sum ≤ 8) (hdg : decode cc g.pc = .ok (.invokevirtual index, 3)) (hf : cells + mc ≤ R.cells ∧ slots + ms ≤ R.slots) :
    va_Run p l e R s m args below meth c H locs cells slots mc ms g rest (Qc (Value.ref b :: As).toArray) free := by
  obtain ⟨⟨hrc, hrs, hfr, hlo, hws, hcw⟩, hcode, hini, hy, hlen, hl, hin, hse⟩ := cw
  have hK : Back l R p e below s args y 3 8 (PreOf R mc ms Pc) (PostOf Qc mc ms free) := va_backW (hh := hh) (bytes := bytes) (maxL := maxL) (ret := ret) hM hp.1 hrc hrs hfr hlo hws hcw (fun a' U hW => word_at hW (Or.inl (by first | rfl | simp [Cond.onTables, Cond.keeps, Cond.steady])) hini)
  obtain ⟨hx, hb, hml, ho, -⟩ := S
  obtain ⟨-, ⟨cellB, hcB, hoB, hclB⟩, hPc⟩ := hp
  intro T hT X
  obtain ⟨v, vm₁, ⟨U', l2, c2, s2⟩, hW₁, X', ⟨g', mk, t, L, e1, e2, hq, h1, hL, h2, h3⟩, st⟩ := vx_callVW X hx (C := C) (hh := hh) (bytes := bytes) (maxL := maxL) (ret := ret) ho hl hin hse hcode hy hK (by rw [hT]; exact hcB) hoB hclB hg (hsize.trans hml.symm) (argsL := As) (rest := rest) (fun sig h => hn.trans (hlen sig h)) hstack hW (by rw [hb]; exact hdg)
    (fun vm₁ hW₁ => ⟨hf.1, hf.2, hPc (T.setVm vm₁) hT hW₁⟩)
  dsimp only [Pt.U, Pt.locs, Pt.cells, Pt.slots] at X' e1 e2 h1 h2 h3 st
  subst h1; subst h2; subst h3
  exact ⟨v, (T.setVm vm₁).calling g' mk (Value.ref b :: As).toArray, t, U', L, hT, X', hL, e1, e2, hq, st⟩
section
variable {y : MethodName} {bytes cc : ByteArray} {maxL nL mc ms n index : Nat} {ret : Option FieldType} {ws : List Cond} {rm : Room} {Pc : Array Value → State → Prop} {Qc : Array Value → State → Outcome → State → Prop} {XC : String → State → State → Prop} {free : Addr → Prop} {Ts : List Cond} {own C : String} {b : Addr} {As rest : List Value} {g : JFrame}
theorem vx_runVX {hh : List (Nat × Nat × Nat × Nat)} (S : CallFix p m c cc nL s args Ts own) (hM : vx_Met l y ws rm Pc Qc XC mc ms free) (cw : vx_CVW R s args own C index y bytes maxL ret hh ws rm mc ms n) (hp : PreV s H C b Pc As)
    (hg : g.method = m) (hn : As.length = n) (hsize : g.locals.size = nL) (hstack : g.stack = As.reverse ++ .ref b :: rest) (hW : 2 * g.monitorRoom + (rest.map fun v => v.category).sum ≤ 8) (hdg : decode cc g.pc = .ok (.invokevirtual index, 3)) (hf : cells + mc ≤ R.cells ∧ slots + ms ≤ R.slots) :
    vx_Run p l e R s m args below meth c H locs cells slots mc ms g rest (Qc (Value.ref b :: As).toArray) XC free := by
  obtain ⟨⟨hrc, hrs, hfr, hlo, hws, hcw⟩, hcode, hini, hy, hlen, hl, hin, hse⟩ := cw
  have hK : vx_Back l R p e below s args y 3 8 (PreOf R mc ms Pc) (PostOf Qc mc ms free) (vx_Post XC mc ms free) := vx_backW (hh := hh) (bytes := bytes) (maxL := maxL) (ret := ret) hM hp.1 hrc hrs hfr hlo hws hcw (fun a' U hW => word_at hW (Or.inl (by first | rfl | simp [Cond.onTables, Cond.keeps, Cond.steady])) hini)
  obtain ⟨hx, hb, hml, ho, -⟩ := S
  obtain ⟨-, ⟨cellB, hcB, hoB, hclB⟩, hPc⟩ := hp
  intro T hT X
  rcases vx_callVX X hx (C := C) (hh := hh) (bytes := bytes) (maxL := maxL) (ret := ret) ho hl hin hse hcode hy hK (by rw [hT]; exact hcB) hoB hclB hg (hsize.trans hml.symm) (argsL := As) (rest := rest) (fun sig h => hn.trans (hlen sig h)) hstack hW (by rw [hb]; exact hdg)
    (fun vm₁ hW₁ => ⟨hf.1, hf.2, hPc (T.setVm vm₁) hT hW₁⟩) with ⟨v, vm₁, ⟨U', l2, c2, s2⟩, hW₁, X', ⟨g', mk, t, L, e1, e2, hq, h1, hL, h2, h3⟩, st⟩ | ⟨q, vm₁, ⟨U', l2, c2, s2⟩, hW₁, X', ⟨g', mk, t, L, E, ce, e1, e2, hq, hce, hcv, hcl, h1, hL, h2, h3⟩, st⟩
  · dsimp only [Pt.U, Pt.locs, Pt.cells, Pt.slots] at X' e1 e2 h1 h2 h3 st
    subst h1; subst h2; subst h3
    exact Or.inl ⟨v, (T.setVm vm₁).calling g' mk (Value.ref b :: As).toArray, t, U', L, hT, X', hL, e1, e2, hq, st⟩
  · dsimp only [Pt.U, Pt.locs, Pt.cells, Pt.slots] at X' e1 e2 h1 h2 h3 st hcl
    subst h1; subst h2; subst h3
    exact Or.inr ⟨q, (T.setVm vm₁).calling g' mk (Value.ref b :: As).toArray, t, U', L, E, ce, hT, X', hL, e1, e2, hq, hce, hcv, vx_cls hW₁ hcl, st⟩
theorem vx_runSX {hh : List (Nat × Nat × Nat × Nat)} (S : CallFix p m c cc nL s args Ts own) (hM : vx_Met l y ws rm Pc Qc XC mc ms free) (cw : vx_CSW R s args own index y bytes maxL ret hh ws rm mc ms n) (hp : PreS s H Pc As)
    (hg : g.method = m) (hn : As.length = n) (hsize : g.locals.size = nL) (hstack : g.stack = As.reverse ++ rest) (hW : 2 * g.monitorRoom + (rest.map fun v => v.category).sum ≤ 8) (hdg : decode cc g.pc = .ok (.invokestatic index, 3)) (hf : cells + mc ≤ R.cells ∧ slots + ms ≤ R.slots) :
    vx_Run p l e R s m args below meth c H locs cells slots mc ms g rest (Qc As.toArray) XC free := by
  obtain ⟨⟨hrc, hrs, hfr, hlo, hws, hcw⟩, hcode, hini, hy, hlen, hl, hstt⟩ := cw
  have hK : vx_Back l R p e below s args y 3 8 (PreOf R mc ms Pc) (PostOf Qc mc ms free) (vx_Post XC mc ms free) := vx_backW (hh := hh) (bytes := bytes) (maxL := maxL) (ret := ret) hM hp.1 hrc hrs hfr hlo hws hcw (fun a' U hW => word_at hW (Or.inl (by first | rfl | simp [Cond.onTables, Cond.keeps, Cond.steady])) hini)
  obtain ⟨hx, hb, hml, ho, -⟩ := S
  intro T hT X
  rcases vx_callSX X hx (hh := hh) (bytes := bytes) (maxL := maxL) (ret := ret) ho hl hstt hini hcode hy hK hg (hsize.trans hml.symm) (argsL := As) (rest := rest) (fun sig h => hn.trans (hlen sig h)) hstack hW (by rw [hb]; exact hdg)
    (fun vm₁ hW₁ => ⟨hf.1, hf.2, hp.2 (T.setVm vm₁) hT hW₁⟩) with ⟨v, vm₁, ⟨U', l2, c2, s2⟩, hW₁, X', ⟨g', mk, t, L, e1, e2, hq, h1, hL, h2, h3⟩, st⟩ | ⟨q, vm₁, ⟨U', l2, c2, s2⟩, hW₁, X', ⟨g', mk, t, L, E, ce, e1, e2, hq, hce, hcv, hcl, h1, hL, h2, h3⟩, st⟩
  · dsimp only [Pt.U, Pt.locs, Pt.cells, Pt.slots] at X' e1 e2 h1 h2 h3 st
    subst h1; subst h2; subst h3
    exact Or.inl ⟨v, (T.setVm vm₁).calling g' mk As.toArray, t, U', L, hT, X', hL, e1, e2, hq, st⟩
  · dsimp only [Pt.U, Pt.locs, Pt.cells, Pt.slots] at X' e1 e2 h1 h2 h3 st hcl
    subst h1; subst h2; subst h3
    exact Or.inr ⟨q, (T.setVm vm₁).calling g' mk As.toArray, t, U', L, E, ce, hT, X', hL, e1, e2, hq, hce, hcv, vx_cls hW₁ hcl, st⟩
end
end VXH
theorem vx_ofWH {l : Launch} {y : MethodName} {ws ws' : List Cond} {rm : Room} {Pc : Array Value → State → Prop} {Qc : Array Value → State → Outcome → State → Prop} {XC : String → State → State → Prop} {mc ms : Nat} {free : Addr → Prop} {cc : ByteArray} {maxL : Nat} {ret : Option FieldType} {hh : List (Nat × Nat × Nat × Nat)}
    (hy : plainName y.cls = true) (hw : ws = Cond.codeWith y cc maxL ret hh :: ws')
    (body : ∀ p e s m args below meth c s₁, BodyLoose p l y (headSpec ws rm) cc maxL ret e s m args below meth c s₁ → c.maxLocals = maxL → Pc args s →
      W p l e (headSpec ws rm).room s m args below meth c s.heap [] 0 0 (vx_MQ below Qc XC args s mc ms free) (entryFrame m args maxL)) : vx_Met l y ws rm Pc Qc XC mc ms free := by
  refine MetFree.of_bodyS (code := cc) (maxLocals := maxL) (ret := ret) hy ?_ ?_
  · intro args s m h hn
    obtain ⟨m9, meth, c, hn9, h1, h2, h3, h4, -, h5, h6, -⟩ := Cond.codeWith_spec (atoms_spec (ws := ws) h _ (by rw [hw]; exact List.mem_cons_self))
    cases hn.symm.trans hn9
    exact ⟨meth, c, h1, h2, h3, h4, h5, h6⟩
  · intro p e s m args below meth c s₁ B hml hP _
    have hh0 : s₁.heap = s.heap := by rw [B.state]; rfl
    obtain ⟨t, a1, o, b1, b2, b3⟩ := body p e s m args below meth c s₁ B hml hP s₁ hh0 (Stand.of_body B)
    exact ⟨t, o, a1, b1, b2, b3⟩
/-! ===== END ===== -/
/-! ===== BEGIN a constructor that throws (launches without stack traces) ===== -/
section VXIA
variable {p : Program} {l : Launch} {e : Env} {R : Room} {s : State} {m : MethodId} {args : Array Value} {below : List Frame} {meth : Method} {c : Code} {T : State} {locs : List Loc} {cells slots : Nat}
theorem vx_callI (X : Stand p l e R s m args below meth c T locs cells slots) (hexec : p.tables.exec = Jvm.exec) {own : String} {index : Nat} {y : MethodName} {bytes : ByteArray} {maxL : Nat}
    (hown : s.vm.findClass own = some m.cls) (hy1 : y.name = "<init>") (hlink : (Cond.methodLink own index y).before args s = true) (hinst : (Cond.instanceMethod y).before args s = true)
    (hcode : (Cond.code y bytes maxL none).before args s = true) (hy : y.cls ≠ "java/lang/invoke/MethodHandle" ∧ y.cls ≠ "java/lang/invoke/VarHandle")
    {W9 : Nat} {Pre : Pt → Array Value → Prop} {Post : Pt → Array Value → Option Value → Pt → Prop} {PostX : Pt → Array Value → Addr → Pt → Prop} (hK : vx_Back l R p e below s args y 3 W9 Pre Post PostX)
    {g : JFrame} (hg : g.method = m) (hsize : g.locals.size = c.maxLocals) {a : Addr} {argsL rest : List Value} (hlen : ∀ sig, parseMethodDescriptor y.desc = some sig → argsL.length = sig.parameters.length)
    (hstack : g.stack = argsL.reverse ++ .ref a :: rest) (hW : 2 * g.monitorRoom + (rest.map fun v => v.category).sum ≤ W9) (hdg : decode c.code g.pc = .ok (.invokespecial index, 3))
    (hpre : ∀ vm₁, s.WarmedH vm₁ → Pre ⟨T.setVm vm₁, locs, cells, slots⟩ (Value.ref a :: argsL).toArray) :
    (∃ (v : Option Value) (vm₁ : Vm) (B : Pt), s.WarmedH vm₁ ∧ Stand p l e R s m args below meth c B.U B.locs B.cells B.slots ∧ Post ⟨T.setVm vm₁, locs, cells, slots⟩ (Value.ref a :: argsL).toArray v B ∧
      ∀ target, Steps p.tables e below (B.U.setTop { g with pc := g.pc + 3, stack := v.toList ++ rest }) target → Steps p.tables e below (T.setTop g) target) ∨
    (∃ (q : Addr) (vm₁ : Vm) (B : Pt), s.WarmedH vm₁ ∧ Stand p l e R s m args below meth c B.U B.locs B.cells B.slots ∧ PostX ⟨T.setVm vm₁, locs, cells, slots⟩ (Value.ref a :: argsL).toArray q B ∧
      Steps p.tables e below (T.setTop g) ((B.U.setTop { g with stack := rest }).pushFrame (.throwing q))) := by
  subst hg
  have hpl : e.platform.magicAccessors = ({} : Platform).magicAccessors := by rw [X.admits.platform]
  obtain ⟨mk, methM, cM, kP, vm₁, hnamed, hmethM, hcodeM, -, hlocalsM, -, hkP, -, hW₁, hstep₁⟩ := Steps.initColdArgs (e := e) X.here hexec X.warmed hpl hown hy1 hy hlink hinst hcode (f := g) rfl hlen hstack hdg
  have X₁ := X.noted hW₁
  rcases hK g.method meth c ⟨T.setVm vm₁, locs, cells, slots⟩ { g with stack := rest } (.invokespecial index) mk (Value.ref a :: argsL).toArray X₁ rfl hsize hdg hW (X₁.named hnamed) (hpre vm₁ X₁.warmed) with ⟨v, B, X', hpost, hsteps⟩ | ⟨q, B, X', hpost, hsteps⟩
  · exact Or.inl ⟨v, vm₁, B, X₁.warmed, X', hpost, fun target h => hstep₁ _ fun acts => by rw [doInvoke_state]; exact hsteps.trans h⟩
  · exact Or.inr ⟨q, vm₁, B, X₁.warmed, X', hpost, hstep₁ _ fun acts => by rw [doInvoke_state]; exact hsteps⟩
end VXIA
section VXIB
variable {p : Program} {l : Launch} {e : Env} {R : Room} {s : State} {m : MethodId} {args : Array Value} {below : List Frame} {meth : Method} {c : Code} {H : Heap} {locs : List Loc} {cells slots : Nat}
variable {y : MethodName} {bytes cc : ByteArray} {maxL nL mc ms n index : Nat} {ret : Option FieldType} {ws : List Cond} {rm : Room} {Pc : Array Value → State → Prop} {Qc : Array Value → State → Outcome → State → Prop} {XC : String → State → State → Prop} {free : Addr → Prop} {Ts : List Cond} {own C : String} {b : Addr} {As rest : List Value} {g : JFrame}
theorem vx_runI (S : CallFix p m c cc nL s args Ts own) (hM : vx_Met l y ws rm Pc Qc XC mc ms free) (cw : CallB R s args own index y bytes maxL none ws rm mc ms n ∧ y.name = "<init>" ∧ (Cond.instanceMethod y).before args s = true) (hp : PreS s H Pc (.ref b :: As))
    (hg : g.method = m) (hn : As.length = n) (hsize : g.locals.size = nL) (hstack : g.stack = As.reverse ++ .ref b :: rest) (hW : 2 * g.monitorRoom + (rest.map fun v => v.category).sum ≤ 8) (hdg : decode cc g.pc = .ok (.invokespecial index, 3)) (hf : cells + mc ≤ R.cells ∧ slots + ms ≤ R.slots) :
    vx_Run p l e R s m args below meth c H locs cells slots mc ms g rest (Qc (Value.ref b :: As).toArray) XC free := by
  have hK : vx_Back l R p e below s args y 3 8 (PreOf R mc ms Pc) (PostOf Qc mc ms free) (vx_Post XC mc ms free) := vx_callBack cw.1 hM hp.1
  obtain ⟨⟨-, -, -, -, -, -, hcode, -, hy, hlen, hl⟩, hy1, hin⟩ := cw
  obtain ⟨hx, hb, hml, ho, -⟩ := S
  have hPc := hp.2
  intro T hT X
  rcases vx_callI X hx (bytes := bytes) (maxL := maxL) ho hy1 hl hin hcode hy hK hg (hsize.trans hml.symm) (a := b) (argsL := As) (rest := rest) (fun sig h => hn.trans (hlen sig h)) hstack hW (by rw [hb]; exact hdg)
    (fun vm₁ hW₁ => ⟨hf.1, hf.2, hPc (T.setVm vm₁) hT hW₁⟩) with ⟨v, vm₁, ⟨U', l2, c2, s2⟩, hW₁, X', ⟨g', mk, t, L, e1, e2, hq, h1, hL, h2, h3⟩, st⟩ | ⟨q, vm₁, ⟨U', l2, c2, s2⟩, hW₁, X', ⟨g', mk, t, L, E, ce, e1, e2, hq, hce, hcv, hcl, h1, hL, h2, h3⟩, st⟩
  · dsimp only [Pt.U, Pt.locs, Pt.cells, Pt.slots] at X' e1 e2 h1 h2 h3 st
    subst h1; subst h2; subst h3
    exact Or.inl ⟨v, (T.setVm vm₁).calling g' mk (Value.ref b :: As).toArray, t, U', L, hT, X', hL, e1, e2, hq, st⟩
  · dsimp only [Pt.U, Pt.locs, Pt.cells, Pt.slots] at X' e1 e2 h1 h2 h3 st hcl
    subst h1; subst h2; subst h3
    exact Or.inr ⟨q, (T.setVm vm₁).calling g' mk (Value.ref b :: As).toArray, t, U', L, E, ce, hT, X', hL, e1, e2, hq, hce, hcv, vx_cls hW₁ hcl, st⟩
end VXIB
/-! ===== END ===== -/
/-! ===== BEGIN a private constructor of a nest mate that throws ===== -/
section VXIC
variable {p : Program} {l : Launch} {e : Env} {R : Room} {s : State} {m : MethodId} {args : Array Value} {below : List Frame} {meth : Method} {c : Code} {T : State} {locs : List Loc} {cells slots : Nat}
theorem vx_callIN (X : Stand p l e R s m args below meth c T locs cells slots) (hexec : p.tables.exec = Jvm.exec) {own : String} {index : Nat} {host : String} {y : MethodName} {bytes : ByteArray} {maxL : Nat}
    (hown : s.vm.findClass own = some m.cls) (hy1 : y.name = "<init>") (hlink : (Cond.methodLinkNest own index y host).before args s = true) (hinst : (Cond.instanceMethod y).before args s = true)
    (hcode : (Cond.code y bytes maxL none).before args s = true) (hy : y.cls ≠ "java/lang/invoke/MethodHandle" ∧ y.cls ≠ "java/lang/invoke/VarHandle")
    {W9 : Nat} {Pre : Pt → Array Value → Prop} {Post : Pt → Array Value → Option Value → Pt → Prop} {PostX : Pt → Array Value → Addr → Pt → Prop} (hK : vx_Back l R p e below s args y 3 W9 Pre Post PostX)
    {g : JFrame} (hg : g.method = m) (hsize : g.locals.size = c.maxLocals) {a : Addr} {argsL rest : List Value} (hlen : ∀ sig, parseMethodDescriptor y.desc = some sig → argsL.length = sig.parameters.length)
    (hstack : g.stack = argsL.reverse ++ .ref a :: rest) (hW : 2 * g.monitorRoom + (rest.map fun v => v.category).sum ≤ W9) (hdg : decode c.code g.pc = .ok (.invokespecial index, 3))
    (hpre : ∀ vm₁, s.WarmedH vm₁ → Pre ⟨T.setVm vm₁, locs, cells, slots⟩ (Value.ref a :: argsL).toArray) :
    (∃ (v : Option Value) (vm₁ : Vm) (B : Pt), s.WarmedH vm₁ ∧ Stand p l e R s m args below meth c B.U B.locs B.cells B.slots ∧ Post ⟨T.setVm vm₁, locs, cells, slots⟩ (Value.ref a :: argsL).toArray v B ∧
      ∀ target, Steps p.tables e below (B.U.setTop { g with pc := g.pc + 3, stack := v.toList ++ rest }) target → Steps p.tables e below (T.setTop g) target) ∨
    (∃ (q : Addr) (vm₁ : Vm) (B : Pt), s.WarmedH vm₁ ∧ Stand p l e R s m args below meth c B.U B.locs B.cells B.slots ∧ PostX ⟨T.setVm vm₁, locs, cells, slots⟩ (Value.ref a :: argsL).toArray q B ∧
      Steps p.tables e below (T.setTop g) ((B.U.setTop { g with stack := rest }).pushFrame (.throwing q))) := by
  subst hg
  have hpl : e.platform.magicAccessors = ({} : Platform).magicAccessors := by rw [X.admits.platform]
  obtain ⟨mk, methM, cM, kP, vm₁, hnamed, hmethM, hcodeM, -, hlocalsM, -, hkP, -, hW₁, hstep₁⟩ := Steps.initColdArgsNest (e := e) X.here hexec X.warmed hpl hown hy1 hy hlink hinst hcode (f := g) rfl hlen hstack hdg
  have X₁ := X.noted hW₁
  rcases hK g.method meth c ⟨T.setVm vm₁, locs, cells, slots⟩ { g with stack := rest } (.invokespecial index) mk (Value.ref a :: argsL).toArray X₁ rfl hsize hdg hW (X₁.named hnamed) (hpre vm₁ X₁.warmed) with ⟨v, B, X', hpost, hsteps⟩ | ⟨q, B, X', hpost, hsteps⟩
  · exact Or.inl ⟨v, vm₁, B, X₁.warmed, X', hpost, fun target h => hstep₁ _ fun acts => by rw [doInvoke_state]; exact hsteps.trans h⟩
  · exact Or.inr ⟨q, vm₁, B, X₁.warmed, X', hpost, hstep₁ _ fun acts => by rw [doInvoke_state]; exact hsteps⟩
end VXIC
section VXID
variable {p : Program} {l : Launch} {e : Env} {R : Room} {s : State} {m : MethodId} {args : Array Value} {below : List Frame} {meth : Method} {c : Code} {H : Heap} {locs : List Loc} {cells slots : Nat}
theorem vx_runIN {y : MethodName} {bytes cc : ByteArray} {maxL nL mc ms n index : Nat} {ws : List Cond} {rm : Room} {Pc : Array Value → State → Prop} {Qc : Array Value → State → Outcome → State → Prop} {XC : String → State → State → Prop} {free : Addr → Prop} {Ts : List Cond} {own host : String} {b : Addr} {As rest : List Value} {g : JFrame}
    (S : CallFix p m c cc nL s args Ts own) (hM : vx_Met l y ws rm Pc Qc XC mc ms free) (cw : va_CN R s args own index y host bytes maxL none ws rm mc ms n ∧ y.name = "<init>" ∧ (Cond.instanceMethod y).before args s = true) (hp : PreS s H Pc (.ref b :: As))
    (hg : g.method = m) (hn : As.length = n) (hsize : g.locals.size = nL) (hstack : g.stack = As.reverse ++ .ref b :: rest) (hW : 2 * g.monitorRoom + (rest.map fun v => v.category).sum ≤ 8) (hdg : decode cc g.pc = .ok (.invokespecial index, 3)) (hf : cells + mc ≤ R.cells ∧ slots + ms ≤ R.slots) :
    vx_Run p l e R s m args below meth c H locs cells slots mc ms g rest (Qc (Value.ref b :: As).toArray) XC free := by
  obtain ⟨⟨⟨hrc, hrs, hfr, hlo, hws, hcw⟩, hcode, hini, hy, hlen, hl⟩, hx1, hx2⟩ := cw
  have hK : vx_Back l R p e below s args y 3 8 (PreOf R mc ms Pc) (PostOf Qc mc ms free) (vx_Post XC mc ms free) := vx_back (bytes := bytes) (maxL := maxL) (ret := none) hM hp.1 hrc hrs hfr hlo hws hcw (fun a' U hW => word_at hW (Or.inl (by first | rfl | simp [Cond.onTables, Cond.keeps, Cond.steady])) hini)
  obtain ⟨hx, hb, hml, ho, -⟩ := S
  have hPc := hp.2
  intro T hT X
  rcases vx_callIN X hx (bytes := bytes) (maxL := maxL) ho hx1 hl hx2 hcode hy hK hg (hsize.trans hml.symm) (a := b) (argsL := As) (rest := rest) (fun sig h => hn.trans (hlen sig h)) hstack hW (by rw [hb]; exact hdg)
    (fun vm₁ hW₁ => ⟨hf.1, hf.2, hPc (T.setVm vm₁) hT hW₁⟩) with ⟨v, vm₁, ⟨U', l2, c2, s2⟩, hW₁, X', ⟨g', mk, t, L, e1, e2, hq, h1, hL, h2, h3⟩, st⟩ | ⟨q, vm₁, ⟨U', l2, c2, s2⟩, hW₁, X', ⟨g', mk, t, L, E, ce, e1, e2, hq, hce, hcv, hcl, h1, hL, h2, h3⟩, st⟩
  · dsimp only [Pt.U, Pt.locs, Pt.cells, Pt.slots] at X' e1 e2 h1 h2 h3 st
    subst h1; subst h2; subst h3
    exact Or.inl ⟨v, (T.setVm vm₁).calling g' mk (Value.ref b :: As).toArray, t, U', L, hT, X', hL, e1, e2, hq, st⟩
  · dsimp only [Pt.U, Pt.locs, Pt.cells, Pt.slots] at X' e1 e2 h1 h2 h3 st hcl
    subst h1; subst h2; subst h3
    exact Or.inr ⟨q, (T.setVm vm₁).calling g' mk (Value.ref b :: As).toArray, t, U', L, E, ce, hT, X', hL, e1, e2, hq, hce, hcv, vx_cls hW₁ hcl, st⟩
end VXID
/-! ===== END ===== -/
/-! ===== BEGIN a method of a class above, found by the receiver, that may throw (follows va_callVU, va_runU of this kit) ===== -/
section
variable {p : Program} {l : Launch} {e : Env} {R : Room} {s : State} {m : MethodId} {args : Array Value} {below : List Frame} {meth : Method} {c : Code} {H : Heap} {locs : List Loc} {cells slots : Nat}
theorem vx_callVU {T : State} {locs : List Loc} {cells slots : Nat} (X : Stand p l e R s m args below meth c T locs cells slots) (hexec : p.tables.exec = Jvm.exec) {own C owner : String} {index : Nat} {x y : MethodName} {bytes : ByteArray} {maxL : Nat} {ret : Option FieldType}
    (hown : s.vm.findClass own = some m.cls) (hlink : (Cond.methodLink own index x).before args s = true) (hsame : (Cond.sameMethod x.cls owner x.name x.desc).before args s = true)
    (hd0 : va_Decl s ⟨owner, x.name, x.desc⟩) (howner : owner ≠ "java/lang/invoke/MethodHandle" ∧ owner ≠ "java/lang/invoke/VarHandle")
    (hsel : (Cond.selects C x y).before args s = true) (hinst : (Cond.instanceMethod y).before args s = true) (hcode : (Cond.code y bytes maxL ret).before args s = true)
    {W : Nat} {Pre : Pt → Array Value → Prop} {Post : Pt → Array Value → Option Value → Pt → Prop} {PostX : Pt → Array Value → Addr → Pt → Prop} (hK : vx_Back l R p e below s args y 3 W Pre Post PostX)
    {b : Addr} {cellB : Cell} (hcell : T.heap[b]? = some cellB) (hobj : cellB.vm.isStatics = false) (hcls : s.vm.findClass C = some cellB.cls)
    {g : JFrame} (hg : g.method = m) (hsize : g.locals.size = c.maxLocals) {argsL rest : List Value} (hlen : ∀ sig, parseMethodDescriptor x.desc = some sig → argsL.length = sig.parameters.length)
    (hstack : g.stack = argsL.reverse ++ .ref b :: rest) (hW : 2 * g.monitorRoom + (rest.map fun v => v.category).sum ≤ W) (hdg : decode c.code g.pc = .ok (.invokevirtual index, 3))
    (hpre : ∀ vm₁, s.WarmedH vm₁ → Pre ⟨T.setVm vm₁, locs, cells, slots⟩ (Value.ref b :: argsL).toArray) :
    (∃ (v : Option Value) (vm₁ : Vm) (B : Pt), s.WarmedH vm₁ ∧ Stand p l e R s m args below meth c B.U B.locs B.cells B.slots ∧ Post ⟨T.setVm vm₁, locs, cells, slots⟩ (Value.ref b :: argsL).toArray v B ∧
      ∀ target, Steps p.tables e below (B.U.setTop { g with pc := g.pc + 3, stack := v.toList ++ rest }) target → Steps p.tables e below (T.setTop g) target) ∨
    (∃ (q : Addr) (vm₁ : Vm) (B : Pt), s.WarmedH vm₁ ∧ Stand p l e R s m args below meth c B.U B.locs B.cells B.slots ∧ PostX ⟨T.setVm vm₁, locs, cells, slots⟩ (Value.ref b :: argsL).toArray q B ∧
      Steps p.tables e below (T.setTop g) ((B.U.setTop { g with stack := rest }).pushFrame (.throwing q))) := by
  obtain ⟨r0, r, hn, hrm, hstR, hsigR⟩ := hd0
  obtain ⟨cn, ck, r1, hcn, hck, hni, hf, hn1⟩ := Cond.sameMethod_found hsame
  cases hn.symm.trans hn1
  obtain ⟨mk, methM, hnamed, hmethM, -, habM⟩ := Cond.instanceMethod_spec hinst
  obtain ⟨c2, r2, m2, q1, q2, q3, q4, kP, hkP, hkPi⟩ := Cond.selects_spec hsel
  cases hcls.symm.trans q1
  cases hf.symm.trans q2
  cases hnamed.symm.trans q3
  have hselP : selectMethod e.platform s.vm cellB.cls r0 = .method mk := by rw [Launch.admits_selectMethod X.admits]; exact q4
  obtain ⟨vm₁, X₁, hstep₁⟩ := X.invokevirtualUp hexec hown hlink hsame howner hn hrm hstR (a := b) (cell := cellB) hcell
    (fun z h => by rw [h] at hobj; cases hobj) hselP hmethM habM hkP hkPi (g := g) hg (argsL := argsL) (rest := rest) (hlen _ hsigR) hstack hdg
  rcases hK m meth c ⟨T.setVm vm₁, locs, cells, slots⟩ { g with stack := rest } (.invokevirtual index) mk (Value.ref b :: argsL).toArray X₁ hg hsize hdg hW (X₁.named hnamed) (hpre vm₁ X₁.warmed) with ⟨v, B, X', hpost, hsteps⟩ | ⟨q, B, X', hpost, hsteps⟩
  · exact Or.inl ⟨v, vm₁, B, X₁.warmed, X', hpost, fun target h => hstep₁ _ fun acts => by rw [doInvoke_state]; exact hsteps.trans h⟩
  · exact Or.inr ⟨q, vm₁, B, X₁.warmed, X', hpost, hstep₁ _ fun acts => by rw [doInvoke_state]; exact hsteps⟩
theorem vx_runU {x y : MethodName} {bytes cc : ByteArray} {maxL nL mc ms n index : Nat} {ret : Option FieldType} {ws : List Cond} {rm : Room} {Pc : Array Value → State → Prop} {Qc : Array Value → State → Outcome → State → Prop} {XC : String → State → State → Prop} {free : Addr → Prop} {Ts : List Cond} {own C owner : String} {b : Addr} {As rest : List Value} {g : JFrame}
    (S : CallFix p m c cc nL s args Ts own) (hM : vx_Met l y ws rm Pc Qc XC mc ms free) (cw : va_CU R s args own C owner index x y bytes maxL ret ws rm mc ms n) (hp : PreV s H C b Pc As)
    (hg : g.method = m) (hn : As.length = n) (hsize : g.locals.size = nL) (hstack : g.stack = As.reverse ++ .ref b :: rest) (hW : 2 * g.monitorRoom + (rest.map fun v => v.category).sum ≤ 8) (hdg : decode cc g.pc = .ok (.invokevirtual index, 3)) (hf : cells + mc ≤ R.cells ∧ slots + ms ≤ R.slots) :
    vx_Run p l e R s m args below meth c H locs cells slots mc ms g rest (Qc (Value.ref b :: As).toArray) XC free := by
  obtain ⟨hrc, hrs, hfr, hlo, hws, hcw⟩ := cw.back
  have hini := cw.init
  have hK : vx_Back l R p e below s args y 3 8 (PreOf R mc ms Pc) (PostOf Qc mc ms free) (vx_Post XC mc ms free) := vx_back (bytes := bytes) (maxL := maxL) (ret := ret) hM hp.1 hrc hrs hfr hlo hws hcw (fun a' U hW => word_at hW (Or.inl (by first | rfl | simp [Cond.onTables, Cond.keeps, Cond.steady])) hini)
  obtain ⟨hx, hb, hml, ho, -⟩ := S
  obtain ⟨-, ⟨cellB, hcB, hoB, hclB⟩, hPc⟩ := hp
  intro T hT X
  rcases vx_callVU X hx (C := C) (owner := owner) (bytes := bytes) (maxL := maxL) (ret := ret) ho cw.link cw.same cw.decl cw.notMH cw.sel cw.inst cw.code hK (by rw [hT]; exact hcB) hoB hclB hg (hsize.trans hml.symm) (argsL := As) (rest := rest) (fun sig h => hn.trans (cw.len sig h)) hstack hW (by rw [hb]; exact hdg)
    (fun vm₁ hW₁ => ⟨hf.1, hf.2, hPc (T.setVm vm₁) hT hW₁⟩) with ⟨v, vm₁, ⟨U', l2, c2, s2⟩, hW₁, X', ⟨g', mk, t, L, e1, e2, hq, h1, hL, h2, h3⟩, st⟩ | ⟨q, vm₁, ⟨U', l2, c2, s2⟩, hW₁, X', ⟨g', mk, t, L, E, ce, e1, e2, hq, hce, hcv, hcl, h1, hL, h2, h3⟩, st⟩
  · dsimp only [Pt.U, Pt.locs, Pt.cells, Pt.slots] at X' e1 e2 h1 h2 h3 st
    subst h1; subst h2; subst h3
    exact Or.inl ⟨v, (T.setVm vm₁).calling g' mk (Value.ref b :: As).toArray, t, U', L, hT, X', hL, e1, e2, hq, st⟩
  · dsimp only [Pt.U, Pt.locs, Pt.cells, Pt.slots] at X' e1 e2 h1 h2 h3 st hcl
    subst h1; subst h2; subst h3
    exact Or.inr ⟨q, (T.setVm vm₁).calling g' mk (Value.ref b :: As).toArray, t, U', L, E, ce, hT, X', hL, e1, e2, hq, hce, hcv, vx_cls hW₁ hcl, st⟩
end
/-! ===== END ===== -/
/-! ===== BEGIN super.m(..) that may throw (follows va_callSU, va_runSU) ===== -/
section
variable {p : Program} {l : Launch} {e : Env} {R : Room} {s : State} {m : MethodId} {args : Array Value} {below : List Frame} {meth : Method} {c : Code} {H : Heap} {locs : List Loc} {cells slots : Nat}
theorem vx_callSU {T : State} {locs : List Loc} {cells slots : Nat} (X : Stand p l e R s m args below meth c T locs cells slots) (hexec : p.tables.exec = Jvm.exec) {own : String} {index : Nat} {y : MethodName} {bytes : ByteArray} {maxL : Nat} {ret : Option FieldType}
    (hown : s.vm.findClass own = some m.cls) (hlink : (Cond.methodLink own index y).before args s = true) (hsame : (Cond.sameMethod y.cls y.cls y.name y.desc).before args s = true) (hsup : (Cond.superclass own y.cls).before args s = true)
    (hinst : (Cond.instanceMethod y).before args s = true) (hcode : (Cond.code y bytes maxL ret).before args s = true) (hno : y.name ≠ "<init>")
    {W : Nat} {Pre : Pt → Array Value → Prop} {Post : Pt → Array Value → Option Value → Pt → Prop} {PostX : Pt → Array Value → Addr → Pt → Prop} (hK : vx_Back l R p e below s args y 3 W Pre Post PostX)
    {b : Addr} {cellB : Cell} {kB : Class} (hcell : T.heap[b]? = some cellB) (hobj : cellB.vm.isStatics = false) (hkB : s.vm.classes[cellB.cls]? = some kB)
    {g : JFrame} (hg : g.method = m) (hsize : g.locals.size = c.maxLocals) {argsL rest : List Value} (hlen : ∀ sig, parseMethodDescriptor y.desc = some sig → argsL.length = sig.parameters.length)
    (hstack : g.stack = argsL.reverse ++ .ref b :: rest) (hW : 2 * g.monitorRoom + (rest.map fun v => v.category).sum ≤ W) (hdg : decode c.code g.pc = .ok (.invokespecial index, 3))
    (hpre : ∀ vm₁, s.WarmedH vm₁ → Pre ⟨T.setVm vm₁, locs, cells, slots⟩ (Value.ref b :: argsL).toArray) :
    (∃ (v : Option Value) (vm₁ : Vm) (B : Pt), s.WarmedH vm₁ ∧ Stand p l e R s m args below meth c B.U B.locs B.cells B.slots ∧ Post ⟨T.setVm vm₁, locs, cells, slots⟩ (Value.ref b :: argsL).toArray v B ∧
      ∀ target, Steps p.tables e below (B.U.setTop { g with pc := g.pc + 3, stack := v.toList ++ rest }) target → Steps p.tables e below (T.setTop g) target) ∨
    (∃ (q : Addr) (vm₁ : Vm) (B : Pt), s.WarmedH vm₁ ∧ Stand p l e R s m args below meth c B.U B.locs B.cells B.slots ∧ PostX ⟨T.setVm vm₁, locs, cells, slots⟩ (Value.ref b :: argsL).toArray q B ∧
      Steps p.tables e below (T.setTop g) ((B.U.setTop { g with stack := rest }).pushFrame (.throwing q))) := by
  obtain ⟨mk, methM, hnamed, hmethM, hstM, habM⟩ := Cond.instanceMethod_spec hinst
  obtain ⟨methM', cM, hmethM', -, -, -, -, -, -, hsigM⟩ := Cond.code_spec hnamed hcode
  cases hmethM.symm.trans hmethM'
  obtain ⟨ps, dk, kp, hps, hdk, hkp, hsuper, -, -, hnid⟩ := Cond.superclass_spec hown hsup
  have hn : s.methodNamed? ⟨y.cls, y.name, y.desc⟩ = some mk := hnamed
  have hpm : ps = mk.cls := Option.some.inj (hps.symm.trans (findClass_of_methodNamed hnamed))
  have hsub : s.vm.isSubclass ps mk.cls = true := by rw [hpm]; simp [Vm.isSubclass, Vm.isSubclassAux]
  obtain ⟨vm₁, X₁, hstep₁⟩ := X.invokespecialUp hexec hown hlink hsame hn hmethM hstM habM hno hdk hnid hps hsuper hsub (a := b) (cell := cellB) hcell
    (fun z h => by rw [h] at hobj; cases hobj) hkB (g := g) hg (argsL := argsL) (rest := rest) (hlen _ hsigM) hstack hdg
  rcases hK m meth c ⟨T.setVm vm₁, locs, cells, slots⟩ { g with stack := rest } (.invokespecial index) mk (Value.ref b :: argsL).toArray X₁ hg hsize hdg hW (X₁.named hnamed) (hpre vm₁ X₁.warmed) with ⟨v, B, X', hpost, hsteps⟩ | ⟨q, B, X', hpost, hsteps⟩
  · exact Or.inl ⟨v, vm₁, B, X₁.warmed, X', hpost, fun target h => hstep₁ _ (by rw [doInvoke_state]; exact hsteps.trans h)⟩
  · exact Or.inr ⟨q, vm₁, B, X₁.warmed, X', hpost, hstep₁ _ (by rw [doInvoke_state]; exact hsteps)⟩
theorem vx_runSU {y : MethodName} {bytes cc : ByteArray} {maxL nL mc ms n index : Nat} {ret : Option FieldType} {ws : List Cond} {rm : Room} {Pc : Array Value → State → Prop} {Qc : Array Value → State → Outcome → State → Prop} {XC : String → State → State → Prop} {free : Addr → Prop} {Ts : List Cond} {own C : String} {cC : ClassId} {b : Addr} {As rest : List Value} {g : JFrame}
    (hat : ClassAt s C cC) (S : CallFix p m c cc nL s args Ts own) (hM : vx_Met l y ws rm Pc Qc XC mc ms free) (cw : va_CS R s args own index y bytes maxL ret ws rm mc ms n) (hp : PreV s H C b Pc As)
    (hg : g.method = m) (hn : As.length = n) (hsize : g.locals.size = nL) (hstack : g.stack = As.reverse ++ .ref b :: rest) (hW : 2 * g.monitorRoom + (rest.map fun v => v.category).sum ≤ 8) (hdg : decode cc g.pc = .ok (.invokespecial index, 3)) (hf : cells + mc ≤ R.cells ∧ slots + ms ≤ R.slots) :
    vx_Run p l e R s m args below meth c H locs cells slots mc ms g rest (Qc (Value.ref b :: As).toArray) XC free := by
  obtain ⟨⟨hrc, hrs, hfr, hlo, hws, hcw⟩, hl1, hl2, hl3, hl4, hini, hcode, hno, hlen⟩ := cw
  have hK : vx_Back l R p e below s args y 3 8 (PreOf R mc ms Pc) (PostOf Qc mc ms free) (vx_Post XC mc ms free) := vx_back (bytes := bytes) (maxL := maxL) (ret := ret) hM hp.1 hrc hrs hfr hlo hws hcw (fun a' U hW => word_at hW (Or.inl (by first | rfl | simp [Cond.onTables, Cond.keeps, Cond.steady])) hini)
  obtain ⟨hx, hb, hml, ho, -⟩ := S
  obtain ⟨-, ⟨cellB, hcB, hoB, hclB⟩, hPc⟩ := hp
  obtain ⟨hfc, kB, hkB, -⟩ := hat
  cases hfc.symm.trans hclB
  intro T hT X
  rcases vx_callSU X hx (bytes := bytes) (maxL := maxL) (ret := ret) ho hl1 hl2 hl3 hl4 hcode hno hK (by rw [hT]; exact hcB) hoB hkB hg (hsize.trans hml.symm) (argsL := As) (rest := rest) (fun sig h => hn.trans (hlen sig h)) hstack hW (by rw [hb]; exact hdg)
    (fun vm₁ hW₁ => ⟨hf.1, hf.2, hPc (T.setVm vm₁) hT hW₁⟩) with ⟨v, vm₁, ⟨U', l2, c2, s2⟩, hW₁, X', ⟨g', mk, t, L, e1, e2, hq, h1, hL, h2, h3⟩, st⟩ | ⟨q, vm₁, ⟨U', l2, c2, s2⟩, hW₁, X', ⟨g', mk, t, L, E, ce, e1, e2, hq, hce, hcv, hcl, h1, hL, h2, h3⟩, st⟩
  · dsimp only [Pt.U, Pt.locs, Pt.cells, Pt.slots] at X' e1 e2 h1 h2 h3 st
    subst h1; subst h2; subst h3
    exact Or.inl ⟨v, (T.setVm vm₁).calling g' mk (Value.ref b :: As).toArray, t, U', L, hT, X', hL, e1, e2, hq, st⟩
  · dsimp only [Pt.U, Pt.locs, Pt.cells, Pt.slots] at X' e1 e2 h1 h2 h3 st hcl
    subst h1; subst h2; subst h3
    exact Or.inr ⟨q, (T.setVm vm₁).calling g' mk (Value.ref b :: As).toArray, t, U', L, E, ce, hT, X', hL, e1, e2, hq, hce, hcv, vx_cls hW₁ hcl, st⟩
end
/-! ===== END ===== -/
/-! ===== BEGIN a private method of a nest mate that may throw (follows va_callVN, va_callSN, va_runVN, va_runSN) ===== -/
section
variable {p : Program} {l : Launch} {e : Env} {R : Room} {s : State} {m : MethodId} {args : Array Value} {below : List Frame} {meth : Method} {c : Code} {H : Heap} {locs : List Loc} {cells slots : Nat}
variable {T : State}
theorem vx_callVN (X : Stand p l e R s m args below meth c T locs cells slots) (hexec : p.tables.exec = Jvm.exec) {own C : String} {index : Nat} {host : String} {y : MethodName} {bytes : ByteArray} {maxL : Nat} {ret : Option FieldType}
    (hown : s.vm.findClass own = some m.cls) (hlink : (Cond.methodLinkNest own index y host).before args s = true) (hinst : (Cond.instanceMethod y).before args s = true) (hsel : (Cond.selects C y y).before args s = true)
    (hcode : (Cond.code y bytes maxL ret).before args s = true) (hy : y.cls ≠ "java/lang/invoke/MethodHandle" ∧ y.cls ≠ "java/lang/invoke/VarHandle")
    {W : Nat} {Pre : Pt → Array Value → Prop} {Post : Pt → Array Value → Option Value → Pt → Prop} {PostX : Pt → Array Value → Addr → Pt → Prop} (hK : vx_Back l R p e below s args y 3 W Pre Post PostX)
    {b : Addr} {cellB : Cell} (hcell : T.heap[b]? = some cellB) (hobj : cellB.vm.isStatics = false) (hcls : s.vm.findClass C = some cellB.cls)
    {g : JFrame} (hg : g.method = m) (hsize : g.locals.size = c.maxLocals) {argsL rest : List Value} (hlen : ∀ sig, parseMethodDescriptor y.desc = some sig → argsL.length = sig.parameters.length)
    (hstack : g.stack = argsL.reverse ++ .ref b :: rest) (hW : 2 * g.monitorRoom + (rest.map fun v => v.category).sum ≤ W) (hdg : decode c.code g.pc = .ok (.invokevirtual index, 3))
    (hpre : ∀ vm₁, s.WarmedH vm₁ → Pre ⟨T.setVm vm₁, locs, cells, slots⟩ (Value.ref b :: argsL).toArray) :
    (∃ (v : Option Value) (vm₁ : Vm) (B : Pt), s.WarmedH vm₁ ∧ Stand p l e R s m args below meth c B.U B.locs B.cells B.slots ∧ Post ⟨T.setVm vm₁, locs, cells, slots⟩ (Value.ref b :: argsL).toArray v B ∧
      ∀ target, Steps p.tables e below (B.U.setTop { g with pc := g.pc + 3, stack := v.toList ++ rest }) target → Steps p.tables e below (T.setTop g) target) ∨
    (∃ (q : Addr) (vm₁ : Vm) (B : Pt), s.WarmedH vm₁ ∧ Stand p l e R s m args below meth c B.U B.locs B.cells B.slots ∧ PostX ⟨T.setVm vm₁, locs, cells, slots⟩ (Value.ref b :: argsL).toArray q B ∧
      Steps p.tables e below (T.setTop g) ((B.U.setTop { g with stack := rest }).pushFrame (.throwing q))) := by
  obtain ⟨mk, methM, hnamed, hmethM, hstM, habM⟩ := Cond.instanceMethod_spec hinst
  obtain ⟨methM', cM, hmethM', -, -, -, -, -, -, hsigM⟩ := Cond.code_spec hnamed hcode
  cases hmethM.symm.trans hmethM'
  obtain ⟨c2, r2, m2, q1, q2, q3, q4, kP, hkP, hkPi⟩ := Cond.selects_spec hsel
  cases hcls.symm.trans q1
  cases (State.methodFound?_of_named hnamed hy).symm.trans q2
  cases hnamed.symm.trans q3
  have hselP : selectMethod e.platform s.vm cellB.cls mk = .method mk := by rw [Launch.admits_selectMethod X.admits]; exact q4
  obtain ⟨vm₁, X₁, hstep₁⟩ := X.invokevirtualNest hexec hown hlink hnamed hmethM hstM hkP hkPi hy (a := b) (cell := cellB) hcell
    (fun z h => by rw [h] at hobj; cases hobj) hselP hmethM habM hkP hkPi (g := g) hg (argsL := argsL) (rest := rest) (hlen _ hsigM) hstack hdg
  rcases hK m meth c ⟨T.setVm vm₁, locs, cells, slots⟩ { g with stack := rest } (.invokevirtual index) mk (Value.ref b :: argsL).toArray X₁ hg hsize hdg hW (X₁.named hnamed) (hpre vm₁ X₁.warmed) with ⟨v, B, X', hpost, hsteps⟩ | ⟨q, B, X', hpost, hsteps⟩
  · exact Or.inl ⟨v, vm₁, B, X₁.warmed, X', hpost, fun target h => hstep₁ _ fun acts => by rw [doInvoke_state]; exact hsteps.trans h⟩
  · exact Or.inr ⟨q, vm₁, B, X₁.warmed, X', hpost, hstep₁ _ fun acts => by rw [doInvoke_state]; exact hsteps⟩
theorem vx_callSN (X : Stand p l e R s m args below meth c T locs cells slots) (hexec : p.tables.exec = Jvm.exec) {own : String} {index : Nat} {host : String} {y : MethodName} {bytes : ByteArray} {maxL : Nat} {ret : Option FieldType}
    (hown : s.vm.findClass own = some m.cls) (hlink : (Cond.methodLinkNest own index y host).before args s = true) (hstat : (Cond.static y).before args s = true) (hinit : (Cond.initialized y.cls).before args s = true)
    (hcode : (Cond.code y bytes maxL ret).before args s = true) (hy : y.cls ≠ "java/lang/invoke/MethodHandle" ∧ y.cls ≠ "java/lang/invoke/VarHandle")
    {W : Nat} {Pre : Pt → Array Value → Prop} {Post : Pt → Array Value → Option Value → Pt → Prop} {PostX : Pt → Array Value → Addr → Pt → Prop} (hK : vx_Back l R p e below s args y 3 W Pre Post PostX)
    {g : JFrame} (hg : g.method = m) (hsize : g.locals.size = c.maxLocals) {argsL rest : List Value} (hlen : ∀ sig, parseMethodDescriptor y.desc = some sig → argsL.length = sig.parameters.length)
    (hstack : g.stack = argsL.reverse ++ rest) (hW : 2 * g.monitorRoom + (rest.map fun v => v.category).sum ≤ W) (hdg : decode c.code g.pc = .ok (.invokestatic index, 3))
    (hpre : ∀ vm₁, s.WarmedH vm₁ → Pre ⟨T.setVm vm₁, locs, cells, slots⟩ argsL.toArray) :
    (∃ (v : Option Value) (vm₁ : Vm) (B : Pt), s.WarmedH vm₁ ∧ Stand p l e R s m args below meth c B.U B.locs B.cells B.slots ∧ Post ⟨T.setVm vm₁, locs, cells, slots⟩ argsL.toArray v B ∧
      ∀ target, Steps p.tables e below (B.U.setTop { g with pc := g.pc + 3, stack := v.toList ++ rest }) target → Steps p.tables e below (T.setTop g) target) ∨
    (∃ (q : Addr) (vm₁ : Vm) (B : Pt), s.WarmedH vm₁ ∧ Stand p l e R s m args below meth c B.U B.locs B.cells B.slots ∧ PostX ⟨T.setVm vm₁, locs, cells, slots⟩ argsL.toArray q B ∧
      Steps p.tables e below (T.setTop g) ((B.U.setTop { g with stack := rest }).pushFrame (.throwing q))) := by
  obtain ⟨mk, hnamed⟩ := Cond.code_named hcode
  obtain ⟨methM, cM, hmethM, -, -, -, -, -, -, hsigM⟩ := Cond.code_spec hnamed hcode
  have hstatic : methM.isStatic = true := Cond.static_spec hnamed hmethM hstat
  obtain ⟨kP, hkP, -⟩ := className_of_methodNamed hnamed
  have hinitP : kP.init = .initialized := Cond.initialized_spec (findClass_of_methodNamed hnamed) hkP hinit
  obtain ⟨vm₁, X₁, hstep₁⟩ := X.invokestaticNest hexec hown hlink hnamed hmethM hstatic hkP hinitP hy (g := g) hg (argsL := argsL) (rest := rest) (hlen _ hsigM) hstack hdg
  rcases hK m meth c ⟨T.setVm vm₁, locs, cells, slots⟩ { g with stack := rest } (.invokestatic index) mk argsL.toArray X₁ hg hsize hdg hW (X₁.named hnamed) (hpre vm₁ X₁.warmed) with ⟨v, B, X', hpost, hsteps⟩ | ⟨q, B, X', hpost, hsteps⟩
  · exact Or.inl ⟨v, vm₁, B, X₁.warmed, X', hpost, fun target h => hstep₁ _ fun acts => by rw [doInvoke_state]; exact hsteps.trans h⟩
  · exact Or.inr ⟨q, vm₁, B, X₁.warmed, X', hpost, hstep₁ _ fun acts => by rw [doInvoke_state]; exact hsteps⟩
theorem vx_runVN {y : MethodName} {bytes cc : ByteArray} {maxL nL mc ms n index : Nat} {ret : Option FieldType} {ws : List Cond} {rm : Room} {Pc : Array Value → State → Prop} {Qc : Array Value → State → Outcome → State → Prop} {XC : String → State → State → Prop} {free : Addr → Prop} {Ts : List Cond} {own C host : String} {b : Addr} {As rest : List Value} {g : JFrame}
    (S : CallFix p m c cc nL s args Ts own) (hM : vx_Met l y ws rm Pc Qc XC mc ms free) (cw : va_CN R s args own index y host bytes maxL ret ws rm mc ms n ∧ (Cond.instanceMethod y).before args s = true ∧ (Cond.selects C y y).before args s = true) (hp : PreV s H C b Pc As)
    (hg : g.method = m) (hn : As.length = n) (hsize : g.locals.size = nL) (hstack : g.stack = As.reverse ++ .ref b :: rest) (hW : 2 * g.monitorRoom + (rest.map fun v => v.category).sum ≤ 8) (hdg : decode cc g.pc = .ok (.invokevirtual index, 3)) (hf : cells + mc ≤ R.cells ∧ slots + ms ≤ R.slots) :
    vx_Run p l e R s m args below meth c H locs cells slots mc ms g rest (Qc (Value.ref b :: As).toArray) XC free := by
  obtain ⟨⟨⟨hrc, hrs, hfr, hlo, hws, hcw⟩, hcode, hini, hy, hlen, hl⟩, hx1, hx2⟩ := cw
  have hK : vx_Back l R p e below s args y 3 8 (PreOf R mc ms Pc) (PostOf Qc mc ms free) (vx_Post XC mc ms free) := vx_back (bytes := bytes) (maxL := maxL) (ret := ret) hM hp.1 hrc hrs hfr hlo hws hcw (fun a' U hW => word_at hW (Or.inl (by first | rfl | simp [Cond.onTables, Cond.keeps, Cond.steady])) hini)
  obtain ⟨hx, hb, hml, ho, -⟩ := S
  obtain ⟨-, ⟨cellB, hcB, hoB, hclB⟩, hPc⟩ := hp
  intro T hT X
  rcases vx_callVN X hx (C := C) (bytes := bytes) (maxL := maxL) (ret := ret) ho hl hx1 hx2 hcode hy hK (by rw [hT]; exact hcB) hoB hclB hg (hsize.trans hml.symm) (argsL := As) (rest := rest) (fun sig h => hn.trans (hlen sig h)) hstack hW (by rw [hb]; exact hdg)
    (fun vm₁ hW₁ => ⟨hf.1, hf.2, hPc (T.setVm vm₁) hT hW₁⟩) with ⟨v, vm₁, ⟨U', l2, c2, s2⟩, hW₁, X', ⟨g', mk, t, L, e1, e2, hq, h1, hL, h2, h3⟩, st⟩ | ⟨q, vm₁, ⟨U', l2, c2, s2⟩, hW₁, X', ⟨g', mk, t, L, E, ce, e1, e2, hq, hce, hcv, hcl, h1, hL, h2, h3⟩, st⟩
  · dsimp only [Pt.U, Pt.locs, Pt.cells, Pt.slots] at X' e1 e2 h1 h2 h3 st
    subst h1; subst h2; subst h3
    exact Or.inl ⟨v, (T.setVm vm₁).calling g' mk (Value.ref b :: As).toArray, t, U', L, hT, X', hL, e1, e2, hq, st⟩
  · dsimp only [Pt.U, Pt.locs, Pt.cells, Pt.slots] at X' e1 e2 h1 h2 h3 st hcl
    subst h1; subst h2; subst h3
    exact Or.inr ⟨q, (T.setVm vm₁).calling g' mk (Value.ref b :: As).toArray, t, U', L, E, ce, hT, X', hL, e1, e2, hq, hce, hcv, vx_cls hW₁ hcl, st⟩
theorem vx_runSN {y : MethodName} {bytes cc : ByteArray} {maxL nL mc ms n index : Nat} {ret : Option FieldType} {ws : List Cond} {rm : Room} {Pc : Array Value → State → Prop} {Qc : Array Value → State → Outcome → State → Prop} {XC : String → State → State → Prop} {free : Addr → Prop} {Ts : List Cond} {own host : String} {As rest : List Value} {g : JFrame}
    (S : CallFix p m c cc nL s args Ts own) (hM : vx_Met l y ws rm Pc Qc XC mc ms free) (cw : va_CN R s args own index y host bytes maxL ret ws rm mc ms n ∧ (Cond.static y).before args s = true ∧ True) (hp : PreS s H Pc As)
    (hg : g.method = m) (hn : As.length = n) (hsize : g.locals.size = nL) (hstack : g.stack = As.reverse ++ rest) (hW : 2 * g.monitorRoom + (rest.map fun v => v.category).sum ≤ 8) (hdg : decode cc g.pc = .ok (.invokestatic index, 3)) (hf : cells + mc ≤ R.cells ∧ slots + ms ≤ R.slots) :
    vx_Run p l e R s m args below meth c H locs cells slots mc ms g rest (Qc As.toArray) XC free := by
  obtain ⟨⟨⟨hrc, hrs, hfr, hlo, hws, hcw⟩, hcode, hini, hy, hlen, hl⟩, hx1, hx2⟩ := cw
  have hK : vx_Back l R p e below s args y 3 8 (PreOf R mc ms Pc) (PostOf Qc mc ms free) (vx_Post XC mc ms free) := vx_back (bytes := bytes) (maxL := maxL) (ret := ret) hM hp.1 hrc hrs hfr hlo hws hcw (fun a' U hW => word_at hW (Or.inl (by first | rfl | simp [Cond.onTables, Cond.keeps, Cond.steady])) hini)
  obtain ⟨hx, hb, hml, ho, -⟩ := S
  have hPc := hp.2
  intro T hT X
  rcases vx_callSN X hx (bytes := bytes) (maxL := maxL) (ret := ret) ho hl hx1 hini hcode hy hK hg (hsize.trans hml.symm) (argsL := As) (rest := rest) (fun sig h => hn.trans (hlen sig h)) hstack hW (by rw [hb]; exact hdg)
    (fun vm₁ hW₁ => ⟨hf.1, hf.2, hPc (T.setVm vm₁) hT hW₁⟩) with ⟨v, vm₁, ⟨U', l2, c2, s2⟩, hW₁, X', ⟨g', mk, t, L, e1, e2, hq, h1, hL, h2, h3⟩, st⟩ | ⟨q, vm₁, ⟨U', l2, c2, s2⟩, hW₁, X', ⟨g', mk, t, L, E, ce, e1, e2, hq, hce, hcv, hcl, h1, hL, h2, h3⟩, st⟩
  · dsimp only [Pt.U, Pt.locs, Pt.cells, Pt.slots] at X' e1 e2 h1 h2 h3 st
    subst h1; subst h2; subst h3
    exact Or.inl ⟨v, (T.setVm vm₁).calling g' mk As.toArray, t, U', L, hT, X', hL, e1, e2, hq, st⟩
  · dsimp only [Pt.U, Pt.locs, Pt.cells, Pt.slots] at X' e1 e2 h1 h2 h3 st hcl
    subst h1; subst h2; subst h3
    exact Or.inr ⟨q, (T.setVm vm₁).calling g' mk As.toArray, t, U', L, E, ce, hT, X', hL, e1, e2, hq, hce, hcv, vx_cls hW₁ hcl, st⟩
end
/-! ===== END ===== -/
end
section
def RCur : String := "Cursorlist$Cursor"
def TCur : u_T := fun k => match k with
  | 0 => ("Cursorlist$Cursor", "isThere", "Z", false)
  | 1 => ("Cursorlist$Cursor", "isStale", "Z", false)
  | 2 => ("Cursorlist$Cursor", "list", "I", false)
  | 3 => ("Cursorlist$Cursor", "index", "I", false)
  | _ => ("Cursorlist$Cursor", "last", "I", false)
def tyCur : Nat → FieldType := fun k => match k with
  | 0 => .boolean
  | 1 => .boolean
  | 2 => .int
  | 3 => .int
  | _ => .int
theorem nmCur : ∀ a, a < 5 → ∀ b, b < 5 → a ≠ b → (TCur a).2.1 ≠ (TCur b).2.1 := by decide +kernel
theorem tyCur_ok : ∀ k, k < 5 → parseFieldDescriptor (TCur k).2.2.1 = some (tyCur k) := by decide +kernel
abbrev cCur_init : ByteArray := prog_2_method_1_code
def yCur_init : MethodName := ⟨RCur, "<init>", "()V"⟩
abbrev cCur_begin : ByteArray := prog_2_method_2_code
def yCur_begin : MethodName := ⟨RCur, "begin", "(II)V"⟩
abbrev cCur_stepForth : ByteArray := prog_2_method_3_code
def yCur_stepForth : MethodName := ⟨RCur, "stepForth", "(LCursorlist$Row;)I"⟩
abbrev cCur_stepBack : ByteArray := prog_2_method_4_code
def yCur_stepBack : MethodName := ⟨RCur, "stepBack", "(LCursorlist$Row;)I"⟩
abbrev cCur_putHere : ByteArray := prog_2_method_5_code
def yCur_putHere : MethodName := ⟨RCur, "putHere", "(LCursorlist$Row;I)Z"⟩
abbrev cCur_cutLast : ByteArray := prog_2_method_6_code
def yCur_cutLast : MethodName := ⟨RCur, "cutLast", "(LCursorlist$Row;)V"⟩
def RRec : String := "Cursorlist$Recency"
def TRec : u_T := fun k => match k with
  | 0 => ("Cursorlist$Recency", "keys", "LCursorlist$Row;", true)
  | 1 => ("Cursorlist$Recency", "timesAsked", "[I", true)
  | 2 => ("Cursorlist$Recency", "askings", "I", false)
  | 3 => ("Cursorlist$Recency", "cost", "I", false)
  | _ => ("Cursorlist$Recency", "lastKey", "I", false)
def tyRec : Nat → FieldType := fun k => match k with
  | 0 => .object "Cursorlist$Row"
  | 1 => .array .int
  | 2 => .int
  | 3 => .int
  | _ => .int
theorem nmRec : ∀ a, a < 5 → ∀ b, b < 5 → a ≠ b → (TRec a).2.1 ≠ (TRec b).2.1 := by decide +kernel
theorem tyRec_ok : ∀ k, k < 5 → parseFieldDescriptor (TRec k).2.2.1 = some (tyRec k) := by decide +kernel
abbrev cRec_init : ByteArray := prog_3_method_1_code
def yRec_init : MethodName := ⟨RRec, "<init>", "()V"⟩
abbrev cRec_begin : ByteArray := prog_3_method_2_code
def yRec_begin : MethodName := ⟨RRec, "begin", "()V"⟩
abbrev cRec_bringAhead : ByteArray := prog_3_method_3_code
def yRec_bringAhead : MethodName := ⟨RRec, "bringAhead", "(I)I"⟩
abbrev cRec_costBy : ByteArray := prog_3_method_4_code
def yRec_costBy : MethodName := ⟨RRec, "costBy", "(LCursorlist$Row;)I"⟩
abbrev cRec_boundBy : ByteArray := prog_3_method_5_code
def yRec_boundBy : MethodName := ⟨RRec, "boundBy", "(LCursorlist$Row;)I"⟩
def RRow : String := "Cursorlist$Row"
def TRow : u_T := fun k => match k with
  | 0 => ("Cursorlist$Row", "items", "[I", true)
  | _ => ("Cursorlist$Row", "count", "I", false)
def tyRow : Nat → FieldType := fun k => match k with
  | 0 => .array .int
  | _ => .int
theorem nmRow : ∀ a, a < 2 → ∀ b, b < 2 → a ≠ b → (TRow a).2.1 ≠ (TRow b).2.1 := by decide +kernel
theorem tyRow_ok : ∀ k, k < 2 → parseFieldDescriptor (TRow k).2.2.1 = some (tyRow k) := by decide +kernel
abbrev cRow_init : ByteArray := prog_4_method_1_code
def yRow_init : MethodName := ⟨RRow, "<init>", "()V"⟩
abbrev cRow_hasPlace : ByteArray := prog_4_method_2_code
def yRow_hasPlace : MethodName := ⟨RRow, "hasPlace", "(I)Z"⟩
abbrev cRow_hasGap : ByteArray := prog_4_method_3_code
def yRow_hasGap : MethodName := ⟨RRow, "hasGap", "(I)Z"⟩
abbrev cRow_itemAt : ByteArray := prog_4_method_4_code
def yRow_itemAt : MethodName := ⟨RRow, "itemAt", "(I)I"⟩
abbrev cRow_changeAt : ByteArray := prog_4_method_5_code
def yRow_changeAt : MethodName := ⟨RRow, "changeAt", "(II)V"⟩
abbrev cRow_putIn : ByteArray := prog_4_method_6_code
def yRow_putIn : MethodName := ⟨RRow, "putIn", "(II)Z"⟩
abbrev cRow_takeOut : ByteArray := prog_4_method_7_code
def yRow_takeOut : MethodName := ⟨RRow, "takeOut", "(I)I"⟩
abbrev cRow_takeOutAll : ByteArray := prog_4_method_8_code
def yRow_takeOutAll : MethodName := ⟨RRow, "takeOutAll", "(I)I"⟩
abbrev cRow_placeOf : ByteArray := prog_4_method_9_code
def yRow_placeOf : MethodName := ⟨RRow, "placeOf", "(IZ)I"⟩
abbrev cRow_lastNotZero : ByteArray := prog_4_method_10_code
def yRow_lastNotZero : MethodName := ⟨RRow, "lastNotZero", "()I"⟩
abbrev cRow_isAs : ByteArray := prog_4_method_11_code
def yRow_isAs : MethodName := ⟨RRow, "isAs", "(LCursorlist$Row;)Z"⟩
abbrev cRow_joined : ByteArray := prog_4_method_12_code
def yRow_joined : MethodName := ⟨RRow, "joined", "(Z)Ljava/lang/String;"⟩
abbrev cRow_exchange : ByteArray := prog_4_method_13_code
def yRow_exchange : MethodName := ⟨RRow, "exchange", "(II)V"⟩
abbrev cRow_turnRound : ByteArray := prog_4_method_14_code
def yRow_turnRound : MethodName := ⟨RRow, "turnRound", "()V"⟩
abbrev cRow_turnBy : ByteArray := prog_4_method_15_code
def yRow_turnBy : MethodName := ⟨RRow, "turnBy", "(I)V"⟩
abbrev cRow_become : ByteArray := prog_4_method_16_code
def yRow_become : MethodName := ⟨RRow, "become", "(LCursorlist$Row;)V"⟩
abbrev cRow_becomePlaces : ByteArray := prog_4_method_17_code
def yRow_becomePlaces : MethodName := ⟨RRow, "becomePlaces", "(I)V"⟩
abbrev cRow_addBehind : ByteArray := prog_4_method_18_code
def yRow_addBehind : MethodName := ⟨RRow, "addBehind", "(I)Z"⟩
abbrev cRow_becomeJoined : ByteArray := prog_4_method_19_code
def yRow_becomeJoined : MethodName := ⟨RRow, "becomeJoined", "(LCursorlist$Row;ILCursorlist$Row;)Z"⟩
abbrev cRow_becomeThrough : ByteArray := prog_4_method_20_code
def yRow_becomeThrough : MethodName := ⟨RRow, "becomeThrough", "(LCursorlist$Row;LCursorlist$Row;)Z"⟩
abbrev cRow_becomeSum : ByteArray := prog_4_method_21_code
def yRow_becomeSum : MethodName := ⟨RRow, "becomeSum", "(LCursorlist$Row;LCursorlist$Row;)Z"⟩
abbrev cRow_becomeProduct : ByteArray := prog_4_method_22_code
def yRow_becomeProduct : MethodName := ⟨RRow, "becomeProduct", "(LCursorlist$Row;LCursorlist$Row;)Z"⟩
abbrev cRow_coefficientOfProduct : ByteArray := prog_4_method_23_code
def yRow_coefficientOfProduct : MethodName := ⟨RRow, "coefficientOfProduct", "(LCursorlist$Row;LCursorlist$Row;I)I"⟩
abbrev cRow_becomeDerived : ByteArray := prog_4_method_24_code
def yRow_becomeDerived : MethodName := ⟨RRow, "becomeDerived", "(LCursorlist$Row;)Z"⟩
abbrev cRow_restAt : ByteArray := prog_4_method_25_code
def yRow_restAt : MethodName := ⟨RRow, "restAt", "(I)I"⟩
abbrev cRow_isOrder : ByteArray := prog_4_method_26_code
def yRow_isOrder : MethodName := ⟨RRow, "isOrder", "()Z"⟩
abbrev cRow_inversions : ByteArray := prog_4_method_27_code
def yRow_inversions : MethodName := ⟨RRow, "inversions", "()I"⟩
def RCls : String := "Cursorlist"
def TCls : u_T := fun k => match k with
  | 0 => ("Cursorlist", "lists", "[LCursorlist$Row;", true)
  | 1 => ("Cursorlist", "cursors", "[LCursorlist$Cursor;", true)
  | 2 => ("Cursorlist", "recency", "LCursorlist$Recency;", true)
  | 3 => ("Cursorlist", "result", "LCursorlist$Row;", true)
  | 4 => ("Cursorlist", "refusals", "I", false)
  | _ => ("Cursorlist", "knocks", "I", false)
def tyCls : Nat → FieldType := fun k => match k with
  | 0 => .array (.object "Cursorlist$Row")
  | 1 => .array (.object "Cursorlist$Cursor")
  | 2 => .object "Cursorlist$Recency"
  | 3 => .object "Cursorlist$Row"
  | 4 => .int
  | _ => .int
theorem nmCls : ∀ a, a < 6 → ∀ b, b < 6 → a ≠ b → (TCls a).2.1 ≠ (TCls b).2.1 := by decide +kernel
theorem tyCls_ok : ∀ k, k < 6 → parseFieldDescriptor (TCls k).2.2.1 = some (tyCls k) := by decide +kernel
abbrev cCls_init : ByteArray := prog_1_method_1_code
def yCls_init : MethodName := ⟨RCls, "<init>", "()V"⟩
abbrev cCls_put : ByteArray := prog_1_method_2_code
def yCls_put : MethodName := ⟨RCls, "put", "(III)I"⟩
abbrev cCls_take : ByteArray := prog_1_method_3_code
def yCls_take : MethodName := ⟨RCls, "take", "(II)I"⟩
abbrev cCls_look : ByteArray := prog_1_method_4_code
def yCls_look : MethodName := ⟨RCls, "look", "(II)I"⟩
abbrev cCls_get : ByteArray := prog_1_method_5_code
def yCls_get : MethodName := ⟨RCls, "get", "(II)I"⟩
abbrev cCls_set : ByteArray := prog_1_method_6_code
def yCls_set : MethodName := ⟨RCls, "set", "(III)I"⟩
abbrev cCls_insert : ByteArray := prog_1_method_7_code
def yCls_insert : MethodName := ⟨RCls, "insert", "(III)I"⟩
abbrev cCls_removeAt : ByteArray := prog_1_method_8_code
def yCls_removeAt : MethodName := ⟨RCls, "removeAt", "(II)I"⟩
abbrev cCls_drop : ByteArray := prog_1_method_9_code
def yCls_drop : MethodName := ⟨RCls, "drop", "(IIZ)Z"⟩
abbrev cCls_thin : ByteArray := prog_1_method_10_code
def yCls_thin : MethodName := ⟨RCls, "thin", "(II)I"⟩
abbrev cCls_indexOf : ByteArray := prog_1_method_11_code
def yCls_indexOf : MethodName := ⟨RCls, "indexOf", "(IIZ)I"⟩
abbrev cCls_has : ByteArray := prog_1_method_12_code
def yCls_has : MethodName := ⟨RCls, "has", "(II)Z"⟩
abbrev cCls_size : ByteArray := prog_1_method_13_code
def yCls_size : MethodName := ⟨RCls, "size", "(I)I"⟩
abbrev cCls_text : ByteArray := prog_1_method_14_code
def yCls_text : MethodName := ⟨RCls, "text", "(IZ)Ljava/lang/String;"⟩
abbrev cCls_clear : ByteArray := prog_1_method_15_code
def yCls_clear : MethodName := ⟨RCls, "clear", "(I)I"⟩
abbrev cCls_append : ByteArray := prog_1_method_16_code
def yCls_append : MethodName := ⟨RCls, "append", "(II)I"⟩
abbrev cCls_appendAt : ByteArray := prog_1_method_17_code
def yCls_appendAt : MethodName := ⟨RCls, "appendAt", "(III)I"⟩
abbrev cCls_copy : ByteArray := prog_1_method_18_code
def yCls_copy : MethodName := ⟨RCls, "copy", "(II)I"⟩
abbrev cCls_places : ByteArray := prog_1_method_19_code
def yCls_places : MethodName := ⟨RCls, "places", "(II)I"⟩
abbrev cCls_rotate : ByteArray := prog_1_method_20_code
def yCls_rotate : MethodName := ⟨RCls, "rotate", "(II)I"⟩
abbrev cCls_move : ByteArray := prog_1_method_21_code
def yCls_move : MethodName := ⟨RCls, "move", "(III)I"⟩
abbrev cCls_swap : ByteArray := prog_1_method_22_code
def yCls_swap : MethodName := ⟨RCls, "swap", "(III)I"⟩
abbrev cCls_reverse : ByteArray := prog_1_method_23_code
def yCls_reverse : MethodName := ⟨RCls, "reverse", "(I)I"⟩
abbrev cCls_through : ByteArray := prog_1_method_24_code
def yCls_through : MethodName := ⟨RCls, "through", "(III)I"⟩
abbrev cCls_areSame : ByteArray := prog_1_method_25_code
def yCls_areSame : MethodName := ⟨RCls, "areSame", "(II)Z"⟩
abbrev cCls_isMirror : ByteArray := prog_1_method_26_code
def yCls_isMirror : MethodName := ⟨RCls, "isMirror", "(I)Z"⟩
abbrev cCls_open : ByteArray := prog_1_method_27_code
def yCls_open : MethodName := ⟨RCls, "open", "(III)I"⟩
abbrev cCls_shut : ByteArray := prog_1_method_28_code
def yCls_shut : MethodName := ⟨RCls, "shut", "(I)Z"⟩
abbrev cCls_forth : ByteArray := prog_1_method_29_code
def yCls_forth : MethodName := ⟨RCls, "forth", "(I)I"⟩
abbrev cCls_back : ByteArray := prog_1_method_30_code
def yCls_back : MethodName := ⟨RCls, "back", "(I)I"⟩
abbrev cCls_puts : ByteArray := prog_1_method_31_code
def yCls_puts : MethodName := ⟨RCls, "puts", "(II)I"⟩
abbrev cCls_cuts : ByteArray := prog_1_method_32_code
def yCls_cuts : MethodName := ⟨RCls, "cuts", "(I)I"⟩
abbrev cCls_changes : ByteArray := prog_1_method_33_code
def yCls_changes : MethodName := ⟨RCls, "changes", "(II)I"⟩
abbrev cCls_meet : ByteArray := prog_1_method_34_code
def yCls_meet : MethodName := ⟨RCls, "meet", "(II)I"⟩
abbrev cCls_ofCursor : ByteArray := prog_1_method_35_code
def yCls_ofCursor : MethodName := ⟨RCls, "ofCursor", "(II)I"⟩
abbrev cCls_plus : ByteArray := prog_1_method_36_code
def yCls_plus : MethodName := ⟨RCls, "plus", "(II)I"⟩
abbrev cCls_times : ByteArray := prog_1_method_37_code
def yCls_times : MethodName := ⟨RCls, "times", "(II)I"⟩
abbrev cCls_shift : ByteArray := prog_1_method_38_code
def yCls_shift : MethodName := ⟨RCls, "shift", "(I)I"⟩
abbrev cCls_trim : ByteArray := prog_1_method_39_code
def yCls_trim : MethodName := ⟨RCls, "trim", "(I)I"⟩
abbrev cCls_derive : ByteArray := prog_1_method_40_code
def yCls_derive : MethodName := ⟨RCls, "derive", "(I)I"⟩
abbrev cCls_value : ByteArray := prog_1_method_41_code
def yCls_value : MethodName := ⟨RCls, "value", "(II)I"⟩
abbrev cCls_degree : ByteArray := prog_1_method_42_code
def yCls_degree : MethodName := ⟨RCls, "degree", "(I)I"⟩
abbrev cCls_ask : ByteArray := prog_1_method_43_code
def yCls_ask : MethodName := ⟨RCls, "ask", "(I)I"⟩
abbrev cCls_forget : ByteArray := prog_1_method_44_code
def yCls_forget : MethodName := ⟨RCls, "forget", "()I"⟩
abbrev cCls_asked : ByteArray := prog_1_method_45_code
def yCls_asked : MethodName := ⟨RCls, "asked", "(I)I"⟩
abbrev cCls_recent : ByteArray := prog_1_method_46_code
def yCls_recent : MethodName := ⟨RCls, "recent", "()Ljava/lang/String;"⟩
abbrev cCls_byOrder : ByteArray := prog_1_method_47_code
def yCls_byOrder : MethodName := ⟨RCls, "byOrder", "(II)I"⟩
abbrev cCls_house : ByteArray := prog_1_method_48_code
def yCls_house : MethodName := ⟨RCls, "house", "(I)I"⟩
abbrev cCls_knock : ByteArray := prog_1_method_49_code
def yCls_knock : MethodName := ⟨RCls, "knock", "()I"⟩
abbrev cCls_isSound : ByteArray := prog_1_method_50_code
def yCls_isSound : MethodName := ⟨RCls, "isSound", "()Z"⟩
abbrev cCls_digest : ByteArray := prog_1_method_51_code
def yCls_digest : MethodName := ⟨RCls, "digest", "()J"⟩
abbrev cCls_listAt : ByteArray := prog_1_method_52_code
def yCls_listAt : MethodName := ⟨RCls, "listAt", "(I)LCursorlist$Row;"⟩
abbrev cCls_cursorAt : ByteArray := prog_1_method_53_code
def yCls_cursorAt : MethodName := ⟨RCls, "cursorAt", "(I)LCursorlist$Cursor;"⟩
abbrev cCls_demandPlace : ByteArray := prog_1_method_54_code
def yCls_demandPlace : MethodName := ⟨RCls, "demandPlace", "(LCursorlist$Row;I)V"⟩
abbrev cCls_demandGap : ByteArray := prog_1_method_55_code
def yCls_demandGap : MethodName := ⟨RCls, "demandGap", "(LCursorlist$Row;I)V"⟩
abbrev cCls_demandWithin : ByteArray := prog_1_method_56_code
def yCls_demandWithin : MethodName := ⟨RCls, "demandWithin", "(III)V"⟩
abbrev cCls_demandItem : ByteArray := prog_1_method_57_code
def yCls_demandItem : MethodName := ⟨RCls, "demandItem", "(I)V"⟩
abbrev cCls_demandThere : ByteArray := prog_1_method_58_code
def yCls_demandThere : MethodName := ⟨RCls, "demandThere", "(LCursorlist$Cursor;)V"⟩
abbrev cCls_refuse : ByteArray := prog_1_method_59_code
def yCls_refuse : MethodName := ⟨RCls, "refuse", "()I"⟩
abbrev cCls_makeStale : ByteArray := prog_1_method_60_code
def yCls_makeStale : MethodName := ⟨RCls, "makeStale", "(II)V"⟩
abbrev cCls_putInto : ByteArray := prog_1_method_61_code
def yCls_putInto : MethodName := ⟨RCls, "putInto", "(III)I"⟩
abbrev cCls_takeFrom : ByteArray := prog_1_method_62_code
def yCls_takeFrom : MethodName := ⟨RCls, "takeFrom", "(II)I"⟩
abbrev cCls_becomeResult : ByteArray := prog_1_method_63_code
def yCls_becomeResult : MethodName := ⟨RCls, "becomeResult", "(IZ)I"⟩
abbrev cCls_endOf : ByteArray := prog_1_method_64_code
def yCls_endOf : MethodName := ⟨RCls, "endOf", "(LCursorlist$Row;I)I"⟩
abbrev cCls_firstOf : ByteArray := prog_1_method_65_code
def yCls_firstOf : MethodName := ⟨RCls, "firstOf", "(LCursorlist$Row;)I"⟩
abbrev cCls_numberOf : ByteArray := prog_1_method_66_code
def yCls_numberOf : MethodName := ⟨RCls, "numberOf", "(Z)I"⟩
abbrev cCls_rowUnder : ByteArray := prog_1_method_67_code
def yCls_rowUnder : MethodName := ⟨RCls, "rowUnder", "(LCursorlist$Cursor;)LCursorlist$Row;"⟩
abbrev cCls_sumUntilMet : ByteArray := prog_1_method_68_code
def yCls_sumUntilMet : MethodName := ⟨RCls, "sumUntilMet", "(LCursorlist$Cursor;LCursorlist$Cursor;LCursorlist$Row;)I"⟩
abbrev cCls_whereIs : ByteArray := prog_1_method_69_code
def yCls_whereIs : MethodName := ⟨RCls, "whereIs", "(LCursorlist$Cursor;I)I"⟩
abbrev cCls_itemsOfAll : ByteArray := prog_1_method_70_code
def yCls_itemsOfAll : MethodName := ⟨RCls, "itemsOfAll", "()I"⟩
abbrev cCls_cursorsThere : ByteArray := prog_1_method_71_code
def yCls_cursorsThere : MethodName := ⟨RCls, "cursorsThere", "()I"⟩
abbrev cCls_cursorsStale : ByteArray := prog_1_method_72_code
def yCls_cursorsStale : MethodName := ⟨RCls, "cursorsStale", "()I"⟩
abbrev cCls_turnsBack : ByteArray := prog_1_method_73_code
def yCls_turnsBack : MethodName := ⟨RCls, "turnsBack", "(LCursorlist$Row;)Z"⟩
abbrev cCls_addsUp : ByteArray := prog_1_method_74_code
def yCls_addsUp : MethodName := ⟨RCls, "addsUp", "(LCursorlist$Row;LCursorlist$Row;)Z"⟩
abbrev cCls_agreesWithResult : ByteArray := prog_1_method_75_code
def yCls_agreesWithResult : MethodName := ⟨RCls, "agreesWithResult", "(LCursorlist$Row;LCursorlist$Row;Z)Z"⟩
abbrev cCls_isResultAt : ByteArray := prog_1_method_76_code
def yCls_isResultAt : MethodName := ⟨RCls, "isResultAt", "(LCursorlist$Row;LCursorlist$Row;ZI)Z"⟩
abbrev cCls_isRecencySound : ByteArray := prog_1_method_77_code
def yCls_isRecencySound : MethodName := ⟨RCls, "isRecencySound", "()Z"⟩
abbrev cCls_mixed : ByteArray := prog_1_method_78_code
def yCls_mixed : MethodName := ⟨RCls, "mixed", "(JJ)J"⟩
abbrev cCls_mixedWithItems : ByteArray := prog_1_method_79_code
def yCls_mixedWithItems : MethodName := ⟨RCls, "mixedWithItems", "(JLCursorlist$Row;)J"⟩
abbrev cCls_mixedWithList : ByteArray := prog_1_method_80_code
def yCls_mixedWithList : MethodName := ⟨RCls, "mixedWithList", "(JLCursorlist$Row;)J"⟩
abbrev cCls_mixedWithOrder : ByteArray := prog_1_method_81_code
def yCls_mixedWithOrder : MethodName := ⟨RCls, "mixedWithOrder", "(JLCursorlist$Row;)J"⟩
def ROut : String := "CursorlistLaw$Out"
def TOut : u_T := fun k => match k with
  | 0 => ("CursorlistLaw$Out", "n", "J", false)
  | _ => ("CursorlistLaw$Out", "s", "Ljava/lang/String;", false)
def tyOut : Nat → FieldType := fun k => match k with
  | 0 => .long
  | _ => .object "java/lang/String"
theorem nmOut : ∀ a, a < 2 → ∀ b, b < 2 → a ≠ b → (TOut a).2.1 ≠ (TOut b).2.1 := by decide +kernel
theorem tyOut_ok : ∀ k, k < 2 → parseFieldDescriptor (TOut k).2.2.1 = some (tyOut k) := by decide +kernel
abbrev cOut_init : ByteArray := prog_6_method_1_code
def yOut_init : MethodName := ⟨ROut, "<init>", "()V"⟩
def RMod : String := "CursorlistModel"
def TMod : u_T := fun k => match k with
  | 0 => ("CursorlistModel", "rows", "[[I", true)
  | 1 => ("CursorlistModel", "isThere", "[Z", true)
  | 2 => ("CursorlistModel", "isStale", "[Z", true)
  | 3 => ("CursorlistModel", "over", "[I", true)
  | 4 => ("CursorlistModel", "index", "[I", true)
  | 5 => ("CursorlistModel", "lastAt", "[I", true)
  | 6 => ("CursorlistModel", "recent", "[I", false)
  | 7 => ("CursorlistModel", "askings", "[I", true)
  | 8 => ("CursorlistModel", "asked", "I", false)
  | 9 => ("CursorlistModel", "paid", "I", false)
  | 10 => ("CursorlistModel", "refusals", "I", false)
  | 11 => ("CursorlistModel", "knocks", "I", false)
  | _ => ("CursorlistModel", "thrown", "I", false)
def tyMod : Nat → FieldType := fun k => match k with
  | 0 => .array (.array .int)
  | 1 => .array .boolean
  | 2 => .array .boolean
  | 3 => .array .int
  | 4 => .array .int
  | 5 => .array .int
  | 6 => .array .int
  | 7 => .array .int
  | 8 => .int
  | 9 => .int
  | 10 => .int
  | 11 => .int
  | _ => .int
theorem nmMod : ∀ a, a < 13 → ∀ b, b < 13 → a ≠ b → (TMod a).2.1 ≠ (TMod b).2.1 := by decide +kernel
theorem tyMod_ok : ∀ k, k < 13 → parseFieldDescriptor (TMod k).2.2.1 = some (tyMod k) := by decide +kernel
abbrev cMod_init : ByteArray := prog_7_method_1_code
def yMod_init : MethodName := ⟨RMod, "<init>", "()V"⟩
abbrev cMod_thrown : ByteArray := prog_7_method_2_code
def yMod_thrown : MethodName := ⟨RMod, "thrown", "()I"⟩
abbrev cMod_fails : ByteArray := prog_7_method_3_code
def yMod_fails : MethodName := ⟨RMod, "fails", "(ZZZ)Z"⟩
abbrev cMod_isOut : ByteArray := prog_7_method_4_code
def yMod_isOut : MethodName := ⟨RMod, "isOut", "(III)Z"⟩
abbrev cMod_isNo : ByteArray := prog_7_method_5_code
def yMod_isNo : MethodName := ⟨RMod, "isNo", "(I)Z"⟩
abbrev cMod_isNoCursor : ByteArray := prog_7_method_6_code
def yMod_isNoCursor : MethodName := ⟨RMod, "isNoCursor", "(I)Z"⟩
abbrev cMod_isNoItem : ByteArray := prog_7_method_7_code
def yMod_isNoItem : MethodName := ⟨RMod, "isNoItem", "(I)Z"⟩
abbrev cMod_isNoPlace : ByteArray := prog_7_method_8_code
def yMod_isNoPlace : MethodName := ⟨RMod, "isNoPlace", "(II)Z"⟩
abbrev cMod_refused : ByteArray := prog_7_method_9_code
def yMod_refused : MethodName := ⟨RMod, "refused", "()I"⟩
abbrev cMod_with : ByteArray := prog_7_method_10_code
def yMod_with : MethodName := ⟨RMod, "with", "([III)[I"⟩
abbrev cMod_without : ByteArray := prog_7_method_11_code
def yMod_without : MethodName := ⟨RMod, "without", "([II)[I"⟩
abbrev cMod_joined : ByteArray := prog_7_method_12_code
def yMod_joined : MethodName := ⟨RMod, "joined", "([II[I)[I"⟩
abbrev cMod_turned : ByteArray := prog_7_method_13_code
def yMod_turned : MethodName := ⟨RMod, "turned", "([I)[I"⟩
abbrev cMod_areLike : ByteArray := prog_7_method_14_code
def yMod_areLike : MethodName := ⟨RMod, "areLike", "([I[I)Z"⟩
abbrev cMod_find : ByteArray := prog_7_method_15_code
def yMod_find : MethodName := ⟨RMod, "find", "([IIZ)I"⟩
abbrev cMod_told : ByteArray := prog_7_method_16_code
def yMod_told : MethodName := ⟨RMod, "told", "([I)Ljava/lang/String;"⟩
abbrev cMod_become : ByteArray := prog_7_method_17_code
def yMod_become : MethodName := ⟨RMod, "become", "(I[II)V"⟩
abbrev cMod_becomes : ByteArray := prog_7_method_18_code
def yMod_becomes : MethodName := ⟨RMod, "becomes", "(I[I)I"⟩
abbrev cMod_put : ByteArray := prog_7_method_19_code
def yMod_put : MethodName := ⟨RMod, "put", "(III)I"⟩
abbrev cMod_isAtEnd : ByteArray := prog_7_method_20_code
def yMod_isAtEnd : MethodName := ⟨RMod, "isAtEnd", "(I)Z"⟩
abbrev cMod_take : ByteArray := prog_7_method_21_code
def yMod_take : MethodName := ⟨RMod, "take", "(II)I"⟩
abbrev cMod_look : ByteArray := prog_7_method_22_code
def yMod_look : MethodName := ⟨RMod, "look", "(II)I"⟩
abbrev cMod_get : ByteArray := prog_7_method_23_code
def yMod_get : MethodName := ⟨RMod, "get", "(II)I"⟩
abbrev cMod_set : ByteArray := prog_7_method_24_code
def yMod_set : MethodName := ⟨RMod, "set", "(III)I"⟩
abbrev cMod_insert : ByteArray := prog_7_method_25_code
def yMod_insert : MethodName := ⟨RMod, "insert", "(III)I"⟩
abbrev cMod_removeAt : ByteArray := prog_7_method_26_code
def yMod_removeAt : MethodName := ⟨RMod, "removeAt", "(II)I"⟩
abbrev cMod_drop : ByteArray := prog_7_method_27_code
def yMod_drop : MethodName := ⟨RMod, "drop", "(IIZ)Z"⟩
abbrev cMod_thin : ByteArray := prog_7_method_28_code
def yMod_thin : MethodName := ⟨RMod, "thin", "(II)I"⟩
abbrev cMod_indexOf : ByteArray := prog_7_method_29_code
def yMod_indexOf : MethodName := ⟨RMod, "indexOf", "(IIZ)I"⟩
abbrev cMod_has : ByteArray := prog_7_method_30_code
def yMod_has : MethodName := ⟨RMod, "has", "(II)Z"⟩
abbrev cMod_size : ByteArray := prog_7_method_31_code
def yMod_size : MethodName := ⟨RMod, "size", "(I)I"⟩
abbrev cMod_text : ByteArray := prog_7_method_32_code
def yMod_text : MethodName := ⟨RMod, "text", "(IZ)Ljava/lang/String;"⟩
abbrev cMod_clear : ByteArray := prog_7_method_33_code
def yMod_clear : MethodName := ⟨RMod, "clear", "(I)I"⟩
abbrev cMod_append : ByteArray := prog_7_method_34_code
def yMod_append : MethodName := ⟨RMod, "append", "(II)I"⟩
abbrev cMod_joins : ByteArray := prog_7_method_35_code
def yMod_joins : MethodName := ⟨RMod, "joins", "(III)I"⟩
abbrev cMod_appendAt : ByteArray := prog_7_method_36_code
def yMod_appendAt : MethodName := ⟨RMod, "appendAt", "(III)I"⟩
abbrev cMod_copied : ByteArray := prog_7_method_37_code
def yMod_copied : MethodName := ⟨RMod, "copied", "([I)[I"⟩
abbrev cMod_copy : ByteArray := prog_7_method_38_code
def yMod_copy : MethodName := ⟨RMod, "copy", "(II)I"⟩
abbrev cMod_places : ByteArray := prog_7_method_39_code
def yMod_places : MethodName := ⟨RMod, "places", "(II)I"⟩
abbrev cMod_first : ByteArray := prog_7_method_40_code
def yMod_first : MethodName := ⟨RMod, "first", "(I)I"⟩
abbrev cMod_rotate : ByteArray := prog_7_method_41_code
def yMod_rotate : MethodName := ⟨RMod, "rotate", "(II)I"⟩
abbrev cMod_move : ByteArray := prog_7_method_42_code
def yMod_move : MethodName := ⟨RMod, "move", "(III)I"⟩
abbrev cMod_swap : ByteArray := prog_7_method_43_code
def yMod_swap : MethodName := ⟨RMod, "swap", "(III)I"⟩
abbrev cMod_reverse : ByteArray := prog_7_method_44_code
def yMod_reverse : MethodName := ⟨RMod, "reverse", "(I)I"⟩
abbrev cMod_through : ByteArray := prog_7_method_45_code
def yMod_through : MethodName := ⟨RMod, "through", "(III)I"⟩
abbrev cMod_areSame : ByteArray := prog_7_method_46_code
def yMod_areSame : MethodName := ⟨RMod, "areSame", "(II)Z"⟩
abbrev cMod_isMirror : ByteArray := prog_7_method_47_code
def yMod_isMirror : MethodName := ⟨RMod, "isMirror", "(I)Z"⟩
abbrev cMod_open : ByteArray := prog_7_method_48_code
def yMod_open : MethodName := ⟨RMod, "open", "(III)I"⟩
abbrev cMod_shut : ByteArray := prog_7_method_49_code
def yMod_shut : MethodName := ⟨RMod, "shut", "(I)Z"⟩
abbrev cMod_isNotThere : ByteArray := prog_7_method_50_code
def yMod_isNotThere : MethodName := ⟨RMod, "isNotThere", "(I)Z"⟩
abbrev cMod_goes : ByteArray := prog_7_method_51_code
def yMod_goes : MethodName := ⟨RMod, "goes", "(IZ)I"⟩
abbrev cMod_asksOn : ByteArray := prog_7_method_52_code
def yMod_asksOn : MethodName := ⟨RMod, "asksOn", "(IZ)I"⟩
abbrev cMod_forth : ByteArray := prog_7_method_53_code
def yMod_forth : MethodName := ⟨RMod, "forth", "(I)I"⟩
abbrev cMod_back : ByteArray := prog_7_method_54_code
def yMod_back : MethodName := ⟨RMod, "back", "(I)I"⟩
abbrev cMod_puts : ByteArray := prog_7_method_55_code
def yMod_puts : MethodName := ⟨RMod, "puts", "(II)I"⟩
abbrev cMod_cuts : ByteArray := prog_7_method_56_code
def yMod_cuts : MethodName := ⟨RMod, "cuts", "(I)I"⟩
abbrev cMod_changes : ByteArray := prog_7_method_57_code
def yMod_changes : MethodName := ⟨RMod, "changes", "(II)I"⟩
abbrev cMod_meet : ByteArray := prog_7_method_58_code
def yMod_meet : MethodName := ⟨RMod, "meet", "(II)I"⟩
abbrev cMod_ofCursorNow : ByteArray := prog_7_method_59_code
def yMod_ofCursorNow : MethodName := ⟨RMod, "ofCursorNow", "(II)I"⟩
abbrev cMod_ofCursor : ByteArray := prog_7_method_60_code
def yMod_ofCursor : MethodName := ⟨RMod, "ofCursor", "(II)I"⟩
abbrev cMod_fitting : ByteArray := prog_7_method_61_code
def yMod_fitting : MethodName := ⟨RMod, "fitting", "([J)[I"⟩
abbrev cMod_fits : ByteArray := prog_7_method_62_code
def yMod_fits : MethodName := ⟨RMod, "fits", "(I[J)I"⟩
abbrev cMod_plus : ByteArray := prog_7_method_63_code
def yMod_plus : MethodName := ⟨RMod, "plus", "(II)I"⟩
abbrev cMod_times : ByteArray := prog_7_method_64_code
def yMod_times : MethodName := ⟨RMod, "times", "(II)I"⟩
abbrev cMod_shift : ByteArray := prog_7_method_65_code
def yMod_shift : MethodName := ⟨RMod, "shift", "(I)I"⟩
abbrev cMod_trim : ByteArray := prog_7_method_66_code
def yMod_trim : MethodName := ⟨RMod, "trim", "(I)I"⟩
abbrev cMod_derive : ByteArray := prog_7_method_67_code
def yMod_derive : MethodName := ⟨RMod, "derive", "(I)I"⟩
abbrev cMod_rest : ByteArray := prog_7_method_68_code
def yMod_rest : MethodName := ⟨RMod, "rest", "(J)I"⟩
abbrev cMod_valueOf : ByteArray := prog_7_method_69_code
def yMod_valueOf : MethodName := ⟨RMod, "valueOf", "([II)I"⟩
abbrev cMod_value : ByteArray := prog_7_method_70_code
def yMod_value : MethodName := ⟨RMod, "value", "(II)I"⟩
abbrev cMod_degreeOf : ByteArray := prog_7_method_71_code
def yMod_degreeOf : MethodName := ⟨RMod, "degreeOf", "([I)I"⟩
abbrev cMod_degree : ByteArray := prog_7_method_72_code
def yMod_degree : MethodName := ⟨RMod, "degree", "(I)I"⟩
abbrev cMod_ask : ByteArray := prog_7_method_73_code
def yMod_ask : MethodName := ⟨RMod, "ask", "(I)I"⟩
abbrev cMod_forget : ByteArray := prog_7_method_74_code
def yMod_forget : MethodName := ⟨RMod, "forget", "()I"⟩
abbrev cMod_askedNow : ByteArray := prog_7_method_75_code
def yMod_askedNow : MethodName := ⟨RMod, "askedNow", "(I)I"⟩
abbrev cMod_asked : ByteArray := prog_7_method_76_code
def yMod_asked : MethodName := ⟨RMod, "asked", "(I)I"⟩
abbrev cMod_recent : ByteArray := prog_7_method_77_code
def yMod_recent : MethodName := ⟨RMod, "recent", "()Ljava/lang/String;"⟩
abbrev cMod_isOrder : ByteArray := prog_7_method_78_code
def yMod_isOrder : MethodName := ⟨RMod, "isOrder", "([I)Z"⟩
abbrev cMod_byOrderNow : ByteArray := prog_7_method_79_code
def yMod_byOrderNow : MethodName := ⟨RMod, "byOrderNow", "([II)I"⟩
abbrev cMod_byOrder : ByteArray := prog_7_method_80_code
def yMod_byOrder : MethodName := ⟨RMod, "byOrder", "(II)I"⟩
abbrev cMod_houseNow : ByteArray := prog_7_method_81_code
def yMod_houseNow : MethodName := ⟨RMod, "houseNow", "(I)I"⟩
abbrev cMod_house : ByteArray := prog_7_method_82_code
def yMod_house : MethodName := ⟨RMod, "house", "(I)I"⟩
abbrev cMod_knock : ByteArray := prog_7_method_83_code
def yMod_knock : MethodName := ⟨RMod, "knock", "()I"⟩
abbrev cMod_isSound : ByteArray := prog_7_method_84_code
def yMod_isSound : MethodName := ⟨RMod, "isSound", "()Z"⟩
abbrev cMod_add : ByteArray := prog_7_method_85_code
def yMod_add : MethodName := ⟨RMod, "add", "(JJ)J"⟩
abbrev cMod_digest : ByteArray := prog_7_method_86_code
def yMod_digest : MethodName := ⟨RMod, "digest", "()J"⟩
def RAsb : String := "java/lang/AbstractStringBuilder"
def TAsb : u_T := fun k => match k with
  | _ => ("", "", "", false)
def tyAsb : Nat → FieldType := fun k => match k with
  | _ => .int
theorem nmAsb : ∀ a, a < 0 → ∀ b, b < 0 → a ≠ b → (TAsb a).2.1 ≠ (TAsb b).2.1 := by decide +kernel
theorem tyAsb_ok : ∀ k, k < 0 → parseFieldDescriptor (TAsb k).2.2.1 = some (tyAsb k) := by decide +kernel
abbrev cAsb_init_d00df : ByteArray := prog_8_method_2_code
def yAsb_init_d00df : MethodName := ⟨RAsb, "<init>", "(I)V"⟩
abbrev cAsb_length_8abf5 : ByteArray := prog_8_method_6_code
def yAsb_length_8abf5 : MethodName := ⟨RAsb, "length", "()I"⟩
abbrev cAsb_ensureCapacityInternal_d00df : ByteArray := prog_8_method_9_code
def yAsb_ensureCapacityInternal_d00df : MethodName := ⟨RAsb, "ensureCapacityInternal", "(I)V"⟩
abbrev cAsb_newCapacity_0f7a4 : ByteArray := prog_8_method_10_code
def yAsb_newCapacity_0f7a4 : MethodName := ⟨RAsb, "newCapacity", "(I)I"⟩
abbrev cAsb_inflate_da8c8 : ByteArray := prog_8_method_11_code
def yAsb_inflate_da8c8 : MethodName := ⟨RAsb, "inflate", "()V"⟩
abbrev cAsb_append_cf1ce : ByteArray := prog_8_method_22_code
def yAsb_append_cf1ce : MethodName := ⟨RAsb, "append", "(Ljava/lang/String;)Ljava/lang/AbstractStringBuilder;"⟩
abbrev cAsb_appendNull_278bc : ByteArray := prog_8_method_26_code
def yAsb_appendNull_278bc : MethodName := ⟨RAsb, "appendNull", "()Ljava/lang/AbstractStringBuilder;"⟩
abbrev cAsb_append_3fe6f : ByteArray := prog_8_method_31_code
def yAsb_append_3fe6f : MethodName := ⟨RAsb, "append", "(C)Ljava/lang/AbstractStringBuilder;"⟩
abbrev cAsb_append_c97b9 : ByteArray := prog_8_method_32_code
def yAsb_append_c97b9 : MethodName := ⟨RAsb, "append", "(I)Ljava/lang/AbstractStringBuilder;"⟩
abbrev cAsb_getValue_6d5f1 : ByteArray := prog_8_method_64_code
def yAsb_getValue_6d5f1 : MethodName := ⟨RAsb, "getValue", "()[B"⟩
abbrev cAsb_isLatin1_aae02 : ByteArray := prog_8_method_68_code
def yAsb_isLatin1_aae02 : MethodName := ⟨RAsb, "isLatin1", "()Z"⟩
abbrev cAsb_inflateIfNeededFor_a7421 : ByteArray := prog_8_method_71_code
def yAsb_inflateIfNeededFor_a7421 : MethodName := ⟨RAsb, "inflateIfNeededFor", "(Ljava/lang/String;)V"⟩
abbrev cAsb_putStringAt_47b60 : ByteArray := prog_8_method_73_code
def yAsb_putStringAt_47b60 : MethodName := ⟨RAsb, "putStringAt", "(ILjava/lang/String;)V"⟩
def RClo : String := "java/lang/Cloneable"
def TClo : u_T := fun k => match k with
  | _ => ("", "", "", false)
def tyClo : Nat → FieldType := fun k => match k with
  | _ => .int
theorem nmClo : ∀ a, a < 0 → ∀ b, b < 0 → a ≠ b → (TClo a).2.1 ≠ (TClo b).2.1 := by decide +kernel
theorem tyClo_ok : ∀ k, k < 0 → parseFieldDescriptor (TClo k).2.2.1 = some (tyClo k) := by decide +kernel
def RInt : String := "java/lang/Integer"
def TInt : u_T := fun k => match k with
  | _ => ("", "", "", false)
def tyInt : Nat → FieldType := fun k => match k with
  | _ => .int
theorem nmInt : ∀ a, a < 0 → ∀ b, b < 0 → a ≠ b → (TInt a).2.1 ≠ (TInt b).2.1 := by decide +kernel
theorem tyInt_ok : ∀ k, k < 0 → parseFieldDescriptor (TInt k).2.2.1 = some (tyInt k) := by decide +kernel
abbrev cInt_getChars_ba4f3 : ByteArray := prog_14_method_12_code
def yInt_getChars_ba4f3 : MethodName := ⟨RInt, "getChars", "(II[B)I"⟩
abbrev cInt_stringSize_0f7a4 : ByteArray := prog_14_method_13_code
def yInt_stringSize_0f7a4 : MethodName := ⟨RInt, "stringSize", "(I)I"⟩
def RMth : String := "java/lang/Math"
def TMth : u_T := fun k => match k with
  | _ => ("", "", "", false)
def tyMth : Nat → FieldType := fun k => match k with
  | _ => .int
theorem nmMth : ∀ a, a < 0 → ∀ b, b < 0 → a ≠ b → (TMth a).2.1 ≠ (TMth b).2.1 := by decide +kernel
theorem tyMth_ok : ∀ k, k < 0 → parseFieldDescriptor (TMth k).2.2.1 = some (tyMth k) := by decide +kernel
abbrev cMth_floorMod_7cf53 : ByteArray := prog_15_method_50_code
def yMth_floorMod_7cf53 : MethodName := ⟨RMth, "floorMod", "(II)I"⟩
abbrev cMth_max_7cf53 : ByteArray := prog_15_method_65_code
def yMth_max_7cf53 : MethodName := ⟨RMth, "max", "(II)I"⟩
abbrev cMth_min_7cf53 : ByteArray := prog_15_method_69_code
def yMth_min_7cf53 : MethodName := ⟨RMth, "min", "(II)I"⟩
def RStr : String := "java/lang/String"
def TStr : u_T := fun k => match k with
  | 0 => ("java/lang/String", "value", "[B", true)
  | 1 => ("java/lang/String", "coder", "B", true)
  | 2 => ("java/lang/String", "hash", "I", false)
  | _ => ("java/lang/String", "hashIsZero", "Z", false)
def tyStr : Nat → FieldType := fun k => match k with
  | 0 => .array .byte
  | 1 => .byte
  | 2 => .int
  | _ => .boolean
theorem nmStr : ∀ a, a < 4 → ∀ b, b < 4 → a ≠ b → (TStr a).2.1 ≠ (TStr b).2.1 := by decide +kernel
theorem tyStr_ok : ∀ k, k < 4 → parseFieldDescriptor (TStr k).2.2.1 = some (tyStr k) := by decide +kernel
abbrev cStr_init_81219 : ByteArray := prog_17_method_53_code
def yStr_init_81219 : MethodName := ⟨RStr, "<init>", "(Ljava/lang/StringBuilder;)V"⟩
abbrev cStr_length_8abf5 : ByteArray := prog_17_method_54_code
def yStr_length_8abf5 : MethodName := ⟨RStr, "length", "()I"⟩
abbrev cStr_getBytes_840e7 : ByteArray := prog_17_method_147_code
def yStr_getBytes_840e7 : MethodName := ⟨RStr, "getBytes", "([BIB)V"⟩
abbrev cStr_init_db425 : ByteArray := prog_17_method_150_code
def yStr_init_db425 : MethodName := ⟨RStr, "<init>", "(Ljava/lang/AbstractStringBuilder;Ljava/lang/Void;)V"⟩
abbrev cStr_coder_7d493 : ByteArray := prog_17_method_152_code
def yStr_coder_7d493 : MethodName := ⟨RStr, "coder", "()B"⟩
abbrev cStr_checkIndex_df160 : ByteArray := prog_17_method_155_code
def yStr_checkIndex_df160 : MethodName := ⟨RStr, "checkIndex", "(II)V"⟩
abbrev cStr_checkBoundsOffCount_cabcc : ByteArray := prog_17_method_157_code
def yStr_checkBoundsOffCount_cabcc : MethodName := ⟨RStr, "checkBoundsOffCount", "(III)I"⟩
abbrev cStr_checkBoundsBeginEnd_23922 : ByteArray := prog_17_method_158_code
def yStr_checkBoundsBeginEnd_23922 : MethodName := ⟨RStr, "checkBoundsBeginEnd", "(III)V"⟩
def RSbd : String := "java/lang/StringBuilder"
def TSbd : u_T := fun k => match k with
  | 0 => ("java/lang/AbstractStringBuilder", "value", "[B", false)
  | 1 => ("java/lang/AbstractStringBuilder", "coder", "B", false)
  | 2 => ("java/lang/AbstractStringBuilder", "maybeLatin1", "Z", false)
  | _ => ("java/lang/AbstractStringBuilder", "count", "I", false)
def tySbd : Nat → FieldType := fun k => match k with
  | 0 => .array .byte
  | 1 => .byte
  | 2 => .boolean
  | _ => .int
theorem nmSbd : ∀ a, a < 4 → ∀ b, b < 4 → a ≠ b → (TSbd a).2.1 ≠ (TSbd b).2.1 := by decide +kernel
theorem tySbd_ok : ∀ k, k < 4 → parseFieldDescriptor (TSbd k).2.2.1 = some (tySbd k) := by decide +kernel
abbrev cSbd_init_da8c8 : ByteArray := prog_18_method_1_code
def ySbd_init_da8c8 : MethodName := ⟨RSbd, "<init>", "()V"⟩
abbrev cSbd_append_15ec4 : ByteArray := prog_18_method_7_code
def ySbd_append_15ec4 : MethodName := ⟨RSbd, "append", "(Ljava/lang/String;)Ljava/lang/StringBuilder;"⟩
abbrev cSbd_append_cf468 : ByteArray := prog_18_method_14_code
def ySbd_append_cf468 : MethodName := ⟨RSbd, "append", "(C)Ljava/lang/StringBuilder;"⟩
abbrev cSbd_append_bf812 : ByteArray := prog_18_method_15_code
def ySbd_append_bf812 : MethodName := ⟨RSbd, "append", "(I)Ljava/lang/StringBuilder;"⟩
abbrev cSbd_toString_0e30d : ByteArray := prog_18_method_42_code
def ySbd_toString_0e30d : MethodName := ⟨RSbd, "toString", "()Ljava/lang/String;"⟩
abbrev cSbd_length_8abf5 : ByteArray := prog_18_method_93_code
def ySbd_length_8abf5 : MethodName := ⟨RSbd, "length", "()I"⟩
def RLat : String := "java/lang/StringLatin1"
def TLat : u_T := fun k => match k with
  | _ => ("", "", "", false)
def tyLat : Nat → FieldType := fun k => match k with
  | _ => .int
theorem nmLat : ∀ a, a < 0 → ∀ b, b < 0 → a ≠ b → (TLat a).2.1 ≠ (TLat b).2.1 := by decide +kernel
theorem tyLat_ok : ∀ k, k < 0 → parseFieldDescriptor (TLat k).2.2.1 = some (tyLat k) := by decide +kernel
abbrev cLat_canEncode_fc78d : ByteArray := prog_19_method_3_code
def yLat_canEncode_fc78d : MethodName := ⟨RLat, "canEncode", "(C)Z"⟩
abbrev cLat_inflate_0e8fd : ByteArray := prog_19_method_50_code
def yLat_inflate_0e8fd : MethodName := ⟨RLat, "inflate", "([BI[BII)V"⟩
def RUtf : String := "java/lang/StringUTF16"
def TUtf : u_T := fun k => match k with
  | _ => ("", "", "", false)
def tyUtf : Nat → FieldType := fun k => match k with
  | _ => .int
theorem nmUtf : ∀ a, a < 0 → ∀ b, b < 0 → a ≠ b → (TUtf a).2.1 ≠ (TUtf b).2.1 := by decide +kernel
theorem tyUtf_ok : ∀ k, k < 0 → parseFieldDescriptor (TUtf k).2.2.1 = some (tyUtf k) := by decide +kernel
abbrev cUtf_newBytesFor_77867 : ByteArray := prog_20_method_2_code
def yUtf_newBytesFor_77867 : MethodName := ⟨RUtf, "newBytesFor", "(I)[B"⟩
abbrev cUtf_newBytesLength_0f7a4 : ByteArray := prog_20_method_3_code
def yUtf_newBytesLength_0f7a4 : MethodName := ⟨RUtf, "newBytesLength", "(I)I"⟩
abbrev cUtf_putChar_b72d1 : ByteArray := prog_20_method_4_code
def yUtf_putChar_b72d1 : MethodName := ⟨RUtf, "putChar", "([BII)V"⟩
abbrev cUtf_getChar_3b067 : ByteArray := prog_20_method_5_code
def yUtf_getChar_3b067 : MethodName := ⟨RUtf, "getChar", "([BI)C"⟩
abbrev cUtf_length_9d52b : ByteArray := prog_20_method_6_code
def yUtf_length_9d52b : MethodName := ⟨RUtf, "length", "([B)I"⟩
abbrev cUtf_coderFromArrayLen_85cad : ByteArray := prog_20_method_15_code
def yUtf_coderFromArrayLen_85cad : MethodName := ⟨RUtf, "coderFromArrayLen", "([BI)B"⟩
abbrev cUtf_compress_39247 : ByteArray := prog_20_method_17_code
def yUtf_compress_39247 : MethodName := ⟨RUtf, "compress", "([BII)[B"⟩
abbrev cUtf_compress_5af95 : ByteArray := prog_20_method_22_code
def yUtf_compress_5af95 : MethodName := ⟨RUtf, "compress", "([BI[BII)I"⟩
abbrev cUtf_putCharSB_b72d1 : ByteArray := prog_20_method_71_code
def yUtf_putCharSB_b72d1 : MethodName := ⟨RUtf, "putCharSB", "([BII)V"⟩
abbrev cUtf_getChars_46870 : ByteArray := prog_20_method_77_code
def yUtf_getChars_46870 : MethodName := ⟨RUtf, "getChars", "(III[B)I"⟩
abbrev cUtf_putCharsAt_cd4e5 : ByteArray := prog_20_method_81_code
def yUtf_putCharsAt_cd4e5 : MethodName := ⟨RUtf, "putCharsAt", "([BICCCC)I"⟩
abbrev cUtf_inflate_0e8fd : ByteArray := prog_20_method_86_code
def yUtf_inflate_0e8fd : MethodName := ⟨RUtf, "inflate", "([BI[BII)V"⟩
abbrev cUtf_getChars_ba4f3 : ByteArray := prog_20_method_89_code
def yUtf_getChars_ba4f3 : MethodName := ⟨RUtf, "getChars", "(II[B)I"⟩
abbrev cUtf_checkIndex_2214a : ByteArray := prog_20_method_91_code
def yUtf_checkIndex_2214a : MethodName := ⟨RUtf, "checkIndex", "(I[B)V"⟩
abbrev cUtf_checkBoundsBeginEnd_d044e : ByteArray := prog_20_method_93_code
def yUtf_checkBoundsBeginEnd_d044e : MethodName := ⟨RUtf, "checkBoundsBeginEnd", "(II[B)V"⟩
abbrev cUtf_checkBoundsOffCount_d044e : ByteArray := prog_20_method_94_code
def yUtf_checkBoundsOffCount_d044e : MethodName := ⟨RUtf, "checkBoundsOffCount", "(II[B)V"⟩
def RSys : String := "java/lang/System"
def TSys : u_T := fun k => match k with
  | _ => ("", "", "", false)
def tySys : Nat → FieldType := fun k => match k with
  | _ => .int
theorem nmSys : ∀ a, a < 0 → ∀ b, b < 0 → a ≠ b → (TSys a).2.1 ≠ (TSys b).2.1 := by decide +kernel
theorem tySys_ok : ∀ k, k < 0 → parseFieldDescriptor (TSys k).2.2.1 = some (tySys k) := by decide +kernel
def RArr : String := "java/util/Arrays"
def TArr : u_T := fun k => match k with
  | _ => ("", "", "", false)
def tyArr : Nat → FieldType := fun k => match k with
  | _ => .int
theorem nmArr : ∀ a, a < 0 → ∀ b, b < 0 → a ≠ b → (TArr a).2.1 ≠ (TArr b).2.1 := by decide +kernel
theorem tyArr_ok : ∀ k, k < 0 → parseFieldDescriptor (TArr k).2.2.1 = some (tyArr k) := by decide +kernel
abbrev cArr_copyOf_9075b : ByteArray := prog_23_method_121_code
def yArr_copyOf_9075b : MethodName := ⟨RArr, "copyOf", "([BI)[B"⟩
abbrev cArr_checkLength_df160 : ByteArray := prog_23_method_131_code
def yArr_checkLength_df160 : MethodName := ⟨RArr, "checkLength", "(II)V"⟩
abbrev cArr_copyOfRange_39247 : ByteArray := prog_23_method_132_code
def yArr_copyOfRange_39247 : MethodName := ⟨RArr, "copyOfRange", "([BII)[B"⟩
abbrev cArr_copyOfRangeByte_39247 : ByteArray := prog_23_method_133_code
def yArr_copyOfRangeByte_39247 : MethodName := ⟨RArr, "copyOfRangeByte", "([BII)[B"⟩
def RAsu : String := "jdk/internal/util/ArraysSupport"
def TAsu : u_T := fun k => match k with
  | _ => ("", "", "", false)
def tyAsu : Nat → FieldType := fun k => match k with
  | _ => .int
theorem nmAsu : ∀ a, a < 0 → ∀ b, b < 0 → a ≠ b → (TAsu a).2.1 ≠ (TAsu b).2.1 := by decide +kernel
theorem tyAsu_ok : ∀ k, k < 0 → parseFieldDescriptor (TAsu k).2.2.1 = some (tyAsu k) := by decide +kernel
abbrev cAsu_newLength_cabcc : ByteArray := prog_24_method_27_code
def yAsu_newLength_cabcc : MethodName := ⟨RAsu, "newLength", "(III)I"⟩
abbrev cAsu_hugeLength_7cf53 : ByteArray := prog_24_method_28_code
def yAsu_hugeLength_7cf53 : MethodName := ⟨RAsu, "hugeLength", "(II)I"⟩
def RPrc : String := "jdk/internal/util/Preconditions"
def TPrc : u_T := fun k => match k with
  | _ => ("", "", "", false)
def tyPrc : Nat → FieldType := fun k => match k with
  | _ => .int
theorem nmPrc : ∀ a, a < 0 → ∀ b, b < 0 → a ≠ b → (TPrc a).2.1 ≠ (TPrc b).2.1 := by decide +kernel
theorem tyPrc_ok : ∀ k, k < 0 → parseFieldDescriptor (TPrc k).2.2.1 = some (tyPrc k) := by decide +kernel
abbrev cPrc_checkIndex_8e157 : ByteArray := prog_25_method_11_code
def yPrc_checkIndex_8e157 : MethodName := ⟨RPrc, "checkIndex", "(IILjava/util/function/BiFunction;)I"⟩
abbrev cPrc_checkFromToIndex_8c36e : ByteArray := prog_25_method_12_code
def yPrc_checkFromToIndex_8c36e : MethodName := ⟨RPrc, "checkFromToIndex", "(IIILjava/util/function/BiFunction;)I"⟩
abbrev cPrc_checkFromIndexSize_8c36e : ByteArray := prog_25_method_13_code
def yPrc_checkFromIndexSize_8c36e : MethodName := ⟨RPrc, "checkFromIndexSize", "(IIILjava/util/function/BiFunction;)I"⟩
def RLaw : String := "CursorlistLaw"
abbrev cLaw_put : ByteArray := method_2_code
def yLaw_put : MethodName := ⟨RLaw, "put", "(LCursorlist;IIILCursorlistLaw$Out;)I"⟩
abbrev cLaw_take : ByteArray := method_3_code
def yLaw_take : MethodName := ⟨RLaw, "take", "(LCursorlist;IILCursorlistLaw$Out;)I"⟩
abbrev cLaw_look : ByteArray := method_4_code
def yLaw_look : MethodName := ⟨RLaw, "look", "(LCursorlist;IILCursorlistLaw$Out;)I"⟩
abbrev cLaw_get : ByteArray := method_5_code
def yLaw_get : MethodName := ⟨RLaw, "get", "(LCursorlist;IILCursorlistLaw$Out;)I"⟩
abbrev cLaw_set : ByteArray := method_6_code
def yLaw_set : MethodName := ⟨RLaw, "set", "(LCursorlist;IIILCursorlistLaw$Out;)I"⟩
abbrev cLaw_insert : ByteArray := method_7_code
def yLaw_insert : MethodName := ⟨RLaw, "insert", "(LCursorlist;IIILCursorlistLaw$Out;)I"⟩
abbrev cLaw_removeAt : ByteArray := method_8_code
def yLaw_removeAt : MethodName := ⟨RLaw, "removeAt", "(LCursorlist;IILCursorlistLaw$Out;)I"⟩
abbrev cLaw_drop : ByteArray := method_9_code
def yLaw_drop : MethodName := ⟨RLaw, "drop", "(LCursorlist;IIZLCursorlistLaw$Out;)I"⟩
abbrev cLaw_thin : ByteArray := method_10_code
def yLaw_thin : MethodName := ⟨RLaw, "thin", "(LCursorlist;IILCursorlistLaw$Out;)I"⟩
abbrev cLaw_indexOf : ByteArray := method_11_code
def yLaw_indexOf : MethodName := ⟨RLaw, "indexOf", "(LCursorlist;IIZLCursorlistLaw$Out;)I"⟩
abbrev cLaw_has : ByteArray := method_12_code
def yLaw_has : MethodName := ⟨RLaw, "has", "(LCursorlist;IILCursorlistLaw$Out;)I"⟩
abbrev cLaw_size : ByteArray := method_13_code
def yLaw_size : MethodName := ⟨RLaw, "size", "(LCursorlist;ILCursorlistLaw$Out;)I"⟩
abbrev cLaw_text : ByteArray := method_14_code
def yLaw_text : MethodName := ⟨RLaw, "text", "(LCursorlist;IZLCursorlistLaw$Out;)I"⟩
abbrev cLaw_clear : ByteArray := method_15_code
def yLaw_clear : MethodName := ⟨RLaw, "clear", "(LCursorlist;ILCursorlistLaw$Out;)I"⟩
abbrev cLaw_append : ByteArray := method_16_code
def yLaw_append : MethodName := ⟨RLaw, "append", "(LCursorlist;IILCursorlistLaw$Out;)I"⟩
abbrev cLaw_appendAt : ByteArray := method_17_code
def yLaw_appendAt : MethodName := ⟨RLaw, "appendAt", "(LCursorlist;IIILCursorlistLaw$Out;)I"⟩
abbrev cLaw_copy : ByteArray := method_18_code
def yLaw_copy : MethodName := ⟨RLaw, "copy", "(LCursorlist;IILCursorlistLaw$Out;)I"⟩
abbrev cLaw_places : ByteArray := method_19_code
def yLaw_places : MethodName := ⟨RLaw, "places", "(LCursorlist;IILCursorlistLaw$Out;)I"⟩
abbrev cLaw_rotate : ByteArray := method_20_code
def yLaw_rotate : MethodName := ⟨RLaw, "rotate", "(LCursorlist;IILCursorlistLaw$Out;)I"⟩
abbrev cLaw_move : ByteArray := method_21_code
def yLaw_move : MethodName := ⟨RLaw, "move", "(LCursorlist;IIILCursorlistLaw$Out;)I"⟩
abbrev cLaw_swap : ByteArray := method_22_code
def yLaw_swap : MethodName := ⟨RLaw, "swap", "(LCursorlist;IIILCursorlistLaw$Out;)I"⟩
abbrev cLaw_reverse : ByteArray := method_23_code
def yLaw_reverse : MethodName := ⟨RLaw, "reverse", "(LCursorlist;ILCursorlistLaw$Out;)I"⟩
abbrev cLaw_through : ByteArray := method_24_code
def yLaw_through : MethodName := ⟨RLaw, "through", "(LCursorlist;IIILCursorlistLaw$Out;)I"⟩
abbrev cLaw_areSame : ByteArray := method_25_code
def yLaw_areSame : MethodName := ⟨RLaw, "areSame", "(LCursorlist;IILCursorlistLaw$Out;)I"⟩
abbrev cLaw_isMirror : ByteArray := method_26_code
def yLaw_isMirror : MethodName := ⟨RLaw, "isMirror", "(LCursorlist;ILCursorlistLaw$Out;)I"⟩
abbrev cLaw_open : ByteArray := method_27_code
def yLaw_open : MethodName := ⟨RLaw, "open", "(LCursorlist;IIILCursorlistLaw$Out;)I"⟩
abbrev cLaw_shut : ByteArray := method_28_code
def yLaw_shut : MethodName := ⟨RLaw, "shut", "(LCursorlist;ILCursorlistLaw$Out;)I"⟩
abbrev cLaw_forth : ByteArray := method_29_code
def yLaw_forth : MethodName := ⟨RLaw, "forth", "(LCursorlist;ILCursorlistLaw$Out;)I"⟩
abbrev cLaw_back : ByteArray := method_30_code
def yLaw_back : MethodName := ⟨RLaw, "back", "(LCursorlist;ILCursorlistLaw$Out;)I"⟩
abbrev cLaw_puts : ByteArray := method_31_code
def yLaw_puts : MethodName := ⟨RLaw, "puts", "(LCursorlist;IILCursorlistLaw$Out;)I"⟩
abbrev cLaw_cuts : ByteArray := method_32_code
def yLaw_cuts : MethodName := ⟨RLaw, "cuts", "(LCursorlist;ILCursorlistLaw$Out;)I"⟩
abbrev cLaw_changes : ByteArray := method_33_code
def yLaw_changes : MethodName := ⟨RLaw, "changes", "(LCursorlist;IILCursorlistLaw$Out;)I"⟩
abbrev cLaw_meet : ByteArray := method_34_code
def yLaw_meet : MethodName := ⟨RLaw, "meet", "(LCursorlist;IILCursorlistLaw$Out;)I"⟩
abbrev cLaw_ofCursor : ByteArray := method_35_code
def yLaw_ofCursor : MethodName := ⟨RLaw, "ofCursor", "(LCursorlist;IILCursorlistLaw$Out;)I"⟩
abbrev cLaw_plus : ByteArray := method_36_code
def yLaw_plus : MethodName := ⟨RLaw, "plus", "(LCursorlist;IILCursorlistLaw$Out;)I"⟩
abbrev cLaw_times : ByteArray := method_37_code
def yLaw_times : MethodName := ⟨RLaw, "times", "(LCursorlist;IILCursorlistLaw$Out;)I"⟩
abbrev cLaw_shift : ByteArray := method_38_code
def yLaw_shift : MethodName := ⟨RLaw, "shift", "(LCursorlist;ILCursorlistLaw$Out;)I"⟩
abbrev cLaw_trim : ByteArray := method_39_code
def yLaw_trim : MethodName := ⟨RLaw, "trim", "(LCursorlist;ILCursorlistLaw$Out;)I"⟩
abbrev cLaw_derive : ByteArray := method_40_code
def yLaw_derive : MethodName := ⟨RLaw, "derive", "(LCursorlist;ILCursorlistLaw$Out;)I"⟩
abbrev cLaw_value : ByteArray := method_41_code
def yLaw_value : MethodName := ⟨RLaw, "value", "(LCursorlist;IILCursorlistLaw$Out;)I"⟩
abbrev cLaw_degree : ByteArray := method_42_code
def yLaw_degree : MethodName := ⟨RLaw, "degree", "(LCursorlist;ILCursorlistLaw$Out;)I"⟩
abbrev cLaw_ask : ByteArray := method_43_code
def yLaw_ask : MethodName := ⟨RLaw, "ask", "(LCursorlist;ILCursorlistLaw$Out;)I"⟩
abbrev cLaw_asked : ByteArray := method_44_code
def yLaw_asked : MethodName := ⟨RLaw, "asked", "(LCursorlist;ILCursorlistLaw$Out;)I"⟩
abbrev cLaw_byOrder : ByteArray := method_45_code
def yLaw_byOrder : MethodName := ⟨RLaw, "byOrder", "(LCursorlist;IILCursorlistLaw$Out;)I"⟩
abbrev cLaw_house : ByteArray := method_46_code
def yLaw_house : MethodName := ⟨RLaw, "house", "(LCursorlist;ILCursorlistLaw$Out;)I"⟩
abbrev cLaw_law : ByteArray := code
def yLaw_law : MethodName := ⟨RLaw, "law", "([I)Z"⟩
abbrev vwCl : List vw_C := [(RStr, TStr, 4), (RSbd, TSbd, 4), (RCur, TCur, 5), (RRec, TRec, 5), (RRow, TRow, 2), (RCls, TCls, 6), (ROut, TOut, 2), (RMod, TMod, 13)]
abbrev zkStr : Nat := 0
abbrev zkSbd : Nat := 1
abbrev zkCur : Nat := 2
abbrev zkRec : Nat := 3
abbrev zkRow : Nat := 4
abbrev zkCls : Nat := 5
abbrev zkOut : Nat := 6
abbrev zkMod : Nat := 7
def zTexts : List (String × Nat × String) := [(RCls, 320, "a number out of its range"), (RCls, 307, "no such cursor"), (RCls, 304, "no such list"), (RCls, 313, "no such place"), (RCls, 318, "no such place to stand or to put"), (RCls, 322, "the cursor is not there"), (RCls, 183, "a cursor does not meet itself"), (RCls, 220, "no more askings")]
abbrev zkE : Nat := 53
abbrev zkB : Nat := 68
def zNcs : List (String × String) := [("java/lang/IllegalArgumentException", "java/lang/IndexOutOfBoundsException"), ("java/lang/IllegalStateException", "java/lang/IndexOutOfBoundsException"), ("java/lang/IllegalStateException", "java/lang/IllegalArgumentException")]
end
section
/-! ===== statics of the JDK that the walked members read ===== -/
def va_AOA (t : FieldType) (U : State) : Prop := (Cond.arrayOver (.array t)).before #[] U = true
theorem va_AOA.use {t : FieldType} {A : Array Value} {U : State} (h : va_AOA t U) : (Cond.arrayOver (.array t)).before A U = true := h
theorem va_AOA.spec {t : FieldType} {U : State} (h : va_AOA t U) : ∃ comp c k, U.vm.findClass (FieldType.array t).toString = some comp ∧ (U.vm.classes.findIdx? fun (x : Class) => match x.kind with | .array component _ => component == comp | _ => false) = some c ∧ U.vm.classes[c]? = some k ∧ k.kind = .array comp (.array t) ∧ U.vm.findClass ("[" ++ (FieldType.array t).toString) = some c := by
  unfold va_AOA Cond.before at h
  simp only [Cond.holds, Cond.value, beq_iff_eq] at h
  cases hc : U.vm.findClass (FieldType.array t).toString with
  | none => simp [hc] at h
  | some comp =>
    simp only [hc, Option.bind_some, Option.bind_eq_some_iff, Option.map_eq_some_iff] at h
    obtain ⟨c, hi, k, hk, hb⟩ := h
    obtain ⟨hlt, hp, -⟩ := Array.findIdx?_eq_some_iff_getElem.mp hi
    have hkk : U.vm.classes[c] = k := (Array.getElem?_eq_some_iff.mp hk).2
    rw [hkk] at hp
    cases hkind : k.kind with
    | array component ty =>
      rw [hkind] at hb hp
      simp at hb hp
      exact ⟨comp, c, k, rfl, hi, hk, by rw [hkind, hp, hb.1], hb.2⟩
    | _ => rw [hkind] at hb; simp at hb
theorem zAOA_moved {t : FieldType} {u U : State} (hvm : u.vm.Alike U.vm) (h : va_AOA t u) : va_AOA t U := by
  obtain ⟨comp, c, k, h1, h2, h3, h4, h5⟩ := h.spec
  obtain ⟨k', hk', he⟩ := hvm.2.2 _ _ h3
  have hi : (U.vm.classes.findIdx? fun (x : Class) => match x.kind with | .array component _ => component == comp | _ => false) = some c := by
    have e1 := va_idx_bare U.vm comp
    have e2 := va_idx_bare u.vm comp
    have e3 : u.vm.bare = U.vm.bare := by first | exact hvm.bare_eq | exact hvm.bare_eq.symm
    rw [e3] at e2
    exact (e1.symm.trans e2).trans h2
  have hkind : k'.kind = .array comp (.array t) := by rw [he]; exact h4
  have f1 : U.vm.findClass (FieldType.array t).toString = some comp := by rw [hvm.findClass]; exact h1
  have f2 : U.vm.findClass ("[" ++ (FieldType.array t).toString) = some c := by rw [hvm.findClass]; exact h5
  unfold va_AOA Cond.before Cond.holds
  simp only [Cond.value]
  rw [f1, Option.bind_some]
  refine (congrArg (fun o : Option Nat => (o.bind (fun c => (U.vm.classes[c]?).map fun (k : Class) => match k.kind with | .array _ ty => decide (ty = FieldType.array t) && decide (U.vm.findClass ("[" ++ (FieldType.array t).toString) = some c) | _ => false) == some true)) hi).trans ?_
  simp [hk', hkind, f2]
abbrev zStr (G : (va_G × (Nat → ClassId) × Nat)) (k : Nat) (tx : String) (n : Nat) (U : State) (H : Heap) : Prop := ∃ (ad av : Nat) (f : Nat → Int32), vk_R "CursorlistModel" k tx ad U ∧ va_O "java/lang/String" ad (fun q => G.2.2 ≤ q) U H ∧ va_OF "java/lang/String" "coder" "B" (.int 0) ad (fun q => G.2.2 ≤ q) U H ∧ va_OF "java/lang/String" "value" "[B" (.ref av) ad (fun q => G.2.2 ≤ q) U H ∧ va_T .byte av n (fun j => .int (f j)) (fun q => G.2.2 ≤ q) U H
def zSJ (G : (va_G × (Nat → ClassId) × Nat)) (U : State) (H : Heap) : Prop :=
  va_Z "java/lang/String" "COMPACT_STRINGS" "Z" (.int 1) (fun q => G.2.2 ≤ q) U H ∧
  va_Zq "jdk/internal/util/Preconditions" "SIOOBE_FORMATTER" "Ljava/util/function/BiFunction;" (fun q => G.2.2 ≤ q) U H ∧
  (∃ (t : Nat) (f : Nat → Int32), va_Z "java/lang/Integer" "DigitOnes" "[B" (.ref t) (fun q => G.2.2 ≤ q) U H ∧ va_T .byte t 100 (fun j => .int (f j)) (fun q => G.2.2 ≤ q) U H) ∧
  (∃ (t : Nat) (f : Nat → Int32), va_Z "java/lang/Integer" "DigitTens" "[B" (.ref t) (fun q => G.2.2 ≤ q) U H ∧ va_T .byte t 100 (fun j => .int (f j)) (fun q => G.2.2 ≤ q) U H) ∧
  zStr G zkE "" 0 U H ∧ zStr G zkB " " 1 U H
theorem zStr.go {G : (va_G × (Nat → ClassId) × Nat)} {k n : Nat} {tx : String} {s U : State} {H H1 : Heap} (hW : s.WarmedH U.vm) (hq : ∀ a : Nat, a < H.size → ¬ G.2.2 ≤ a → H1[a]? = H[a]?) (h : zStr G k tx n s H) : zStr G k tx n U H1 := by
  obtain ⟨ad, av, f, h1, h2, h3, h4, h5⟩ := h
  exact ⟨ad, av, f, h1.warm hW, (va_O.moved hW.alike h2).kept hq, (va_OF.moved hW.alike h3).kept hq, (va_OF.moved hW.alike h4).kept hq, (va_T.moved hW.alike h5).kept hq⟩
theorem zSJ.go {G : (va_G × (Nat → ClassId) × Nat)} {s U : State} {H H1 : Heap} (hW : s.WarmedH U.vm) (hq : ∀ a : Nat, a < H.size → ¬ G.2.2 ≤ a → H1[a]? = H[a]?) (h : zSJ G s H) : zSJ G U H1 := by
  obtain ⟨h1, h2, ⟨t1, f1, a1, b1⟩, ⟨t2, f2, a2, b2⟩, h5, h6⟩ := h
  exact ⟨(va_Z.moved hW.alike h1).kept hq, (va_Zq.moved hW.alike h2).kept hq, ⟨t1, f1, (va_Z.moved hW.alike a1).kept hq, (va_T.moved hW.alike b1).kept hq⟩, ⟨t2, f2, (va_Z.moved hW.alike a2).kept hq, (va_T.moved hW.alike b2).kept hq⟩, h5.go hW hq, h6.go hW hq⟩

/-! THE WALK OVER ABSTRACT HEAPS. A heap is a function from addresses to cells (va_E); zR: the machine at pc with these locals and this stack over this heap comes to its end. Each row is a row of the kit. -/
abbrev zG : Type := va_G × (Nat → ClassId) × Nat
abbrev zHp : Type := Nat → Option va_E
/-- the method: its class, its bytes, its locals, what it returns, its table, whether it is a constructor -/
abbrev zHd : Type := String × ByteArray × Nat × Option FieldType × List (Nat × Nat × Nat × Nat) × Bool
abbrev zJ : Type := zHd × Room × (List Frame → Array Value → State → State → Prop) × (Array Value → State → Prop)
def zI (n : Int) : Int32 := Int32.ofInt n
def zL (n : Int) : Int64 := Int64.ofInt n
abbrev zi (n : Int) : Value := .int (zI n)
abbrev zl (n : Int) : Value := .long (zL n)
def zA (G : zG) : Nat → Prop := fun q => G.2.2 ≤ q
def zTys (G : zG) : List (ClassId × FieldType) := [(G.2.1 0, .int), (G.2.1 1, .boolean), (G.2.1 2, .byte), (G.2.1 3, .long), (G.2.1 4, .array .int), (G.2.1 5, .object "Cursorlist$Row"), (G.2.1 6, .object "Cursorlist$Cursor")]
def zInts (G : zG) (n : Nat) (g : Nat → Int) : va_E := .inl (G.2.1 0, n, .inl (fun j => zI (g j)))
def zBools (G : zG) (n : Nat) (g : Nat → Int) : va_E := .inl (G.2.1 1, n, .inl (fun j => zI (g j)))
def zBytes (G : zG) (n : Nat) (g : Nat → Int) : va_E := .inl (G.2.1 2, n, .inl (fun j => zI (g j)))
def zLongs (G : zG) (n : Nat) (g : Nat → Int) : va_E := .inl (G.2.1 3, n, .inr (.inl (fun j => zL (g j))))
def zRefs (G : zG) (t n : Nat) (g : Nat → Option Nat) : va_E := .inl (G.2.1 t, n, .inr (.inr (.inr (.inr g))))
def zup {α : Type} (g : Nat → α) (k : Nat) (x : α) : Nat → α := fun j => if j = k then x else g j
def zRel (G : zG) (h : zHp) (H : Heap) : Prop := G.2.2 ≤ H.size ∧ ∀ (a : Nat) (e : va_E), h a = some e → G.2.2 ≤ a ∧ va_at G.1 vwCl (a, e) H
/-- the good words of the tables -/
def zWS : List Cond := lw_tbl.filter goodWord
/-- words that the tables alone decide, which stay as the machine warms -/
def zIsN : Cond → Bool
  | .fieldLinkNest _ _ _ _ _ _ => true
  | .methodLinkNest _ _ _ _ => true
  | .castable _ _ => true
  | .declares _ => true
  | _ => false
def zNW : List Cond := lw_tbl.filter zIsN
theorem zNw_warm {w : Cond} {s U : State} (hn : zIsN w = true) (hW : s.WarmedH U.vm) (h : va_Nw w s) : va_Nw w U := by
  cases w <;> first | exact va_Nw.warmF hW h | exact va_Nw.warmM hW h | exact va_Nw.warmC hW h | exact va_Nw.warmD hW h | (simp [zIsN] at hn)
/-- what stands below the first free cell, and what the tables say of the arrays' classes -/
def zAA (G : zG) (U : State) : Prop := ∃ (kA kI : Class) (cI : ClassId), U.vm.classes[G.2.1 4]? = some kA ∧ kA.kind = .array (G.2.1 0) (.array .int) ∧ U.vm.classes[G.2.1 0]? = some kI ∧ kI.kind = .array cI .int
theorem zAA.moved {G : zG} {u U : State} (hvm : u.vm.Alike U.vm) (h : zAA G u) : zAA G U := by
  obtain ⟨kA, kI, cI, h1, h2, h3, h4⟩ := h
  obtain ⟨kA', g1, e1⟩ := hvm.2.2 _ _ h1
  obtain ⟨kI', g2, e2⟩ := hvm.2.2 _ _ h3
  exact ⟨kA', kI', cI, g1, by rw [e1]; exact h2, g2, by rw [e2]; exact h4⟩
def zS (G : zG) (U : State) (H : Heap) : Prop :=
  va_K G.1 vwCl (zTys G) U ∧ zAA G U ∧ (∀ w ∈ zNW, va_Nw w U) ∧
  (∀ q ∈ zTexts, ∃ sa, vk_R q.1 q.2.1 q.2.2 sa U) ∧ (∀ q ∈ zNcs, va_Nc q.1 q.2 U) ∧
  vx_Zq Bundle.tN "UNASSIGNED_STACK" Bundle.steD (zA G) U H ∧ vx_Zq Bundle.tN "SUPPRESSED_SENTINEL" Bundle.listD (zA G) U H ∧
  va_AO "Cursorlist$Row" U ∧ va_AO "Cursorlist$Cursor" U ∧ va_AOA .int U ∧ zSJ G U H
theorem zS.go {G : zG} {s U : State} {H H1 : Heap} (hW : s.WarmedH U.vm) (hq : ∀ a : Nat, a < H.size → ¬ zA G a → H1[a]? = H[a]?) (h : zS G s H) : zS G U H1 := by
  obtain ⟨h1, h2, h3, h4, h5, h6, h7, h8, h9, h10, h11⟩ := h
  refine ⟨va_K.moved hW.alike h1, h2.moved hW.alike, fun w hw => zNw_warm (List.mem_filter.mp hw).2 hW (h3 w hw), fun q hq => ?_, fun q hq => va_Nc.moved hW.alike (h5 q hq), (h6.moved hW.alike).kept hq, (h7.moved hW.alike).kept hq, h8.moved hW.alike, h9.moved hW.alike, zAOA_moved hW.alike h10, h11.go hW hq⟩
  obtain ⟨sa, e⟩ := h4 q hq
  exact ⟨sa, e.warm hW⟩
def zPl : Nat → List (Option Value) → List (Nat × Value)
  | _, [] => []
  | k, none :: t => zPl (k + 1) t
  | k, some v :: t => (k, v) :: zPl (k + 1) t
theorem zPl_mem : ∀ (ls : List (Option Value)) (k : Nat) (q : Nat × Value), q ∈ zPl k ls ↔ ∃ j, ls[j]? = some (some q.2) ∧ q.1 = k + j
  | [], k, q => by simp [zPl]
  | none :: t, k, q => by
    rw [zPl, zPl_mem t (k + 1) q]
    constructor
    · rintro ⟨j, h1, h2⟩
      exact ⟨j + 1, by simpa using h1, by omega⟩
    · rintro ⟨j, h1, h2⟩
      cases j with
      | zero => simp at h1
      | succ j => exact ⟨j, by simpa using h1, by omega⟩
  | some v :: t, k, q => by
    rw [zPl, List.mem_cons, zPl_mem t (k + 1) q]
    constructor
    · rintro (rfl | ⟨j, h1, h2⟩)
      · exact ⟨0, by simp, by simp⟩
      · exact ⟨j + 1, by simpa using h1, by omega⟩
    · rintro ⟨j, h1, h2⟩
      cases j with
      | zero =>
        left
        obtain ⟨a, b⟩ := q
        simp at h1 h2
        rw [h1, h2]
      | succ j => exact Or.inr ⟨j, by simpa using h1, by omega⟩
def zLs (ls0 : Array Slot) (nL : Nat) (ls : List (Option Value)) : Prop := lv_has ls0 nL (zPl 0 ls)
theorem zLs.at {ls0 : Array Slot} {nL i : Nat} {ls : List (Option Value)} {v : Value} (h : zLs ls0 nL ls) (hl : ls[i]? = some (some v)) : ls0[i]? = some (.val v) := h.2.2 (i, v) ((zPl_mem ls 0 (i, v)).mpr ⟨i, hl, by simp⟩)
/-- a store: what stood there goes, and a long whose second half it was -/
def zst1 (ls : List (Option Value)) (i : Nat) (v : Value) : List (Option Value) := match i with
  | 0 => ls.set 0 (some v)
  | k + 1 => match ls[k]? with
    | some (some (.long _)) => (ls.set k none).set (k + 1) (some v)
    | some (some (.double _)) => (ls.set k none).set (k + 1) (some v)
    | _ => ls.set (k + 1) (some v)
def zst2 (ls : List (Option Value)) (i : Nat) (v : Value) : List (Option Value) := (zst1 ls i v).set (i + 1) none
theorem zst1_sub {ls : List (Option Value)} {i : Nat} {v : Value} {q : Nat × Value} (h : q ∈ zPl 0 (zst1 ls i v)) : q = (i, v) ∨ (q ∈ zPl 0 ls ∧ q.1 ≠ i ∧ ¬ (q.1 + 1 = i ∧ q.2.category = 2)) := by
  obtain ⟨j, h1, h2⟩ := (zPl_mem _ _ _).mp h
  obtain ⟨a, b⟩ := q
  simp only [Nat.zero_add] at h1 h2
  subst h2
  have key : ∀ (l : List (Option Value)) (w : Option Value) (n : Nat), (l.set n w)[a]? = some (some b) → (a = n ∧ w = some b) ∨ (a ≠ n ∧ l[a]? = some (some b)) := by
    intro l w n hh
    by_cases e : a = n
    · subst e
      rw [List.getElem?_set] at hh
      simp at hh
      exact Or.inl ⟨rfl, hh.2⟩
    · rw [List.getElem?_set_ne (Ne.symm e)] at hh
      exact Or.inr ⟨e, hh⟩
  unfold zst1 at h1
  split at h1
  · rcases key _ _ _ h1 with ⟨e, e2⟩ | ⟨e, e2⟩
    · left; cases e2; rw [e]
    · exact Or.inr ⟨(zPl_mem _ _ _).mpr ⟨a, e2, by simp⟩, e, by omega⟩
  · rename_i k
    have other : ∀ (l : List (Option Value)), (∀ x, l[a]? = some (some x) → a ≠ k + 1 → ls[a]? = some (some x) ∧ ¬ (a = k ∧ x.category = 2)) → (l.set (k + 1) (some v))[a]? = some (some b) → (a, b) = (k + 1, v) ∨ ((a, b) ∈ zPl 0 ls ∧ (a, b).1 ≠ k + 1 ∧ ¬ ((a, b).1 + 1 = k + 1 ∧ (a, b).2.category = 2)) := by
      intro l hl hh
      rcases key _ _ _ hh with ⟨e, e2⟩ | ⟨e, e2⟩
      · left; cases e2; rw [e]
      · obtain ⟨g1, g2⟩ := hl b e2 e
        exact Or.inr ⟨(zPl_mem _ _ _).mpr ⟨a, g1, by simp⟩, e, fun z => g2 ⟨by have := z.1; simp at this; exact this, z.2⟩⟩
    split at h1
    · exact other _ (fun x hx hne => by
        rcases (show a = k ∨ a ≠ k by omega) with e | e
        · subst e
          rw [List.getElem?_set] at hx
          simp at hx
        · rw [List.getElem?_set_ne (Ne.symm e)] at hx
          exact ⟨hx, fun z => e z.1⟩) h1
    · exact other _ (fun x hx hne => by
        rcases (show a = k ∨ a ≠ k by omega) with e | e
        · subst e
          rw [List.getElem?_set] at hx
          simp at hx
        · rw [List.getElem?_set_ne (Ne.symm e)] at hx
          exact ⟨hx, fun z => e z.1⟩) h1
    · rename_i hn1 hn2
      refine other _ (fun x hx hne => ⟨hx, fun z => ?_⟩) h1
      obtain ⟨z1, z2⟩ := z
      subst z1
      cases x with
      | long y => exact hn1 y hx
      | double y => exact hn2 y hx
      | _ => simp [Value.category] at z2
theorem zLs.st1 {ls0 ls' : Array Slot} {nL i : Nat} {ls : List (Option Value)} {v : Value} (h' : lv_has ls' nL ((i, v) :: (zPl 0 ls).filter (fun q => !(q.1 == i) && !(q.1 + 1 == i && q.2.category == 2)))) : zLs ls' nL (zst1 ls i v) := by
  refine ⟨h'.1, h'.2.1, fun q hq => h'.2.2 q ?_⟩
  rcases zst1_sub hq with e | ⟨e1, e2, e3⟩
  · rw [e]; exact List.mem_cons_self
  · refine List.mem_cons_of_mem _ (List.mem_filter.mpr ⟨e1, ?_⟩)
    simp only [Bool.and_eq_true, Bool.not_eq_true', beq_eq_false_iff_ne, ne_eq, Bool.and_eq_false_imp, beq_iff_eq]
    exact ⟨e2, fun z1 z2 => e3 ⟨z1, z2⟩⟩
theorem zLs.st2 {ls0 ls' : Array Slot} {nL i : Nat} {ls : List (Option Value)} {v : Value} (h' : lv_has ls' nL ((i, v) :: (zPl 0 ls).filter (fun q => !(q.1 == i) && (!(q.1 == i + 1) && !(q.1 + 1 == i && q.2.category == 2))))) : zLs ls' nL (zst2 ls i v) := by
  refine ⟨h'.1, h'.2.1, fun q hq => h'.2.2 q ?_⟩
  obtain ⟨j, h1, h2⟩ := (zPl_mem _ _ _).mp hq
  simp only [Nat.zero_add] at h2
  have hne : j ≠ i + 1 := by
    intro e
    subst e
    unfold zst2 at h1
    rw [List.getElem?_set] at h1
    simp at h1
  have h3 : (zst1 ls i v)[j]? = some (some q.2) := by
    unfold zst2 at h1
    rw [List.getElem?_set_ne (Ne.symm hne)] at h1
    exact h1
  rcases zst1_sub ((zPl_mem _ 0 q).mpr ⟨j, h3, by simp [h2]⟩) with e | ⟨e1, e2, e3⟩
  · rw [e]; exact List.mem_cons_self
  · refine List.mem_cons_of_mem _ (List.mem_filter.mpr ⟨e1, ?_⟩)
    simp only [Bool.and_eq_true, Bool.not_eq_true', beq_eq_false_iff_ne, ne_eq, Bool.and_eq_false_imp, beq_iff_eq]
    exact ⟨e2, by omega, fun z1 z2 => e3 ⟨z1, z2⟩⟩
end
section
def zRm (d mc ms : Nat) : Room := { frames := d, cells := mc, slots := ms, locals := d * 64 }
def zCx (G : zG) (l : Launch) (J : zJ) (p : Program) (s : State) (m : MethodId) (args : Array Value) (meth : Method) (c : Code) : Prop :=
  p.tables.exec = Jvm.exec ∧ c.code = J.1.2.1 ∧ c.maxLocals = J.1.2.2.1 ∧ meth.sig.returnType = J.1.2.2.2.1 ∧ c.exceptionTable.toList = tableOf J.1.2.2.2.2.1 ∧ (J.1.2.2.2.2.2 = true → meth.name = "<init>") ∧ s.vm.findClass J.1.1 = some m.cls ∧ (∀ w ∈ zWS, w.before args s = true) ∧ meth.locks = false ∧ zS G s s.heap ∧ l.stackTraces = false ∧ J.2.2.2 args s ∧ G.2.2 ≤ s.heap.size
def zR (G : zG) (l : Launch) (J : zJ) (bc bs : Nat) (h : zHp) (pc : Nat) (ls : List (Option Value)) (st : List Value) : Prop :=
  ∀ (p : Program) (e : Env) (s : State) (m : MethodId) (args : Array Value) (below : List Frame) (meth : Method) (c : Code) (H : Heap) (locs : List Loc) (cells slots : Nat) (ls0 : Array Slot),
    zCx G l J p s m args meth c → zRel G h H → va_S (zA G) s.heap H locs → zLs ls0 J.1.2.2.1 ls → cells + bc ≤ J.2.1.cells → slots + bs ≤ J.2.1.slots →
    W p l e J.2.1 s m args below meth c H locs cells slots (J.2.2.1 below args s) (F0 m pc ls0 st)
/-- an exception of class E, thrown at pc -/
def zT (G : zG) (l : Launch) (J : zJ) (bc bs : Nat) (h : zHp) (E : String) (pc : Nat) (ls : List (Option Value)) : Prop :=
  ∀ (p : Program) (e : Env) (s : State) (m : MethodId) (args : Array Value) (below : List Frame) (meth : Method) (c : Code) (H : Heap) (locs : List Loc) (cells slots : Nat) (ls0 : Array Slot) (q : Addr) (ce : Cell) (rest : List Value),
    zCx G l J p s m args meth c → zRel G h H → va_S (zA G) s.heap H locs → zLs ls0 J.1.2.2.1 ls → cells + bc ≤ J.2.1.cells → slots + bs ≤ J.2.1.slots → H[q]? = some ce → ce.vm = .none → s.vm.findClass E = some ce.cls →
    vx_W p l e J.2.1 s m args below meth c H locs cells slots (J.2.2.1 below args s) (F0 m pc ls0 rest) q
def zQ (G : zG) (Qn : Option Value → zHp → Prop) : Array Value → State → Outcome → State → Prop := fun _ st o t => ∃ (v : Option Value) (h' : zHp), o = .returned v ∧ Qn v h' ∧ zRel G h' t.heap ∧ va_F (zA G) st t
def zX (G : zG) (Qx : String → zHp → Prop) : String → State → State → Prop := fun E st t => ∃ h' : zHp, Qx E h' ∧ zRel G h' t.heap ∧ va_F (zA G) st t
def zE (G : zG) (Qn : Option Value → zHp → Prop) (Qx : String → zHp → Prop) (mc ms : Nat) : List Frame → Array Value → State → State → Prop := fun below args s => vx_MQ below (zQ G Qn) (zX G Qx) args s mc ms (zA G)
abbrev zMJ (G : zG) (hd : zHd) (d : Nat) (Qn : Option Value → zHp → Prop) (Qx : String → zHp → Prop) (mc ms : Nat) : zJ := (hd, zRm d mc ms, zE G Qn Qx mc ms, fun _ _ => True)
def zPc (G : zG) (h : zHp) : State → Prop := fun U => zRel G h U.heap ∧ zS G U U.heap
/-- a method's contract -/
def zM (G : zG) (l : Launch) (hd : zHd) (y : MethodName) (d : Nat) (vs : List Value) (h : zHp) (Qn : Option Value → zHp → Prop) (Qx : String → zHp → Prop) (mc ms : Nat) : Prop :=
  l.stackTraces = false → vx_Met l y (Cond.code y hd.2.1 hd.2.2.1 hd.2.2.2.1 :: zWS) (zRm d mc ms) (va_Pc vs (zPc G h)) (zQ G Qn) (zX G Qx) mc ms (zA G)
/-- of a method with handlers -/
def zMW (G : zG) (l : Launch) (hd : zHd) (y : MethodName) (d : Nat) (vs : List Value) (h : zHp) (Qn : Option Value → zHp → Prop) (Qx : String → zHp → Prop) (mc ms : Nat) : Prop :=
  l.stackTraces = false → vx_Met l y (Cond.codeWith y hd.2.1 hd.2.2.1 hd.2.2.2.1 hd.2.2.2.2.1 :: zWS) (zRm d mc ms) (va_Pc vs (zPc G h)) (zQ G Qn) (zX G Qx) mc ms (zA G)
abbrev zNo : String → zHp → Prop := fun _ _ => False
theorem zin {i : Nat} {w : Cond} (h : lw_tbl[i]? = some w) (hg : goodWord w = true) : w ∈ zWS := List.mem_filter.mpr ⟨List.mem_of_getElem? h, hg⟩
theorem zinN {i : Nat} {w : Cond} (h : lw_tbl[i]? = some w) (hg : zIsN w = true) : w ∈ zNW := List.mem_filter.mpr ⟨List.mem_of_getElem? h, hg⟩
theorem zgood {w : Cond} (h : w ∈ zWS) : goodWord w = true := (List.mem_filter.mp h).2
theorem zgoodIn {Ts : List Cond} {ws : List Cond} (hT : ∀ w ∈ zWS, w ∈ Ts) (h : ∀ w ∈ ws, w ∈ zWS) : GoodIn Ts ws := fun w hw => ⟨hT w (h w hw), good_of_word (zgood (h w hw))⟩
theorem zI_add (a b : Int) : zI (a + b) = zI a + zI b := Int32.ofInt_add ..
theorem zI_sub (a b : Int) : zI (a - b) = zI a - zI b := Int32.ofInt_sub ..
theorem zI_mul (a b : Int) : zI (a * b) = zI a * zI b := Int32.ofInt_mul ..
theorem zI_neg (a : Int) : zI (-a) = -zI a := Int32.ofInt_neg ..
theorem zL_add (a b : Int) : zL (a + b) = zL a + zL b := Int64.ofInt_add ..
theorem zL_mul (a b : Int) : zL (a * b) = zL a * zL b := Int64.ofInt_mul ..
theorem zI_toInt {a : Int} (h : -2147483648 ≤ a ∧ a ≤ 2147483647) : (zI a).toInt = a := Int32.toInt_ofInt_of_le (by omega) (by omega)
theorem zI_of (x : Int32) : zI x.toInt = x := Int32.ofInt_toInt x
theorem zI_lt {a b : Int} (ha : -2147483648 ≤ a ∧ a ≤ 2147483647) (hb : -2147483648 ≤ b ∧ b ≤ 2147483647) : zI a < zI b ↔ a < b := by rw [Int32.lt_iff_toInt_lt, zI_toInt ha, zI_toInt hb]
theorem zI_le {a b : Int} (ha : -2147483648 ≤ a ∧ a ≤ 2147483647) (hb : -2147483648 ≤ b ∧ b ≤ 2147483647) : zI a ≤ zI b ↔ a ≤ b := by rw [Int32.le_iff_toInt_le, zI_toInt ha, zI_toInt hb]
theorem zI_eq {a b : Int} (ha : -2147483648 ≤ a ∧ a ≤ 2147483647) (hb : -2147483648 ≤ b ∧ b ≤ 2147483647) : zI a = zI b ↔ a = b := by
  constructor
  · intro h
    rw [← zI_toInt ha, ← zI_toInt hb, h]
  · intro h
    rw [h]
theorem zI_nat (n : Nat) : Int32.ofNat n = zI (n : Int) := by
  unfold zI
  first | rfl | exact (Int32.ofInt_natCast n).symm | exact (Int32.ofInt_ofNat n).symm | (simp [Int32.ofInt, Int32.ofNat]; done) | (apply Int32.toBitVec_inj.mp; simp; done) | (apply Int32.toInt_inj.mp; rw [Int32.toInt_ofInt, Int32.toInt_ofNat'])
theorem zI_0 : zI 0 = 0 := rfl
theorem zI_clamp {k : Int} (h0 : 0 ≤ k) (h1 : k < 2147483648) : (zI k).toNatClampNeg = k.toNat := by
  show (zI k).toInt.toNat = k.toNat
  rw [zI_toInt (by omega)]
theorem zI_in {k : Int} {n : Nat} (h0 : 0 ≤ k) (h1 : k < n) (h2 : k < 2147483648) : vp_in (zI k) n := by
  rintro (h | h)
  · rw [Int32.lt_iff_toInt_lt, zI_toInt (by omega), Int32.toInt_zero] at h
    omega
  · rw [zI_clamp h0 h2] at h
    omega
theorem zL_toInt {a : Int} (h : -9223372036854775808 ≤ a ∧ a ≤ 9223372036854775807) : (zL a).toInt = a := Int64.toInt_ofInt_of_le (by omega) (by omega)
theorem zL_eq {a b : Int} (ha : -9223372036854775808 ≤ a ∧ a ≤ 9223372036854775807) (hb : -9223372036854775808 ≤ b ∧ b ≤ 9223372036854775807) : zL a = zL b ↔ a = b := by
  constructor
  · intro h
    rw [← zL_toInt ha, ← zL_toInt hb, h]
  · intro h
    rw [h]
theorem zL_lt {a b : Int} (ha : -9223372036854775808 ≤ a ∧ a ≤ 9223372036854775807) (hb : -9223372036854775808 ≤ b ∧ b ≤ 9223372036854775807) : zL a < zL b ↔ a < b := by rw [Int64.lt_iff_toInt_lt, zL_toInt ha, zL_toInt hb]
theorem zI_long {a : Int} (h : -2147483648 ≤ a ∧ a ≤ 2147483647) : (zI a).toInt64 = zL a := by
  have h1 : (zI a).toInt64 = Int64.ofInt (zI a).toInt := by
    apply Int64.toInt_inj.mp
    rw [Int32.toInt_toInt64, Int64.toInt_ofInt_of_le]
    · have := Int32.le_toInt (zI a); omega
    · have := Int32.toInt_lt (zI a); omega
  rw [h1, zI_toInt h]; rfl
theorem zL_int (a : Int) : (zL a).toInt32 = zI a := by
  show (Int64.ofInt a).toInt32 = Int32.ofInt a
  simp
/-- the contract of a method out of its walk -/
theorem zM.of {G : zG} {l : Launch} {hd : zHd} {y : MethodName} {d : Nat} {vs : List Value} {h : zHp} {Qn : Option Value → zHp → Prop} {Qx : String → zHp → Prop} {mc ms : Nat} (ls : List (Option Value)) (hy : plainName y.cls = true) (hown : y.cls = hd.1) (hini : hd.2.2.2.2.2 = true → y.name = "<init>") (ht : hd.2.2.2.2.1 = []) (hln : (lg_sl vs).length ≤ hd.2.2.1) (hls : zPl 0 ls = lv_args 0 vs)
    (k : zR G l (zMJ G hd d Qn Qx mc ms) mc ms h 0 ls []) : zM G l hd y d vs h Qn Qx mc ms := by
  intro hl
  refine vx_ofW (cc := hd.2.1) (maxL := hd.2.2.1) (ret := hd.2.2.2.1) hy rfl ?_
  intro p e s m args below meth c s₁ B hml htb hv
  obtain ⟨rfl, hR, hS9⟩ := hv
  have hts := atoms_spec (ws := Cond.code y hd.2.1 hd.2.2.1 hd.2.2.2.1 :: zWS) B.pre
  have hw : s.vm.findClass y.cls = some m.cls := findClass_of_methodNamed B.named
  have htab : c.exceptionTable.toList = tableOf hd.2.2.2.2.1 := by
    rw [ht]
    cases hc : c.exceptionTable.toList with
    | nil => rfl
    | cons x t => exact (htb x (by rw [hc]; exact List.mem_cons_self)).elim
  have hl0 := lv_entry vs (n := hd.2.2.1) hln
  rw [lg_entry_eq]
  refine k p e s m _ below meth c s.heap [] 0 0 _ ⟨B.exec, B.bytes, hml, B.returns, htab, fun hi => (name_of_methodNamed B.named B.method).1.trans (hini hi), by rw [← hown]; exact hw, fun w hw => hts w (List.mem_cons_of_mem _ hw), B.notSynchronized, hS9, hl, trivial, hR.1⟩ hR va_S.rf ⟨hl0.1, hl0.2.1, fun q hq => hl0.2.2 q (by rw [← hls]; exact hq)⟩ (by show 0 + mc ≤ mc; omega) (by show 0 + ms ≤ ms; omega)
theorem zMW.of {G : zG} {l : Launch} {hd : zHd} {y : MethodName} {d : Nat} {vs : List Value} {h : zHp} {Qn : Option Value → zHp → Prop} {Qx : String → zHp → Prop} {mc ms : Nat} (ls : List (Option Value)) (hy : plainName y.cls = true) (hown : y.cls = hd.1) (hini : hd.2.2.2.2.2 = true → y.name = "<init>") (hln : (lg_sl vs).length ≤ hd.2.2.1) (hls : zPl 0 ls = lv_args 0 vs)
    (k : zR G l (zMJ G hd d Qn Qx mc ms) mc ms h 0 ls []) : zMW G l hd y d vs h Qn Qx mc ms := by
  intro hl
  refine vx_ofWH (cc := hd.2.1) (maxL := hd.2.2.1) (ret := hd.2.2.2.1) (hh := hd.2.2.2.2.1) hy rfl ?_
  intro p e s m args below meth c s₁ B hml hv
  obtain ⟨rfl, hR, hS9⟩ := hv
  have hts := atoms_spec (ws := Cond.codeWith y hd.2.1 hd.2.2.1 hd.2.2.2.1 hd.2.2.2.2.1 :: zWS) B.pre
  have hw : s.vm.findClass y.cls = some m.cls := findClass_of_methodNamed B.named
  have htab : c.exceptionTable.toList = tableOf hd.2.2.2.2.1 := vx_table (x := y) B (hts _ List.mem_cons_self)
  have hl0 := lv_entry vs (n := hd.2.2.1) hln
  rw [lg_entry_eq]
  refine k p e s m _ below meth c s.heap [] 0 0 _ ⟨B.exec, B.bytes, hml, B.returns, htab, fun hi => (name_of_methodNamed B.named B.method).1.trans (hini hi), by rw [← hown]; exact hw, fun w hw => hts w (List.mem_cons_of_mem _ hw), B.notSynchronized, hS9, hl, trivial, hR.1⟩ hR va_S.rf ⟨hl0.1, hl0.2.1, fun q hq => hl0.2.2 q (by rw [← hls]; exact hq)⟩ (by show 0 + mc ≤ mc; omega) (by show 0 + ms ≤ ms; omega)
section ZR
variable {G : zG} {l : Launch} {J : zJ} {bc bs : Nat} {h : zHp} {pc : Nat} {ls : List (Option Value)} {st : List Value}
theorem z_iconst {n : Int} (hd : decode J.1.2.1 pc = .ok (.iconst n, 1)) (k : zR G l J bc bs h (pc + 1) ls (zi n :: st)) : zR G l J bc bs h pc ls st := fun p e s m args below meth c H locs cells slots ls0 C hP hS hL h1 h2 => lv_iconst C.1 C.2.1 hd rfl (k p e s m args below meth c H locs cells slots ls0 C hP hS hL h1 h2)
theorem z_bipush {n : Int} (hd : decode J.1.2.1 pc = .ok (.bipush n, 2)) (hv : (Int8.ofInt n).toInt32 = zI n) (k : zR G l J bc bs h (pc + 2) ls (zi n :: st)) : zR G l J bc bs h pc ls st := fun p e s m args below meth c H locs cells slots ls0 C hP hS hL h1 h2 => lv_bipush C.1 C.2.1 hd hv (k p e s m args below meth c H locs cells slots ls0 C hP hS hL h1 h2)
theorem z_sipush {n : Int} (hd : decode J.1.2.1 pc = .ok (.sipush n, 3)) (hv : (Int16.ofInt n).toInt32 = zI n) (k : zR G l J bc bs h (pc + 3) ls (zi n :: st)) : zR G l J bc bs h pc ls st := fun p e s m args below meth c H locs cells slots ls0 C hP hS hL h1 h2 => lv_sipush C.1 C.2.1 hd hv (k p e s m args below meth c H locs cells slots ls0 C hP hS hL h1 h2)
theorem z_lconst {n : Fin 2} (hd : decode J.1.2.1 pc = .ok (.lconst n, 1)) (x : Int) (hv : Int64.ofNat (n : Nat) = zL x) (k : zR G l J bc bs h (pc + 1) ls (zl x :: st)) : zR G l J bc bs h pc ls st := fun p e s m args below meth c H locs cells slots ls0 C hP hS hL h1 h2 => lv_lconst C.1 C.2.1 hd hv (k p e s m args below meth c H locs cells slots ls0 C hP hS hL h1 h2)
theorem z_iload_n {j : Fin 4} {x : Int32} (hd : decode J.1.2.1 pc = .ok (.iload_n j, 1)) (hl : ls[(j : Nat)]? = some (some (.int x))) (k : zR G l J bc bs h (pc + 1) ls (.int x :: st)) : zR G l J bc bs h pc ls st := fun p e s m args below meth c H locs cells slots ls0 C hP hS hL h1 h2 => lv_iload_n C.1 C.2.1 hd rfl (hL.at hl) (k p e s m args below meth c H locs cells slots ls0 C hP hS hL h1 h2)
theorem z_iload {j : Nat} {x : Int32} (hd : decode J.1.2.1 pc = .ok (.iload j, 2)) (hl : ls[j]? = some (some (.int x))) (k : zR G l J bc bs h (pc + 2) ls (.int x :: st)) : zR G l J bc bs h pc ls st := fun p e s m args below meth c H locs cells slots ls0 C hP hS hL h1 h2 => lv_iload C.1 C.2.1 hd (hL.at hl) (k p e s m args below meth c H locs cells slots ls0 C hP hS hL h1 h2)
theorem z_lload_n {j : Fin 4} {x : Int64} (hd : decode J.1.2.1 pc = .ok (.lload_n j, 1)) (hl : ls[(j : Nat)]? = some (some (.long x))) (k : zR G l J bc bs h (pc + 1) ls (.long x :: st)) : zR G l J bc bs h pc ls st := fun p e s m args below meth c H locs cells slots ls0 C hP hS hL h1 h2 => lv_lload_n C.1 C.2.1 hd rfl (hL.at hl) (k p e s m args below meth c H locs cells slots ls0 C hP hS hL h1 h2)
theorem z_lload {j : Nat} {x : Int64} (hd : decode J.1.2.1 pc = .ok (.lload j, 2)) (hl : ls[j]? = some (some (.long x))) (k : zR G l J bc bs h (pc + 2) ls (.long x :: st)) : zR G l J bc bs h pc ls st := fun p e s m args below meth c H locs cells slots ls0 C hP hS hL h1 h2 => lv_lload C.1 C.2.1 hd (hL.at hl) (k p e s m args below meth c H locs cells slots ls0 C hP hS hL h1 h2)
theorem z_aload_n {j : Fin 4} {x : Nat} (hd : decode J.1.2.1 pc = .ok (.aload_n j, 1)) (hl : ls[(j : Nat)]? = some (some (.ref x))) (k : zR G l J bc bs h (pc + 1) ls (.ref x :: st)) : zR G l J bc bs h pc ls st := fun p e s m args below meth c H locs cells slots ls0 C hP hS hL h1 h2 => lv_aload_n C.1 C.2.1 hd rfl (hL.at hl) (k p e s m args below meth c H locs cells slots ls0 C hP hS hL h1 h2)
theorem z_aload {j : Nat} {x : Nat} (hd : decode J.1.2.1 pc = .ok (.aload j, 2)) (hl : ls[j]? = some (some (.ref x))) (k : zR G l J bc bs h (pc + 2) ls (.ref x :: st)) : zR G l J bc bs h pc ls st := fun p e s m args below meth c H locs cells slots ls0 C hP hS hL h1 h2 => lv_aload C.1 C.2.1 hd (hL.at hl) (k p e s m args below meth c H locs cells slots ls0 C hP hS hL h1 h2)
theorem z_aload_nN {j : Fin 4} (hd : decode J.1.2.1 pc = .ok (.aload_n j, 1)) (hl : ls[(j : Nat)]? = some (some .null)) (k : zR G l J bc bs h (pc + 1) ls (.null :: st)) : zR G l J bc bs h pc ls st := fun p e s m args below meth c H locs cells slots ls0 C hP hS hL h1 h2 => lv_aload_nN C.1 C.2.1 hd rfl (hL.at hl) (k p e s m args below meth c H locs cells slots ls0 C hP hS hL h1 h2)
theorem z_aloadN {j : Nat} (hd : decode J.1.2.1 pc = .ok (.aload j, 2)) (hl : ls[j]? = some (some .null)) (k : zR G l J bc bs h (pc + 2) ls (.null :: st)) : zR G l J bc bs h pc ls st := fun p e s m args below meth c H locs cells slots ls0 C hP hS hL h1 h2 => lv_aloadN C.1 C.2.1 hd (hL.at hl) (k p e s m args below meth c H locs cells slots ls0 C hP hS hL h1 h2)
theorem z_istore_n {j : Fin 4} {x : Int32} (hd : decode J.1.2.1 pc = .ok (.istore_n j, 1)) (hj : (j : Nat) < J.1.2.2.1) (k : zR G l J bc bs h (pc + 1) (zst1 ls j (.int x)) st) : zR G l J bc bs h pc ls (.int x :: st) := fun p e s m args below meth c H locs cells slots ls0 C hP hS hL h1 h2 => lv_istore_n C.1 C.2.1 hd rfl hL hj rfl (fun ls1 hL1 => k p e s m args below meth c H locs cells slots ls1 C hP hS (zLs.st1 (ls0 := ls0) hL1) h1 h2)
theorem z_istore {j : Nat} {x : Int32} (hd : decode J.1.2.1 pc = .ok (.istore j, 2)) (hj : j < J.1.2.2.1) (k : zR G l J bc bs h (pc + 2) (zst1 ls j (.int x)) st) : zR G l J bc bs h pc ls (.int x :: st) := fun p e s m args below meth c H locs cells slots ls0 C hP hS hL h1 h2 => lv_istore C.1 C.2.1 hd hL hj rfl (fun ls1 hL1 => k p e s m args below meth c H locs cells slots ls1 C hP hS (zLs.st1 (ls0 := ls0) hL1) h1 h2)
theorem z_astore_n {j : Fin 4} {x : Nat} (hd : decode J.1.2.1 pc = .ok (.astore_n j, 1)) (hj : (j : Nat) < J.1.2.2.1) (k : zR G l J bc bs h (pc + 1) (zst1 ls j (.ref x)) st) : zR G l J bc bs h pc ls (.ref x :: st) := fun p e s m args below meth c H locs cells slots ls0 C hP hS hL h1 h2 => lv_astore_n C.1 C.2.1 hd rfl hL hj rfl (fun ls1 hL1 => k p e s m args below meth c H locs cells slots ls1 C hP hS (zLs.st1 (ls0 := ls0) hL1) h1 h2)
theorem z_astore {j : Nat} {x : Nat} (hd : decode J.1.2.1 pc = .ok (.astore j, 2)) (hj : j < J.1.2.2.1) (k : zR G l J bc bs h (pc + 2) (zst1 ls j (.ref x)) st) : zR G l J bc bs h pc ls (.ref x :: st) := fun p e s m args below meth c H locs cells slots ls0 C hP hS hL h1 h2 => lv_astore C.1 C.2.1 hd hL hj rfl (fun ls1 hL1 => k p e s m args below meth c H locs cells slots ls1 C hP hS (zLs.st1 (ls0 := ls0) hL1) h1 h2)
theorem z_astore_nN {j : Fin 4} (hd : decode J.1.2.1 pc = .ok (.astore_n j, 1)) (hj : (j : Nat) < J.1.2.2.1) (k : zR G l J bc bs h (pc + 1) (zst1 ls j .null) st) : zR G l J bc bs h pc ls (.null :: st) := fun p e s m args below meth c H locs cells slots ls0 C hP hS hL h1 h2 => lv_astore_nN C.1 C.2.1 hd rfl hL hj rfl (fun ls1 hL1 => k p e s m args below meth c H locs cells slots ls1 C hP hS (zLs.st1 (ls0 := ls0) hL1) h1 h2)
theorem z_astoreN {j : Nat} (hd : decode J.1.2.1 pc = .ok (.astore j, 2)) (hj : j < J.1.2.2.1) (k : zR G l J bc bs h (pc + 2) (zst1 ls j .null) st) : zR G l J bc bs h pc ls (.null :: st) := fun p e s m args below meth c H locs cells slots ls0 C hP hS hL h1 h2 => lv_astoreN C.1 C.2.1 hd hL hj rfl (fun ls1 hL1 => k p e s m args below meth c H locs cells slots ls1 C hP hS (zLs.st1 (ls0 := ls0) hL1) h1 h2)
theorem z_lstore_n {j : Fin 4} {x : Int64} (hd : decode J.1.2.1 pc = .ok (.lstore_n j, 1)) (hj : (j : Nat) + 1 < J.1.2.2.1) (k : zR G l J bc bs h (pc + 1) (zst2 ls j (.long x)) st) : zR G l J bc bs h pc ls (.long x :: st) := fun p e s m args below meth c H locs cells slots ls0 C hP hS hL h1 h2 => lv_lstore_n C.1 C.2.1 hd rfl hL hj rfl (fun ls1 hL1 => k p e s m args below meth c H locs cells slots ls1 C hP hS (zLs.st2 (ls0 := ls0) hL1) h1 h2)
theorem z_lstore {j : Nat} {x : Int64} (hd : decode J.1.2.1 pc = .ok (.lstore j, 2)) (hj : j + 1 < J.1.2.2.1) (k : zR G l J bc bs h (pc + 2) (zst2 ls j (.long x)) st) : zR G l J bc bs h pc ls (.long x :: st) := fun p e s m args below meth c H locs cells slots ls0 C hP hS hL h1 h2 => lv_lstore C.1 C.2.1 hd hL hj rfl (fun ls1 hL1 => k p e s m args below meth c H locs cells slots ls1 C hP hS (zLs.st2 (ls0 := ls0) hL1) h1 h2)
theorem z_iinc {j : Nat} {n x : Int} (hd : decode J.1.2.1 pc = .ok (.iinc j n, 3)) (hl : ls[j]? = some (some (zi x))) (hj : j < J.1.2.2.1) (k : zR G l J bc bs h (pc + 3) (zst1 ls j (zi (x + n))) st) : zR G l J bc bs h pc ls st := by
  intro p e s m args below meth c H locs cells slots ls0 C hP hS hL h1 h2
  have hm : (j, zi x) ∈ zPl 0 ls := (zPl_mem ls 0 _).mpr ⟨j, hl, by simp⟩
  obtain ⟨k9, hk9⟩ := List.getElem?_of_mem hm
  exact lv_iinc C.1 C.2.1 hd hL hk9 (by rw [zI_add]; rfl) hj rfl (fun ls1 hL1 => k p e s m args below meth c H locs cells slots ls1 C hP hS (zLs.st1 (ls0 := ls0) hL1) h1 h2)
theorem z_iadd {a b : Int} (hd : decode J.1.2.1 pc = .ok (.iadd, 1)) (k : zR G l J bc bs h (pc + 1) ls (zi (a + b) :: st)) : zR G l J bc bs h pc ls (zi b :: zi a :: st) := fun p e s m args below meth c H locs cells slots ls0 C hP hS hL h1 h2 => lv_iadd C.1 C.2.1 hd (by rw [← zI_add]; exact k p e s m args below meth c H locs cells slots ls0 C hP hS hL h1 h2)
theorem z_isub {a b : Int} (hd : decode J.1.2.1 pc = .ok (.isub, 1)) (k : zR G l J bc bs h (pc + 1) ls (zi (a - b) :: st)) : zR G l J bc bs h pc ls (zi b :: zi a :: st) := fun p e s m args below meth c H locs cells slots ls0 C hP hS hL h1 h2 => lv_isub C.1 C.2.1 hd (by rw [← zI_sub]; exact k p e s m args below meth c H locs cells slots ls0 C hP hS hL h1 h2)
theorem z_imul {a b : Int} (hd : decode J.1.2.1 pc = .ok (.imul, 1)) (k : zR G l J bc bs h (pc + 1) ls (zi (a * b) :: st)) : zR G l J bc bs h pc ls (zi b :: zi a :: st) := fun p e s m args below meth c H locs cells slots ls0 C hP hS hL h1 h2 => lv_imul C.1 C.2.1 hd (by rw [← zI_mul]; exact k p e s m args below meth c H locs cells slots ls0 C hP hS hL h1 h2)
theorem z_ineg {a : Int} (hd : decode J.1.2.1 pc = .ok (.ineg, 1)) (k : zR G l J bc bs h (pc + 1) ls (zi (-a) :: st)) : zR G l J bc bs h pc ls (zi a :: st) := fun p e s m args below meth c H locs cells slots ls0 C hP hS hL h1 h2 => lv_ineg C.1 C.2.1 hd (by rw [← zI_neg]; exact k p e s m args below meth c H locs cells slots ls0 C hP hS hL h1 h2)
theorem z_ladd {a b : Int} (hd : decode J.1.2.1 pc = .ok (.ladd, 1)) (k : zR G l J bc bs h (pc + 1) ls (zl (a + b) :: st)) : zR G l J bc bs h pc ls (zl b :: zl a :: st) := fun p e s m args below meth c H locs cells slots ls0 C hP hS hL h1 h2 => lv_ladd C.1 C.2.1 hd (by rw [← zL_add]; exact k p e s m args below meth c H locs cells slots ls0 C hP hS hL h1 h2)
theorem z_lmul {a b : Int} (hd : decode J.1.2.1 pc = .ok (.lmul, 1)) (k : zR G l J bc bs h (pc + 1) ls (zl (a * b) :: st)) : zR G l J bc bs h pc ls (zl b :: zl a :: st) := fun p e s m args below meth c H locs cells slots ls0 C hP hS hL h1 h2 => lv_lmul C.1 C.2.1 hd (by rw [← zL_mul]; exact k p e s m args below meth c H locs cells slots ls0 C hP hS hL h1 h2)
theorem z_iand {x y : Int32} (a : Int) (ha : x &&& y = zI a) (hd : decode J.1.2.1 pc = .ok (.iand, 1)) (k : zR G l J bc bs h (pc + 1) ls (zi a :: st)) : zR G l J bc bs h pc ls (.int y :: .int x :: st) := fun p e s m args below meth c H locs cells slots ls0 C hP hS hL h1 h2 => lv_iand C.1 C.2.1 hd (by rw [ha]; exact k p e s m args below meth c H locs cells slots ls0 C hP hS hL h1 h2)
theorem z_ior {x y : Int32} (a : Int) (ha : x ||| y = zI a) (hd : decode J.1.2.1 pc = .ok (.ior, 1)) (k : zR G l J bc bs h (pc + 1) ls (zi a :: st)) : zR G l J bc bs h pc ls (.int y :: .int x :: st) := fun p e s m args below meth c H locs cells slots ls0 C hP hS hL h1 h2 => lv_ior C.1 C.2.1 hd (by rw [ha]; exact k p e s m args below meth c H locs cells slots ls0 C hP hS hL h1 h2)
theorem z_ixor {x y : Int32} (a : Int) (ha : x ^^^ y = zI a) (hd : decode J.1.2.1 pc = .ok (.ixor, 1)) (k : zR G l J bc bs h (pc + 1) ls (zi a :: st)) : zR G l J bc bs h pc ls (.int y :: .int x :: st) := fun p e s m args below meth c H locs cells slots ls0 C hP hS hL h1 h2 => lv_ixor C.1 C.2.1 hd (by rw [ha]; exact k p e s m args below meth c H locs cells slots ls0 C hP hS hL h1 h2)
theorem z_ishl {x y : Int32} (a : Int) (ha : x <<< (y &&& 31) = zI a) (hd : decode J.1.2.1 pc = .ok (.ishl, 1)) (k : zR G l J bc bs h (pc + 1) ls (zi a :: st)) : zR G l J bc bs h pc ls (.int y :: .int x :: st) := fun p e s m args below meth c H locs cells slots ls0 C hP hS hL h1 h2 => lv_ishl C.1 C.2.1 hd (by rw [ha]; exact k p e s m args below meth c H locs cells slots ls0 C hP hS hL h1 h2)
theorem z_ishr {x y : Int32} (a : Int) (ha : x >>> (y &&& 31) = zI a) (hd : decode J.1.2.1 pc = .ok (.ishr, 1)) (k : zR G l J bc bs h (pc + 1) ls (zi a :: st)) : zR G l J bc bs h pc ls (.int y :: .int x :: st) := fun p e s m args below meth c H locs cells slots ls0 C hP hS hL h1 h2 => lv_ishr C.1 C.2.1 hd (by rw [ha]; exact k p e s m args below meth c H locs cells slots ls0 C hP hS hL h1 h2)
theorem z_idiv {x y : Int32} (a : Int) (ha : x / y = zI a) (hy : ¬ y = 0) (hd : decode J.1.2.1 pc = .ok (.idiv, 1)) (k : zR G l J bc bs h (pc + 1) ls (zi a :: st)) : zR G l J bc bs h pc ls (.int y :: .int x :: st) := fun p e s m args below meth c H locs cells slots ls0 C hP hS hL h1 h2 => lv_idiv C.1 C.2.1 hd hy (by rw [ha]; exact k p e s m args below meth c H locs cells slots ls0 C hP hS hL h1 h2)
theorem z_irem {x y : Int32} (a : Int) (ha : x - x / y * y = zI a) (hy : ¬ y = 0) (hd : decode J.1.2.1 pc = .ok (.irem, 1)) (k : zR G l J bc bs h (pc + 1) ls (zi a :: st)) : zR G l J bc bs h pc ls (.int y :: .int x :: st) := fun p e s m args below meth c H locs cells slots ls0 C hP hS hL h1 h2 => lv_irem C.1 C.2.1 hd hy (by rw [ha]; exact k p e s m args below meth c H locs cells slots ls0 C hP hS hL h1 h2)
theorem z_lrem {x y : Int64} (a : Int) (ha : x - x / y * y = zL a) (hy : ¬ y = 0) (hd : decode J.1.2.1 pc = .ok (.lrem, 1)) (k : zR G l J bc bs h (pc + 1) ls (zl a :: st)) : zR G l J bc bs h pc ls (.long y :: .long x :: st) := fun p e s m args below meth c H locs cells slots ls0 C hP hS hL h1 h2 => lv_lrem C.1 C.2.1 hd hy (by rw [ha]; exact k p e s m args below meth c H locs cells slots ls0 C hP hS hL h1 h2)
theorem z_i2l {a : Int} (ha : -2147483648 ≤ a ∧ a ≤ 2147483647) (hd : decode J.1.2.1 pc = .ok (.i2l, 1)) (k : zR G l J bc bs h (pc + 1) ls (zl a :: st)) : zR G l J bc bs h pc ls (zi a :: st) := fun p e s m args below meth c H locs cells slots ls0 C hP hS hL h1 h2 => lv_i2l C.1 C.2.1 hd (zI_long ha) (k p e s m args below meth c H locs cells slots ls0 C hP hS hL h1 h2)
theorem z_l2i {a : Int} (hd : decode J.1.2.1 pc = .ok (.l2i, 1)) (k : zR G l J bc bs h (pc + 1) ls (zi a :: st)) : zR G l J bc bs h pc ls (zl a :: st) := fun p e s m args below meth c H locs cells slots ls0 C hP hS hL h1 h2 => lv_l2i C.1 C.2.1 hd (zL_int a) (k p e s m args below meth c H locs cells slots ls0 C hP hS hL h1 h2)
theorem z_i2b {x : Int32} (a : Int) (ha : x.toInt8.toInt32 = zI a) (hd : decode J.1.2.1 pc = .ok (.i2b, 1)) (k : zR G l J bc bs h (pc + 1) ls (zi a :: st)) : zR G l J bc bs h pc ls (.int x :: st) := fun p e s m args below meth c H locs cells slots ls0 C hP hS hL h1 h2 => lv_i2b C.1 C.2.1 hd ha (k p e s m args below meth c H locs cells slots ls0 C hP hS hL h1 h2)
theorem z_i2c {x : Int32} (a : Int) (ha : (x.toUInt32 % 65536).toInt32 = zI a) (hd : decode J.1.2.1 pc = .ok (.i2c, 1)) (k : zR G l J bc bs h (pc + 1) ls (zi a :: st)) : zR G l J bc bs h pc ls (.int x :: st) := fun p e s m args below meth c H locs cells slots ls0 C hP hS hL h1 h2 => lv_i2c C.1 C.2.1 hd ha (k p e s m args below meth c H locs cells slots ls0 C hP hS hL h1 h2)
theorem z_lcmp {x y : Int64} (hd : decode J.1.2.1 pc = .ok (.lcmp, 1)) (k : zR G l J bc bs h (pc + 1) ls (.int (lg_cmp x y) :: st)) : zR G l J bc bs h pc ls (.long y :: .long x :: st) := fun p e s m args below meth c H locs cells slots ls0 C hP hS hL h1 h2 => W.lcmp C.1 C.2.1 hd (k p e s m args below meth c H locs cells slots ls0 C hP hS hL h1 h2)
theorem z_dup {v : Value} (hv : v.category = 1) (hd : decode J.1.2.1 pc = .ok (.dup, 1)) (k : zR G l J bc bs h (pc + 1) ls (v :: v :: st)) : zR G l J bc bs h pc ls (v :: st) := fun p e s m args below meth c H locs cells slots ls0 C hP hS hL h1 h2 => lv_dup C.1 C.2.1 hd hv (k p e s m args below meth c H locs cells slots ls0 C hP hS hL h1 h2)
theorem z_pop {v : Value} (hv : v.category = 1) (hd : decode J.1.2.1 pc = .ok (.pop, 1)) (k : zR G l J bc bs h (pc + 1) ls st) : zR G l J bc bs h pc ls (v :: st) := fun p e s m args below meth c H locs cells slots ls0 C hP hS hL h1 h2 => lv_pop C.1 C.2.1 hd hv (k p e s m args below meth c H locs cells slots ls0 C hP hS hL h1 h2)
theorem z_pop2_2 {v : Value} (hv : v.category = 2) (hd : decode J.1.2.1 pc = .ok (.pop2, 1)) (k : zR G l J bc bs h (pc + 1) ls st) : zR G l J bc bs h pc ls (v :: st) := fun p e s m args below meth c H locs cells slots ls0 C hP hS hL h1 h2 => lv_pop2_2 C.1 C.2.1 hd hv (k p e s m args below meth c H locs cells slots ls0 C hP hS hL h1 h2)
theorem z_dup_x1 {v u : Value} (hv : v.category = 1) (hu : u.category = 1) (hd : decode J.1.2.1 pc = .ok (.dup_x1, 1)) (k : zR G l J bc bs h (pc + 1) ls (v :: u :: v :: st)) : zR G l J bc bs h pc ls (v :: u :: st) := fun p e s m args below meth c H locs cells slots ls0 C hP hS hL h1 h2 => lv_dup_x1 C.1 C.2.1 hd hv hu (k p e s m args below meth c H locs cells slots ls0 C hP hS hL h1 h2)
theorem z_dup2 {v u : Value} (hv : v.category = 1) (hu : u.category = 1) (hd : decode J.1.2.1 pc = .ok (.dup2, 1)) (k : zR G l J bc bs h (pc + 1) ls (v :: u :: v :: u :: st)) : zR G l J bc bs h pc ls (v :: u :: st) := fun p e s m args below meth c H locs cells slots ls0 C hP hS hL h1 h2 => lv_dup2_11 C.1 C.2.1 hd hv hu (k p e s m args below meth c H locs cells slots ls0 C hP hS hL h1 h2)
theorem z_null (hd : decode J.1.2.1 pc = .ok (.aconst_null, 1)) (k : zR G l J bc bs h (pc + 1) ls (.null :: st)) : zR G l J bc bs h pc ls st := fun p e s m args below meth c H locs cells slots ls0 C hP hS hL h1 h2 => lv_null C.1 C.2.1 hd (k p e s m args below meth c H locs cells slots ls0 C hP hS hL h1 h2)
theorem z_icmp_lt {a b : Int} {off : Int} {tgt : Nat} (hd : decode J.1.2.1 pc = .ok (.if_icmp .lt off, 3)) (ht : (pc : Int) + off = (tgt : Int)) (ha : -2147483648 ≤ a ∧ a ≤ 2147483647) (hb : -2147483648 ≤ b ∧ b ≤ 2147483647) (k1 : a < b → zR G l J bc bs h tgt ls st) (k2 : ¬ (a < b) → zR G l J bc bs h (pc + 3) ls st) : zR G l J bc bs h pc ls (zi b :: zi a :: st) := fun p e s m args below meth c H locs cells slots ls0 C hP hS hL h1 h2 => lv_icmp_lt C.1 C.2.1 hd ht (fun q => k1 ((zI_lt ha hb).mp q) p e s m args below meth c H locs cells slots ls0 C hP hS hL h1 h2) (fun q => k2 (fun z => q ((zI_lt ha hb).mpr z)) p e s m args below meth c H locs cells slots ls0 C hP hS hL h1 h2)
theorem z_if_lt {a : Int} {off : Int} {tgt : Nat} (hd : decode J.1.2.1 pc = .ok (.ifCond .lt off, 3)) (ht : (pc : Int) + off = (tgt : Int)) (ha : -2147483648 ≤ a ∧ a ≤ 2147483647) (k1 : a < 0 → zR G l J bc bs h tgt ls st) (k2 : ¬ (a < 0) → zR G l J bc bs h (pc + 3) ls st) : zR G l J bc bs h pc ls (zi a :: st) := fun p e s m args below meth c H locs cells slots ls0 C hP hS hL h1 h2 => lv_if_lt C.1 C.2.1 hd ht (fun q => k1 ((zI_lt ha (by omega : -2147483648 ≤ (0 : Int) ∧ (0 : Int) ≤ 2147483647)).mp q) p e s m args below meth c H locs cells slots ls0 C hP hS hL h1 h2) (fun q => k2 (fun z => q ((zI_lt ha (by omega : -2147483648 ≤ (0 : Int) ∧ (0 : Int) ≤ 2147483647)).mpr z)) p e s m args below meth c H locs cells slots ls0 C hP hS hL h1 h2)
theorem z_icmp_le {a b : Int} {off : Int} {tgt : Nat} (hd : decode J.1.2.1 pc = .ok (.if_icmp .le off, 3)) (ht : (pc : Int) + off = (tgt : Int)) (ha : -2147483648 ≤ a ∧ a ≤ 2147483647) (hb : -2147483648 ≤ b ∧ b ≤ 2147483647) (k1 : a ≤ b → zR G l J bc bs h tgt ls st) (k2 : ¬ (a ≤ b) → zR G l J bc bs h (pc + 3) ls st) : zR G l J bc bs h pc ls (zi b :: zi a :: st) := fun p e s m args below meth c H locs cells slots ls0 C hP hS hL h1 h2 => lv_icmp_le C.1 C.2.1 hd ht (fun q => k1 ((zI_le ha hb).mp q) p e s m args below meth c H locs cells slots ls0 C hP hS hL h1 h2) (fun q => k2 (fun z => q ((zI_le ha hb).mpr z)) p e s m args below meth c H locs cells slots ls0 C hP hS hL h1 h2)
theorem z_if_le {a : Int} {off : Int} {tgt : Nat} (hd : decode J.1.2.1 pc = .ok (.ifCond .le off, 3)) (ht : (pc : Int) + off = (tgt : Int)) (ha : -2147483648 ≤ a ∧ a ≤ 2147483647) (k1 : a ≤ 0 → zR G l J bc bs h tgt ls st) (k2 : ¬ (a ≤ 0) → zR G l J bc bs h (pc + 3) ls st) : zR G l J bc bs h pc ls (zi a :: st) := fun p e s m args below meth c H locs cells slots ls0 C hP hS hL h1 h2 => lv_if_le C.1 C.2.1 hd ht (fun q => k1 ((zI_le ha (by omega : -2147483648 ≤ (0 : Int) ∧ (0 : Int) ≤ 2147483647)).mp q) p e s m args below meth c H locs cells slots ls0 C hP hS hL h1 h2) (fun q => k2 (fun z => q ((zI_le ha (by omega : -2147483648 ≤ (0 : Int) ∧ (0 : Int) ≤ 2147483647)).mpr z)) p e s m args below meth c H locs cells slots ls0 C hP hS hL h1 h2)
theorem z_icmp_gt {a b : Int} {off : Int} {tgt : Nat} (hd : decode J.1.2.1 pc = .ok (.if_icmp .gt off, 3)) (ht : (pc : Int) + off = (tgt : Int)) (ha : -2147483648 ≤ a ∧ a ≤ 2147483647) (hb : -2147483648 ≤ b ∧ b ≤ 2147483647) (k1 : b < a → zR G l J bc bs h tgt ls st) (k2 : ¬ (b < a) → zR G l J bc bs h (pc + 3) ls st) : zR G l J bc bs h pc ls (zi b :: zi a :: st) := fun p e s m args below meth c H locs cells slots ls0 C hP hS hL h1 h2 => lv_icmp_gt C.1 C.2.1 hd ht (fun q => k1 ((zI_lt hb ha).mp q) p e s m args below meth c H locs cells slots ls0 C hP hS hL h1 h2) (fun q => k2 (fun z => q ((zI_lt hb ha).mpr z)) p e s m args below meth c H locs cells slots ls0 C hP hS hL h1 h2)
theorem z_if_gt {a : Int} {off : Int} {tgt : Nat} (hd : decode J.1.2.1 pc = .ok (.ifCond .gt off, 3)) (ht : (pc : Int) + off = (tgt : Int)) (ha : -2147483648 ≤ a ∧ a ≤ 2147483647) (k1 : 0 < a → zR G l J bc bs h tgt ls st) (k2 : ¬ (0 < a) → zR G l J bc bs h (pc + 3) ls st) : zR G l J bc bs h pc ls (zi a :: st) := fun p e s m args below meth c H locs cells slots ls0 C hP hS hL h1 h2 => lv_if_gt C.1 C.2.1 hd ht (fun q => k1 ((zI_lt (by omega : -2147483648 ≤ (0 : Int) ∧ (0 : Int) ≤ 2147483647) ha).mp q) p e s m args below meth c H locs cells slots ls0 C hP hS hL h1 h2) (fun q => k2 (fun z => q ((zI_lt (by omega : -2147483648 ≤ (0 : Int) ∧ (0 : Int) ≤ 2147483647) ha).mpr z)) p e s m args below meth c H locs cells slots ls0 C hP hS hL h1 h2)
theorem z_icmp_ge {a b : Int} {off : Int} {tgt : Nat} (hd : decode J.1.2.1 pc = .ok (.if_icmp .ge off, 3)) (ht : (pc : Int) + off = (tgt : Int)) (ha : -2147483648 ≤ a ∧ a ≤ 2147483647) (hb : -2147483648 ≤ b ∧ b ≤ 2147483647) (k1 : b ≤ a → zR G l J bc bs h tgt ls st) (k2 : ¬ (b ≤ a) → zR G l J bc bs h (pc + 3) ls st) : zR G l J bc bs h pc ls (zi b :: zi a :: st) := fun p e s m args below meth c H locs cells slots ls0 C hP hS hL h1 h2 => lv_icmp_ge C.1 C.2.1 hd ht (fun q => k1 ((zI_le hb ha).mp q) p e s m args below meth c H locs cells slots ls0 C hP hS hL h1 h2) (fun q => k2 (fun z => q ((zI_le hb ha).mpr z)) p e s m args below meth c H locs cells slots ls0 C hP hS hL h1 h2)
theorem z_if_ge {a : Int} {off : Int} {tgt : Nat} (hd : decode J.1.2.1 pc = .ok (.ifCond .ge off, 3)) (ht : (pc : Int) + off = (tgt : Int)) (ha : -2147483648 ≤ a ∧ a ≤ 2147483647) (k1 : 0 ≤ a → zR G l J bc bs h tgt ls st) (k2 : ¬ (0 ≤ a) → zR G l J bc bs h (pc + 3) ls st) : zR G l J bc bs h pc ls (zi a :: st) := fun p e s m args below meth c H locs cells slots ls0 C hP hS hL h1 h2 => lv_if_ge C.1 C.2.1 hd ht (fun q => k1 ((zI_le (by omega : -2147483648 ≤ (0 : Int) ∧ (0 : Int) ≤ 2147483647) ha).mp q) p e s m args below meth c H locs cells slots ls0 C hP hS hL h1 h2) (fun q => k2 (fun z => q ((zI_le (by omega : -2147483648 ≤ (0 : Int) ∧ (0 : Int) ≤ 2147483647) ha).mpr z)) p e s m args below meth c H locs cells slots ls0 C hP hS hL h1 h2)
theorem z_icmp_eq {a b : Int} {off : Int} {tgt : Nat} (hd : decode J.1.2.1 pc = .ok (.if_icmp .eq off, 3)) (ht : (pc : Int) + off = (tgt : Int)) (ha : -2147483648 ≤ a ∧ a ≤ 2147483647) (hb : -2147483648 ≤ b ∧ b ≤ 2147483647) (k1 : a = b → zR G l J bc bs h tgt ls st) (k2 : ¬ (a = b) → zR G l J bc bs h (pc + 3) ls st) : zR G l J bc bs h pc ls (zi b :: zi a :: st) := fun p e s m args below meth c H locs cells slots ls0 C hP hS hL h1 h2 => lv_icmp_eq C.1 C.2.1 hd ht (fun q => k1 ((zI_eq ha hb).mp q) p e s m args below meth c H locs cells slots ls0 C hP hS hL h1 h2) (fun q => k2 (fun z => q ((zI_eq ha hb).mpr z)) p e s m args below meth c H locs cells slots ls0 C hP hS hL h1 h2)
theorem z_if_eq {a : Int} {off : Int} {tgt : Nat} (hd : decode J.1.2.1 pc = .ok (.ifCond .eq off, 3)) (ht : (pc : Int) + off = (tgt : Int)) (ha : -2147483648 ≤ a ∧ a ≤ 2147483647) (k1 : a = 0 → zR G l J bc bs h tgt ls st) (k2 : ¬ (a = 0) → zR G l J bc bs h (pc + 3) ls st) : zR G l J bc bs h pc ls (zi a :: st) := fun p e s m args below meth c H locs cells slots ls0 C hP hS hL h1 h2 => lv_if_eq C.1 C.2.1 hd ht (fun q => k1 ((zI_eq ha (by omega : -2147483648 ≤ (0 : Int) ∧ (0 : Int) ≤ 2147483647)).mp q) p e s m args below meth c H locs cells slots ls0 C hP hS hL h1 h2) (fun q => k2 (fun z => q ((zI_eq ha (by omega : -2147483648 ≤ (0 : Int) ∧ (0 : Int) ≤ 2147483647)).mpr z)) p e s m args below meth c H locs cells slots ls0 C hP hS hL h1 h2)
theorem z_icmp_ne {a b : Int} {off : Int} {tgt : Nat} (hd : decode J.1.2.1 pc = .ok (.if_icmp .ne off, 3)) (ht : (pc : Int) + off = (tgt : Int)) (ha : -2147483648 ≤ a ∧ a ≤ 2147483647) (hb : -2147483648 ≤ b ∧ b ≤ 2147483647) (k1 : ¬ a = b → zR G l J bc bs h tgt ls st) (k2 : a = b → zR G l J bc bs h (pc + 3) ls st) : zR G l J bc bs h pc ls (zi b :: zi a :: st) := fun p e s m args below meth c H locs cells slots ls0 C hP hS hL h1 h2 => lv_icmp_ne C.1 C.2.1 hd ht (fun q => k1 (fun z => q ((zI_eq ha hb).mpr z)) p e s m args below meth c H locs cells slots ls0 C hP hS hL h1 h2) (fun q => k2 ((zI_eq ha hb).mp q) p e s m args below meth c H locs cells slots ls0 C hP hS hL h1 h2)
theorem z_if_ne {a : Int} {off : Int} {tgt : Nat} (hd : decode J.1.2.1 pc = .ok (.ifCond .ne off, 3)) (ht : (pc : Int) + off = (tgt : Int)) (ha : -2147483648 ≤ a ∧ a ≤ 2147483647) (k1 : ¬ a = 0 → zR G l J bc bs h tgt ls st) (k2 : a = 0 → zR G l J bc bs h (pc + 3) ls st) : zR G l J bc bs h pc ls (zi a :: st) := fun p e s m args below meth c H locs cells slots ls0 C hP hS hL h1 h2 => lv_if_ne C.1 C.2.1 hd ht (fun q => k1 (fun z => q ((zI_eq ha (by omega : -2147483648 ≤ (0 : Int) ∧ (0 : Int) ≤ 2147483647)).mpr z)) p e s m args below meth c H locs cells slots ls0 C hP hS hL h1 h2) (fun q => k2 ((zI_eq ha (by omega : -2147483648 ≤ (0 : Int) ∧ (0 : Int) ≤ 2147483647)).mp q) p e s m args below meth c H locs cells slots ls0 C hP hS hL h1 h2)
theorem z_goto {off : Int} {tgt : Nat} (hd : decode J.1.2.1 pc = .ok (.goto off, 3)) (ht : (pc : Int) + off = (tgt : Int)) (k : zR G l J bc bs h tgt ls st) : zR G l J bc bs h pc ls st := fun p e s m args below meth c H locs cells slots ls0 C hP hS hL h1 h2 => lv_goto C.1 C.2.1 hd ht (k p e s m args below meth c H locs cells slots ls0 C hP hS hL h1 h2)
theorem z_ifnonnull {x : Nat} {off : Int} {tgt : Nat} (hd : decode J.1.2.1 pc = .ok (.ifnonnull off, 3)) (ht : (pc : Int) + off = (tgt : Int)) (k : zR G l J bc bs h tgt ls st) : zR G l J bc bs h pc ls (.ref x :: st) := fun p e s m args below meth c H locs cells slots ls0 C hP hS hL h1 h2 => lv_ifnonnull C.1 C.2.1 hd ht (k p e s m args below meth c H locs cells slots ls0 C hP hS hL h1 h2)
theorem z_ifnonnullN {off : Int} (hd : decode J.1.2.1 pc = .ok (.ifnonnull off, 3)) (k : zR G l J bc bs h (pc + 3) ls st) : zR G l J bc bs h pc ls (.null :: st) := fun p e s m args below meth c H locs cells slots ls0 C hP hS hL h1 h2 => lv_ifnonnullN C.1 C.2.1 hd (k p e s m args below meth c H locs cells slots ls0 C hP hS hL h1 h2)
theorem z_tableIn {a dflt lo hi : Int} {offs : Array Int} {len : Nat} {off : Int} {tgt : Nat} (hd : decode J.1.2.1 pc = .ok (.tableswitch dflt lo hi offs, len)) (ha : -2147483648 ≤ a ∧ a ≤ 2147483647) (h1 : ¬ a < lo) (h2 : ¬ hi < a) (ho : offs[(a - lo).toNat]? = some off) (ht : (pc : Int) + off = (tgt : Int)) (k : zR G l J bc bs h tgt ls st) : zR G l J bc bs h pc ls (zi a :: st) := fun p e s m args below meth c H locs cells slots ls0 C hP hS hL g1 g2 => lv_tableIn C.1 C.2.1 hd (by rw [zI_toInt ha]; exact h1) (by rw [zI_toInt ha]; exact h2) (by rw [zI_toInt ha]; exact ho) ht (k p e s m args below meth c H locs cells slots ls0 C hP hS hL g1 g2)
theorem z_tableOut {a dflt lo hi : Int} {offs : Array Int} {len : Nat} {tgt : Nat} (hd : decode J.1.2.1 pc = .ok (.tableswitch dflt lo hi offs, len)) (ha : -2147483648 ≤ a ∧ a ≤ 2147483647) (h1 : a < lo ∨ hi < a) (ht : (pc : Int) + dflt = (tgt : Int)) (k : zR G l J bc bs h tgt ls st) : zR G l J bc bs h pc ls (zi a :: st) := fun p e s m args below meth c H locs cells slots ls0 C hP hS hL g1 g2 => lv_tableOut C.1 C.2.1 hd (by rw [zI_toInt ha]; exact h1) ht (k p e s m args below meth c H locs cells slots ls0 C hP hS hL g1 g2)
theorem z_lookup {a dflt : Int} {ps : Array (Int × Int)} {len : Nat} {off : Int} {tgt : Nat} (hd : decode J.1.2.1 pc = .ok (.lookupswitch dflt ps, len)) (ha : -2147483648 ≤ a ∧ a ≤ 2147483647) (hp : (ps.toList.zip (ps.toList.drop 1)).all (fun (a, next) => a.1 < next.1) = true) (ho : Op.lookupswitch.offset ps.toList dflt a = off) (ht : (pc : Int) + off = (tgt : Int)) (k : zR G l J bc bs h tgt ls st) : zR G l J bc bs h pc ls (zi a :: st) := fun p e s m args below meth c H locs cells slots ls0 C hP hS hL h1 h2 => lv_lookup C.1 C.2.1 hd hp (by rw [zI_toInt ha]; exact ho) ht (k p e s m args below meth c H locs cells slots ls0 C hP hS hL h1 h2)
theorem z_ldc {i : Nat} {v : Int32} (hd : decode J.1.2.1 pc = .ok (.ldc i, 2)) (x : Int) (hx : v = zI x) (hw : Cond.constant J.1.1 i v ∈ zWS) (k : zR G l J bc bs h (pc + 2) ls (zi x :: st)) : zR G l J bc bs h pc ls st := by
  intro p e s m args below meth c H locs cells slots ls0 C hP hS hL h1 h2
  refine lv_ldc C.1 C.2.1 C.2.2.2.2.2.2.1 (C.2.2.2.2.2.2.2.1 _ hw) hd ?_
  rw [hx]
  exact k p e s m args below meth c H locs cells slots ls0 C hP hS hL h1 h2
theorem z_ldcw {i : Nat} {v : Int32} (hd : decode J.1.2.1 pc = .ok (.ldc_w i, 3)) (x : Int) (hx : v = zI x) (hw : Cond.constant J.1.1 i v ∈ zWS) (k : zR G l J bc bs h (pc + 3) ls (zi x :: st)) : zR G l J bc bs h pc ls st := by
  intro p e s m args below meth c H locs cells slots ls0 C hP hS hL h1 h2
  refine lv_ldcw C.1 C.2.1 C.2.2.2.2.2.2.1 (C.2.2.2.2.2.2.2.1 _ hw) hd ?_
  rw [hx]
  exact k p e s m args below meth c H locs cells slots ls0 C hP hS hL h1 h2
theorem z_ldc2 {i : Nat} {v : Int64} (hd : decode J.1.2.1 pc = .ok (.ldc2_w i, 3)) (x : Int) (hx : v = zL x) (hw : Cond.constantLong J.1.1 i v ∈ zWS) (k : zR G l J bc bs h (pc + 3) ls (zl x :: st)) : zR G l J bc bs h pc ls st := by
  intro p e s m args below meth c H locs cells slots ls0 C hP hS hL h1 h2
  refine lv_ldc2 C.1 C.2.1 C.2.2.2.2.2.2.1 (C.2.2.2.2.2.2.2.1 _ hw) hd ?_
  rw [hx]
  exact k p e s m args below meth c H locs cells slots ls0 C hP hS hL h1 h2
end ZR
end
section
/-! ===== fields, arrays, new cells, calls, ends ===== -/
theorem zRel.mono {G : zG} {h h' : zHp} {H : Heap} (hP : zRel G h H) (hs : ∀ a e, h' a = some e → h a = some e) : zRel G h' H := ⟨hP.1, fun a e q => hP.2 a e (hs a e q)⟩
theorem zRel.lt {G : zG} {h : zHp} {H : Heap} {a : Nat} {e : va_E} (hP : zRel G h H) (ha : h a = some e) : a < H.size := (hP.2 a e ha).2.lt
theorem zRel.ok {G : zG} {h : zHp} {H : Heap} {a : Nat} {e : va_E} (hP : zRel G h H) (ha : h a = some e) : va_P G.1 vwCl [(a, e)] H := by
  intro k q hk
  match k, hk with
  | 0, hk => cases hk; exact (hP.2 a e ha).2
theorem zRel.set {G : zG} {h : zHp} {H H1 : Heap} {a : Nat} {e0 e : va_E} (hP : zRel G h H) (ha : h a = some e0) (he : va_at G.1 vwCl (a, e) H1) (hz : H1.size = H.size) (oq : ∀ q : Nat, q ≠ a → H1[q]? = H[q]?) : zRel G (zup h a (some e)) H1 := by
  refine ⟨by rw [hz]; exact hP.1, fun b x hb => ?_⟩
  unfold zup at hb
  by_cases hab : b = a
  · subst hab
    rw [if_pos rfl] at hb
    cases hb
    exact ⟨(hP.2 _ _ ha).1, he⟩
  · rw [if_neg hab] at hb
    exact ⟨(hP.2 _ _ hb).1, (hP.2 _ _ hb).2.kept (oq b hab)⟩
theorem zRel.push {G : zG} {h : zHp} {H H1 : Heap} {e : va_E} (hP : zRel G h H) (he : va_at G.1 vwCl (H.size, e) H1) (hz : H1.size = H.size + 1) (oq : ∀ q : Nat, q < H.size → H1[q]? = H[q]?) : zRel G (zup h H.size (some e)) H1 := by
  refine ⟨by rw [hz]; exact Nat.le_succ_of_le hP.1, fun b x hb => ?_⟩
  unfold zup at hb
  by_cases hab : b = H.size
  · subst hab
    rw [if_pos rfl] at hb
    cases hb
    exact ⟨hP.1, he⟩
  · rw [if_neg hab] at hb
    exact ⟨(hP.2 _ _ hb).1, (hP.2 _ _ hb).2.kept (oq b (hP.lt hb))⟩
theorem zRel.keep {G : zG} {h : zHp} {H H1 : Heap} (hP : zRel G h H) (hz : H.size ≤ H1.size) (oq : ∀ q : Nat, q < H.size → H1[q]? = H[q]?) : zRel G h H1 :=
  ⟨Nat.le_trans hP.1 hz, fun b x hb => ⟨(hP.2 _ _ hb).1, (hP.2 _ _ hb).2.kept (oq b (hP.lt hb))⟩⟩
theorem va_S.push {G : zG} {H0 H H1 : Heap} {locs : List Loc} (hS : va_S (zA G) H0 H locs) (hz : H1.size = H.size + 1) (oq : ∀ q : Nat, q < H.size → H1[q]? = H[q]?) : va_S (zA G) H0 H1 locs :=
  ⟨Nat.le_trans hS.1 (by omega), fun q h1 h2 => (oq q (Nat.lt_of_lt_of_le h1 hS.1)).trans (hS.2.1 q h1 h2), hS.2.2⟩
/-- all that a class's field rows ask, decided by a program -/
def zFd (ci : Nat) (C : String) (T : u_T) (N : Nat) (ty : Nat → FieldType) : Prop := vwCl[ci]? = some (C, T, N) ∧ (∀ w ∈ u_ws C T N, w ∈ zWS) ∧ (∀ k, k < N → parseFieldDescriptor (T k).2.2.1 = some (ty k)) ∧ (∀ a, a < N → ∀ b, b < N → a ≠ b → (T a).2.1 ≠ (T b).2.1)
section ZC
variable {G : zG} {l : Launch} {J : zJ} {bc bs : Nat} {h : zHp} {pc : Nat} {ls : List (Option Value)} {st : List Value}
theorem z_get {ci : Nat} {C : String} {T : u_T} {N : Nat} {ty : Nat → FieldType} {i a : Nat} {fs : List Value} {v : Value} (k : Nat) (F : zFd ci C T N ty) (hk : k < N) (hw : Cond.fieldLink J.1.1 i (T k).1 (T k).2.1 (T k).2.2.1 ∈ zWS) (hd : decode J.1.2.1 pc = .ok (.getfield i, 3)) (hh : h a = some (.inr (ci, fs))) (hv : fs[k]? = some v)
    (kk : zR G l J bc bs h (pc + 3) ls (v :: st)) : zR G l J bc bs h pc ls (.ref a :: st) := by
  intro p e s m args below meth c H locs cells slots ls0 C0 hP hS hL h1 h2
  obtain ⟨f1, f2, f3, f4⟩ := F
  exact va_get (D := G.1) (ci := ci) (v := v) (C := C) (T := T) (N := N) C0.1 C0.2.1 C0.2.2.2.2.2.2.2.1 f2 C0.2.2.2.2.2.2.1 C0.2.2.2.2.2.2.2.2.2.1.1 (hP.ok hh) 0 rfl f1 k hk (C0.2.2.2.2.2.2.2.1 _ hw) (fun _ h9 => h9) hv hd (kk p e s m args below meth c H locs cells slots ls0 C0 hP hS hL h1 h2)
/-- of a nest mate -/
theorem z_getN {ci : Nat} {C host : String} {T : u_T} {N : Nat} {ty : Nat → FieldType} {i a : Nat} {fs : List Value} {v : Value} (k : Nat) (F : zFd ci C T N ty) (hk : k < N) (hw : Cond.fieldLinkNest J.1.1 i (T k).1 (T k).2.1 (T k).2.2.1 host ∈ zNW) (hd : decode J.1.2.1 pc = .ok (.getfield i, 3)) (hh : h a = some (.inr (ci, fs))) (hv : fs[k]? = some v)
    (kk : zR G l J bc bs h (pc + 3) ls (v :: st)) : zR G l J bc bs h pc ls (.ref a :: st) := by
  intro p e s m args below meth c H locs cells slots ls0 C0 hP hS hL h1 h2
  obtain ⟨f1, f2, f3, f4⟩ := F
  exact va_getN (D := G.1) (ci := ci) (v := v) (C := C) (T := T) (N := N) C0.1 C0.2.1 C0.2.2.2.2.2.2.2.1 f2 C0.2.2.2.2.2.2.1 C0.2.2.2.2.2.2.2.2.2.1.1 (hP.ok hh) 0 rfl f1 k hk (va_Nw.use rfl (C0.2.2.2.2.2.2.2.2.2.1.2.2.1 _ hw)) (fun _ h9 => h9) hv hd (kk p e s m args below meth c H locs cells slots ls0 C0 hP hS hL h1 h2)
/-- an inherited field, spelled by the subclass -/
theorem z_getS {ci : Nat} {C ref : String} {T : u_T} {N : Nat} {ty : Nat → FieldType} {i a : Nat} {fs : List Value} {v : Value} (k : Nat) (F : zFd ci C T N ty) (hk : k < N) (hw : Cond.fieldLink J.1.1 i ref (T k).2.1 (T k).2.2.1 ∈ zWS) (hsm : ref = (T k).1) (hd : decode J.1.2.1 pc = .ok (.getfield i, 3)) (hh : h a = some (.inr (ci, fs))) (hv : fs[k]? = some v)
    (kk : zR G l J bc bs h (pc + 3) ls (v :: st)) : zR G l J bc bs h pc ls (.ref a :: st) := z_get k F hk (by rw [← hsm]; exact hw) hd hh hv kk
theorem zcell_put {G : zG} {s : State} {args : Array Value} {ci : Nat} {C : String} {T : u_T} {N : Nat} {ty : Nat → FieldType} {a k : Nat} {fs : List Value} {v : Value} {H1 : Heap} {cell : Cell} (F : zFd ci C T N ty) (hts : ∀ w ∈ zWS, w.before args s = true) (hK : va_K G.1 vwCl (zTys G) s) (q2 : cell.cls = G.1.1 ci) (q3 : cell.vm = .none) (q4 : ∀ j, j < N → cell.slots[G.1.2 ci j]? = some (vp_V fs j)) (hk : k < N) (hl : k < fs.length) (e1 : H1[a]? = some (cell.setSlot (G.1.2 ci k) v)) (own : String) : va_at G.1 vwCl (a, .inr (ci, fs.set k v)) H1 :=
  ⟨_, F.1, t_OB.to (V := updV (vp_V fs) k v) ⟨_, e1, q2, q3, t_set q4 (va_apart (own := own) hts F.2.1 ty F.2.2.1 F.2.2.2 hK F.1) hk v⟩ (fun j _ => vp_updV_set hl v j)⟩
theorem z_put {ci : Nat} {C : String} {T : u_T} {N : Nat} {ty : Nat → FieldType} {i a : Nat} {fs : List Value} {v : Value} (k : Nat) (F : zFd ci C T N ty) (hk : k < N) (hw : Cond.fieldLink J.1.1 i (T k).1 (T k).2.1 (T k).2.2.1 ∈ zWS) (hfin : (T k).2.2.2 = false) (hd : decode J.1.2.1 pc = .ok (.putfield i, 3)) (hh : h a = some (.inr (ci, fs))) (hl : k < fs.length) (hn : narrow (ty k) v = v) (hf : fits (ty k) v = true)
    (kk : zR G l J bc bs (zup h a (some (.inr (ci, fs.set k v)))) (pc + 3) ls st) : zR G l J bc bs h pc ls (v :: .ref a :: st) := by
  intro p e s m args below meth c H locs cells slots ls0 C0 hP hS hL h1 h2
  have hts := C0.2.2.2.2.2.2.2.1
  have hK := C0.2.2.2.2.2.2.2.2.2.1.1
  have hown := C0.2.2.2.2.2.2.1
  obtain ⟨hba, r, hr1, cell, q1, q2, q3, q4⟩ := hP.2 a _ hh
  have hr : r = (C, T, N) := Option.some.inj (hr1.symm.trans F.1)
  subst hr
  obtain ⟨hS9, hfc, kC, hkC, hkind⟩ := hK.1 ci _ F.1
  obtain ⟨cf, kf, fi, f, hi, hsl⟩ := hS9 k hk
  have hlay := hts _ (F.2.1 _ (u_in_lay hk))
  unfold u_lay at hlay
  rw [if_neg (by rw [hfin]; decide)] at hlay
  have hst := (u_facts hfc hkC (u_lays hts F.2.1 hk) hi).1
  have h6 := u_store hfc hkC hkind hlay hi (F.2.2.1 k hk) hn hf
  refine W.putK C0.1 C0.2.1 (f := f) ⟨hown, hts _ hw, ⟨_, _, _, hi⟩, hst⟩ (by rw [q2]; exact h6) q1 q3 (by rw [hsl]; exact k2_hasslot (q4 k hk)) rfl rfl hd fun H' e1 e2 e3 => ?_
  rw [hsl] at e1 ⊢
  exact kk p e s m args below meth c H' _ cells slots ls0 C0 (hP.set hh (zcell_put F hts hK q2 q3 q4 hk hl e1 J.1.1) e2 e3) (hS.put e2 e3 hba) hL h1 h2
theorem z_putN {ci : Nat} {C host : String} {T : u_T} {N : Nat} {ty : Nat → FieldType} {i a : Nat} {fs : List Value} {v : Value} (k : Nat) (F : zFd ci C T N ty) (hk : k < N) (hw : Cond.fieldLinkNest J.1.1 i (T k).1 (T k).2.1 (T k).2.2.1 host ∈ zNW) (hfin : (T k).2.2.2 = false) (hd : decode J.1.2.1 pc = .ok (.putfield i, 3)) (hh : h a = some (.inr (ci, fs))) (hl : k < fs.length) (hn : narrow (ty k) v = v) (hf : fits (ty k) v = true)
    (kk : zR G l J bc bs (zup h a (some (.inr (ci, fs.set k v)))) (pc + 3) ls st) : zR G l J bc bs h pc ls (v :: .ref a :: st) := by
  intro p e s m args below meth c H locs cells slots ls0 C0 hP hS hL h1 h2
  have hts := C0.2.2.2.2.2.2.2.1
  have hK := C0.2.2.2.2.2.2.2.2.2.1.1
  have hown := C0.2.2.2.2.2.2.1
  obtain ⟨hba, r, hr1, cell, q1, q2, q3, q4⟩ := hP.2 a _ hh
  have hr : r = (C, T, N) := Option.some.inj (hr1.symm.trans F.1)
  subst hr
  obtain ⟨hS9, hfc, kC, hkC, hkind⟩ := hK.1 ci _ F.1
  obtain ⟨cf, kf, fi, f, hi, hsl⟩ := hS9 k hk
  have hlay := hts _ (F.2.1 _ (u_in_lay hk))
  unfold u_lay at hlay
  rw [if_neg (by rw [hfin]; decide)] at hlay
  have hst := (u_facts hfc hkC (u_lays hts F.2.1 hk) hi).1
  have h6 := u_store hfc hkC hkind hlay hi (F.2.2.1 k hk) hn hf
  refine va_WputK C0.1 C0.2.1 (f := f) hown (va_Nw.use rfl (C0.2.2.2.2.2.2.2.2.2.1.2.2.1 _ hw)) hi hst (by rw [q2]; exact h6) q1 q3 (by rw [hsl]; exact k2_hasslot (q4 k hk)) rfl rfl hd fun H' e1 e2 e3 => ?_
  rw [hsl] at e1 ⊢
  exact kk p e s m args below meth c H' _ cells slots ls0 C0 (hP.set hh (zcell_put F hts hK q2 q3 q4 hk hl e1 J.1.1) e2 e3) (hS.put e2 e3 hba) hL h1 h2
/-- a final field, in a constructor -/
theorem z_putF {ci : Nat} {C : String} {T : u_T} {N : Nat} {ty : Nat → FieldType} {i a : Nat} {fs : List Value} {v : Value} (k : Nat) (F : zFd ci C T N ty) (hk : k < N) (hw : Cond.fieldLink J.1.1 i (T k).1 (T k).2.1 (T k).2.2.1 ∈ zWS) (hfin : (T k).2.2.2 = true) (hini : J.1.2.2.2.2.2 = true) (hdecl : (T k).1 = J.1.1) (hd : decode J.1.2.1 pc = .ok (.putfield i, 3)) (hh : h a = some (.inr (ci, fs))) (hl : k < fs.length) (hn : narrow (ty k) v = v) (hf : fits (ty k) v = true)
    (kk : zR G l J bc bs (zup h a (some (.inr (ci, fs.set k v)))) (pc + 3) ls st) : zR G l J bc bs h pc ls (v :: .ref a :: st) := by
  intro p e s m args below meth c H locs cells slots ls0 C0 hP hS hL h1 h2
  have hts := C0.2.2.2.2.2.2.2.1
  have hK := C0.2.2.2.2.2.2.2.2.2.1.1
  have hown := C0.2.2.2.2.2.2.1
  obtain ⟨hba, r, hr1, cell, q1, q2, q3, q4⟩ := hP.2 a _ hh
  have hr : r = (C, T, N) := Option.some.inj (hr1.symm.trans F.1)
  subst hr
  obtain ⟨hS9, hfc, kC, hkC, hkind⟩ := hK.1 ci _ F.1
  obtain ⟨cf, kf, fi, f, hi, hsl⟩ := hS9 k hk
  have hlay := hts _ (F.2.1 _ (u_in_lay hk))
  unfold u_lay at hlay
  rw [if_pos hfin] at hlay
  have hst := (u_facts hfc hkC (u_lays hts F.2.1 hk) hi).1
  have hcf : m.cls = cf := by
    obtain ⟨_, _, c', _, _, _, -, -, hf', -, -, -, hown2, -⟩ := Cond.laysFinal_spec hlay
    have e1 : c' = cf := by have := hi.symm.trans hf'; simp at this; exact this.1.symm
    rw [hdecl] at hown2
    rw [← e1]; exact Option.some.inj (hown.symm.trans hown2)
  have h6 := u_fits hfc hkC hkind (Or.inr hlay) hi (F.2.2.1 k hk) hn hf
  refine W.putFinK C0.1 C0.2.1 hown (hts _ hw) hi hst hcf (C0.2.2.2.2.2.1 hini) (by rw [q2]; exact h6) q1 q3 (by rw [hsl]; exact k2_hasslot (q4 k hk)) rfl rfl hd fun H' e1 e2 e3 => ?_
  rw [hsl] at e1 ⊢
  exact kk p e s m args below meth c H' _ cells slots ls0 C0 (hP.set hh (zcell_put F hts hK q2 q3 q4 hk hl e1 J.1.1) e2 e3) (hS.put e2 e3 hba) hL h1 h2
theorem z_new {ci : Nat} {C : String} {T : u_T} {N : Nat} {ty : Nat → FieldType} {i : Nat} {fs : List Value} (F : zFd ci C T N ty) (hw : Cond.classLink J.1.1 i C ∈ zWS) (hins : Cond.instantiable C N ∈ zWS) (hini : Cond.initialized C ∈ zWS) (hfs : ∀ j, j < N → defaultValue (ty j) = vp_V fs j) (hd : decode J.1.2.1 pc = .ok (.new i, 3)) {bc' bs' : Nat} (hb1 : bc' + 1 ≤ bc) (hb2 : bs' + N ≤ bs)
    (kk : ∀ q : Nat, (∀ a e, h a = some e → a < q) → G.2.2 ≤ q → zR G l J bc' bs' (zup h q (some (.inr (ci, fs)))) (pc + 3) ls (.ref q :: st)) : zR G l J bc bs h pc ls st := by
  intro p e s m args below meth c H locs cells slots ls0 C0 hP hS hL h1 h2
  have hts := C0.2.2.2.2.2.2.2.1
  have hK := C0.2.2.2.2.2.2.2.2.2.1.1
  have hown := C0.2.2.2.2.2.2.1
  have hKn := hK.1 ci _ F.1
  refine W.newcK C0.1 C0.2.1 hown (hts _ hw) (hts _ hins) (hts _ hini) rfl hd (by omega) (by omega) hKn.2.1 rfl fun H1 kC hkC e1 z1 o1 => ?_
  exact kk H.size (fun a e ha => hP.lt ha) hP.1 p e s m args below meth c H1 locs (cells + 1) (slots + N) ls0 C0 (hP.push ⟨_, F.1, (u_born ty hts F.2.1 hKn hkC e1 F.2.2.1).to hfs⟩ z1 o1) (hS.push z1 o1) hL (by omega) (by omega)
theorem z_alen {i : Nat} {ty : FieldType} {n a : Nat} {x : ((Nat → Int32) ⊕ (Nat → Int64) ⊕ (Nat → UInt32) ⊕ (Nat → UInt64) ⊕ (Nat → Option Nat))} (ht : (zTys G)[i]? = some (G.2.1 i, ty)) (hd : decode J.1.2.1 pc = .ok (.arraylength, 1)) (hh : h a = some (.inl (G.2.1 i, n, x)))
    (kk : zR G l J bc bs h (pc + 1) ls (zi (n : Int) :: st)) : zR G l J bc bs h pc ls (.ref a :: st) := by
  intro p e s m args below meth c H locs cells slots ls0 C0 hP hS hL h1 h2
  exact va_alen (D := G.1) C0.1 C0.2.1 C0.2.2.2.2.2.2.2.2.2.1.1 (hP.ok hh) 0 i rfl ht (zI_nat n) hd (kk p e s m args below meth c H locs cells slots ls0 C0 hP hS hL h1 h2)
theorem z_iald {n a : Nat} {g : Nat → Int} {i : Int} (hd : decode J.1.2.1 pc = .ok (.iaload, 1)) (hh : h a = some (zInts G n g)) (hi : 0 ≤ i ∧ i < n ∧ i < 2147483648)
    (kk : zR G l J bc bs h (pc + 1) ls (zi (g i.toNat) :: st)) : zR G l J bc bs h pc ls (zi i :: .ref a :: st) := by
  intro p e s m args below meth c H locs cells slots ls0 C0 hP hS hL h1 h2
  refine va_iald (D := G.1) C0.1 C0.2.1 C0.2.2.2.2.2.2.2.2.2.1.1 (hP.ok hh) 0 0 rfl rfl (zI_in hi.1 hi.2.1 hi.2.2) hd ?_
  rw [zI_clamp hi.1 hi.2.2]
  exact kk p e s m args below meth c H locs cells slots ls0 C0 hP hS hL h1 h2
theorem z_zald {n a : Nat} {g : Nat → Int} {i : Int} (hd : decode J.1.2.1 pc = .ok (.baload, 1)) (hh : h a = some (zBools G n g)) (hi : 0 ≤ i ∧ i < n ∧ i < 2147483648)
    (kk : zR G l J bc bs h (pc + 1) ls (zi (g i.toNat) :: st)) : zR G l J bc bs h pc ls (zi i :: .ref a :: st) := by
  intro p e s m args below meth c H locs cells slots ls0 C0 hP hS hL h1 h2
  refine va_zald (D := G.1) C0.1 C0.2.1 C0.2.2.2.2.2.2.2.2.2.1.1 (hP.ok hh) 0 1 rfl rfl (zI_in hi.1 hi.2.1 hi.2.2) hd ?_
  rw [zI_clamp hi.1 hi.2.2]
  exact kk p e s m args below meth c H locs cells slots ls0 C0 hP hS hL h1 h2
theorem z_bald {n a : Nat} {g : Nat → Int} {i : Int} (hd : decode J.1.2.1 pc = .ok (.baload, 1)) (hh : h a = some (zBytes G n g)) (hi : 0 ≤ i ∧ i < n ∧ i < 2147483648)
    (kk : zR G l J bc bs h (pc + 1) ls (zi (g i.toNat) :: st)) : zR G l J bc bs h pc ls (zi i :: .ref a :: st) := by
  intro p e s m args below meth c H locs cells slots ls0 C0 hP hS hL h1 h2
  refine va_bald (D := G.1) C0.1 C0.2.1 C0.2.2.2.2.2.2.2.2.2.1.1 (hP.ok hh) 0 2 rfl rfl (zI_in hi.1 hi.2.1 hi.2.2) hd ?_
  rw [zI_clamp hi.1 hi.2.2]
  exact kk p e s m args below meth c H locs cells slots ls0 C0 hP hS hL h1 h2
theorem z_lald {n a : Nat} {g : Nat → Int} {i : Int} (hd : decode J.1.2.1 pc = .ok (.laload, 1)) (hh : h a = some (zLongs G n g)) (hi : 0 ≤ i ∧ i < n ∧ i < 2147483648)
    (kk : zR G l J bc bs h (pc + 1) ls (zl (g i.toNat) :: st)) : zR G l J bc bs h pc ls (zi i :: .ref a :: st) := by
  intro p e s m args below meth c H locs cells slots ls0 C0 hP hS hL h1 h2
  refine va_lald (D := G.1) C0.1 C0.2.1 C0.2.2.2.2.2.2.2.2.2.1.1 (hP.ok hh) 0 3 rfl rfl (zI_in hi.1 hi.2.1 hi.2.2) hd ?_
  rw [zI_clamp hi.1 hi.2.2]
  exact kk p e s m args below meth c H locs cells slots ls0 C0 hP hS hL h1 h2
/-- a reference out of an array of references -/
theorem z_aald {t n a : Nat} {ty : FieldType} {g : Nat → Option Nat} {i : Int} (ht : (zTys G)[t]? = some (G.2.1 t, ty)) (hty : ty.isReference = true) (hd : decode J.1.2.1 pc = .ok (.aaload, 1)) (hh : h a = some (zRefs G t n g)) (hi : 0 ≤ i ∧ i < n ∧ i < 2147483648)
    (kk : zR G l J bc bs h (pc + 1) ls (va_rf (g i.toNat) :: st)) : zR G l J bc bs h pc ls (zi i :: .ref a :: st) := by
  intro p e s m args below meth c H locs cells slots ls0 C0 hP hS hL h1 h2
  have hin := zI_in hi.1 hi.2.1 hi.2.2
  have hlt : (zI i).toNatClampNeg < n := Nat.not_le.mp fun q => hin (Or.inr q)
  have ha := (hP.2 a _ hh).2
  have hA := (C0.2.2.2.2.2.2.2.2.2.1.1.2 t _ ht).1
  refine W.aald (v := va_rf (g i.toNat)) (ty := ty) C0.1 C0.2.1 ha (hA n (fun j => va_rf (g j))) hty (fun q => by cases q) (by show ¬ (zI i < 0 ∨ (arrV _ _ _).slots.size ≤ _); rw [arrV_size]; exact hin) (by show (arrV _ _ _).slots[_]? = _; rw [arrV_read _ _ hlt, zI_clamp hi.1 hi.2.2]) rfl rfl hd ?_
  exact kk p e s m args below meth c H locs cells slots ls0 C0 hP hS hL h1 h2
theorem z_iast {n a : Nat} {g : Nat → Int} {i x : Int} (hd : decode J.1.2.1 pc = .ok (.iastore, 1)) (hh : h a = some (zInts G n g)) (hi : 0 ≤ i ∧ i < n ∧ i < 2147483648)
    (kk : zR G l J bc bs (zup h a (some (zInts G n (zup g i.toNat x)))) (pc + 1) ls st) : zR G l J bc bs h pc ls (zi x :: zi i :: .ref a :: st) := by
  intro p e s m args below meth c H locs cells slots ls0 C0 hP hS hL h1 h2
  have hin := zI_in hi.1 hi.2.1 hi.2.2
  obtain ⟨hba, ha⟩ := hP.2 a _ hh
  refine W.iast C0.1 C0.2.1 ha ((C0.2.2.2.2.2.2.2.2.2.1.1.2 0 _ rfl).1 n (fun j => .int (zI (g j)))) (fun q => by cases q) (by show ¬ (zI i < 0 ∨ (arrV _ _ _).slots.size ≤ _); rw [arrV_size]; exact hin) rfl rfl hd fun H1 e9 z oq => ?_
  refine kk p e s m args below meth c H1 _ cells slots ls0 C0 (hP.set hh ?_ z oq) (hS.put z oq hba) hL h1 h2
  show H1[a]? = some (vp_cell _ _)
  rw [e9]
  show some ((vp_cell _ _).setSlot _ _) = _
  rw [vp_cell_i, vp_cell_i, arrV_store, zI_clamp hi.1 hi.2.2]
  congr 2
  funext q
  by_cases hq : q = i.toNat
  · simp [updV, zup, hq]
  · simp [updV, zup, hq]
theorem z_zast {n a : Nat} {g : Nat → Int} {i x : Int} (hx : vp_nar .boolean (zI x) = zI x) (hd : decode J.1.2.1 pc = .ok (.bastore, 1)) (hh : h a = some (zBools G n g)) (hi : 0 ≤ i ∧ i < n ∧ i < 2147483648)
    (kk : zR G l J bc bs (zup h a (some (zBools G n (zup g i.toNat x)))) (pc + 1) ls st) : zR G l J bc bs h pc ls (zi x :: zi i :: .ref a :: st) := by
  intro p e s m args below meth c H locs cells slots ls0 C0 hP hS hL h1 h2
  have hin := zI_in hi.1 hi.2.1 hi.2.2
  obtain ⟨hba, ha⟩ := hP.2 a _ hh
  refine W.zast C0.1 C0.2.1 ha ((C0.2.2.2.2.2.2.2.2.2.1.1.2 1 _ rfl).1 n (fun j => .int (zI (g j)))) (fun q => by cases q) (by show ¬ (zI i < 0 ∨ (arrV _ _ _).slots.size ≤ _); rw [arrV_size]; exact hin) rfl rfl hd fun H1 e9 z oq => ?_
  refine kk p e s m args below meth c H1 _ cells slots ls0 C0 (hP.set hh ?_ z oq) (hS.put z oq hba) hL h1 h2
  show H1[a]? = some (vp_cell _ _)
  rw [e9]
  have hx2 : narrow .boolean (.int (zI x)) = .int (zI x) := by
    have h9 : narrow .boolean (.int (zI x)) = .int (vp_nar .boolean (zI x)) := rfl
    rw [h9, hx]
  show some ((vp_cell _ _).setSlot _ _) = _
  rw [hx2, vp_cell_i, vp_cell_i, arrV_store, zI_clamp hi.1 hi.2.2]
  congr 2
  funext q
  by_cases hq : q = i.toNat
  · simp [updV, zup, hq]
  · simp [updV, zup, hq]
theorem z_bast {n a : Nat} {g : Nat → Int} {i x : Int} (y : Int) (hx : (zI x).toInt8.toInt32 = zI y) (hd : decode J.1.2.1 pc = .ok (.bastore, 1)) (hh : h a = some (zBytes G n g)) (hi : 0 ≤ i ∧ i < n ∧ i < 2147483648)
    (kk : zR G l J bc bs (zup h a (some (zBytes G n (zup g i.toNat y)))) (pc + 1) ls st) : zR G l J bc bs h pc ls (zi x :: zi i :: .ref a :: st) := by
  intro p e s m args below meth c H locs cells slots ls0 C0 hP hS hL h1 h2
  have hin := zI_in hi.1 hi.2.1 hi.2.2
  obtain ⟨hba, ha⟩ := hP.2 a _ hh
  refine W.bast C0.1 C0.2.1 ha ((C0.2.2.2.2.2.2.2.2.2.1.1.2 2 _ rfl).1 n (fun j => .int (zI (g j)))) (fun q => by cases q) (by show ¬ (zI i < 0 ∨ (arrV _ _ _).slots.size ≤ _); rw [arrV_size]; exact hin) rfl rfl hd fun H1 e9 z oq => ?_
  refine kk p e s m args below meth c H1 _ cells slots ls0 C0 (hP.set hh ?_ z oq) (hS.put z oq hba) hL h1 h2
  show H1[a]? = some (vp_cell _ _)
  rw [e9]
  have hx2 : narrow .byte (.int (zI x)) = .int (zI y) := by rw [narrow_byte, hx]
  show some ((vp_cell _ _).setSlot _ _) = _
  rw [hx2, vp_cell_i, vp_cell_i, arrV_store, zI_clamp hi.1 hi.2.2]
  congr 2
  funext q
  by_cases hq : q = i.toNat
  · simp [updV, zup, hq]
  · simp [updV, zup, hq]
theorem z_last {n a : Nat} {g : Nat → Int} {i x : Int} (hd : decode J.1.2.1 pc = .ok (.lastore, 1)) (hh : h a = some (zLongs G n g)) (hi : 0 ≤ i ∧ i < n ∧ i < 2147483648)
    (kk : zR G l J bc bs (zup h a (some (zLongs G n (zup g i.toNat x)))) (pc + 1) ls st) : zR G l J bc bs h pc ls (zl x :: zi i :: .ref a :: st) := by
  intro p e s m args below meth c H locs cells slots ls0 C0 hP hS hL h1 h2
  have hin := zI_in hi.1 hi.2.1 hi.2.2
  obtain ⟨hba, ha⟩ := hP.2 a _ hh
  refine W.last C0.1 C0.2.1 ha ((C0.2.2.2.2.2.2.2.2.2.1.1.2 3 _ rfl).1 n (fun j => .long (zL (g j)))) (fun q => by cases q) (by show ¬ (zI i < 0 ∨ (arrV _ _ _).slots.size ≤ _); rw [arrV_size]; exact hin) rfl rfl hd fun H1 e9 z oq => ?_
  refine kk p e s m args below meth c H1 _ cells slots ls0 C0 (hP.set hh ?_ z oq) (hS.put z oq hba) hL h1 h2
  show H1[a]? = some (vp_cell _ _)
  rw [e9]
  show some ((vp_cell _ _).setSlot _ _) = _
  rw [vp_cell_l, vp_cell_l, arrV_store, zI_clamp hi.1 hi.2.2]
  congr 2
  funext q
  by_cases hq : q = i.toNat
  · simp [updV, zup, hq]
  · simp [updV, zup, hq]
/-- an array of ints into an array of such -/
theorem z_aastI {n a v n2 : Nat} {g : Nat → Option Nat} {g2 : Nat → Int} {i : Int} (hd : decode J.1.2.1 pc = .ok (.aastore, 1)) (hh : h a = some (zRefs G 4 n g)) (hv : h v = some (zInts G n2 g2)) (hi : 0 ≤ i ∧ i < n ∧ i < 2147483648)
    (kk : zR G l J bc bs (zup h a (some (zRefs G 4 n (zup g i.toNat (some v))))) (pc + 1) ls st) : zR G l J bc bs h pc ls (.ref v :: zi i :: .ref a :: st) := by
  intro p e s m args below meth c H locs cells slots ls0 C0 hP hS hL h1 h2
  have hin := zI_in hi.1 hi.2.1 hi.2.2
  have hlt : (zI i).toNatClampNeg < n := Nat.not_le.mp fun q => hin (Or.inr q)
  have h0 : ¬ zI i < 0 := fun q => hin (Or.inl q)
  obtain ⟨hba, ha⟩ := hP.2 a _ hh
  obtain ⟨-, hv9⟩ := hP.2 v _ hv
  obtain ⟨kA, kI, cI, k1, k2, k3, k4⟩ := C0.2.2.2.2.2.2.2.2.2.1.2.1
  refine W.aast C0.1 C0.2.1 ha (fun q h => by cases h) (fun h => by cases h) k1 k2 rfl k3 ⟨h0, by show _ < (arrV _ _ _).slots.size; rw [arrV_size]; exact hlt⟩ hv9 (fun q h => by cases h) k3 (va_asg _ _) rfl rfl hd fun H1 e9 z oq => ?_
  refine kk p e s m args below meth c H1 _ cells slots ls0 C0 (hP.set hh ?_ z oq) (hS.put z oq hba) hL h1 h2
  show H1[a]? = some (vp_cell _ _)
  rw [e9]
  show some ((vp_cell _ _).setSlot _ _) = _
  rw [vp_cell_q, vp_cell_q, arrV_store, zI_clamp hi.1 hi.2.2]
  congr 2
  funext q
  by_cases hq : q = i.toNat
  · simp [updV, zup, hq, va_rf]
  · simp [updV, zup, hq]
/-- an object into an array of its class -/
theorem z_aastO {t n a v ci : Nat} {C : String} {T : u_T} {N : Nat} {g : Nat → Option Nat} {vs : List Value} {i : Int} (ht : (zTys G)[t]? = some (G.2.1 t, .object C)) (hc : vwCl[ci]? = some (C, T, N)) (hd : decode J.1.2.1 pc = .ok (.aastore, 1)) (hh : h a = some (zRefs G t n g)) (hv : h v = some (.inr (ci, vs))) (hi : 0 ≤ i ∧ i < n ∧ i < 2147483648)
    (kk : zR G l J bc bs (zup h a (some (zRefs G t n (zup g i.toNat (some v))))) (pc + 1) ls st) : zR G l J bc bs h pc ls (.ref v :: zi i :: .ref a :: st) := by
  intro p e s m args below meth c H locs cells slots ls0 C0 hP hS hL h1 h2
  have hin := zI_in hi.1 hi.2.1 hi.2.2
  have hlt : (zI i).toNatClampNeg < n := Nat.not_le.mp fun q => hin (Or.inr q)
  have h0 : ¬ zI i < 0 := fun q => hin (Or.inl q)
  obtain ⟨hba, ha⟩ := hP.2 a _ hh
  obtain ⟨-, r', hr', cellV, g1, g2, g3, -⟩ := hP.2 v _ hv
  have hK := C0.2.2.2.2.2.2.2.2.2.1.1
  have hcls := (hK.1 ci _ hc).2
  obtain ⟨kA, comp, k1, k2, k3, -⟩ := (hK.2 t _ ht).2
  have hcomp : comp = G.1.1 ci := Option.some.inj (k3.symm.trans hcls.1)
  subst hcomp
  obtain ⟨kC, hkC, -⟩ := hcls.2
  refine W.aast C0.1 C0.2.1 ha (fun q h => by cases h) (fun h => by cases h) k1 k2 rfl hkC ⟨h0, by show _ < (arrV _ _ _).slots.size; rw [arrV_size]; exact hlt⟩ g1 (fun q h => by rw [g3] at h; cases h) (by rw [g2]; exact hkC) (by rw [g2]; exact va_asg _ _) rfl rfl hd fun H1 e9 z oq => ?_
  refine kk p e s m args below meth c H1 _ cells slots ls0 C0 (hP.set hh ?_ z oq) (hS.put z oq hba) hL h1 h2
  show H1[a]? = some (vp_cell _ _)
  rw [e9]
  show some ((vp_cell _ _).setSlot _ _) = _
  rw [vp_cell_q, vp_cell_q, arrV_store, zI_clamp hi.1 hi.2.2]
  congr 2
  funext q
  by_cases hq : q = i.toNat
  · simp [updV, zup, hq, va_rf]
  · simp [updV, zup, hq]
/-- a new array of numbers -/
theorem z_newa {at9 : ArrayType} {t : Nat} {ty : FieldType} {n : Int} {x : ((Nat → Int32) ⊕ (Nat → Int64) ⊕ (Nat → UInt32) ⊕ (Nat → UInt64) ⊕ (Nat → Option Nat))} (hty : newarray.typeOf at9 = ty) (hnr : match ty with | .object _ => False | _ => True) (ht : (zTys G)[t]? = some (G.2.1 t, ty)) (hw : Cond.arrayClass ty ∈ zWS) (hx : ∀ cA : ClassId, vp_cell cA (n.toNat, x) = arrV cA n.toNat (fun _ => defaultValue ty)) (hn : 0 ≤ n ∧ n.toNat * componentBytes ty ≤ 536870912 ∧ n < 2147483648) (hd : decode J.1.2.1 pc = .ok (.newarray at9, 2)) {bc' bs' : Nat} (hb1 : bc' + 1 ≤ bc) (hb2 : bs' + n.toNat ≤ bs)
    (kk : ∀ q : Nat, (∀ a e, h a = some e → a < q) → G.2.2 ≤ q → zR G l J bc' bs' (zup h q (some (.inl (G.2.1 t, n.toNat, x)))) (pc + 2) ls (.ref q :: st)) : zR G l J bc bs h pc ls (zi n :: st) := by
  subst hty
  intro p e s m args below meth c H locs cells slots ls0 C0 hP hS hL h1 h2
  have hn0 : ¬ zI n < 0 := by
    rw [Int32.lt_iff_toInt_lt, zI_toInt (by omega), Int32.toInt_zero]
    omega
  refine va_newaK C0.1 C0.2.1 (C0.2.2.2.2.2.2.2.1 _ hw) rfl hd rfl hn0 (zI_clamp hn.1 hn.2.2) hn.2.1 (by omega) (by omega) rfl fun H1 cA e1 z1 o1 hAr hNm => ?_
  have hR := (C0.2.2.2.2.2.2.2.2.2.1.1.2 t _ ht).2
  have hcA : cA = G.2.1 t := by
    have h9 : s.vm.findClass ("[" ++ (newarray.typeOf at9).toString) = some (G.2.1 t) := by
      cases at9 <;> exact hR
    exact Option.some.inj (hNm.symm.trans h9)
  subst hcA
  refine kk H.size (fun a e ha => hP.lt ha) hP.1 p e s m args below meth c H1 locs (cells + 1) (slots + n.toNat) ls0 C0 (hP.push ?_ z1 o1) (hS.push z1 o1) hL (by omega) (by omega)
  show H1[H.size]? = some (vp_cell _ _)
  rw [hx]
  exact e1
/-- a new array of references to objects -/
theorem z_newq {t i : Nat} {C : String} {n : Int} (ht : (zTys G)[t]? = some (G.2.1 t, .object C)) (hAO : ∀ U H, zS G U H → va_AO C U) (hw : Cond.classLink J.1.1 i C ∈ zWS) (hn : 0 ≤ n ∧ n.toNat * 4 ≤ 536870912 ∧ n < 2147483648) (hd : decode J.1.2.1 pc = .ok (.anewarray i, 3)) {bc' bs' : Nat} (hb1 : bc' + 1 ≤ bc) (hb2 : bs' + n.toNat ≤ bs)
    (kk : ∀ q : Nat, (∀ a e, h a = some e → a < q) → G.2.2 ≤ q → zR G l J bc' bs' (zup h q (some (zRefs G t n.toNat (fun _ => none)))) (pc + 3) ls (.ref q :: st)) : zR G l J bc bs h pc ls (zi n :: st) := by
  intro p e s m args below meth c H locs cells slots ls0 C0 hP hS hL h1 h2
  have hn0 : ¬ zI n < 0 := by
    rw [Int32.lt_iff_toInt_lt, zI_toInt (by omega), Int32.toInt_zero]
    omega
  have hc9 := zI_clamp hn.1 hn.2.2
  refine W.anew C0.1 C0.2.1 C0.2.2.2.2.2.2.1 (C0.2.2.2.2.2.2.2.1 _ hw) (va_AO.use (hAO _ _ C0.2.2.2.2.2.2.2.2.2.1)) rfl hd rfl hn0 (by rw [hc9]; exact hn.2.1) (by omega) (by rw [hc9]; omega) fun cA kA comp f1 f2 f3 f4 => ?_
  rw [hc9]
  generalize hH1 : H.push ({ cls := cA, slots := Array.replicate n.toNat .null, vm := .none } : Cell) = H1
  have z1 : H1.size = H.size + 1 := by rw [← hH1, Array.size_push]
  have e1 : H1[H.size]? = some (arrV cA n.toNat (fun _ => .null)) := by rw [← hH1, Array.getElem?_push_size, ← arrV_new]
  have o1 : ∀ q : Nat, q < H.size → H1[q]? = H[q]? := fun q hq => by rw [← hH1, Array.getElem?_push, if_neg (Nat.ne_of_lt hq)]
  obtain ⟨kA2, comp2, -, -, -, hR⟩ := (C0.2.2.2.2.2.2.2.2.2.1.1.2 t _ ht).2
  have hcA : cA = G.2.1 t := by first | exact Option.some.inj (f1.symm.trans hR) | exact Option.some.inj (f4.symm.trans hR)
  subst hcA
  refine kk H.size (fun a e ha => hP.lt ha) hP.1 p e s m args below meth c H1 locs (cells + 1) (slots + n.toNat) ls0 C0 (hP.push ?_ z1 o1) (hS.push z1 o1) hL (by omega) (by omega)
  show H1[H.size]? = some (vp_cell _ _)
  rw [vp_cell_q]
  exact e1
end ZC
end
section
/-! ===== calls ===== -/
def zMe (y : MethodName) (hd : zHd) (n : Nat) : Prop := Cond.initialized y.cls ∈ zWS ∧ Cond.code y hd.2.1 hd.2.2.1 hd.2.2.2.1 ∈ zWS ∧ (y.cls ≠ "java/lang/invoke/MethodHandle" ∧ y.cls ≠ "java/lang/invoke/VarHandle" ∧ (parseMethodDescriptor y.desc).map (fun d => d.parameters.length) = some n) ∧ hd.2.2.1 ≤ 40
/-- a method of an object, found by its class -/
def zMV (y : MethodName) (hd : zHd) (n : Nat) : Prop := zMe y hd n ∧ Cond.instanceMethod y ∈ zWS ∧ Cond.selects y.cls y y ∈ zWS
def zMS (y : MethodName) (hd : zHd) (n : Nat) : Prop := zMe y hd n ∧ Cond.static y ∈ zWS
def zMI (y : MethodName) (hd : zHd) (n : Nat) : Prop := zMe y hd n ∧ Cond.instanceMethod y ∈ zWS ∧ y.name = "<init>" ∧ hd.2.2.2.1 = none
def zMSW (y : MethodName) (hd : zHd) (n : Nat) : Prop := Cond.initialized y.cls ∈ zWS ∧ Cond.codeWith y hd.2.1 hd.2.2.1 hd.2.2.2.1 hd.2.2.2.2.1 ∈ zWS ∧ (y.cls ≠ "java/lang/invoke/MethodHandle" ∧ y.cls ≠ "java/lang/invoke/VarHandle" ∧ (parseMethodDescriptor y.desc).map (fun d => d.parameters.length) = some n) ∧ hd.2.2.1 ≤ 40 ∧ Cond.static y ∈ zWS
theorem zPc_blind {G : zG} {vs : List Value} {h : zHp} : FrameBlind (va_Pc vs (zPc G h)) := fun a U g mk q => ⟨q.1, q.2.1, zS.go (s := U) (U := U.calling g mk a) (State.WarmedH.refl U) (fun _ _ _ => rfl) q.2.2⟩
theorem zPc_pre {G : zG} {s : State} {H : Heap} {locs : List Loc} {vs : List Value} {h : zHp} (hZ : zS G s s.heap) (hP : zRel G h H) (hS : va_S (zA G) s.heap H locs) : ∀ U : State, U.heap = H → s.WarmedH U.vm → va_Pc vs (zPc G h) vs.toArray U := fun U hU hW =>
  ⟨rfl, by rw [hU]; exact hP, by rw [hU]; exact hZ.go hW (fun a h1 h2 => hS.2.1 a h1 h2)⟩
section ZD
variable {G : zG} {l : Launch} {J : zJ} {bc bs : Nat} {h : zHp} {pc : Nat} {ls : List (Option Value)} {st : List Value}
/-- behind any call: the callee has returned or thrown -/
theorem z_after {p : Program} {e : Env} {s : State} {m : MethodId} {args : Array Value} {below : List Frame} {meth : Method} {c : Code} {H : Heap} {locs : List Loc} {cells slots mc ms bc' bs' : Nat} {ls0 : Array Slot} {st0 rest : List Value} {a : Array Value} {Qn : Option Value → zHp → Prop} {Qx : String → zHp → Prop}
    (C0 : zCx G l J p s m args meth c) (hP : zRel G h H) (hS : va_S (zA G) s.heap H locs) (hL : zLs ls0 J.1.2.2.1 ls) (h1 : cells + bc ≤ J.2.1.cells) (h2 : slots + bs ≤ J.2.1.slots) (hb1 : mc + bc' ≤ bc) (hb2 : ms + bs' ≤ bs)
    (hr : vx_Run p l e J.2.1 s m args below meth c H locs cells slots mc ms (F0 m pc ls0 st0) rest (zQ G Qn a) (zX G Qx) (zA G))
    (kx : ∀ E h', Qx E h' → zT G l J bc' bs' h' E pc ls) (kk : ∀ v h', Qn v h' → zR G l J bc' bs' h' (pc + 3) ls (v.toList ++ rest)) : W p l e J.2.1 s m args below meth c H locs cells slots (J.2.2.1 below args s) (F0 m pc ls0 st0) := by
  intro T hT X
  have hA : ∀ q : Nat, H.size ≤ q → zA G q := fun q hq => Nat.le_trans hP.1 hq
  rcases hr T hT X with ⟨v, st₀, t, T', L, h0, X', hL9, e1, e2, ⟨v', h', hv, hq, hR, hF⟩, sst⟩ | ⟨q, st₀, t, T', L, E, ce, h0, X', hL9, e1, e2, ⟨h', hq, hR, hF⟩, hce, hcv, hcl, sst⟩
  · cases hv
    obtain ⟨k1, k2, k3⟩ := vx_keep h0 e1 hS (fun q _ hq => hq) (fun q hq => hq) hL9 hF
    obtain ⟨t2, a1, b1⟩ := kk v h' hq p e s m args below meth c T'.heap (locs ++ L) (cells + mc) (slots + ms) ls0 C0 (by rw [e1]; exact hR) k3 hL (by omega) (by omega) T' rfl X'
    exact ⟨t2, sst t2 a1, b1⟩
  · obtain ⟨k1, k2, k3⟩ := vx_keep h0 e1 hS (fun q _ hq => hq) (fun q hq => hq) hL9 hF
    obtain ⟨t2, a1, b1⟩ := kx E h' hq p e s m args below meth c T'.heap (locs ++ L) (cells + mc) (slots + ms) ls0 q ce rest C0 (by rw [e1]; exact hR) k3 hL (by omega) (by omega) (by rw [e1]; exact hce) hcv hcl T' rfl X'
    exact ⟨t2, sst.trans a1, b1⟩
theorem zw {ws : List Cond} {y : MethodName} {hd : zHd} {n : Nat} (M : zMe y hd n) (h : ∀ w ∈ ws, w ∈ zWS) : ∀ w ∈ ws ++ (Cond.code y hd.2.1 hd.2.2.1 hd.2.2.2.1 :: zWS), w ∈ zWS := by
  intro w hw
  rcases List.mem_append.mp hw with q | q
  · exact h w q
  · rcases List.mem_cons.mp q with q | q
    · rw [q]; exact M.2.1
    · exact q
theorem z_callV {d mc ms i b n : Nat} {y : MethodName} {hd' : zHd} {As rest : List Value} {Qn : Option Value → zHp → Prop} {Qx : String → zHp → Prop} {ci N : Nat} {T : u_T} {fs : List Value} {bc' bs' : Nat} (M : zMV y hd' n) (hw : Cond.methodLink J.1.1 i y ∈ zWS) (hd : decode J.1.2.1 pc = .ok (.invokevirtual i, 3)) (hM : zM G l hd' y d (.ref b :: As) h Qn Qx mc ms) (hst : st = As.reverse ++ .ref b :: rest)
    (hn : As.length = n) (hcat : (rest.map fun v => v.category).sum ≤ 8) (hc : vwCl[ci]? = some (y.cls, T, N)) (hb : h b = some (.inr (ci, fs))) (hfr : d + 1 ≤ J.2.1.frames) (hlo : d * 64 + 64 ≤ J.2.1.locals) (hb1 : mc + bc' ≤ bc) (hb2 : ms + bs' ≤ bs)
    (kx : ∀ E h', Qx E h' → zT G l J bc' bs' h' E pc ls) (kk : ∀ v h', Qn v h' → zR G l J bc' bs' h' (pc + 3) ls (v.toList ++ rest)) : zR G l J bc bs h pc ls st := by
  intro p e s m args below meth c H locs cells slots ls0 C0 hP hS hL h1 h2
  have hts := C0.2.2.2.2.2.2.2.1
  have hK := C0.2.2.2.2.2.2.2.2.2.1.1
  refine z_after C0 hP hS hL h1 h2 hb1 hb2 (vx_runV (As := As) (rest := rest) (Ts := zWS) ⟨C0.1, C0.2.1, rfl, C0.2.2.2.2.2.2.1, hts⟩ (hM C0.2.2.2.2.2.2.2.2.2.2.1) (cwV n hts (zgoodIn (fun _ h => h) (zw M.1 (by
    intro w hw9
    simp only [List.mem_cons, List.not_mem_nil, or_false] at hw9
    rcases hw9 with q | q | q | q <;> rw [q]
    · exact hw
    · exact M.2.1
    · exact M.2.2
    · exact M.1.1))) rfl rfl rfl ⟨rfl, M.1.2.2.1⟩ ⟨hfr, by have := M.1.2.2.2; show 8 + (_ + 11) + d * 64 ≤ _; omega⟩) ⟨zPc_blind, va_recv hK (hP.ok hb) hc (q0 := 0) rfl, fun U hU hW => zPc_pre C0.2.2.2.2.2.2.2.2.2.1 hP hS U hU hW⟩ rfl hn (hL.1.trans C0.2.2.1.symm) hst (lv_room hcat) hd ⟨by show cells + mc ≤ _; omega, by show slots + ms ≤ _; omega⟩) kx kk
/-- a private method of a nest mate -/
theorem z_callVN {d mc ms i b n : Nat} {host : String} {y : MethodName} {hd' : zHd} {As rest : List Value} {Qn : Option Value → zHp → Prop} {Qx : String → zHp → Prop} {ci N : Nat} {T : u_T} {fs : List Value} {bc' bs' : Nat} (M : zMV y hd' n) (hw : Cond.methodLinkNest J.1.1 i y host ∈ zNW) (hd : decode J.1.2.1 pc = .ok (.invokevirtual i, 3)) (hM : zM G l hd' y d (.ref b :: As) h Qn Qx mc ms) (hst : st = As.reverse ++ .ref b :: rest)
    (hn : As.length = n) (hcat : (rest.map fun v => v.category).sum ≤ 8) (hc : vwCl[ci]? = some (y.cls, T, N)) (hb : h b = some (.inr (ci, fs))) (hfr : d + 1 ≤ J.2.1.frames) (hlo : d * 64 + 64 ≤ J.2.1.locals) (hb1 : mc + bc' ≤ bc) (hb2 : ms + bs' ≤ bs)
    (kx : ∀ E h', Qx E h' → zT G l J bc' bs' h' E pc ls) (kk : ∀ v h', Qn v h' → zR G l J bc' bs' h' (pc + 3) ls (v.toList ++ rest)) : zR G l J bc bs h pc ls st := by
  intro p e s m args below meth c H locs cells slots ls0 C0 hP hS hL h1 h2
  have hts := C0.2.2.2.2.2.2.2.1
  have hK := C0.2.2.2.2.2.2.2.2.2.1.1
  refine z_after C0 hP hS hL h1 h2 hb1 hb2 (vx_runVN (C := y.cls) (As := As) (rest := rest) (Ts := zWS) ⟨C0.1, C0.2.1, rfl, C0.2.2.2.2.2.2.1, hts⟩ (hM C0.2.2.2.2.2.2.2.2.2.2.1) ⟨va_cnB n hts (zgoodIn (ws := [] ++ _) (fun _ h => h) (zw M.1 (fun w hw9 => nomatch hw9))) rfl rfl rfl (C0.2.2.2.2.2.2.2.2.2.1.2.2.1 _ hw) (hts _ M.1.1) M.1.2.2.1 ⟨hfr, by have := M.1.2.2.2; show 8 + (_ + 11) + d * 64 ≤ _; omega⟩, hts _ M.2.1, hts _ M.2.2⟩ ⟨zPc_blind, va_recv hK (hP.ok hb) hc (q0 := 0) rfl, fun U hU hW => zPc_pre C0.2.2.2.2.2.2.2.2.2.1 hP hS U hU hW⟩ rfl hn (hL.1.trans C0.2.2.1.symm) hst (lv_room hcat) hd ⟨by show cells + mc ≤ _; omega, by show slots + ms ≤ _; omega⟩) kx kk
theorem z_callS {d mc ms i n : Nat} {y : MethodName} {hd' : zHd} {As rest : List Value} {Qn : Option Value → zHp → Prop} {Qx : String → zHp → Prop} {bc' bs' : Nat} (M : zMS y hd' n) (hw : Cond.methodLink J.1.1 i y ∈ zWS) (hd : decode J.1.2.1 pc = .ok (.invokestatic i, 3)) (hM : zM G l hd' y d As h Qn Qx mc ms) (hst : st = As.reverse ++ rest)
    (hn : As.length = n) (hcat : (rest.map fun v => v.category).sum ≤ 8) (hfr : d + 1 ≤ J.2.1.frames) (hlo : d * 64 + 64 ≤ J.2.1.locals) (hb1 : mc + bc' ≤ bc) (hb2 : ms + bs' ≤ bs)
    (kx : ∀ E h', Qx E h' → zT G l J bc' bs' h' E pc ls) (kk : ∀ v h', Qn v h' → zR G l J bc' bs' h' (pc + 3) ls (v.toList ++ rest)) : zR G l J bc bs h pc ls st := by
  intro p e s m args below meth c H locs cells slots ls0 C0 hP hS hL h1 h2
  have hts := C0.2.2.2.2.2.2.2.1
  refine z_after C0 hP hS hL h1 h2 hb1 hb2 (vx_runS (As := As) (rest := rest) (Ts := zWS) ⟨C0.1, C0.2.1, rfl, C0.2.2.2.2.2.2.1, hts⟩ (hM C0.2.2.2.2.2.2.2.2.2.2.1) (va_cwS n hts (zgoodIn (fun _ h => h) (zw M.1 (by
    intro w hw9
    simp only [List.mem_cons, List.not_mem_nil, or_false] at hw9
    rcases hw9 with q | q | q <;> rw [q]
    · exact hw
    · exact M.2
    · exact M.1.1))) rfl rfl rfl M.1.2.2.1 ⟨hfr, by have := M.1.2.2.2; show 8 + (_ + 11) + d * 64 ≤ _; omega⟩) ⟨zPc_blind, fun U hU hW => zPc_pre C0.2.2.2.2.2.2.2.2.2.1 hP hS U hU hW⟩ rfl hn (hL.1.trans C0.2.2.1.symm) hst (lv_room hcat) hd ⟨by show cells + mc ≤ _; omega, by show slots + ms ≤ _; omega⟩) kx kk
theorem z_callSN {d mc ms i n : Nat} {host : String} {y : MethodName} {hd' : zHd} {As rest : List Value} {Qn : Option Value → zHp → Prop} {Qx : String → zHp → Prop} {bc' bs' : Nat} (M : zMS y hd' n) (hw : Cond.methodLinkNest J.1.1 i y host ∈ zNW) (hd : decode J.1.2.1 pc = .ok (.invokestatic i, 3)) (hM : zM G l hd' y d As h Qn Qx mc ms) (hst : st = As.reverse ++ rest)
    (hn : As.length = n) (hcat : (rest.map fun v => v.category).sum ≤ 8) (hfr : d + 1 ≤ J.2.1.frames) (hlo : d * 64 + 64 ≤ J.2.1.locals) (hb1 : mc + bc' ≤ bc) (hb2 : ms + bs' ≤ bs)
    (kx : ∀ E h', Qx E h' → zT G l J bc' bs' h' E pc ls) (kk : ∀ v h', Qn v h' → zR G l J bc' bs' h' (pc + 3) ls (v.toList ++ rest)) : zR G l J bc bs h pc ls st := by
  intro p e s m args below meth c H locs cells slots ls0 C0 hP hS hL h1 h2
  have hts := C0.2.2.2.2.2.2.2.1
  refine z_after C0 hP hS hL h1 h2 hb1 hb2 (vx_runSN (As := As) (rest := rest) (Ts := zWS) ⟨C0.1, C0.2.1, rfl, C0.2.2.2.2.2.2.1, hts⟩ (hM C0.2.2.2.2.2.2.2.2.2.2.1) ⟨va_cnB n hts (zgoodIn (ws := [] ++ _) (fun _ h => h) (zw M.1 (fun w hw9 => nomatch hw9))) rfl rfl rfl (C0.2.2.2.2.2.2.2.2.2.1.2.2.1 _ hw) (hts _ M.1.1) M.1.2.2.1 ⟨hfr, by have := M.1.2.2.2; show 8 + (_ + 11) + d * 64 ≤ _; omega⟩, hts _ M.2, trivial⟩ ⟨zPc_blind, fun U hU hW => zPc_pre C0.2.2.2.2.2.2.2.2.2.1 hP hS U hU hW⟩ rfl hn (hL.1.trans C0.2.2.1.symm) hst (lv_room hcat) hd ⟨by show cells + mc ≤ _; omega, by show slots + ms ≤ _; omega⟩) kx kk
theorem z_callI {d mc ms i b n : Nat} {y : MethodName} {hd' : zHd} {As rest : List Value} {Qn : Option Value → zHp → Prop} {Qx : String → zHp → Prop} {bc' bs' : Nat} (M : zMI y hd' n) (hw : Cond.methodLink J.1.1 i y ∈ zWS) (hd : decode J.1.2.1 pc = .ok (.invokespecial i, 3)) (hM : zM G l hd' y d (.ref b :: As) h Qn Qx mc ms) (hst : st = As.reverse ++ .ref b :: rest)
    (hn : As.length = n) (hcat : (rest.map fun v => v.category).sum ≤ 8) (hfr : d + 1 ≤ J.2.1.frames) (hlo : d * 64 + 64 ≤ J.2.1.locals) (hb1 : mc + bc' ≤ bc) (hb2 : ms + bs' ≤ bs)
    (kx : ∀ E h', Qx E h' → zT G l J bc' bs' h' E pc ls) (kk : ∀ v h', Qn v h' → zR G l J bc' bs' h' (pc + 3) ls (v.toList ++ rest)) : zR G l J bc bs h pc ls st := by
  intro p e s m args below meth c H locs cells slots ls0 C0 hP hS hL h1 h2
  have hts := C0.2.2.2.2.2.2.2.1
  have hM1 := hM C0.2.2.2.2.2.2.2.2.2.2.1
  rw [M.2.2.2] at hM1
  have hc9 : Cond.code y hd'.2.1 hd'.2.2.1 none ∈ zWS := by rw [← M.2.2.2]; exact M.1.2.1
  refine z_after C0 hP hS hL h1 h2 hb1 hb2 (vx_runI (As := As) (rest := rest) (Ts := zWS) ⟨C0.1, C0.2.1, rfl, C0.2.2.2.2.2.2.1, hts⟩ hM1 (cwI n hts (zgoodIn (fun _ h => h) (by
    intro w hw9
    rcases List.mem_cons.mp hw9 with q | q
    · rw [q]; exact hc9
    · exact q)) rfl rfl rfl (hts _ M.1.1) (hts _ hw) (hts _ M.2.1) M.2.2.1 M.1.2.2.1 ⟨hfr, by have := M.1.2.2.2; show 8 + (_ + 11) + d * 64 ≤ _; omega⟩) ⟨zPc_blind, fun U hU hW => zPc_pre C0.2.2.2.2.2.2.2.2.2.1 hP hS U hU hW⟩ rfl hn (hL.1.trans C0.2.2.1.symm) hst (lv_room hcat) hd ⟨by show cells + mc ≤ _; omega, by show slots + ms ≤ _; omega⟩) kx kk
theorem z_callIN {d mc ms i b n : Nat} {host : String} {y : MethodName} {hd' : zHd} {As rest : List Value} {Qn : Option Value → zHp → Prop} {Qx : String → zHp → Prop} {bc' bs' : Nat} (M : zMI y hd' n) (hw : Cond.methodLinkNest J.1.1 i y host ∈ zNW) (hd : decode J.1.2.1 pc = .ok (.invokespecial i, 3)) (hM : zM G l hd' y d (.ref b :: As) h Qn Qx mc ms) (hst : st = As.reverse ++ .ref b :: rest)
    (hn : As.length = n) (hcat : (rest.map fun v => v.category).sum ≤ 8) (hfr : d + 1 ≤ J.2.1.frames) (hlo : d * 64 + 64 ≤ J.2.1.locals) (hb1 : mc + bc' ≤ bc) (hb2 : ms + bs' ≤ bs)
    (kx : ∀ E h', Qx E h' → zT G l J bc' bs' h' E pc ls) (kk : ∀ v h', Qn v h' → zR G l J bc' bs' h' (pc + 3) ls (v.toList ++ rest)) : zR G l J bc bs h pc ls st := by
  intro p e s m args below meth c H locs cells slots ls0 C0 hP hS hL h1 h2
  have hts := C0.2.2.2.2.2.2.2.1
  have hM1 := hM C0.2.2.2.2.2.2.2.2.2.2.1
  rw [M.2.2.2] at hM1
  have hc9 : Cond.code y hd'.2.1 hd'.2.2.1 none ∈ zWS := by rw [← M.2.2.2]; exact M.1.2.1
  refine z_after C0 hP hS hL h1 h2 hb1 hb2 (vx_runIN (As := As) (rest := rest) (Ts := zWS) ⟨C0.1, C0.2.1, rfl, C0.2.2.2.2.2.2.1, hts⟩ hM1 ⟨va_cnB n hts (zgoodIn (fun _ h => h) (by
    intro w hw9
    rcases List.mem_cons.mp hw9 with q | q
    · rw [q]; exact hc9
    · exact q)) rfl rfl rfl (C0.2.2.2.2.2.2.2.2.2.1.2.2.1 _ hw) (hts _ M.1.1) M.1.2.2.1 ⟨hfr, by have := M.1.2.2.2; show 8 + (_ + 11) + d * 64 ≤ _; omega⟩, M.2.2.1, hts _ M.2.1⟩ ⟨zPc_blind, fun U hU hW => zPc_pre C0.2.2.2.2.2.2.2.2.2.1 hP hS U hU hW⟩ rfl hn (hL.1.trans C0.2.2.1.symm) hst (lv_room hcat) hd ⟨by show cells + mc ≤ _; omega, by show slots + ms ≤ _; omega⟩) kx kk
/-- Object.<init> -/
theorem z_obj {i b : Nat} {rest : List Value} (hw : Cond.methodLink J.1.1 i objectInit ∈ zWS) (hi : Cond.instanceMethod objectInit ∈ zWS) (hc : Cond.code objectInit ⟨#[0xb1]⟩ 1 none ∈ zWS) (hd : decode J.1.2.1 pc = .ok (.invokespecial i, 3)) (hcat : (rest.map fun v => v.category).sum ≤ 8) (hfr : 1 ≤ J.2.1.frames) (hlo : 64 ≤ J.2.1.locals)
    (kk : zR G l J bc bs h (pc + 3) ls rest) : zR G l J bc bs h pc ls (.ref b :: rest) := by
  intro p e s m args below meth c H locs cells slots ls0 C0 hP hS hL h1 h2
  have hts := C0.2.2.2.2.2.2.2.1
  have hr := lv_room (m := m) (pc := pc) (ls := ls0) (rest := .ref b :: rest) hcat
  refine W.objInit C0.1 C0.2.1 C0.2.2.2.2.2.2.1 (hts _ hw) (hts _ hi) (hts _ hc) rfl (hL.1.trans C0.2.2.1.symm) rfl hd hfr (by omega) ?_
  exact kk p e s m args below meth c H locs cells slots ls0 C0 hP hS hL h1 h2
/-! ===== ends ===== -/
variable {hd9 : zHd} {d mc ms : Nat} {Qn : Option Value → zHp → Prop} {Qx : String → zHp → Prop}
theorem z_iret {ty : FieldType} {x : Int32} (hrt : hd9.2.2.2.1 = some ty) (hn : narrow ty (.int x) = .int x) (hd : decode hd9.2.1 pc = .ok (.ireturn, 1)) (hq : Qn (some (.int x)) h) : zR G l (zMJ G hd9 d Qn Qx mc ms) bc bs h pc ls [.int x] := by
  intro p e s m args below meth c H locs cells slots ls0 C0 hP hS hL h1 h2
  have e1 : cells ≤ mc := by have : cells + bc ≤ mc := h1; omega
  have e2 : slots ≤ ms := by have : slots + bs ≤ ms := h2; omega
  refine vx_ret (W.widen (k := mc) (n := ms) e1 e2 ?_)
  exact W.zret (v := x) C0.1 C0.2.1 (C0.2.2.2.1.trans hrt) hn (fun t ht hW => ⟨_, h, rfl, hq, by rw [ht]; exact hP, hS.F ht⟩) hS.2.2 hd C0.2.2.2.2.2.2.2.2.1
theorem z_lret {x : Int64} (hrt : hd9.2.2.2.1 = some .long) (hd : decode hd9.2.1 pc = .ok (.lreturn, 1)) (hq : Qn (some (.long x)) h) : zR G l (zMJ G hd9 d Qn Qx mc ms) bc bs h pc ls [.long x] := by
  intro p e s m args below meth c H locs cells slots ls0 C0 hP hS hL h1 h2
  have e1 : cells ≤ mc := by have : cells + bc ≤ mc := h1; omega
  have e2 : slots ≤ ms := by have : slots + bs ≤ ms := h2; omega
  refine vx_ret (W.widen (k := mc) (n := ms) e1 e2 ?_)
  exact W.lret (v := x) C0.1 C0.2.1 (C0.2.2.2.1.trans hrt) (fun t ht hW => ⟨_, h, rfl, hq, by rw [ht]; exact hP, hS.F ht⟩) hS.2.2 hd C0.2.2.2.2.2.2.2.2.1
theorem z_vret (hrt : hd9.2.2.2.1 = none) (hd : decode hd9.2.1 pc = .ok (.return_, 1)) (hq : Qn none h) : zR G l (zMJ G hd9 d Qn Qx mc ms) bc bs h pc ls [] := by
  intro p e s m args below meth c H locs cells slots ls0 C0 hP hS hL h1 h2
  have e1 : cells ≤ mc := by have : cells + bc ≤ mc := h1; omega
  have e2 : slots ≤ ms := by have : slots + bs ≤ ms := h2; omega
  refine vx_ret (W.widen (k := mc) (n := ms) e1 e2 ?_)
  exact W.vret C0.1 C0.2.1 (C0.2.2.2.1.trans hrt) (fun t ht hW => ⟨_, h, rfl, hq, by rw [ht]; exact hP, hS.F ht⟩) hS.2.2 hd C0.2.2.2.2.2.2.2.2.1
theorem z_aret {rt : FieldType} {v : Value} (hrt : hd9.2.2.2.1 = some rt) (hk : (∃ n, rt = .object n) ∨ ∃ t, rt = .array t) (hv : v = .null ∨ ∃ a, v = .ref a) (hd : decode hd9.2.1 pc = .ok (.areturn, 1)) (hq : Qn (some v) h) : zR G l (zMJ G hd9 d Qn Qx mc ms) bc bs h pc ls [v] := by
  intro p e s m args below meth c H locs cells slots ls0 C0 hP hS hL h1 h2
  have e1 : cells ≤ mc := by have : cells + bc ≤ mc := h1; omega
  have e2 : slots ≤ ms := by have : slots + bs ≤ ms := h2; omega
  refine vx_ret (W.widen (k := mc) (n := ms) e1 e2 ?_)
  exact W.aret (v := v) C0.1 C0.2.1 (C0.2.2.2.1.trans hrt) hk hv (fun t ht hW => ⟨_, h, rfl, hq, by rw [ht]; exact hP, hS.F ht⟩) hS.2.2 hd C0.2.2.2.2.2.2.2.2.1
/-- it goes on to the caller -/
theorem z_out {E : String} (ht : hd9.2.2.2.2.1 = []) (hq : Qx E h) : zT G l (zMJ G hd9 d Qn Qx mc ms) bc bs h E pc ls := by
  intro p e s m args below meth c H locs cells slots ls0 q ce rest C0 hP hS hL h1 h2 hq9 hv hcl
  refine vx_out (fun x hx => ?_) C0.2.2.2.2.2.2.2.2.1 hq9 hv hcl (fun t ht9 hA => ⟨h, hq, by rw [ht9]; exact hP, hS.F ht9⟩) hS.2.2 (by have : cells + bc ≤ mc := h1; omega) (by have : slots + bs ≤ ms := h2; omega)
  rw [C0.2.2.2.2.1] at hx
  have h9 : tableOf hd9.2.2.2.2.1 = [] := by rw [ht]; rfl
  exact absurd (h9 ▸ hx) (by simp)
/-- throw new E("text") -/
theorem z_throw {ik is ic : Nat} {E text : String} {names : List String} (hE : Bundle.fit E = true) (hnm : ∀ n ∈ names, Bundle.fit n = true) (hw : Cond.classLink hd9.1 ik E ∈ zWS) (hini : Cond.initialized E ∈ zWS) (htx : (hd9.1, is, text) ∈ zTexts) (hat : ∀ w ∈ vx_atS hd9.1 ic E names, w ∈ lw_tbl) (hgd : ∀ w ∈ vx_atS hd9.1 ic E names, goodWord w = true ∨ zIsN w = true)
    (hot : ∀ w ∈ Cond.classLink hd9.1 ik E :: Cond.initialized E :: vx_atS hd9.1 ic E names, vx_ot w = true) (ht : hd9.2.2.2.2.1 = [])
    (d0 : decode hd9.2.1 pc = .ok (.new ik, 3)) (d3 : decode hd9.2.1 (pc + 3) = .ok (.dup, 1)) (d4 : decode hd9.2.1 (pc + 4) = .ok (.ldc is, 2)) (d6 : decode hd9.2.1 (pc + 6) = .ok (.invokespecial ic, 3)) (d9 : decode hd9.2.1 (pc + 9) = .ok (.athrow, 1))
    (hfr : names.length + 3 < d) (hlo : (st.map fun v => v.category).sum + (13 * (names.length + 1) + 43) ≤ d * 64) (hb1 : 1 ≤ bc) (hb2 : 6 ≤ bs) (hq : Qx E h) : zR G l (zMJ G hd9 d Qn Qx mc ms) bc bs h pc ls st := by
  intro p e s m args below meth c H locs cells slots ls0 C0 hP hS hL h1 h2
  have hts := C0.2.2.2.2.2.2.2.1
  have hZ := C0.2.2.2.2.2.2.2.2.2.1
  have g1 : cells + bc ≤ mc := h1
  have g2 : slots + bs ≤ ms := h2
  obtain ⟨sa, hsa⟩ := hZ.2.2.2.1 _ htx
  refine vx_throwS (sa := sa) (names := names) (text := text) C0.1 C0.2.1 C0.2.2.2.2.2.2.2.2.2.2.1 C0.2.2.2.2.2.2.1 hE hnm (hts _ hw) (hts _ hini) hsa (fun w hw9 => ?_) hot hZ.2.2.2.2.2.1 hZ.2.2.2.2.2.2.1 hS (hL.1.trans C0.2.2.1.symm) d0 d3 d4 d6 d9 (fun x hx => ?_) hfr hlo (by show cells + 1 ≤ mc; omega) (by show slots + 6 ≤ ms; omega) C0.2.2.2.2.2.2.2.2.1 (fun t hA hz hk => ⟨h, hq, hP.keep hz hk, ?_⟩) hS.2.2 (by omega) (by omega)
  · rcases hgd w hw9 with q | q
    · exact hts _ (List.mem_filter.mpr ⟨hat w hw9, q⟩)
    · have h9 := hZ.2.2.1 w (List.mem_filter.mpr ⟨hat w hw9, q⟩)
      cases w <;> first | exact va_Nw.use rfl h9 | (simp [zIsN] at q)
  · rw [C0.2.2.2.2.1] at hx
    have h9 : tableOf hd9.2.2.2.2.1 = [] := by rw [ht]; rfl
    exact absurd (h9 ▸ hx) (by simp)
  · exact ⟨Nat.le_trans hS.1 hz, fun q q1 q2 => (hk q (Nat.lt_of_lt_of_le q1 hS.1)).trans (hS.2.1 q q1 q2)⟩
end ZD
end
section
theorem zin_of {L : List Cond} (hL : ∀ w ∈ L, w ∈ lw_tbl) {i : Nat} {w : Cond} (h : L[i]? = some w) (hg : goodWord w = true) : w ∈ zWS := List.mem_filter.mpr ⟨hL w (List.mem_of_getElem? h), hg⟩
theorem zinN_of {L : List Cond} (hL : ∀ w ∈ L, w ∈ lw_tbl) {i : Nat} {w : Cond} (h : L[i]? = some w) (hg : zIsN w = true) : w ∈ zNW := List.mem_filter.mpr ⟨hL w (List.mem_of_getElem? h), hg⟩
theorem zc0 : ∀ w ∈ k2_sels lw_privs, w ∈ lw_tbl := fun _ h => List.mem_append_left _ h
theorem zc1 : ∀ w ∈ tables_1_1, w ∈ lw_tbl := fun _ h => List.mem_append_right _ (List.mem_append_left _ h)
theorem zc2 : ∀ w ∈ tables_1_2, w ∈ lw_tbl := fun _ h => List.mem_append_right _ (List.mem_append_right _ (List.mem_append_left _ h))
theorem zc3 : ∀ w ∈ tables_1_3, w ∈ lw_tbl := fun _ h => List.mem_append_right _ (List.mem_append_right _ (List.mem_append_right _ (List.mem_append_left _ h)))
theorem zc4 : ∀ w ∈ tables_1_4, w ∈ lw_tbl := fun _ h => List.mem_append_right _ (List.mem_append_right _ (List.mem_append_right _ (List.mem_append_right _ (List.mem_append_left _ h))))
theorem zc5 : ∀ w ∈ tables_1_5, w ∈ lw_tbl := fun _ h => List.mem_append_right _ (List.mem_append_right _ (List.mem_append_right _ (List.mem_append_right _ (List.mem_append_right _ (List.mem_append_left _ h)))))
theorem zc6 : ∀ w ∈ tables_1_6, w ∈ lw_tbl := fun _ h => List.mem_append_right _ (List.mem_append_right _ (List.mem_append_right _ (List.mem_append_right _ (List.mem_append_right _ (List.mem_append_right _ (List.mem_append_left _ h))))))
theorem zc7 : ∀ w ∈ tables_1_7, w ∈ lw_tbl := fun _ h => List.mem_append_right _ (List.mem_append_right _ (List.mem_append_right _ (List.mem_append_right _ (List.mem_append_right _ (List.mem_append_right _ (List.mem_append_right _ (h)))))))
def hCur_init : zHd := (RCur, cCur_init, 1, (Option.none : Option FieldType), [], true)
def hCur_begin : zHd := (RCur, cCur_begin, 3, (Option.none : Option FieldType), [], false)
def hCur_stepForth : zHd := (RCur, cCur_stepForth, 2, (Option.some FieldType.int), [], false)
def hCur_stepBack : zHd := (RCur, cCur_stepBack, 2, (Option.some FieldType.int), [], false)
def hCur_putHere : zHd := (RCur, cCur_putHere, 3, (Option.some FieldType.boolean), [], false)
def hCur_cutLast : zHd := (RCur, cCur_cutLast, 2, (Option.none : Option FieldType), [], false)
def hRec_init : zHd := (RRec, cRec_init, 1, (Option.none : Option FieldType), [], true)
def hRec_begin : zHd := (RRec, cRec_begin, 2, (Option.none : Option FieldType), [], false)
def hRec_bringAhead : zHd := (RRec, cRec_bringAhead, 3, (Option.some FieldType.int), [], false)
def hRec_costBy : zHd := (RRec, cRec_costBy, 4, (Option.some FieldType.int), [], false)
def hRec_boundBy : zHd := (RRec, cRec_boundBy, 2, (Option.some FieldType.int), [], false)
def hRow_init : zHd := (RRow, cRow_init, 1, (Option.none : Option FieldType), [], true)
def hRow_hasPlace : zHd := (RRow, cRow_hasPlace, 2, (Option.some FieldType.boolean), [], false)
def hRow_hasGap : zHd := (RRow, cRow_hasGap, 2, (Option.some FieldType.boolean), [], false)
def hRow_itemAt : zHd := (RRow, cRow_itemAt, 2, (Option.some FieldType.int), [], false)
def hRow_changeAt : zHd := (RRow, cRow_changeAt, 3, (Option.none : Option FieldType), [], false)
def hRow_putIn : zHd := (RRow, cRow_putIn, 4, (Option.some FieldType.boolean), [], false)
def hRow_takeOut : zHd := (RRow, cRow_takeOut, 4, (Option.some FieldType.int), [], false)
def hRow_takeOutAll : zHd := (RRow, cRow_takeOutAll, 5, (Option.some FieldType.int), [], false)
def hRow_placeOf : zHd := (RRow, cRow_placeOf, 5, (Option.some FieldType.int), [], false)
def hRow_lastNotZero : zHd := (RRow, cRow_lastNotZero, 3, (Option.some FieldType.int), [], false)
def hRow_isAs : zHd := (RRow, cRow_isAs, 3, (Option.some FieldType.boolean), [], false)
def hRow_joined : zHd := (RRow, cRow_joined, 4, (Option.some (FieldType.object "java/lang/String")), [], false)
def hRow_exchange : zHd := (RRow, cRow_exchange, 4, (Option.none : Option FieldType), [], false)
def hRow_turnRound : zHd := (RRow, cRow_turnRound, 2, (Option.none : Option FieldType), [], false)
def hRow_turnBy : zHd := (RRow, cRow_turnBy, 4, (Option.none : Option FieldType), [], false)
def hRow_become : zHd := (RRow, cRow_become, 3, (Option.none : Option FieldType), [], false)
def hRow_becomePlaces : zHd := (RRow, cRow_becomePlaces, 3, (Option.none : Option FieldType), [], false)
def hRow_addBehind : zHd := (RRow, cRow_addBehind, 2, (Option.some FieldType.boolean), [], false)
def hRow_becomeJoined : zHd := (RRow, cRow_becomeJoined, 5, (Option.some FieldType.boolean), [], false)
def hRow_becomeThrough : zHd := (RRow, cRow_becomeThrough, 5, (Option.some FieldType.boolean), [], false)
def hRow_becomeSum : zHd := (RRow, cRow_becomeSum, 5, (Option.some FieldType.boolean), [], false)
def hRow_becomeProduct : zHd := (RRow, cRow_becomeProduct, 5, (Option.some FieldType.boolean), [], false)
def hRow_coefficientOfProduct : zHd := (RRow, cRow_coefficientOfProduct, 5, (Option.some FieldType.int), [], false)
def hRow_becomeDerived : zHd := (RRow, cRow_becomeDerived, 3, (Option.some FieldType.boolean), [], false)
def hRow_restAt : zHd := (RRow, cRow_restAt, 4, (Option.some FieldType.int), [], false)
def hRow_isOrder : zHd := (RRow, cRow_isOrder, 2, (Option.some FieldType.boolean), [], false)
def hRow_inversions : zHd := (RRow, cRow_inversions, 4, (Option.some FieldType.int), [], false)
def hCls_init : zHd := (RCls, cCls_init, 2, (Option.none : Option FieldType), [], true)
def hCls_put : zHd := (RCls, cCls_put, 6, (Option.some FieldType.int), [], false)
def hCls_take : zHd := (RCls, cCls_take, 4, (Option.some FieldType.int), [], false)
def hCls_look : zHd := (RCls, cCls_look, 4, (Option.some FieldType.int), [], false)
def hCls_get : zHd := (RCls, cCls_get, 4, (Option.some FieldType.int), [], false)
def hCls_set : zHd := (RCls, cCls_set, 6, (Option.some FieldType.int), [], false)
def hCls_insert : zHd := (RCls, cCls_insert, 4, (Option.some FieldType.int), [], false)
def hCls_removeAt : zHd := (RCls, cCls_removeAt, 3, (Option.some FieldType.int), [], false)
def hCls_drop : zHd := (RCls, cCls_drop, 6, (Option.some FieldType.boolean), [], false)
def hCls_thin : zHd := (RCls, cCls_thin, 4, (Option.some FieldType.int), [], false)
def hCls_indexOf : zHd := (RCls, cCls_indexOf, 4, (Option.some FieldType.int), [], false)
def hCls_has : zHd := (RCls, cCls_has, 3, (Option.some FieldType.boolean), [], false)
def hCls_size : zHd := (RCls, cCls_size, 2, (Option.some FieldType.int), [], false)
def hCls_text : zHd := (RCls, cCls_text, 3, (Option.some (FieldType.object "java/lang/String")), [], false)
def hCls_clear : zHd := (RCls, cCls_clear, 4, (Option.some FieldType.int), [], false)
def hCls_append : zHd := (RCls, cCls_append, 5, (Option.some FieldType.int), [], false)
def hCls_appendAt : zHd := (RCls, cCls_appendAt, 6, (Option.some FieldType.int), [], false)
def hCls_copy : zHd := (RCls, cCls_copy, 5, (Option.some FieldType.int), [], false)
def hCls_places : zHd := (RCls, cCls_places, 4, (Option.some FieldType.int), [], false)
def hCls_rotate : zHd := (RCls, cCls_rotate, 4, (Option.some FieldType.int), [], false)
def hCls_move : zHd := (RCls, cCls_move, 6, (Option.some FieldType.int), [], false)
def hCls_swap : zHd := (RCls, cCls_swap, 5, (Option.some FieldType.int), [], false)
def hCls_reverse : zHd := (RCls, cCls_reverse, 3, (Option.some FieldType.int), [], false)
def hCls_through : zHd := (RCls, cCls_through, 6, (Option.some FieldType.int), [], false)
def hCls_areSame : zHd := (RCls, cCls_areSame, 3, (Option.some FieldType.boolean), [], false)
def hCls_isMirror : zHd := (RCls, cCls_isMirror, 3, (Option.some FieldType.boolean), [], false)
def hCls_open : zHd := (RCls, cCls_open, 6, (Option.some FieldType.int), [], false)
def hCls_shut : zHd := (RCls, cCls_shut, 4, (Option.some FieldType.boolean), [], false)
def hCls_forth : zHd := (RCls, cCls_forth, 3, (Option.some FieldType.int), [], false)
def hCls_back : zHd := (RCls, cCls_back, 3, (Option.some FieldType.int), [], false)
def hCls_puts : zHd := (RCls, cCls_puts, 4, (Option.some FieldType.int), [], false)
def hCls_cuts : zHd := (RCls, cCls_cuts, 3, (Option.some FieldType.int), [], false)
def hCls_changes : zHd := (RCls, cCls_changes, 4, (Option.some FieldType.int), [], false)
def hCls_meet : zHd := (RCls, cCls_meet, 5, (Option.some FieldType.int), [], false)
def hCls_ofCursor : zHd := (RCls, cCls_ofCursor, 4, (Option.some FieldType.int), [], false)
def hCls_plus : zHd := (RCls, cCls_plus, 3, (Option.some FieldType.int), [], false)
def hCls_times : zHd := (RCls, cCls_times, 3, (Option.some FieldType.int), [], false)
def hCls_shift : zHd := (RCls, cCls_shift, 3, (Option.some FieldType.int), [], false)
def hCls_trim : zHd := (RCls, cCls_trim, 4, (Option.some FieldType.int), [], false)
def hCls_derive : zHd := (RCls, cCls_derive, 2, (Option.some FieldType.int), [], false)
def hCls_value : zHd := (RCls, cCls_value, 4, (Option.some FieldType.int), [], false)
def hCls_degree : zHd := (RCls, cCls_degree, 2, (Option.some FieldType.int), [], false)
def hCls_ask : zHd := (RCls, cCls_ask, 2, (Option.some FieldType.int), [], false)
def hCls_forget : zHd := (RCls, cCls_forget, 2, (Option.some FieldType.int), [], false)
def hCls_asked : zHd := (RCls, cCls_asked, 2, (Option.some FieldType.int), [], false)
def hCls_recent : zHd := (RCls, cCls_recent, 1, (Option.some (FieldType.object "java/lang/String")), [], false)
def hCls_byOrder : zHd := (RCls, cCls_byOrder, 4, (Option.some FieldType.int), [], false)
def hCls_house : zHd := (RCls, cCls_house, 2, (Option.some FieldType.int), [], false)
def hCls_knock : zHd := (RCls, cCls_knock, 1, (Option.some FieldType.int), [], false)
def hCls_isSound : zHd := (RCls, cCls_isSound, 3, (Option.some FieldType.boolean), [], false)
def hCls_digest : zHd := (RCls, cCls_digest, 5, (Option.some FieldType.long), [], false)
def hCls_listAt : zHd := (RCls, cCls_listAt, 2, (Option.some (FieldType.object "Cursorlist$Row")), [], false)
def hCls_cursorAt : zHd := (RCls, cCls_cursorAt, 2, (Option.some (FieldType.object "Cursorlist$Cursor")), [], false)
def hCls_demandPlace : zHd := (RCls, cCls_demandPlace, 2, (Option.none : Option FieldType), [], false)
def hCls_demandGap : zHd := (RCls, cCls_demandGap, 2, (Option.none : Option FieldType), [], false)
def hCls_demandWithin : zHd := (RCls, cCls_demandWithin, 3, (Option.none : Option FieldType), [], false)
def hCls_demandItem : zHd := (RCls, cCls_demandItem, 1, (Option.none : Option FieldType), [], false)
def hCls_demandThere : zHd := (RCls, cCls_demandThere, 1, (Option.none : Option FieldType), [], false)
def hCls_refuse : zHd := (RCls, cCls_refuse, 1, (Option.some FieldType.int), [], false)
def hCls_makeStale : zHd := (RCls, cCls_makeStale, 4, (Option.none : Option FieldType), [], false)
def hCls_putInto : zHd := (RCls, cCls_putInto, 5, (Option.some FieldType.int), [], false)
def hCls_takeFrom : zHd := (RCls, cCls_takeFrom, 4, (Option.some FieldType.int), [], false)
def hCls_becomeResult : zHd := (RCls, cCls_becomeResult, 3, (Option.some FieldType.int), [], false)
def hCls_endOf : zHd := (RCls, cCls_endOf, 2, (Option.some FieldType.int), [], false)
def hCls_firstOf : zHd := (RCls, cCls_firstOf, 1, (Option.some FieldType.int), [], false)
def hCls_numberOf : zHd := (RCls, cCls_numberOf, 1, (Option.some FieldType.int), [], false)
def hCls_rowUnder : zHd := (RCls, cCls_rowUnder, 2, (Option.some (FieldType.object "Cursorlist$Row")), [], false)
def hCls_sumUntilMet : zHd := (RCls, cCls_sumUntilMet, 5, (Option.some FieldType.int), [], false)
def hCls_whereIs : zHd := (RCls, cCls_whereIs, 3, (Option.some FieldType.int), [], false)
def hCls_itemsOfAll : zHd := (RCls, cCls_itemsOfAll, 3, (Option.some FieldType.int), [], false)
def hCls_cursorsThere : zHd := (RCls, cCls_cursorsThere, 3, (Option.some FieldType.int), [], false)
def hCls_cursorsStale : zHd := (RCls, cCls_cursorsStale, 3, (Option.some FieldType.int), [], false)
def hCls_turnsBack : zHd := (RCls, cCls_turnsBack, 2, (Option.some FieldType.boolean), [], false)
def hCls_addsUp : zHd := (RCls, cCls_addsUp, 3, (Option.some FieldType.boolean), [], false)
def hCls_agreesWithResult : zHd := (RCls, cCls_agreesWithResult, 4, (Option.some FieldType.boolean), [], false)
def hCls_isResultAt : zHd := (RCls, cCls_isResultAt, 7, (Option.some FieldType.boolean), [], false)
def hCls_isRecencySound : zHd := (RCls, cCls_isRecencySound, 2, (Option.some FieldType.boolean), [], false)
def hCls_mixed : zHd := (RCls, cCls_mixed, 4, (Option.some FieldType.long), [], false)
def hCls_mixedWithItems : zHd := (RCls, cCls_mixedWithItems, 6, (Option.some FieldType.long), [], false)
def hCls_mixedWithList : zHd := (RCls, cCls_mixedWithList, 5, (Option.some FieldType.long), [], false)
def hCls_mixedWithOrder : zHd := (RCls, cCls_mixedWithOrder, 6, (Option.some FieldType.long), [], false)
def hOut_init : zHd := (ROut, cOut_init, 1, (Option.none : Option FieldType), [], true)
def hMod_init : zHd := (RMod, cMod_init, 1, (Option.none : Option FieldType), [], true)
def hMod_thrown : zHd := (RMod, cMod_thrown, 1, (Option.some FieldType.int), [], false)
def hMod_fails : zHd := (RMod, cMod_fails, 4, (Option.some FieldType.boolean), [], false)
def hMod_isOut : zHd := (RMod, cMod_isOut, 3, (Option.some FieldType.boolean), [], false)
def hMod_isNo : zHd := (RMod, cMod_isNo, 1, (Option.some FieldType.boolean), [], false)
def hMod_isNoCursor : zHd := (RMod, cMod_isNoCursor, 1, (Option.some FieldType.boolean), [], false)
def hMod_isNoItem : zHd := (RMod, cMod_isNoItem, 1, (Option.some FieldType.boolean), [], false)
def hMod_isNoPlace : zHd := (RMod, cMod_isNoPlace, 3, (Option.some FieldType.boolean), [], false)
def hMod_refused : zHd := (RMod, cMod_refused, 1, (Option.some FieldType.int), [], false)
def hMod_with : zHd := (RMod, cMod_with, 5, (Option.some (FieldType.array FieldType.int)), [], false)
def hMod_without : zHd := (RMod, cMod_without, 4, (Option.some (FieldType.array FieldType.int)), [], false)
def hMod_joined : zHd := (RMod, cMod_joined, 5, (Option.some (FieldType.array FieldType.int)), [], false)
def hMod_turned : zHd := (RMod, cMod_turned, 3, (Option.some (FieldType.array FieldType.int)), [], false)
def hMod_areLike : zHd := (RMod, cMod_areLike, 4, (Option.some FieldType.boolean), [], false)
def hMod_find : zHd := (RMod, cMod_find, 5, (Option.some FieldType.int), [], false)
def hMod_told : zHd := (RMod, cMod_told, 6, (Option.some (FieldType.object "java/lang/String")), [], false)
def hMod_become : zHd := (RMod, cMod_become, 5, (Option.none : Option FieldType), [], false)
def hMod_becomes : zHd := (RMod, cMod_becomes, 3, (Option.some FieldType.int), [], false)
def hMod_put : zHd := (RMod, cMod_put, 4, (Option.some FieldType.int), [], false)
def hMod_isAtEnd : zHd := (RMod, cMod_isAtEnd, 1, (Option.some FieldType.boolean), [], false)
def hMod_take : zHd := (RMod, cMod_take, 5, (Option.some FieldType.int), [], false)
def hMod_look : zHd := (RMod, cMod_look, 4, (Option.some FieldType.int), [], false)
def hMod_get : zHd := (RMod, cMod_get, 3, (Option.some FieldType.int), [], false)
def hMod_set : zHd := (RMod, cMod_set, 5, (Option.some FieldType.int), [], false)
def hMod_insert : zHd := (RMod, cMod_insert, 4, (Option.some FieldType.int), [], false)
def hMod_removeAt : zHd := (RMod, cMod_removeAt, 4, (Option.some FieldType.int), [], false)
def hMod_drop : zHd := (RMod, cMod_drop, 5, (Option.some FieldType.boolean), [], false)
def hMod_thin : zHd := (RMod, cMod_thin, 5, (Option.some FieldType.int), [], false)
def hMod_indexOf : zHd := (RMod, cMod_indexOf, 4, (Option.some FieldType.int), [], false)
def hMod_has : zHd := (RMod, cMod_has, 3, (Option.some FieldType.boolean), [], false)
def hMod_size : zHd := (RMod, cMod_size, 2, (Option.some FieldType.int), [], false)
def hMod_text : zHd := (RMod, cMod_text, 3, (Option.some (FieldType.object "java/lang/String")), [], false)
def hMod_clear : zHd := (RMod, cMod_clear, 3, (Option.some FieldType.int), [], false)
def hMod_append : zHd := (RMod, cMod_append, 3, (Option.some FieldType.int), [], false)
def hMod_joins : zHd := (RMod, cMod_joins, 4, (Option.some FieldType.int), [], false)
def hMod_appendAt : zHd := (RMod, cMod_appendAt, 4, (Option.some FieldType.int), [], false)
def hMod_copied : zHd := (RMod, cMod_copied, 1, (Option.some (FieldType.array FieldType.int)), [], false)
def hMod_copy : zHd := (RMod, cMod_copy, 3, (Option.some FieldType.int), [], false)
def hMod_places : zHd := (RMod, cMod_places, 5, (Option.some FieldType.int), [], false)
def hMod_first : zHd := (RMod, cMod_first, 2, (Option.some FieldType.int), [], false)
def hMod_rotate : zHd := (RMod, cMod_rotate, 8, (Option.some FieldType.int), [], false)
def hMod_move : zHd := (RMod, cMod_move, 5, (Option.some FieldType.int), [], false)
def hMod_swap : zHd := (RMod, cMod_swap, 5, (Option.some FieldType.int), [], false)
def hMod_reverse : zHd := (RMod, cMod_reverse, 2, (Option.some FieldType.int), [], false)
def hMod_through : zHd := (RMod, cMod_through, 6, (Option.some FieldType.int), [], false)
def hMod_areSame : zHd := (RMod, cMod_areSame, 3, (Option.some FieldType.boolean), [], false)
def hMod_isMirror : zHd := (RMod, cMod_isMirror, 2, (Option.some FieldType.boolean), [], false)
def hMod_open : zHd := (RMod, cMod_open, 4, (Option.some FieldType.int), [], false)
def hMod_shut : zHd := (RMod, cMod_shut, 3, (Option.some FieldType.boolean), [], false)
def hMod_isNotThere : zHd := (RMod, cMod_isNotThere, 2, (Option.some FieldType.boolean), [], false)
def hMod_goes : zHd := (RMod, cMod_goes, 5, (Option.some FieldType.int), [], false)
def hMod_asksOn : zHd := (RMod, cMod_asksOn, 3, (Option.some FieldType.int), [], false)
def hMod_forth : zHd := (RMod, cMod_forth, 2, (Option.some FieldType.int), [], false)
def hMod_back : zHd := (RMod, cMod_back, 2, (Option.some FieldType.int), [], false)
def hMod_puts : zHd := (RMod, cMod_puts, 3, (Option.some FieldType.int), [], false)
def hMod_cuts : zHd := (RMod, cMod_cuts, 2, (Option.some FieldType.int), [], false)
def hMod_changes : zHd := (RMod, cMod_changes, 3, (Option.some FieldType.int), [], false)
def hMod_meet : zHd := (RMod, cMod_meet, 6, (Option.some FieldType.int), [], false)
def hMod_ofCursorNow : zHd := (RMod, cMod_ofCursorNow, 5, (Option.some FieldType.int), [], false)
def hMod_ofCursor : zHd := (RMod, cMod_ofCursor, 3, (Option.some FieldType.int), [], false)
def hMod_fitting : zHd := (RMod, cMod_fitting, 3, (Option.some (FieldType.array FieldType.int)), [], false)
def hMod_fits : zHd := (RMod, cMod_fits, 4, (Option.some FieldType.int), [], false)
def hMod_plus : zHd := (RMod, cMod_plus, 7, (Option.some FieldType.int), [], false)
def hMod_times : zHd := (RMod, cMod_times, 8, (Option.some FieldType.int), [], false)
def hMod_shift : zHd := (RMod, cMod_shift, 2, (Option.some FieldType.int), [], false)
def hMod_trim : zHd := (RMod, cMod_trim, 3, (Option.some FieldType.int), [], false)
def hMod_derive : zHd := (RMod, cMod_derive, 4, (Option.some FieldType.int), [], false)
def hMod_rest : zHd := (RMod, cMod_rest, 2, (Option.some FieldType.int), [], false)
def hMod_valueOf : zHd := (RMod, cMod_valueOf, 10, (Option.some FieldType.int), [], false)
def hMod_value : zHd := (RMod, cMod_value, 3, (Option.some FieldType.int), [], false)
def hMod_degreeOf : zHd := (RMod, cMod_degreeOf, 3, (Option.some FieldType.int), [], false)
def hMod_degree : zHd := (RMod, cMod_degree, 2, (Option.some FieldType.int), [], false)
def hMod_ask : zHd := (RMod, cMod_ask, 3, (Option.some FieldType.int), [], false)
def hMod_forget : zHd := (RMod, cMod_forget, 3, (Option.some FieldType.int), [], false)
def hMod_askedNow : zHd := (RMod, cMod_askedNow, 2, (Option.some FieldType.int), [], false)
def hMod_asked : zHd := (RMod, cMod_asked, 2, (Option.some FieldType.int), [], false)
def hMod_recent : zHd := (RMod, cMod_recent, 1, (Option.some (FieldType.object "java/lang/String")), [], false)
def hMod_isOrder : zHd := (RMod, cMod_isOrder, 3, (Option.some FieldType.boolean), [], false)
def hMod_byOrderNow : zHd := (RMod, cMod_byOrderNow, 7, (Option.some FieldType.int), [], false)
def hMod_byOrder : zHd := (RMod, cMod_byOrder, 3, (Option.some FieldType.int), [], false)
def hMod_houseNow : zHd := (RMod, cMod_houseNow, 9, (Option.some FieldType.int), [], false)
def hMod_house : zHd := (RMod, cMod_house, 2, (Option.some FieldType.int), [], false)
def hMod_knock : zHd := (RMod, cMod_knock, 1, (Option.some FieldType.int), [], false)
def hMod_isSound : zHd := (RMod, cMod_isSound, 1, (Option.some FieldType.boolean), [], false)
def hMod_add : zHd := (RMod, cMod_add, 4, (Option.some FieldType.long), [], false)
def hMod_digest : zHd := (RMod, cMod_digest, 11, (Option.some FieldType.long), [], false)
def hAsb_init_d00df : zHd := (RAsb, cAsb_init_d00df, 2, (Option.none : Option FieldType), [], true)
def hAsb_length_8abf5 : zHd := (RAsb, cAsb_length_8abf5, 1, (Option.some FieldType.int), [], false)
def hAsb_ensureCapacityInternal_d00df : zHd := (RAsb, cAsb_ensureCapacityInternal_d00df, 3, (Option.none : Option FieldType), [], false)
def hAsb_newCapacity_0f7a4 : zHd := (RAsb, cAsb_newCapacity_0f7a4, 6, (Option.some FieldType.int), [], false)
def hAsb_inflate_da8c8 : zHd := (RAsb, cAsb_inflate_da8c8, 2, (Option.none : Option FieldType), [], false)
def hAsb_append_cf1ce : zHd := (RAsb, cAsb_append_cf1ce, 3, (Option.some (FieldType.object "java/lang/AbstractStringBuilder")), [], false)
def hAsb_appendNull_278bc : zHd := (RAsb, cAsb_appendNull_278bc, 3, (Option.some (FieldType.object "java/lang/AbstractStringBuilder")), [], false)
def hAsb_append_3fe6f : zHd := (RAsb, cAsb_append_3fe6f, 2, (Option.some (FieldType.object "java/lang/AbstractStringBuilder")), [], false)
def hAsb_append_c97b9 : zHd := (RAsb, cAsb_append_c97b9, 4, (Option.some (FieldType.object "java/lang/AbstractStringBuilder")), [], false)
def hAsb_getValue_6d5f1 : zHd := (RAsb, cAsb_getValue_6d5f1, 1, (Option.some (FieldType.array FieldType.byte)), [], false)
def hAsb_isLatin1_aae02 : zHd := (RAsb, cAsb_isLatin1_aae02, 1, (Option.some FieldType.boolean), [], false)
def hAsb_inflateIfNeededFor_a7421 : zHd := (RAsb, cAsb_inflateIfNeededFor_a7421, 2, (Option.none : Option FieldType), [], false)
def hAsb_putStringAt_47b60 : zHd := (RAsb, cAsb_putStringAt_47b60, 3, (Option.none : Option FieldType), [], false)
def hInt_getChars_ba4f3 : zHd := (RInt, cInt_getChars_ba4f3, 7, (Option.some FieldType.int), [], false)
def hInt_stringSize_0f7a4 : zHd := (RInt, cInt_stringSize_0f7a4, 4, (Option.some FieldType.int), [], false)
def hMth_floorMod_7cf53 : zHd := (RMth, cMth_floorMod_7cf53, 3, (Option.some FieldType.int), [], false)
def hMth_max_7cf53 : zHd := (RMth, cMth_max_7cf53, 2, (Option.some FieldType.int), [], false)
def hMth_min_7cf53 : zHd := (RMth, cMth_min_7cf53, 2, (Option.some FieldType.int), [], false)
def hStr_init_81219 : zHd := (RStr, cStr_init_81219, 2, (Option.none : Option FieldType), [], true)
def hStr_length_8abf5 : zHd := (RStr, cStr_length_8abf5, 1, (Option.some FieldType.int), [], false)
def hStr_getBytes_840e7 : zHd := (RStr, cStr_getBytes_840e7, 4, (Option.none : Option FieldType), [], false)
def hStr_init_db425 : zHd := (RStr, cStr_init_db425, 5, (Option.none : Option FieldType), [], true)
def hStr_coder_7d493 : zHd := (RStr, cStr_coder_7d493, 1, (Option.some FieldType.byte), [], false)
def hStr_checkIndex_df160 : zHd := (RStr, cStr_checkIndex_df160, 2, (Option.none : Option FieldType), [], false)
def hStr_checkBoundsOffCount_cabcc : zHd := (RStr, cStr_checkBoundsOffCount_cabcc, 3, (Option.some FieldType.int), [], false)
def hStr_checkBoundsBeginEnd_23922 : zHd := (RStr, cStr_checkBoundsBeginEnd_23922, 3, (Option.none : Option FieldType), [], false)
def hSbd_init_da8c8 : zHd := (RSbd, cSbd_init_da8c8, 1, (Option.none : Option FieldType), [], true)
def hSbd_append_15ec4 : zHd := (RSbd, cSbd_append_15ec4, 2, (Option.some (FieldType.object "java/lang/StringBuilder")), [], false)
def hSbd_append_cf468 : zHd := (RSbd, cSbd_append_cf468, 2, (Option.some (FieldType.object "java/lang/StringBuilder")), [], false)
def hSbd_append_bf812 : zHd := (RSbd, cSbd_append_bf812, 2, (Option.some (FieldType.object "java/lang/StringBuilder")), [], false)
def hSbd_toString_0e30d : zHd := (RSbd, cSbd_toString_0e30d, 1, (Option.some (FieldType.object "java/lang/String")), [], false)
def hSbd_length_8abf5 : zHd := (RSbd, cSbd_length_8abf5, 1, (Option.some FieldType.int), [], false)
def hLat_canEncode_fc78d : zHd := (RLat, cLat_canEncode_fc78d, 1, (Option.some FieldType.boolean), [], false)
def hLat_inflate_0e8fd : zHd := (RLat, cLat_inflate_0e8fd, 5, (Option.none : Option FieldType), [], false)
def hUtf_newBytesFor_77867 : zHd := (RUtf, cUtf_newBytesFor_77867, 1, (Option.some (FieldType.array FieldType.byte)), [], false)
def hUtf_newBytesLength_0f7a4 : zHd := (RUtf, cUtf_newBytesLength_0f7a4, 1, (Option.some FieldType.int), [], false)
def hUtf_putChar_b72d1 : zHd := (RUtf, cUtf_putChar_b72d1, 3, (Option.none : Option FieldType), [], false)
def hUtf_getChar_3b067 : zHd := (RUtf, cUtf_getChar_3b067, 2, (Option.some FieldType.char), [], false)
def hUtf_length_9d52b : zHd := (RUtf, cUtf_length_9d52b, 1, (Option.some FieldType.int), [], false)
def hUtf_coderFromArrayLen_85cad : zHd := (RUtf, cUtf_coderFromArrayLen_85cad, 2, (Option.some FieldType.byte), [], false)
def hUtf_compress_39247 : zHd := (RUtf, cUtf_compress_39247, 6, (Option.some (FieldType.array FieldType.byte)), [], false)
def hUtf_compress_5af95 : zHd := (RUtf, cUtf_compress_5af95, 7, (Option.some FieldType.int), [], false)
def hUtf_putCharSB_b72d1 : zHd := (RUtf, cUtf_putCharSB_b72d1, 3, (Option.none : Option FieldType), [], false)
def hUtf_getChars_46870 : zHd := (RUtf, cUtf_getChars_46870, 5, (Option.some FieldType.int), [], false)
def hUtf_putCharsAt_cd4e5 : zHd := (RUtf, cUtf_putCharsAt_cd4e5, 7, (Option.some FieldType.int), [], false)
def hUtf_inflate_0e8fd : zHd := (RUtf, cUtf_inflate_0e8fd, 6, (Option.none : Option FieldType), [], false)
def hUtf_getChars_ba4f3 : zHd := (RUtf, cUtf_getChars_ba4f3, 7, (Option.some FieldType.int), [], false)
def hUtf_checkIndex_2214a : zHd := (RUtf, cUtf_checkIndex_2214a, 2, (Option.none : Option FieldType), [], false)
def hUtf_checkBoundsBeginEnd_d044e : zHd := (RUtf, cUtf_checkBoundsBeginEnd_d044e, 3, (Option.none : Option FieldType), [], false)
def hUtf_checkBoundsOffCount_d044e : zHd := (RUtf, cUtf_checkBoundsOffCount_d044e, 3, (Option.none : Option FieldType), [], false)
def hArr_copyOf_9075b : zHd := (RArr, cArr_copyOf_9075b, 3, (Option.some (FieldType.array FieldType.byte)), [], false)
def hArr_checkLength_df160 : zHd := (RArr, cArr_checkLength_df160, 2, (Option.none : Option FieldType), [], false)
def hArr_copyOfRange_39247 : zHd := (RArr, cArr_copyOfRange_39247, 3, (Option.some (FieldType.array FieldType.byte)), [], false)
def hArr_copyOfRangeByte_39247 : zHd := (RArr, cArr_copyOfRangeByte_39247, 5, (Option.some (FieldType.array FieldType.byte)), [], false)
def hAsu_newLength_cabcc : zHd := (RAsu, cAsu_newLength_cabcc, 4, (Option.some FieldType.int), [], false)
def hAsu_hugeLength_7cf53 : zHd := (RAsu, cAsu_hugeLength_7cf53, 3, (Option.some FieldType.int), [], false)
def hPrc_checkIndex_8e157 : zHd := (RPrc, cPrc_checkIndex_8e157, 3, (Option.some FieldType.int), [], false)
def hPrc_checkFromToIndex_8c36e : zHd := (RPrc, cPrc_checkFromToIndex_8c36e, 4, (Option.some FieldType.int), [], false)
def hPrc_checkFromIndexSize_8c36e : zHd := (RPrc, cPrc_checkFromIndexSize_8c36e, 4, (Option.some FieldType.int), [], false)
def hLaw_put : zHd := (RLaw, cLaw_put, 6, (Option.some FieldType.int), [((0 : Nat), (13 : Nat), (16 : Nat), (19 : Nat)), ((0 : Nat), (13 : Nat), (20 : Nat), (21 : Nat))], false)
def hLaw_take : zHd := (RLaw, cLaw_take, 5, (Option.some FieldType.int), [((0 : Nat), (11 : Nat), (14 : Nat), (19 : Nat)), ((0 : Nat), (11 : Nat), (18 : Nat), (21 : Nat))], false)
def hLaw_look : zHd := (RLaw, cLaw_look, 5, (Option.some FieldType.int), [((0 : Nat), (11 : Nat), (14 : Nat), (19 : Nat)), ((0 : Nat), (11 : Nat), (18 : Nat), (21 : Nat))], false)
def hLaw_get : zHd := (RLaw, cLaw_get, 5, (Option.some FieldType.int), [((0 : Nat), (11 : Nat), (14 : Nat), (19 : Nat))], false)
def hLaw_set : zHd := (RLaw, cLaw_set, 6, (Option.some FieldType.int), [((0 : Nat), (13 : Nat), (16 : Nat), (19 : Nat)), ((0 : Nat), (13 : Nat), (20 : Nat), (21 : Nat))], false)
def hLaw_insert : zHd := (RLaw, cLaw_insert, 6, (Option.some FieldType.int), [((0 : Nat), (13 : Nat), (16 : Nat), (19 : Nat)), ((0 : Nat), (13 : Nat), (20 : Nat), (21 : Nat))], false)
def hLaw_removeAt : zHd := (RLaw, cLaw_removeAt, 5, (Option.some FieldType.int), [((0 : Nat), (11 : Nat), (14 : Nat), (19 : Nat))], false)
def hLaw_drop : zHd := (RLaw, cLaw_drop, 6, (Option.some FieldType.int), [((0 : Nat), (20 : Nat), (23 : Nat), (19 : Nat))], false)
def hLaw_thin : zHd := (RLaw, cLaw_thin, 5, (Option.some FieldType.int), [((0 : Nat), (11 : Nat), (14 : Nat), (19 : Nat))], false)
def hLaw_indexOf : zHd := (RLaw, cLaw_indexOf, 6, (Option.some FieldType.int), [((0 : Nat), (13 : Nat), (16 : Nat), (19 : Nat))], false)
def hLaw_has : zHd := (RLaw, cLaw_has, 5, (Option.some FieldType.int), [((0 : Nat), (18 : Nat), (21 : Nat), (19 : Nat))], false)
def hLaw_size : zHd := (RLaw, cLaw_size, 4, (Option.some FieldType.int), [((0 : Nat), (10 : Nat), (13 : Nat), (19 : Nat))], false)
def hLaw_text : zHd := (RLaw, cLaw_text, 5, (Option.some FieldType.int), [((0 : Nat), (10 : Nat), (13 : Nat), (19 : Nat))], false)
def hLaw_clear : zHd := (RLaw, cLaw_clear, 4, (Option.some FieldType.int), [((0 : Nat), (10 : Nat), (13 : Nat), (19 : Nat))], false)
def hLaw_append : zHd := (RLaw, cLaw_append, 5, (Option.some FieldType.int), [((0 : Nat), (11 : Nat), (14 : Nat), (19 : Nat))], false)
def hLaw_appendAt : zHd := (RLaw, cLaw_appendAt, 6, (Option.some FieldType.int), [((0 : Nat), (13 : Nat), (16 : Nat), (19 : Nat))], false)
def hLaw_copy : zHd := (RLaw, cLaw_copy, 5, (Option.some FieldType.int), [((0 : Nat), (11 : Nat), (14 : Nat), (19 : Nat))], false)
def hLaw_places : zHd := (RLaw, cLaw_places, 5, (Option.some FieldType.int), [((0 : Nat), (11 : Nat), (14 : Nat), (19 : Nat)), ((0 : Nat), (11 : Nat), (18 : Nat), (21 : Nat))], false)
def hLaw_rotate : zHd := (RLaw, cLaw_rotate, 5, (Option.some FieldType.int), [((0 : Nat), (11 : Nat), (14 : Nat), (19 : Nat)), ((0 : Nat), (11 : Nat), (18 : Nat), (21 : Nat))], false)
def hLaw_move : zHd := (RLaw, cLaw_move, 6, (Option.some FieldType.int), [((0 : Nat), (13 : Nat), (16 : Nat), (19 : Nat))], false)
def hLaw_swap : zHd := (RLaw, cLaw_swap, 6, (Option.some FieldType.int), [((0 : Nat), (13 : Nat), (16 : Nat), (19 : Nat))], false)
def hLaw_reverse : zHd := (RLaw, cLaw_reverse, 4, (Option.some FieldType.int), [((0 : Nat), (10 : Nat), (13 : Nat), (19 : Nat))], false)
def hLaw_through : zHd := (RLaw, cLaw_through, 6, (Option.some FieldType.int), [((0 : Nat), (13 : Nat), (16 : Nat), (19 : Nat))], false)
def hLaw_areSame : zHd := (RLaw, cLaw_areSame, 5, (Option.some FieldType.int), [((0 : Nat), (18 : Nat), (21 : Nat), (19 : Nat))], false)
def hLaw_isMirror : zHd := (RLaw, cLaw_isMirror, 4, (Option.some FieldType.int), [((0 : Nat), (17 : Nat), (20 : Nat), (19 : Nat))], false)
def hLaw_open : zHd := (RLaw, cLaw_open, 6, (Option.some FieldType.int), [((0 : Nat), (13 : Nat), (16 : Nat), (19 : Nat))], false)
def hLaw_shut : zHd := (RLaw, cLaw_shut, 4, (Option.some FieldType.int), [((0 : Nat), (17 : Nat), (20 : Nat), (19 : Nat))], false)
def hLaw_forth : zHd := (RLaw, cLaw_forth, 4, (Option.some FieldType.int), [((0 : Nat), (10 : Nat), (13 : Nat), (19 : Nat)), ((0 : Nat), (10 : Nat), (16 : Nat), (115 : Nat))], false)
def hLaw_back : zHd := (RLaw, cLaw_back, 4, (Option.some FieldType.int), [((0 : Nat), (10 : Nat), (13 : Nat), (19 : Nat)), ((0 : Nat), (10 : Nat), (16 : Nat), (115 : Nat))], false)
def hLaw_puts : zHd := (RLaw, cLaw_puts, 5, (Option.some FieldType.int), [((0 : Nat), (11 : Nat), (14 : Nat), (19 : Nat)), ((0 : Nat), (11 : Nat), (18 : Nat), (21 : Nat)), ((0 : Nat), (11 : Nat), (22 : Nat), (115 : Nat))], false)
def hLaw_cuts : zHd := (RLaw, cLaw_cuts, 4, (Option.some FieldType.int), [((0 : Nat), (10 : Nat), (13 : Nat), (19 : Nat)), ((0 : Nat), (10 : Nat), (16 : Nat), (115 : Nat))], false)
def hLaw_changes : zHd := (RLaw, cLaw_changes, 5, (Option.some FieldType.int), [((0 : Nat), (11 : Nat), (14 : Nat), (19 : Nat)), ((0 : Nat), (11 : Nat), (18 : Nat), (21 : Nat)), ((0 : Nat), (11 : Nat), (22 : Nat), (115 : Nat))], false)
def hLaw_meet : zHd := (RLaw, cLaw_meet, 5, (Option.some FieldType.int), [((0 : Nat), (11 : Nat), (14 : Nat), (19 : Nat)), ((0 : Nat), (11 : Nat), (18 : Nat), (21 : Nat)), ((0 : Nat), (11 : Nat), (22 : Nat), (115 : Nat))], false)
def hLaw_ofCursor : zHd := (RLaw, cLaw_ofCursor, 5, (Option.some FieldType.int), [((0 : Nat), (11 : Nat), (14 : Nat), (19 : Nat)), ((0 : Nat), (11 : Nat), (18 : Nat), (21 : Nat))], false)
def hLaw_plus : zHd := (RLaw, cLaw_plus, 5, (Option.some FieldType.int), [((0 : Nat), (11 : Nat), (14 : Nat), (19 : Nat))], false)
def hLaw_times : zHd := (RLaw, cLaw_times, 5, (Option.some FieldType.int), [((0 : Nat), (11 : Nat), (14 : Nat), (19 : Nat))], false)
def hLaw_shift : zHd := (RLaw, cLaw_shift, 4, (Option.some FieldType.int), [((0 : Nat), (10 : Nat), (13 : Nat), (19 : Nat))], false)
def hLaw_trim : zHd := (RLaw, cLaw_trim, 4, (Option.some FieldType.int), [((0 : Nat), (10 : Nat), (13 : Nat), (19 : Nat))], false)
def hLaw_derive : zHd := (RLaw, cLaw_derive, 4, (Option.some FieldType.int), [((0 : Nat), (10 : Nat), (13 : Nat), (19 : Nat))], false)
def hLaw_value : zHd := (RLaw, cLaw_value, 5, (Option.some FieldType.int), [((0 : Nat), (11 : Nat), (14 : Nat), (19 : Nat)), ((0 : Nat), (11 : Nat), (18 : Nat), (21 : Nat))], false)
def hLaw_degree : zHd := (RLaw, cLaw_degree, 4, (Option.some FieldType.int), [((0 : Nat), (10 : Nat), (13 : Nat), (19 : Nat))], false)
def hLaw_ask : zHd := (RLaw, cLaw_ask, 4, (Option.some FieldType.int), [((0 : Nat), (10 : Nat), (13 : Nat), (21 : Nat)), ((0 : Nat), (10 : Nat), (16 : Nat), (115 : Nat))], false)
def hLaw_asked : zHd := (RLaw, cLaw_asked, 4, (Option.some FieldType.int), [((0 : Nat), (10 : Nat), (13 : Nat), (21 : Nat))], false)
def hLaw_byOrder : zHd := (RLaw, cLaw_byOrder, 5, (Option.some FieldType.int), [((0 : Nat), (11 : Nat), (14 : Nat), (19 : Nat)), ((0 : Nat), (11 : Nat), (18 : Nat), (21 : Nat))], false)
def hLaw_house : zHd := (RLaw, cLaw_house, 4, (Option.some FieldType.int), [((0 : Nat), (10 : Nat), (13 : Nat), (21 : Nat))], false)
set_option maxRecDepth 40000 in
theorem MI_Cur_init : zMI yCur_init hCur_init 0 := ⟨⟨(zin_of zc1 (i := 4) rfl rfl), (zin_of zc1 (i := 101) rfl rfl), by decide +kernel, by decide +kernel⟩, (zin_of zc1 (i := 100) rfl rfl), rfl, rfl⟩
set_option maxRecDepth 40000 in
theorem MV_Cur_begin : zMV yCur_begin hCur_begin 2 := ⟨⟨(zin_of zc1 (i := 4) rfl rfl), (zin_of zc4 (i := 223) rfl rfl), by decide +kernel, by decide +kernel⟩, (zin_of zc4 (i := 222) rfl rfl), (zin_of zc0 (i := 46) rfl rfl)⟩
set_option maxRecDepth 40000 in
theorem MV_Cur_stepForth : zMV yCur_stepForth hCur_stepForth 1 := ⟨⟨(zin_of zc1 (i := 4) rfl rfl), (zin_of zc5 (i := 21) rfl rfl), by decide +kernel, by decide +kernel⟩, (zin_of zc5 (i := 20) rfl rfl), (zin_of zc0 (i := 47) rfl rfl)⟩
set_option maxRecDepth 40000 in
theorem MV_Cur_stepBack : zMV yCur_stepBack hCur_stepBack 1 := ⟨⟨(zin_of zc1 (i := 4) rfl rfl), (zin_of zc5 (i := 34) rfl rfl), by decide +kernel, by decide +kernel⟩, (zin_of zc5 (i := 33) rfl rfl), (zin_of zc0 (i := 48) rfl rfl)⟩
set_option maxRecDepth 40000 in
theorem MV_Cur_putHere : zMV yCur_putHere hCur_putHere 2 := ⟨⟨(zin_of zc1 (i := 4) rfl rfl), (zin_of zc5 (i := 45) rfl rfl), by decide +kernel, by decide +kernel⟩, (zin_of zc5 (i := 44) rfl rfl), (zin_of zc0 (i := 49) rfl rfl)⟩
set_option maxRecDepth 40000 in
theorem MV_Cur_cutLast : zMV yCur_cutLast hCur_cutLast 1 := ⟨⟨(zin_of zc1 (i := 4) rfl rfl), (zin_of zc5 (i := 57) rfl rfl), by decide +kernel, by decide +kernel⟩, (zin_of zc5 (i := 56) rfl rfl), (zin_of zc0 (i := 50) rfl rfl)⟩
set_option maxRecDepth 40000 in
theorem MI_Rec_init : zMI yRec_init hRec_init 0 := ⟨⟨(zin_of zc1 (i := 2) rfl rfl), (zin_of zc1 (i := 40) rfl rfl), by decide +kernel, by decide +kernel⟩, (zin_of zc1 (i := 39) rfl rfl), rfl, rfl⟩
set_option maxRecDepth 40000 in
theorem MV_Rec_begin : zMV yRec_begin hRec_begin 0 := ⟨⟨(zin_of zc1 (i := 2) rfl rfl), (zin_of zc1 (i := 60) rfl rfl), by decide +kernel, by decide +kernel⟩, (zin_of zc1 (i := 59) rfl rfl), (zin_of zc0 (i := 0) rfl rfl)⟩
set_option maxRecDepth 40000 in
theorem MV_Rec_bringAhead : zMV yRec_bringAhead hRec_bringAhead 1 := ⟨⟨(zin_of zc1 (i := 2) rfl rfl), (zin_of zc5 (i := 145) rfl rfl), by decide +kernel, by decide +kernel⟩, (zin_of zc5 (i := 144) rfl rfl), (zin_of zc0 (i := 52) rfl rfl)⟩
set_option maxRecDepth 40000 in
theorem MV_Rec_costBy : zMV yRec_costBy hRec_costBy 1 := ⟨⟨(zin_of zc1 (i := 2) rfl rfl), (zin_of zc3 (i := 105) rfl rfl), by decide +kernel, by decide +kernel⟩, (zin_of zc3 (i := 104) rfl rfl), (zin_of zc0 (i := 27) rfl rfl)⟩
set_option maxRecDepth 40000 in
theorem MV_Rec_boundBy : zMV yRec_boundBy hRec_boundBy 1 := ⟨⟨(zin_of zc1 (i := 2) rfl rfl), (zin_of zc3 (i := 101) rfl rfl), by decide +kernel, by decide +kernel⟩, (zin_of zc3 (i := 100) rfl rfl), (zin_of zc0 (i := 26) rfl rfl)⟩
set_option maxRecDepth 40000 in
theorem MI_Row_init : zMI yRow_init hRow_init 0 := ⟨⟨(zin_of zc1 (i := 3) rfl rfl), (zin_of zc1 (i := 46) rfl rfl), by decide +kernel, by decide +kernel⟩, (zin_of zc1 (i := 45) rfl rfl), rfl, rfl⟩
set_option maxRecDepth 40000 in
theorem MV_Row_hasPlace : zMV yRow_hasPlace hRow_hasPlace 1 := ⟨⟨(zin_of zc1 (i := 3) rfl rfl), (zin_of zc3 (i := 37) rfl rfl), by decide +kernel, by decide +kernel⟩, (zin_of zc3 (i := 36) rfl rfl), (zin_of zc0 (i := 12) rfl rfl)⟩
set_option maxRecDepth 40000 in
theorem MV_Row_hasGap : zMV yRow_hasGap hRow_hasGap 1 := ⟨⟨(zin_of zc1 (i := 3) rfl rfl), (zin_of zc1 (i := 76) rfl rfl), by decide +kernel, by decide +kernel⟩, (zin_of zc1 (i := 75) rfl rfl), (zin_of zc0 (i := 4) rfl rfl)⟩
set_option maxRecDepth 40000 in
theorem MV_Row_itemAt : zMV yRow_itemAt hRow_itemAt 1 := ⟨⟨(zin_of zc1 (i := 3) rfl rfl), (zin_of zc3 (i := 33) rfl rfl), by decide +kernel, by decide +kernel⟩, (zin_of zc3 (i := 32) rfl rfl), (zin_of zc0 (i := 11) rfl rfl)⟩
set_option maxRecDepth 40000 in
theorem MV_Row_changeAt : zMV yRow_changeAt hRow_changeAt 2 := ⟨⟨(zin_of zc1 (i := 3) rfl rfl), (zin_of zc3 (i := 41) rfl rfl), by decide +kernel, by decide +kernel⟩, (zin_of zc3 (i := 40) rfl rfl), (zin_of zc0 (i := 13) rfl rfl)⟩
set_option maxRecDepth 40000 in
theorem MV_Row_putIn : zMV yRow_putIn hRow_putIn 2 := ⟨⟨(zin_of zc1 (i := 3) rfl rfl), (zin_of zc1 (i := 72) rfl rfl), by decide +kernel, by decide +kernel⟩, (zin_of zc1 (i := 71) rfl rfl), (zin_of zc0 (i := 3) rfl rfl)⟩
set_option maxRecDepth 40000 in
theorem MV_Row_takeOut : zMV yRow_takeOut hRow_takeOut 1 := ⟨⟨(zin_of zc1 (i := 3) rfl rfl), (zin_of zc3 (i := 56) rfl rfl), by decide +kernel, by decide +kernel⟩, (zin_of zc3 (i := 55) rfl rfl), (zin_of zc0 (i := 16) rfl rfl)⟩
set_option maxRecDepth 40000 in
theorem MV_Row_takeOutAll : zMV yRow_takeOutAll hRow_takeOutAll 1 := ⟨⟨(zin_of zc1 (i := 3) rfl rfl), (zin_of zc4 (i := 82) rfl rfl), by decide +kernel, by decide +kernel⟩, (zin_of zc4 (i := 81) rfl rfl), (zin_of zc0 (i := 42) rfl rfl)⟩
set_option maxRecDepth 40000 in
theorem MV_Row_placeOf : zMV yRow_placeOf hRow_placeOf 2 := ⟨⟨(zin_of zc1 (i := 3) rfl rfl), (zin_of zc3 (i := 97) rfl rfl), by decide +kernel, by decide +kernel⟩, (zin_of zc3 (i := 96) rfl rfl), (zin_of zc0 (i := 25) rfl rfl)⟩
set_option maxRecDepth 40000 in
theorem MV_Row_lastNotZero : zMV yRow_lastNotZero hRow_lastNotZero 0 := ⟨⟨(zin_of zc1 (i := 3) rfl rfl), (zin_of zc3 (i := 155) rfl rfl), by decide +kernel, by decide +kernel⟩, (zin_of zc3 (i := 154) rfl rfl), (zin_of zc0 (i := 32) rfl rfl)⟩
set_option maxRecDepth 40000 in
theorem MV_Row_isAs : zMV yRow_isAs hRow_isAs 1 := ⟨⟨(zin_of zc1 (i := 3) rfl rfl), (zin_of zc3 (i := 45) rfl rfl), by decide +kernel, by decide +kernel⟩, (zin_of zc3 (i := 44) rfl rfl), (zin_of zc0 (i := 14) rfl rfl)⟩
set_option maxRecDepth 40000 in
theorem MV_Row_joined : zMV yRow_joined hRow_joined 1 := ⟨⟨(zin_of zc1 (i := 3) rfl rfl), (zin_of zc1 (i := 155) rfl rfl), by decide +kernel, by decide +kernel⟩, (zin_of zc1 (i := 154) rfl rfl), (zin_of zc0 (i := 5) rfl rfl)⟩
set_option maxRecDepth 40000 in
theorem MV_Row_exchange : zMV yRow_exchange hRow_exchange 2 := ⟨⟨(zin_of zc1 (i := 3) rfl rfl), (zin_of zc3 (i := 29) rfl rfl), by decide +kernel, by decide +kernel⟩, (zin_of zc3 (i := 28) rfl rfl), (zin_of zc0 (i := 10) rfl rfl)⟩
set_option maxRecDepth 40000 in
theorem MV_Row_turnRound : zMV yRow_turnRound hRow_turnRound 0 := ⟨⟨(zin_of zc1 (i := 3) rfl rfl), (zin_of zc3 (i := 25) rfl rfl), by decide +kernel, by decide +kernel⟩, (zin_of zc3 (i := 24) rfl rfl), (zin_of zc0 (i := 9) rfl rfl)⟩
set_option maxRecDepth 40000 in
theorem MV_Row_turnBy : zMV yRow_turnBy hRow_turnBy 1 := ⟨⟨(zin_of zc1 (i := 3) rfl rfl), (zin_of zc3 (i := 49) rfl rfl), by decide +kernel, by decide +kernel⟩, (zin_of zc3 (i := 48) rfl rfl), (zin_of zc0 (i := 15) rfl rfl)⟩
set_option maxRecDepth 40000 in
theorem MV_Row_become : zMV yRow_become hRow_become 1 := ⟨⟨(zin_of zc1 (i := 3) rfl rfl), (zin_of zc3 (i := 21) rfl rfl), by decide +kernel, by decide +kernel⟩, (zin_of zc3 (i := 20) rfl rfl), (zin_of zc0 (i := 8) rfl rfl)⟩
set_option maxRecDepth 40000 in
theorem MV_Row_becomePlaces : zMV yRow_becomePlaces hRow_becomePlaces 1 := ⟨⟨(zin_of zc1 (i := 3) rfl rfl), (zin_of zc1 (i := 64) rfl rfl), by decide +kernel, by decide +kernel⟩, (zin_of zc1 (i := 63) rfl rfl), (zin_of zc0 (i := 1) rfl rfl)⟩
set_option maxRecDepth 40000 in
theorem MV_Row_addBehind : zMV yRow_addBehind hRow_addBehind 1 := ⟨⟨(zin_of zc1 (i := 3) rfl rfl), (zin_of zc1 (i := 68) rfl rfl), by decide +kernel, by decide +kernel⟩, (zin_of zc1 (i := 67) rfl rfl), (zin_of zc0 (i := 2) rfl rfl)⟩
set_option maxRecDepth 40000 in
theorem MV_Row_becomeJoined : zMV yRow_becomeJoined hRow_becomeJoined 3 := ⟨⟨(zin_of zc1 (i := 3) rfl rfl), (zin_of zc4 (i := 128) rfl rfl), by decide +kernel, by decide +kernel⟩, (zin_of zc4 (i := 127) rfl rfl), (zin_of zc0 (i := 43) rfl rfl)⟩
set_option maxRecDepth 40000 in
theorem MV_Row_becomeThrough : zMV yRow_becomeThrough hRow_becomeThrough 2 := ⟨⟨(zin_of zc1 (i := 3) rfl rfl), (zin_of zc4 (i := 198) rfl rfl), by decide +kernel, by decide +kernel⟩, (zin_of zc4 (i := 197) rfl rfl), (zin_of zc0 (i := 45) rfl rfl)⟩
set_option maxRecDepth 40000 in
theorem MV_Row_becomeSum : zMV yRow_becomeSum hRow_becomeSum 2 := ⟨⟨(zin_of zc1 (i := 3) rfl rfl), (zin_of zc3 (i := 64) rfl rfl), by decide +kernel, by decide +kernel⟩, (zin_of zc3 (i := 63) rfl rfl), (zin_of zc0 (i := 18) rfl rfl)⟩
set_option maxRecDepth 40000 in
theorem MV_Row_becomeProduct : zMV yRow_becomeProduct hRow_becomeProduct 2 := ⟨⟨(zin_of zc1 (i := 3) rfl rfl), (zin_of zc3 (i := 82) rfl rfl), by decide +kernel, by decide +kernel⟩, (zin_of zc3 (i := 81) rfl rfl), (zin_of zc0 (i := 22) rfl rfl)⟩
set_option maxRecDepth 40000 in
theorem MS_Row_coefficientOfProduct : zMS yRow_coefficientOfProduct hRow_coefficientOfProduct 3 := ⟨⟨(zin_of zc1 (i := 3) rfl rfl), (zin_of zc3 (i := 85) rfl rfl), by decide +kernel, by decide +kernel⟩, (zin_of zc3 (i := 84) rfl rfl)⟩
set_option maxRecDepth 40000 in
theorem MV_Row_becomeDerived : zMV yRow_becomeDerived hRow_becomeDerived 1 := ⟨⟨(zin_of zc1 (i := 3) rfl rfl), (zin_of zc5 (i := 119) rfl rfl), by decide +kernel, by decide +kernel⟩, (zin_of zc5 (i := 118) rfl rfl), (zin_of zc0 (i := 51) rfl rfl)⟩
set_option maxRecDepth 40000 in
theorem MV_Row_restAt : zMV yRow_restAt hRow_restAt 1 := ⟨⟨(zin_of zc1 (i := 3) rfl rfl), (zin_of zc3 (i := 77) rfl rfl), by decide +kernel, by decide +kernel⟩, (zin_of zc3 (i := 76) rfl rfl), (zin_of zc0 (i := 21) rfl rfl)⟩
set_option maxRecDepth 40000 in
theorem MV_Row_isOrder : zMV yRow_isOrder hRow_isOrder 0 := ⟨⟨(zin_of zc1 (i := 3) rfl rfl), (zin_of zc3 (i := 93) rfl rfl), by decide +kernel, by decide +kernel⟩, (zin_of zc3 (i := 92) rfl rfl), (zin_of zc0 (i := 24) rfl rfl)⟩
set_option maxRecDepth 40000 in
theorem MV_Row_inversions : zMV yRow_inversions hRow_inversions 0 := ⟨⟨(zin_of zc1 (i := 3) rfl rfl), (zin_of zc3 (i := 110) rfl rfl), by decide +kernel, by decide +kernel⟩, (zin_of zc3 (i := 109) rfl rfl), (zin_of zc0 (i := 28) rfl rfl)⟩
set_option maxRecDepth 40000 in
theorem MI_Cls_init : zMI yCls_init hCls_init 0 := ⟨⟨(zin_of zc1 (i := 1) rfl rfl), (zin_of zc1 (i := 28) rfl rfl), by decide +kernel, by decide +kernel⟩, (zin_of zc1 (i := 27) rfl rfl), rfl, rfl⟩
set_option maxRecDepth 40000 in
theorem MV_Cls_put : zMV yCls_put hCls_put 3 := ⟨⟨(zin_of zc1 (i := 1) rfl rfl), (zin_of zc3 (i := 225) rfl rfl), by decide +kernel, by decide +kernel⟩, (zin_of zc3 (i := 223) rfl rfl), (zin_of zc3 (i := 224) rfl rfl)⟩
set_option maxRecDepth 40000 in
theorem MV_Cls_take : zMV yCls_take hCls_take 2 := ⟨⟨(zin_of zc1 (i := 1) rfl rfl), (zin_of zc4 (i := 9) rfl rfl), by decide +kernel, by decide +kernel⟩, (zin_of zc4 (i := 7) rfl rfl), (zin_of zc4 (i := 8) rfl rfl)⟩
set_option maxRecDepth 40000 in
theorem MV_Cls_look : zMV yCls_look hCls_look 2 := ⟨⟨(zin_of zc1 (i := 1) rfl rfl), (zin_of zc4 (i := 24) rfl rfl), by decide +kernel, by decide +kernel⟩, (zin_of zc4 (i := 22) rfl rfl), (zin_of zc4 (i := 23) rfl rfl)⟩
set_option maxRecDepth 40000 in
theorem MV_Cls_get : zMV yCls_get hCls_get 2 := ⟨⟨(zin_of zc1 (i := 1) rfl rfl), (zin_of zc4 (i := 31) rfl rfl), by decide +kernel, by decide +kernel⟩, (zin_of zc4 (i := 29) rfl rfl), (zin_of zc4 (i := 30) rfl rfl)⟩
set_option maxRecDepth 40000 in
theorem MV_Cls_set : zMV yCls_set hCls_set 3 := ⟨⟨(zin_of zc1 (i := 1) rfl rfl), (zin_of zc4 (i := 43) rfl rfl), by decide +kernel, by decide +kernel⟩, (zin_of zc4 (i := 41) rfl rfl), (zin_of zc4 (i := 42) rfl rfl)⟩
set_option maxRecDepth 40000 in
theorem MV_Cls_insert : zMV yCls_insert hCls_insert 3 := ⟨⟨(zin_of zc1 (i := 1) rfl rfl), (zin_of zc4 (i := 51) rfl rfl), by decide +kernel, by decide +kernel⟩, (zin_of zc4 (i := 49) rfl rfl), (zin_of zc4 (i := 50) rfl rfl)⟩
set_option maxRecDepth 40000 in
theorem MV_Cls_removeAt : zMV yCls_removeAt hCls_removeAt 2 := ⟨⟨(zin_of zc1 (i := 1) rfl rfl), (zin_of zc4 (i := 63) rfl rfl), by decide +kernel, by decide +kernel⟩, (zin_of zc4 (i := 61) rfl rfl), (zin_of zc4 (i := 62) rfl rfl)⟩
set_option maxRecDepth 40000 in
theorem MV_Cls_drop : zMV yCls_drop hCls_drop 3 := ⟨⟨(zin_of zc1 (i := 1) rfl rfl), (zin_of zc4 (i := 70) rfl rfl), by decide +kernel, by decide +kernel⟩, (zin_of zc4 (i := 68) rfl rfl), (zin_of zc4 (i := 69) rfl rfl)⟩
set_option maxRecDepth 40000 in
theorem MV_Cls_thin : zMV yCls_thin hCls_thin 2 := ⟨⟨(zin_of zc1 (i := 1) rfl rfl), (zin_of zc4 (i := 78) rfl rfl), by decide +kernel, by decide +kernel⟩, (zin_of zc4 (i := 76) rfl rfl), (zin_of zc4 (i := 77) rfl rfl)⟩
set_option maxRecDepth 40000 in
theorem MV_Cls_indexOf : zMV yCls_indexOf hCls_indexOf 3 := ⟨⟨(zin_of zc1 (i := 1) rfl rfl), (zin_of zc4 (i := 89) rfl rfl), by decide +kernel, by decide +kernel⟩, (zin_of zc4 (i := 87) rfl rfl), (zin_of zc4 (i := 88) rfl rfl)⟩
set_option maxRecDepth 40000 in
theorem MV_Cls_has : zMV yCls_has hCls_has 2 := ⟨⟨(zin_of zc1 (i := 1) rfl rfl), (zin_of zc4 (i := 96) rfl rfl), by decide +kernel, by decide +kernel⟩, (zin_of zc4 (i := 94) rfl rfl), (zin_of zc4 (i := 95) rfl rfl)⟩
set_option maxRecDepth 40000 in
theorem MV_Cls_size : zMV yCls_size hCls_size 1 := ⟨⟨(zin_of zc1 (i := 1) rfl rfl), (zin_of zc4 (i := 103) rfl rfl), by decide +kernel, by decide +kernel⟩, (zin_of zc4 (i := 101) rfl rfl), (zin_of zc4 (i := 102) rfl rfl)⟩
set_option maxRecDepth 40000 in
theorem MV_Cls_text : zMV yCls_text hCls_text 2 := ⟨⟨(zin_of zc1 (i := 1) rfl rfl), (zin_of zc4 (i := 110) rfl rfl), by decide +kernel, by decide +kernel⟩, (zin_of zc4 (i := 108) rfl rfl), (zin_of zc4 (i := 109) rfl rfl)⟩
set_option maxRecDepth 40000 in
theorem MV_Cls_clear : zMV yCls_clear hCls_clear 1 := ⟨⟨(zin_of zc1 (i := 1) rfl rfl), (zin_of zc4 (i := 117) rfl rfl), by decide +kernel, by decide +kernel⟩, (zin_of zc4 (i := 115) rfl rfl), (zin_of zc4 (i := 116) rfl rfl)⟩
set_option maxRecDepth 40000 in
theorem MV_Cls_append : zMV yCls_append hCls_append 2 := ⟨⟨(zin_of zc1 (i := 1) rfl rfl), (zin_of zc4 (i := 124) rfl rfl), by decide +kernel, by decide +kernel⟩, (zin_of zc4 (i := 122) rfl rfl), (zin_of zc4 (i := 123) rfl rfl)⟩
set_option maxRecDepth 40000 in
theorem MV_Cls_appendAt : zMV yCls_appendAt hCls_appendAt 3 := ⟨⟨(zin_of zc1 (i := 1) rfl rfl), (zin_of zc4 (i := 140) rfl rfl), by decide +kernel, by decide +kernel⟩, (zin_of zc4 (i := 138) rfl rfl), (zin_of zc4 (i := 139) rfl rfl)⟩
set_option maxRecDepth 40000 in
theorem MV_Cls_copy : zMV yCls_copy hCls_copy 2 := ⟨⟨(zin_of zc1 (i := 1) rfl rfl), (zin_of zc4 (i := 147) rfl rfl), by decide +kernel, by decide +kernel⟩, (zin_of zc4 (i := 145) rfl rfl), (zin_of zc4 (i := 146) rfl rfl)⟩
set_option maxRecDepth 40000 in
theorem MV_Cls_places : zMV yCls_places hCls_places 2 := ⟨⟨(zin_of zc1 (i := 1) rfl rfl), (zin_of zc4 (i := 154) rfl rfl), by decide +kernel, by decide +kernel⟩, (zin_of zc4 (i := 152) rfl rfl), (zin_of zc4 (i := 153) rfl rfl)⟩
set_option maxRecDepth 40000 in
theorem MV_Cls_rotate : zMV yCls_rotate hCls_rotate 2 := ⟨⟨(zin_of zc1 (i := 1) rfl rfl), (zin_of zc4 (i := 162) rfl rfl), by decide +kernel, by decide +kernel⟩, (zin_of zc4 (i := 160) rfl rfl), (zin_of zc4 (i := 161) rfl rfl)⟩
set_option maxRecDepth 40000 in
theorem MV_Cls_move : zMV yCls_move hCls_move 3 := ⟨⟨(zin_of zc1 (i := 1) rfl rfl), (zin_of zc4 (i := 172) rfl rfl), by decide +kernel, by decide +kernel⟩, (zin_of zc4 (i := 170) rfl rfl), (zin_of zc4 (i := 171) rfl rfl)⟩
set_option maxRecDepth 40000 in
theorem MV_Cls_swap : zMV yCls_swap hCls_swap 3 := ⟨⟨(zin_of zc1 (i := 1) rfl rfl), (zin_of zc4 (i := 179) rfl rfl), by decide +kernel, by decide +kernel⟩, (zin_of zc4 (i := 177) rfl rfl), (zin_of zc4 (i := 178) rfl rfl)⟩
set_option maxRecDepth 40000 in
theorem MV_Cls_reverse : zMV yCls_reverse hCls_reverse 1 := ⟨⟨(zin_of zc1 (i := 1) rfl rfl), (zin_of zc4 (i := 187) rfl rfl), by decide +kernel, by decide +kernel⟩, (zin_of zc4 (i := 185) rfl rfl), (zin_of zc4 (i := 186) rfl rfl)⟩
set_option maxRecDepth 40000 in
theorem MV_Cls_through : zMV yCls_through hCls_through 3 := ⟨⟨(zin_of zc1 (i := 1) rfl rfl), (zin_of zc4 (i := 194) rfl rfl), by decide +kernel, by decide +kernel⟩, (zin_of zc4 (i := 192) rfl rfl), (zin_of zc4 (i := 193) rfl rfl)⟩
set_option maxRecDepth 40000 in
theorem MV_Cls_areSame : zMV yCls_areSame hCls_areSame 2 := ⟨⟨(zin_of zc1 (i := 1) rfl rfl), (zin_of zc4 (i := 205) rfl rfl), by decide +kernel, by decide +kernel⟩, (zin_of zc4 (i := 203) rfl rfl), (zin_of zc4 (i := 204) rfl rfl)⟩
set_option maxRecDepth 40000 in
theorem MV_Cls_isMirror : zMV yCls_isMirror hCls_isMirror 1 := ⟨⟨(zin_of zc1 (i := 1) rfl rfl), (zin_of zc4 (i := 212) rfl rfl), by decide +kernel, by decide +kernel⟩, (zin_of zc4 (i := 210) rfl rfl), (zin_of zc4 (i := 211) rfl rfl)⟩
set_option maxRecDepth 40000 in
theorem MV_Cls_open : zMV yCls_open hCls_open 3 := ⟨⟨(zin_of zc1 (i := 1) rfl rfl), (zin_of zc4 (i := 219) rfl rfl), by decide +kernel, by decide +kernel⟩, (zin_of zc4 (i := 217) rfl rfl), (zin_of zc4 (i := 218) rfl rfl)⟩
set_option maxRecDepth 40000 in
theorem MV_Cls_shut : zMV yCls_shut hCls_shut 1 := ⟨⟨(zin_of zc1 (i := 1) rfl rfl), (zin_of zc4 (i := 230) rfl rfl), by decide +kernel, by decide +kernel⟩, (zin_of zc4 (i := 228) rfl rfl), (zin_of zc4 (i := 229) rfl rfl)⟩
set_option maxRecDepth 40000 in
theorem MV_Cls_forth : zMV yCls_forth hCls_forth 1 := ⟨⟨(zin_of zc1 (i := 1) rfl rfl), (zin_of zc4 (i := 238) rfl rfl), by decide +kernel, by decide +kernel⟩, (zin_of zc4 (i := 236) rfl rfl), (zin_of zc4 (i := 237) rfl rfl)⟩
set_option maxRecDepth 40000 in
theorem MV_Cls_back : zMV yCls_back hCls_back 1 := ⟨⟨(zin_of zc1 (i := 1) rfl rfl), (zin_of zc5 (i := 30) rfl rfl), by decide +kernel, by decide +kernel⟩, (zin_of zc5 (i := 28) rfl rfl), (zin_of zc5 (i := 29) rfl rfl)⟩
set_option maxRecDepth 40000 in
theorem MV_Cls_puts : zMV yCls_puts hCls_puts 2 := ⟨⟨(zin_of zc1 (i := 1) rfl rfl), (zin_of zc5 (i := 41) rfl rfl), by decide +kernel, by decide +kernel⟩, (zin_of zc5 (i := 39) rfl rfl), (zin_of zc5 (i := 40) rfl rfl)⟩
set_option maxRecDepth 40000 in
theorem MV_Cls_cuts : zMV yCls_cuts hCls_cuts 1 := ⟨⟨(zin_of zc1 (i := 1) rfl rfl), (zin_of zc5 (i := 53) rfl rfl), by decide +kernel, by decide +kernel⟩, (zin_of zc5 (i := 51) rfl rfl), (zin_of zc5 (i := 52) rfl rfl)⟩
set_option maxRecDepth 40000 in
theorem MV_Cls_changes : zMV yCls_changes hCls_changes 2 := ⟨⟨(zin_of zc1 (i := 1) rfl rfl), (zin_of zc5 (i := 65) rfl rfl), by decide +kernel, by decide +kernel⟩, (zin_of zc5 (i := 63) rfl rfl), (zin_of zc5 (i := 64) rfl rfl)⟩
set_option maxRecDepth 40000 in
theorem MV_Cls_meet : zMV yCls_meet hCls_meet 2 := ⟨⟨(zin_of zc1 (i := 1) rfl rfl), (zin_of zc5 (i := 72) rfl rfl), by decide +kernel, by decide +kernel⟩, (zin_of zc5 (i := 70) rfl rfl), (zin_of zc5 (i := 71) rfl rfl)⟩
set_option maxRecDepth 40000 in
theorem MV_Cls_ofCursor : zMV yCls_ofCursor hCls_ofCursor 2 := ⟨⟨(zin_of zc1 (i := 1) rfl rfl), (zin_of zc3 (i := 159) rfl rfl), by decide +kernel, by decide +kernel⟩, (zin_of zc3 (i := 157) rfl rfl), (zin_of zc3 (i := 158) rfl rfl)⟩
set_option maxRecDepth 40000 in
theorem MV_Cls_plus : zMV yCls_plus hCls_plus 2 := ⟨⟨(zin_of zc1 (i := 1) rfl rfl), (zin_of zc5 (i := 87) rfl rfl), by decide +kernel, by decide +kernel⟩, (zin_of zc5 (i := 85) rfl rfl), (zin_of zc5 (i := 86) rfl rfl)⟩
set_option maxRecDepth 40000 in
theorem MV_Cls_times : zMV yCls_times hCls_times 2 := ⟨⟨(zin_of zc1 (i := 1) rfl rfl), (zin_of zc5 (i := 94) rfl rfl), by decide +kernel, by decide +kernel⟩, (zin_of zc5 (i := 92) rfl rfl), (zin_of zc5 (i := 93) rfl rfl)⟩
set_option maxRecDepth 40000 in
theorem MV_Cls_shift : zMV yCls_shift hCls_shift 1 := ⟨⟨(zin_of zc1 (i := 1) rfl rfl), (zin_of zc5 (i := 101) rfl rfl), by decide +kernel, by decide +kernel⟩, (zin_of zc5 (i := 99) rfl rfl), (zin_of zc5 (i := 100) rfl rfl)⟩
set_option maxRecDepth 40000 in
theorem MV_Cls_trim : zMV yCls_trim hCls_trim 1 := ⟨⟨(zin_of zc1 (i := 1) rfl rfl), (zin_of zc5 (i := 108) rfl rfl), by decide +kernel, by decide +kernel⟩, (zin_of zc5 (i := 106) rfl rfl), (zin_of zc5 (i := 107) rfl rfl)⟩
set_option maxRecDepth 40000 in
theorem MV_Cls_derive : zMV yCls_derive hCls_derive 1 := ⟨⟨(zin_of zc1 (i := 1) rfl rfl), (zin_of zc5 (i := 115) rfl rfl), by decide +kernel, by decide +kernel⟩, (zin_of zc5 (i := 113) rfl rfl), (zin_of zc5 (i := 114) rfl rfl)⟩
set_option maxRecDepth 40000 in
theorem MV_Cls_value : zMV yCls_value hCls_value 2 := ⟨⟨(zin_of zc1 (i := 1) rfl rfl), (zin_of zc5 (i := 126) rfl rfl), by decide +kernel, by decide +kernel⟩, (zin_of zc5 (i := 124) rfl rfl), (zin_of zc5 (i := 125) rfl rfl)⟩
set_option maxRecDepth 40000 in
theorem MV_Cls_degree : zMV yCls_degree hCls_degree 1 := ⟨⟨(zin_of zc1 (i := 1) rfl rfl), (zin_of zc5 (i := 133) rfl rfl), by decide +kernel, by decide +kernel⟩, (zin_of zc5 (i := 131) rfl rfl), (zin_of zc5 (i := 132) rfl rfl)⟩
set_option maxRecDepth 40000 in
theorem MV_Cls_ask : zMV yCls_ask hCls_ask 1 := ⟨⟨(zin_of zc1 (i := 1) rfl rfl), (zin_of zc5 (i := 140) rfl rfl), by decide +kernel, by decide +kernel⟩, (zin_of zc5 (i := 138) rfl rfl), (zin_of zc5 (i := 139) rfl rfl)⟩
set_option maxRecDepth 40000 in
theorem MV_Cls_forget : zMV yCls_forget hCls_forget 0 := ⟨⟨(zin_of zc1 (i := 1) rfl rfl), (zin_of zc1 (i := 146) rfl rfl), by decide +kernel, by decide +kernel⟩, (zin_of zc1 (i := 144) rfl rfl), (zin_of zc1 (i := 145) rfl rfl)⟩
set_option maxRecDepth 40000 in
theorem MV_Cls_asked : zMV yCls_asked hCls_asked 1 := ⟨⟨(zin_of zc1 (i := 1) rfl rfl), (zin_of zc3 (i := 196) rfl rfl), by decide +kernel, by decide +kernel⟩, (zin_of zc3 (i := 194) rfl rfl), (zin_of zc3 (i := 195) rfl rfl)⟩
set_option maxRecDepth 40000 in
theorem MV_Cls_recent : zMV yCls_recent hCls_recent 0 := ⟨⟨(zin_of zc1 (i := 1) rfl rfl), (zin_of zc1 (i := 151) rfl rfl), by decide +kernel, by decide +kernel⟩, (zin_of zc1 (i := 149) rfl rfl), (zin_of zc1 (i := 150) rfl rfl)⟩
set_option maxRecDepth 40000 in
theorem MV_Cls_byOrder : zMV yCls_byOrder hCls_byOrder 2 := ⟨⟨(zin_of zc1 (i := 1) rfl rfl), (zin_of zc5 (i := 158) rfl rfl), by decide +kernel, by decide +kernel⟩, (zin_of zc5 (i := 156) rfl rfl), (zin_of zc5 (i := 157) rfl rfl)⟩
set_option maxRecDepth 40000 in
theorem MV_Cls_house : zMV yCls_house hCls_house 1 := ⟨⟨(zin_of zc1 (i := 1) rfl rfl), (zin_of zc3 (i := 119) rfl rfl), by decide +kernel, by decide +kernel⟩, (zin_of zc3 (i := 117) rfl rfl), (zin_of zc3 (i := 118) rfl rfl)⟩
set_option maxRecDepth 40000 in
theorem MV_Cls_knock : zMV yCls_knock hCls_knock 0 := ⟨⟨(zin_of zc1 (i := 1) rfl rfl), (zin_of zc3 (i := 9) rfl rfl), by decide +kernel, by decide +kernel⟩, (zin_of zc3 (i := 7) rfl rfl), (zin_of zc3 (i := 8) rfl rfl)⟩
set_option maxRecDepth 40000 in
theorem MV_Cls_isSound : zMV yCls_isSound hCls_isSound 0 := ⟨⟨(zin_of zc1 (i := 1) rfl rfl), (zin_of zc3 (i := 13) rfl rfl), by decide +kernel, by decide +kernel⟩, (zin_of zc3 (i := 11) rfl rfl), (zin_of zc3 (i := 12) rfl rfl)⟩
set_option maxRecDepth 40000 in
theorem MV_Cls_digest : zMV yCls_digest hCls_digest 0 := ⟨⟨(zin_of zc1 (i := 1) rfl rfl), (zin_of zc3 (i := 114) rfl rfl), by decide +kernel, by decide +kernel⟩, (zin_of zc3 (i := 112) rfl rfl), (zin_of zc3 (i := 113) rfl rfl)⟩
set_option maxRecDepth 40000 in
theorem MV_Cls_listAt : zMV yCls_listAt hCls_listAt 1 := ⟨⟨(zin_of zc1 (i := 1) rfl rfl), (zin_of zc3 (i := 191) rfl rfl), by decide +kernel, by decide +kernel⟩, (zin_of zc3 (i := 190) rfl rfl), (zin_of zc0 (i := 36) rfl rfl)⟩
set_option maxRecDepth 40000 in
theorem MV_Cls_cursorAt : zMV yCls_cursorAt hCls_cursorAt 1 := ⟨⟨(zin_of zc1 (i := 1) rfl rfl), (zin_of zc3 (i := 163) rfl rfl), by decide +kernel, by decide +kernel⟩, (zin_of zc3 (i := 162) rfl rfl), (zin_of zc0 (i := 33) rfl rfl)⟩
set_option maxRecDepth 40000 in
theorem MS_Cls_demandPlace : zMS yCls_demandPlace hCls_demandPlace 2 := ⟨⟨(zin_of zc1 (i := 1) rfl rfl), (zin_of zc4 (i := 34) rfl rfl), by decide +kernel, by decide +kernel⟩, (zin_of zc4 (i := 33) rfl rfl)⟩
set_option maxRecDepth 40000 in
theorem MS_Cls_demandGap : zMS yCls_demandGap hCls_demandGap 2 := ⟨⟨(zin_of zc1 (i := 1) rfl rfl), (zin_of zc4 (i := 54) rfl rfl), by decide +kernel, by decide +kernel⟩, (zin_of zc4 (i := 53) rfl rfl)⟩
set_option maxRecDepth 40000 in
theorem MS_Cls_demandWithin : zMS yCls_demandWithin hCls_demandWithin 3 := ⟨⟨(zin_of zc1 (i := 1) rfl rfl), (zin_of zc3 (i := 122) rfl rfl), by decide +kernel, by decide +kernel⟩, (zin_of zc3 (i := 121) rfl rfl)⟩
set_option maxRecDepth 40000 in
theorem MS_Cls_demandItem : zMS yCls_demandItem hCls_demandItem 1 := ⟨⟨(zin_of zc1 (i := 1) rfl rfl), (zin_of zc3 (i := 228) rfl rfl), by decide +kernel, by decide +kernel⟩, (zin_of zc3 (i := 227) rfl rfl)⟩
set_option maxRecDepth 40000 in
theorem MS_Cls_demandThere : zMS yCls_demandThere hCls_demandThere 1 := ⟨⟨(zin_of zc1 (i := 1) rfl rfl), (zin_of zc5 (i := 1) rfl rfl), by decide +kernel, by decide +kernel⟩, (zin_of zc5 (i := 0) rfl rfl)⟩
set_option maxRecDepth 40000 in
theorem MV_Cls_refuse : zMV yCls_refuse hCls_refuse 0 := ⟨⟨(zin_of zc1 (i := 1) rfl rfl), (zin_of zc3 (i := 237) rfl rfl), by decide +kernel, by decide +kernel⟩, (zin_of zc3 (i := 236) rfl rfl), (zin_of zc0 (i := 39) rfl rfl)⟩
set_option maxRecDepth 40000 in
theorem MV_Cls_makeStale : zMV yCls_makeStale hCls_makeStale 2 := ⟨⟨(zin_of zc1 (i := 1) rfl rfl), (zin_of zc4 (i := 2) rfl rfl), by decide +kernel, by decide +kernel⟩, (zin_of zc4 (i := 1) rfl rfl), (zin_of zc0 (i := 40) rfl rfl)⟩
set_option maxRecDepth 40000 in
theorem MV_Cls_putInto : zMV yCls_putInto hCls_putInto 3 := ⟨⟨(zin_of zc1 (i := 1) rfl rfl), (zin_of zc3 (i := 232) rfl rfl), by decide +kernel, by decide +kernel⟩, (zin_of zc3 (i := 231) rfl rfl), (zin_of zc0 (i := 38) rfl rfl)⟩
set_option maxRecDepth 40000 in
theorem MV_Cls_takeFrom : zMV yCls_takeFrom hCls_takeFrom 2 := ⟨⟨(zin_of zc1 (i := 1) rfl rfl), (zin_of zc4 (i := 16) rfl rfl), by decide +kernel, by decide +kernel⟩, (zin_of zc4 (i := 15) rfl rfl), (zin_of zc0 (i := 41) rfl rfl)⟩
set_option maxRecDepth 40000 in
theorem MV_Cls_becomeResult : zMV yCls_becomeResult hCls_becomeResult 2 := ⟨⟨(zin_of zc1 (i := 1) rfl rfl), (zin_of zc4 (i := 133) rfl rfl), by decide +kernel, by decide +kernel⟩, (zin_of zc4 (i := 132) rfl rfl), (zin_of zc0 (i := 44) rfl rfl)⟩
set_option maxRecDepth 40000 in
theorem MS_Cls_endOf : zMS yCls_endOf hCls_endOf 2 := ⟨⟨(zin_of zc1 (i := 1) rfl rfl), (zin_of zc4 (i := 12) rfl rfl), by decide +kernel, by decide +kernel⟩, (zin_of zc4 (i := 11) rfl rfl)⟩
set_option maxRecDepth 40000 in
theorem MS_Cls_firstOf : zMS yCls_firstOf hCls_firstOf 1 := ⟨⟨(zin_of zc1 (i := 1) rfl rfl), (zin_of zc4 (i := 165) rfl rfl), by decide +kernel, by decide +kernel⟩, (zin_of zc4 (i := 164) rfl rfl)⟩
set_option maxRecDepth 40000 in
theorem MS_Cls_numberOf : zMS yCls_numberOf hCls_numberOf 1 := ⟨⟨(zin_of zc1 (i := 1) rfl rfl), (zin_of zc3 (i := 136) rfl rfl), by decide +kernel, by decide +kernel⟩, (zin_of zc3 (i := 135) rfl rfl)⟩
set_option maxRecDepth 40000 in
theorem MV_Cls_rowUnder : zMV yCls_rowUnder hCls_rowUnder 1 := ⟨⟨(zin_of zc1 (i := 1) rfl rfl), (zin_of zc3 (i := 187) rfl rfl), by decide +kernel, by decide +kernel⟩, (zin_of zc3 (i := 186) rfl rfl), (zin_of zc0 (i := 35) rfl rfl)⟩
set_option maxRecDepth 40000 in
theorem MS_Cls_sumUntilMet : zMS yCls_sumUntilMet hCls_sumUntilMet 3 := ⟨⟨(zin_of zc1 (i := 1) rfl rfl), (zin_of zc5 (i := 76) rfl rfl), by decide +kernel, by decide +kernel⟩, (zin_of zc5 (i := 75) rfl rfl)⟩
set_option maxRecDepth 40000 in
theorem MV_Cls_whereIs : zMV yCls_whereIs hCls_whereIs 2 := ⟨⟨(zin_of zc1 (i := 1) rfl rfl), (zin_of zc3 (i := 183) rfl rfl), by decide +kernel, by decide +kernel⟩, (zin_of zc3 (i := 182) rfl rfl), (zin_of zc0 (i := 34) rfl rfl)⟩
set_option maxRecDepth 40000 in
theorem MV_Cls_itemsOfAll : zMV yCls_itemsOfAll hCls_itemsOfAll 0 := ⟨⟨(zin_of zc1 (i := 1) rfl rfl), (zin_of zc3 (i := 129) rfl rfl), by decide +kernel, by decide +kernel⟩, (zin_of zc3 (i := 128) rfl rfl), (zin_of zc0 (i := 29) rfl rfl)⟩
set_option maxRecDepth 40000 in
theorem MV_Cls_cursorsThere : zMV yCls_cursorsThere hCls_cursorsThere 0 := ⟨⟨(zin_of zc1 (i := 1) rfl rfl), (zin_of zc3 (i := 133) rfl rfl), by decide +kernel, by decide +kernel⟩, (zin_of zc3 (i := 132) rfl rfl), (zin_of zc0 (i := 30) rfl rfl)⟩
set_option maxRecDepth 40000 in
theorem MV_Cls_cursorsStale : zMV yCls_cursorsStale hCls_cursorsStale 0 := ⟨⟨(zin_of zc1 (i := 1) rfl rfl), (zin_of zc3 (i := 140) rfl rfl), by decide +kernel, by decide +kernel⟩, (zin_of zc3 (i := 139) rfl rfl), (zin_of zc0 (i := 31) rfl rfl)⟩
set_option maxRecDepth 40000 in
theorem MV_Cls_turnsBack : zMV yCls_turnsBack hCls_turnsBack 1 := ⟨⟨(zin_of zc1 (i := 1) rfl rfl), (zin_of zc3 (i := 17) rfl rfl), by decide +kernel, by decide +kernel⟩, (zin_of zc3 (i := 16) rfl rfl), (zin_of zc0 (i := 7) rfl rfl)⟩
set_option maxRecDepth 40000 in
theorem MV_Cls_addsUp : zMV yCls_addsUp hCls_addsUp 2 := ⟨⟨(zin_of zc1 (i := 1) rfl rfl), (zin_of zc3 (i := 60) rfl rfl), by decide +kernel, by decide +kernel⟩, (zin_of zc3 (i := 59) rfl rfl), (zin_of zc0 (i := 17) rfl rfl)⟩
set_option maxRecDepth 40000 in
theorem MV_Cls_agreesWithResult : zMV yCls_agreesWithResult hCls_agreesWithResult 3 := ⟨⟨(zin_of zc1 (i := 1) rfl rfl), (zin_of zc3 (i := 69) rfl rfl), by decide +kernel, by decide +kernel⟩, (zin_of zc3 (i := 68) rfl rfl), (zin_of zc0 (i := 19) rfl rfl)⟩
set_option maxRecDepth 40000 in
theorem MV_Cls_isResultAt : zMV yCls_isResultAt hCls_isResultAt 4 := ⟨⟨(zin_of zc1 (i := 1) rfl rfl), (zin_of zc3 (i := 73) rfl rfl), by decide +kernel, by decide +kernel⟩, (zin_of zc3 (i := 72) rfl rfl), (zin_of zc0 (i := 20) rfl rfl)⟩
set_option maxRecDepth 40000 in
theorem MV_Cls_isRecencySound : zMV yCls_isRecencySound hCls_isRecencySound 0 := ⟨⟨(zin_of zc1 (i := 1) rfl rfl), (zin_of zc3 (i := 89) rfl rfl), by decide +kernel, by decide +kernel⟩, (zin_of zc3 (i := 88) rfl rfl), (zin_of zc0 (i := 23) rfl rfl)⟩
set_option maxRecDepth 40000 in
theorem MS_Cls_mixed : zMS yCls_mixed hCls_mixed 2 := ⟨⟨(zin_of zc1 (i := 1) rfl rfl), (zin_of zc3 (i := 143) rfl rfl), by decide +kernel, by decide +kernel⟩, (zin_of zc3 (i := 142) rfl rfl)⟩
set_option maxRecDepth 40000 in
theorem MS_Cls_mixedWithItems : zMS yCls_mixedWithItems hCls_mixedWithItems 2 := ⟨⟨(zin_of zc1 (i := 1) rfl rfl), (zin_of zc3 (i := 150) rfl rfl), by decide +kernel, by decide +kernel⟩, (zin_of zc3 (i := 149) rfl rfl)⟩
set_option maxRecDepth 40000 in
theorem MS_Cls_mixedWithList : zMS yCls_mixedWithList hCls_mixedWithList 2 := ⟨⟨(zin_of zc1 (i := 1) rfl rfl), (zin_of zc3 (i := 147) rfl rfl), by decide +kernel, by decide +kernel⟩, (zin_of zc3 (i := 146) rfl rfl)⟩
set_option maxRecDepth 40000 in
theorem MV_Cls_mixedWithOrder : zMV yCls_mixedWithOrder hCls_mixedWithOrder 2 := ⟨⟨(zin_of zc1 (i := 1) rfl rfl), (zin_of zc3 (i := 200) rfl rfl), by decide +kernel, by decide +kernel⟩, (zin_of zc3 (i := 199) rfl rfl), (zin_of zc0 (i := 37) rfl rfl)⟩
set_option maxRecDepth 40000 in
theorem MI_Out_init : zMI yOut_init hOut_init 0 := ⟨⟨(zin_of zc1 (i := 6) rfl rfl), (zin_of zc3 (i := 208) rfl rfl), by decide +kernel, by decide +kernel⟩, (zin_of zc3 (i := 207) rfl rfl), rfl, rfl⟩
set_option maxRecDepth 40000 in
theorem MI_Mod_init : zMI yMod_init hMod_init 0 := ⟨⟨(zin_of zc1 (i := 5) rfl rfl), (zin_of zc5 (i := 167) rfl rfl), by decide +kernel, by decide +kernel⟩, (zin_of zc5 (i := 166) rfl rfl), rfl, rfl⟩
set_option maxRecDepth 40000 in
theorem MV_Mod_thrown : zMV yMod_thrown hMod_thrown 0 := ⟨⟨(zin_of zc1 (i := 5) rfl rfl), (zin_of zc5 (i := 215) rfl rfl), by decide +kernel, by decide +kernel⟩, (zin_of zc5 (i := 213) rfl rfl), (zin_of zc5 (i := 214) rfl rfl)⟩
set_option maxRecDepth 40000 in
theorem MV_Mod_fails : zMV yMod_fails hMod_fails 3 := ⟨⟨(zin_of zc1 (i := 5) rfl rfl), (zin_of zc5 (i := 232) rfl rfl), by decide +kernel, by decide +kernel⟩, (zin_of zc5 (i := 231) rfl rfl), (zin_of zc0 (i := 53) rfl rfl)⟩
set_option maxRecDepth 40000 in
theorem MS_Mod_isOut : zMS yMod_isOut hMod_isOut 3 := ⟨⟨(zin_of zc1 (i := 5) rfl rfl), (zin_of zc5 (i := 225) rfl rfl), by decide +kernel, by decide +kernel⟩, (zin_of zc5 (i := 224) rfl rfl)⟩
set_option maxRecDepth 40000 in
theorem MS_Mod_isNo : zMS yMod_isNo hMod_isNo 1 := ⟨⟨(zin_of zc1 (i := 5) rfl rfl), (zin_of zc5 (i := 222) rfl rfl), by decide +kernel, by decide +kernel⟩, (zin_of zc5 (i := 221) rfl rfl)⟩
set_option maxRecDepth 40000 in
theorem MS_Mod_isNoCursor : zMS yMod_isNoCursor hMod_isNoCursor 1 := ⟨⟨(zin_of zc1 (i := 5) rfl rfl), (zin_of zc6 (i := 155) rfl rfl), by decide +kernel, by decide +kernel⟩, (zin_of zc6 (i := 154) rfl rfl)⟩
set_option maxRecDepth 40000 in
theorem MS_Mod_isNoItem : zMS yMod_isNoItem hMod_isNoItem 1 := ⟨⟨(zin_of zc1 (i := 5) rfl rfl), (zin_of zc5 (i := 228) rfl rfl), by decide +kernel, by decide +kernel⟩, (zin_of zc5 (i := 227) rfl rfl)⟩
set_option maxRecDepth 40000 in
theorem MV_Mod_isNoPlace : zMV yMod_isNoPlace hMod_isNoPlace 2 := ⟨⟨(zin_of zc1 (i := 5) rfl rfl), (zin_of zc6 (i := 30) rfl rfl), by decide +kernel, by decide +kernel⟩, (zin_of zc6 (i := 29) rfl rfl), (zin_of zc0 (i := 57) rfl rfl)⟩
set_option maxRecDepth 40000 in
theorem MV_Mod_refused : zMV yMod_refused hMod_refused 0 := ⟨⟨(zin_of zc1 (i := 5) rfl rfl), (zin_of zc5 (i := 236) rfl rfl), by decide +kernel, by decide +kernel⟩, (zin_of zc5 (i := 235) rfl rfl), (zin_of zc0 (i := 54) rfl rfl)⟩
set_option maxRecDepth 40000 in
theorem MS_Mod_with : zMS yMod_with hMod_with 3 := ⟨⟨(zin_of zc1 (i := 5) rfl rfl), (zin_of zc6 (i := 0) rfl rfl), by decide +kernel, by decide +kernel⟩, (zin_of zc5 (i := 239) rfl rfl)⟩
set_option maxRecDepth 40000 in
theorem MS_Mod_without : zMS yMod_without hMod_without 2 := ⟨⟨(zin_of zc1 (i := 5) rfl rfl), (zin_of zc6 (i := 18) rfl rfl), by decide +kernel, by decide +kernel⟩, (zin_of zc6 (i := 17) rfl rfl)⟩
set_option maxRecDepth 40000 in
theorem MS_Mod_joined : zMS yMod_joined hMod_joined 3 := ⟨⟨(zin_of zc1 (i := 5) rfl rfl), (zin_of zc6 (i := 98) rfl rfl), by decide +kernel, by decide +kernel⟩, (zin_of zc6 (i := 97) rfl rfl)⟩
set_option maxRecDepth 40000 in
theorem MS_Mod_turned : zMS yMod_turned hMod_turned 1 := ⟨⟨(zin_of zc1 (i := 5) rfl rfl), (zin_of zc6 (i := 73) rfl rfl), by decide +kernel, by decide +kernel⟩, (zin_of zc6 (i := 72) rfl rfl)⟩
set_option maxRecDepth 40000 in
theorem MS_Mod_areLike : zMS yMod_areLike hMod_areLike 2 := ⟨⟨(zin_of zc1 (i := 5) rfl rfl), (zin_of zc6 (i := 144) rfl rfl), by decide +kernel, by decide +kernel⟩, (zin_of zc6 (i := 143) rfl rfl)⟩
set_option maxRecDepth 40000 in
theorem MS_Mod_find : zMS yMod_find hMod_find 3 := ⟨⟨(zin_of zc1 (i := 5) rfl rfl), (zin_of zc6 (i := 49) rfl rfl), by decide +kernel, by decide +kernel⟩, (zin_of zc6 (i := 48) rfl rfl)⟩
set_option maxRecDepth 40000 in
theorem MS_Mod_told : zMS yMod_told hMod_told 1 := ⟨⟨(zin_of zc1 (i := 5) rfl rfl), (zin_of zc6 (i := 76) rfl rfl), by decide +kernel, by decide +kernel⟩, (zin_of zc6 (i := 75) rfl rfl)⟩
set_option maxRecDepth 40000 in
theorem MV_Mod_become : zMV yMod_become hMod_become 3 := ⟨⟨(zin_of zc1 (i := 5) rfl rfl), (zin_of zc6 (i := 8) rfl rfl), by decide +kernel, by decide +kernel⟩, (zin_of zc6 (i := 7) rfl rfl), (zin_of zc0 (i := 56) rfl rfl)⟩
set_option maxRecDepth 40000 in
theorem MV_Mod_becomes : zMV yMod_becomes hMod_becomes 2 := ⟨⟨(zin_of zc1 (i := 5) rfl rfl), (zin_of zc6 (i := 4) rfl rfl), by decide +kernel, by decide +kernel⟩, (zin_of zc6 (i := 3) rfl rfl), (zin_of zc0 (i := 55) rfl rfl)⟩
set_option maxRecDepth 40000 in
theorem MV_Mod_put : zMV yMod_put hMod_put 3 := ⟨⟨(zin_of zc1 (i := 5) rfl rfl), (zin_of zc5 (i := 219) rfl rfl), by decide +kernel, by decide +kernel⟩, (zin_of zc5 (i := 217) rfl rfl), (zin_of zc5 (i := 218) rfl rfl)⟩
set_option maxRecDepth 40000 in
theorem MS_Mod_isAtEnd : zMS yMod_isAtEnd hMod_isAtEnd 1 := ⟨⟨(zin_of zc1 (i := 5) rfl rfl), (zin_of zc6 (i := 15) rfl rfl), by decide +kernel, by decide +kernel⟩, (zin_of zc6 (i := 14) rfl rfl)⟩
set_option maxRecDepth 40000 in
theorem MV_Mod_take : zMV yMod_take hMod_take 2 := ⟨⟨(zin_of zc1 (i := 5) rfl rfl), (zin_of zc6 (i := 12) rfl rfl), by decide +kernel, by decide +kernel⟩, (zin_of zc6 (i := 10) rfl rfl), (zin_of zc6 (i := 11) rfl rfl)⟩
set_option maxRecDepth 40000 in
theorem MV_Mod_look : zMV yMod_look hMod_look 2 := ⟨⟨(zin_of zc1 (i := 5) rfl rfl), (zin_of zc6 (i := 22) rfl rfl), by decide +kernel, by decide +kernel⟩, (zin_of zc6 (i := 20) rfl rfl), (zin_of zc6 (i := 21) rfl rfl)⟩
set_option maxRecDepth 40000 in
theorem MV_Mod_get : zMV yMod_get hMod_get 2 := ⟨⟨(zin_of zc1 (i := 5) rfl rfl), (zin_of zc6 (i := 26) rfl rfl), by decide +kernel, by decide +kernel⟩, (zin_of zc6 (i := 24) rfl rfl), (zin_of zc6 (i := 25) rfl rfl)⟩
set_option maxRecDepth 40000 in
theorem MV_Mod_set : zMV yMod_set hMod_set 3 := ⟨⟨(zin_of zc1 (i := 5) rfl rfl), (zin_of zc6 (i := 34) rfl rfl), by decide +kernel, by decide +kernel⟩, (zin_of zc6 (i := 32) rfl rfl), (zin_of zc6 (i := 33) rfl rfl)⟩
set_option maxRecDepth 40000 in
theorem MV_Mod_insert : zMV yMod_insert hMod_insert 3 := ⟨⟨(zin_of zc1 (i := 5) rfl rfl), (zin_of zc6 (i := 38) rfl rfl), by decide +kernel, by decide +kernel⟩, (zin_of zc6 (i := 36) rfl rfl), (zin_of zc6 (i := 37) rfl rfl)⟩
set_option maxRecDepth 40000 in
theorem MV_Mod_removeAt : zMV yMod_removeAt hMod_removeAt 2 := ⟨⟨(zin_of zc1 (i := 5) rfl rfl), (zin_of zc6 (i := 42) rfl rfl), by decide +kernel, by decide +kernel⟩, (zin_of zc6 (i := 40) rfl rfl), (zin_of zc6 (i := 41) rfl rfl)⟩
set_option maxRecDepth 40000 in
theorem MV_Mod_drop : zMV yMod_drop hMod_drop 3 := ⟨⟨(zin_of zc1 (i := 5) rfl rfl), (zin_of zc6 (i := 46) rfl rfl), by decide +kernel, by decide +kernel⟩, (zin_of zc6 (i := 44) rfl rfl), (zin_of zc6 (i := 45) rfl rfl)⟩
set_option maxRecDepth 40000 in
theorem MV_Mod_thin : zMV yMod_thin hMod_thin 2 := ⟨⟨(zin_of zc1 (i := 5) rfl rfl), (zin_of zc6 (i := 53) rfl rfl), by decide +kernel, by decide +kernel⟩, (zin_of zc6 (i := 51) rfl rfl), (zin_of zc6 (i := 52) rfl rfl)⟩
set_option maxRecDepth 40000 in
theorem MV_Mod_indexOf : zMV yMod_indexOf hMod_indexOf 3 := ⟨⟨(zin_of zc1 (i := 5) rfl rfl), (zin_of zc6 (i := 57) rfl rfl), by decide +kernel, by decide +kernel⟩, (zin_of zc6 (i := 55) rfl rfl), (zin_of zc6 (i := 56) rfl rfl)⟩
set_option maxRecDepth 40000 in
theorem MV_Mod_has : zMV yMod_has hMod_has 2 := ⟨⟨(zin_of zc1 (i := 5) rfl rfl), (zin_of zc6 (i := 61) rfl rfl), by decide +kernel, by decide +kernel⟩, (zin_of zc6 (i := 59) rfl rfl), (zin_of zc6 (i := 60) rfl rfl)⟩
set_option maxRecDepth 40000 in
theorem MV_Mod_size : zMV yMod_size hMod_size 1 := ⟨⟨(zin_of zc1 (i := 5) rfl rfl), (zin_of zc6 (i := 65) rfl rfl), by decide +kernel, by decide +kernel⟩, (zin_of zc6 (i := 63) rfl rfl), (zin_of zc6 (i := 64) rfl rfl)⟩
set_option maxRecDepth 40000 in
theorem MV_Mod_text : zMV yMod_text hMod_text 2 := ⟨⟨(zin_of zc1 (i := 5) rfl rfl), (zin_of zc6 (i := 69) rfl rfl), by decide +kernel, by decide +kernel⟩, (zin_of zc6 (i := 67) rfl rfl), (zin_of zc6 (i := 68) rfl rfl)⟩
set_option maxRecDepth 40000 in
theorem MV_Mod_clear : zMV yMod_clear hMod_clear 1 := ⟨⟨(zin_of zc1 (i := 5) rfl rfl), (zin_of zc6 (i := 87) rfl rfl), by decide +kernel, by decide +kernel⟩, (zin_of zc6 (i := 85) rfl rfl), (zin_of zc6 (i := 86) rfl rfl)⟩
set_option maxRecDepth 40000 in
theorem MV_Mod_append : zMV yMod_append hMod_append 2 := ⟨⟨(zin_of zc1 (i := 5) rfl rfl), (zin_of zc6 (i := 91) rfl rfl), by decide +kernel, by decide +kernel⟩, (zin_of zc6 (i := 89) rfl rfl), (zin_of zc6 (i := 90) rfl rfl)⟩
set_option maxRecDepth 40000 in
theorem MV_Mod_joins : zMV yMod_joins hMod_joins 3 := ⟨⟨(zin_of zc1 (i := 5) rfl rfl), (zin_of zc6 (i := 95) rfl rfl), by decide +kernel, by decide +kernel⟩, (zin_of zc6 (i := 94) rfl rfl), (zin_of zc0 (i := 58) rfl rfl)⟩
set_option maxRecDepth 40000 in
theorem MV_Mod_appendAt : zMV yMod_appendAt hMod_appendAt 3 := ⟨⟨(zin_of zc1 (i := 5) rfl rfl), (zin_of zc6 (i := 102) rfl rfl), by decide +kernel, by decide +kernel⟩, (zin_of zc6 (i := 100) rfl rfl), (zin_of zc6 (i := 101) rfl rfl)⟩
set_option maxRecDepth 40000 in
theorem MS_Mod_copied : zMS yMod_copied hMod_copied 1 := ⟨⟨(zin_of zc1 (i := 5) rfl rfl), (zin_of zc6 (i := 109) rfl rfl), by decide +kernel, by decide +kernel⟩, (zin_of zc6 (i := 108) rfl rfl)⟩
set_option maxRecDepth 40000 in
theorem MV_Mod_copy : zMV yMod_copy hMod_copy 2 := ⟨⟨(zin_of zc1 (i := 5) rfl rfl), (zin_of zc6 (i := 106) rfl rfl), by decide +kernel, by decide +kernel⟩, (zin_of zc6 (i := 104) rfl rfl), (zin_of zc6 (i := 105) rfl rfl)⟩
set_option maxRecDepth 40000 in
theorem MV_Mod_places : zMV yMod_places hMod_places 2 := ⟨⟨(zin_of zc1 (i := 5) rfl rfl), (zin_of zc6 (i := 113) rfl rfl), by decide +kernel, by decide +kernel⟩, (zin_of zc6 (i := 111) rfl rfl), (zin_of zc6 (i := 112) rfl rfl)⟩
set_option maxRecDepth 40000 in
theorem MV_Mod_first : zMV yMod_first hMod_first 1 := ⟨⟨(zin_of zc1 (i := 5) rfl rfl), (zin_of zc6 (i := 121) rfl rfl), by decide +kernel, by decide +kernel⟩, (zin_of zc6 (i := 120) rfl rfl), (zin_of zc0 (i := 59) rfl rfl)⟩
set_option maxRecDepth 40000 in
theorem MV_Mod_rotate : zMV yMod_rotate hMod_rotate 2 := ⟨⟨(zin_of zc1 (i := 5) rfl rfl), (zin_of zc6 (i := 117) rfl rfl), by decide +kernel, by decide +kernel⟩, (zin_of zc6 (i := 115) rfl rfl), (zin_of zc6 (i := 116) rfl rfl)⟩
set_option maxRecDepth 40000 in
theorem MV_Mod_move : zMV yMod_move hMod_move 3 := ⟨⟨(zin_of zc1 (i := 5) rfl rfl), (zin_of zc6 (i := 125) rfl rfl), by decide +kernel, by decide +kernel⟩, (zin_of zc6 (i := 123) rfl rfl), (zin_of zc6 (i := 124) rfl rfl)⟩
set_option maxRecDepth 40000 in
theorem MV_Mod_swap : zMV yMod_swap hMod_swap 3 := ⟨⟨(zin_of zc1 (i := 5) rfl rfl), (zin_of zc6 (i := 129) rfl rfl), by decide +kernel, by decide +kernel⟩, (zin_of zc6 (i := 127) rfl rfl), (zin_of zc6 (i := 128) rfl rfl)⟩
set_option maxRecDepth 40000 in
theorem MV_Mod_reverse : zMV yMod_reverse hMod_reverse 1 := ⟨⟨(zin_of zc1 (i := 5) rfl rfl), (zin_of zc6 (i := 133) rfl rfl), by decide +kernel, by decide +kernel⟩, (zin_of zc6 (i := 131) rfl rfl), (zin_of zc6 (i := 132) rfl rfl)⟩
set_option maxRecDepth 40000 in
theorem MV_Mod_through : zMV yMod_through hMod_through 3 := ⟨⟨(zin_of zc1 (i := 5) rfl rfl), (zin_of zc6 (i := 137) rfl rfl), by decide +kernel, by decide +kernel⟩, (zin_of zc6 (i := 135) rfl rfl), (zin_of zc6 (i := 136) rfl rfl)⟩
set_option maxRecDepth 40000 in
theorem MV_Mod_areSame : zMV yMod_areSame hMod_areSame 2 := ⟨⟨(zin_of zc1 (i := 5) rfl rfl), (zin_of zc6 (i := 141) rfl rfl), by decide +kernel, by decide +kernel⟩, (zin_of zc6 (i := 139) rfl rfl), (zin_of zc6 (i := 140) rfl rfl)⟩
set_option maxRecDepth 40000 in
theorem MV_Mod_isMirror : zMV yMod_isMirror hMod_isMirror 1 := ⟨⟨(zin_of zc1 (i := 5) rfl rfl), (zin_of zc6 (i := 148) rfl rfl), by decide +kernel, by decide +kernel⟩, (zin_of zc6 (i := 146) rfl rfl), (zin_of zc6 (i := 147) rfl rfl)⟩
set_option maxRecDepth 40000 in
theorem MV_Mod_open : zMV yMod_open hMod_open 3 := ⟨⟨(zin_of zc1 (i := 5) rfl rfl), (zin_of zc6 (i := 152) rfl rfl), by decide +kernel, by decide +kernel⟩, (zin_of zc6 (i := 150) rfl rfl), (zin_of zc6 (i := 151) rfl rfl)⟩
set_option maxRecDepth 40000 in
theorem MV_Mod_shut : zMV yMod_shut hMod_shut 1 := ⟨⟨(zin_of zc1 (i := 5) rfl rfl), (zin_of zc6 (i := 159) rfl rfl), by decide +kernel, by decide +kernel⟩, (zin_of zc6 (i := 157) rfl rfl), (zin_of zc6 (i := 158) rfl rfl)⟩
set_option maxRecDepth 40000 in
theorem MV_Mod_isNotThere : zMV yMod_isNotThere hMod_isNotThere 1 := ⟨⟨(zin_of zc1 (i := 5) rfl rfl), (zin_of zc6 (i := 171) rfl rfl), by decide +kernel, by decide +kernel⟩, (zin_of zc6 (i := 170) rfl rfl), (zin_of zc0 (i := 61) rfl rfl)⟩
set_option maxRecDepth 40000 in
theorem MV_Mod_goes : zMV yMod_goes hMod_goes 2 := ⟨⟨(zin_of zc1 (i := 5) rfl rfl), (zin_of zc6 (i := 175) rfl rfl), by decide +kernel, by decide +kernel⟩, (zin_of zc6 (i := 174) rfl rfl), (zin_of zc0 (i := 62) rfl rfl)⟩
set_option maxRecDepth 40000 in
theorem MV_Mod_asksOn : zMV yMod_asksOn hMod_asksOn 2 := ⟨⟨(zin_of zc1 (i := 5) rfl rfl), (zin_of zc6 (i := 167) rfl rfl), by decide +kernel, by decide +kernel⟩, (zin_of zc6 (i := 166) rfl rfl), (zin_of zc0 (i := 60) rfl rfl)⟩
set_option maxRecDepth 40000 in
theorem MV_Mod_forth : zMV yMod_forth hMod_forth 1 := ⟨⟨(zin_of zc1 (i := 5) rfl rfl), (zin_of zc6 (i := 163) rfl rfl), by decide +kernel, by decide +kernel⟩, (zin_of zc6 (i := 161) rfl rfl), (zin_of zc6 (i := 162) rfl rfl)⟩
set_option maxRecDepth 40000 in
theorem MV_Mod_back : zMV yMod_back hMod_back 1 := ⟨⟨(zin_of zc1 (i := 5) rfl rfl), (zin_of zc6 (i := 179) rfl rfl), by decide +kernel, by decide +kernel⟩, (zin_of zc6 (i := 177) rfl rfl), (zin_of zc6 (i := 178) rfl rfl)⟩
set_option maxRecDepth 40000 in
theorem MV_Mod_puts : zMV yMod_puts hMod_puts 2 := ⟨⟨(zin_of zc1 (i := 5) rfl rfl), (zin_of zc6 (i := 183) rfl rfl), by decide +kernel, by decide +kernel⟩, (zin_of zc6 (i := 181) rfl rfl), (zin_of zc6 (i := 182) rfl rfl)⟩
set_option maxRecDepth 40000 in
theorem MV_Mod_cuts : zMV yMod_cuts hMod_cuts 1 := ⟨⟨(zin_of zc1 (i := 5) rfl rfl), (zin_of zc6 (i := 187) rfl rfl), by decide +kernel, by decide +kernel⟩, (zin_of zc6 (i := 185) rfl rfl), (zin_of zc6 (i := 186) rfl rfl)⟩
set_option maxRecDepth 40000 in
theorem MV_Mod_changes : zMV yMod_changes hMod_changes 2 := ⟨⟨(zin_of zc1 (i := 5) rfl rfl), (zin_of zc6 (i := 191) rfl rfl), by decide +kernel, by decide +kernel⟩, (zin_of zc6 (i := 189) rfl rfl), (zin_of zc6 (i := 190) rfl rfl)⟩
set_option maxRecDepth 40000 in
theorem MV_Mod_meet : zMV yMod_meet hMod_meet 2 := ⟨⟨(zin_of zc1 (i := 5) rfl rfl), (zin_of zc6 (i := 195) rfl rfl), by decide +kernel, by decide +kernel⟩, (zin_of zc6 (i := 193) rfl rfl), (zin_of zc6 (i := 194) rfl rfl)⟩
set_option maxRecDepth 40000 in
theorem MV_Mod_ofCursorNow : zMV yMod_ofCursorNow hMod_ofCursorNow 2 := ⟨⟨(zin_of zc1 (i := 5) rfl rfl), (zin_of zc6 (i := 203) rfl rfl), by decide +kernel, by decide +kernel⟩, (zin_of zc6 (i := 202) rfl rfl), (zin_of zc0 (i := 63) rfl rfl)⟩
set_option maxRecDepth 40000 in
theorem MV_Mod_ofCursor : zMV yMod_ofCursor hMod_ofCursor 2 := ⟨⟨(zin_of zc1 (i := 5) rfl rfl), (zin_of zc6 (i := 199) rfl rfl), by decide +kernel, by decide +kernel⟩, (zin_of zc6 (i := 197) rfl rfl), (zin_of zc6 (i := 198) rfl rfl)⟩
set_option maxRecDepth 40000 in
theorem MS_Mod_fitting : zMS yMod_fitting hMod_fitting 1 := ⟨⟨(zin_of zc1 (i := 5) rfl rfl), (zin_of zc6 (i := 214) rfl rfl), by decide +kernel, by decide +kernel⟩, (zin_of zc6 (i := 213) rfl rfl)⟩
set_option maxRecDepth 40000 in
theorem MV_Mod_fits : zMV yMod_fits hMod_fits 2 := ⟨⟨(zin_of zc1 (i := 5) rfl rfl), (zin_of zc6 (i := 211) rfl rfl), by decide +kernel, by decide +kernel⟩, (zin_of zc6 (i := 210) rfl rfl), (zin_of zc0 (i := 64) rfl rfl)⟩
set_option maxRecDepth 40000 in
theorem MV_Mod_plus : zMV yMod_plus hMod_plus 2 := ⟨⟨(zin_of zc1 (i := 5) rfl rfl), (zin_of zc6 (i := 207) rfl rfl), by decide +kernel, by decide +kernel⟩, (zin_of zc6 (i := 205) rfl rfl), (zin_of zc6 (i := 206) rfl rfl)⟩
set_option maxRecDepth 40000 in
theorem MV_Mod_times : zMV yMod_times hMod_times 2 := ⟨⟨(zin_of zc1 (i := 5) rfl rfl), (zin_of zc6 (i := 221) rfl rfl), by decide +kernel, by decide +kernel⟩, (zin_of zc6 (i := 219) rfl rfl), (zin_of zc6 (i := 220) rfl rfl)⟩
set_option maxRecDepth 40000 in
theorem MV_Mod_shift : zMV yMod_shift hMod_shift 1 := ⟨⟨(zin_of zc1 (i := 5) rfl rfl), (zin_of zc6 (i := 225) rfl rfl), by decide +kernel, by decide +kernel⟩, (zin_of zc6 (i := 223) rfl rfl), (zin_of zc6 (i := 224) rfl rfl)⟩
set_option maxRecDepth 40000 in
theorem MV_Mod_trim : zMV yMod_trim hMod_trim 1 := ⟨⟨(zin_of zc1 (i := 5) rfl rfl), (zin_of zc6 (i := 229) rfl rfl), by decide +kernel, by decide +kernel⟩, (zin_of zc6 (i := 227) rfl rfl), (zin_of zc6 (i := 228) rfl rfl)⟩
set_option maxRecDepth 40000 in
theorem MV_Mod_derive : zMV yMod_derive hMod_derive 1 := ⟨⟨(zin_of zc1 (i := 5) rfl rfl), (zin_of zc6 (i := 233) rfl rfl), by decide +kernel, by decide +kernel⟩, (zin_of zc6 (i := 231) rfl rfl), (zin_of zc6 (i := 232) rfl rfl)⟩
set_option maxRecDepth 40000 in
theorem MS_Mod_rest : zMS yMod_rest hMod_rest 1 := ⟨⟨(zin_of zc1 (i := 5) rfl rfl), (zin_of zc7 (i := 3) rfl rfl), by decide +kernel, by decide +kernel⟩, (zin_of zc7 (i := 2) rfl rfl)⟩
set_option maxRecDepth 40000 in
theorem MS_Mod_valueOf : zMS yMod_valueOf hMod_valueOf 2 := ⟨⟨(zin_of zc1 (i := 5) rfl rfl), (zin_of zc7 (i := 0) rfl rfl), by decide +kernel, by decide +kernel⟩, (zin_of zc6 (i := 239) rfl rfl)⟩
set_option maxRecDepth 40000 in
theorem MV_Mod_value : zMV yMod_value hMod_value 2 := ⟨⟨(zin_of zc1 (i := 5) rfl rfl), (zin_of zc6 (i := 237) rfl rfl), by decide +kernel, by decide +kernel⟩, (zin_of zc6 (i := 235) rfl rfl), (zin_of zc6 (i := 236) rfl rfl)⟩
set_option maxRecDepth 40000 in
theorem MS_Mod_degreeOf : zMS yMod_degreeOf hMod_degreeOf 1 := ⟨⟨(zin_of zc1 (i := 5) rfl rfl), (zin_of zc7 (i := 11) rfl rfl), by decide +kernel, by decide +kernel⟩, (zin_of zc7 (i := 10) rfl rfl)⟩
set_option maxRecDepth 40000 in
theorem MV_Mod_degree : zMV yMod_degree hMod_degree 1 := ⟨⟨(zin_of zc1 (i := 5) rfl rfl), (zin_of zc7 (i := 8) rfl rfl), by decide +kernel, by decide +kernel⟩, (zin_of zc7 (i := 6) rfl rfl), (zin_of zc7 (i := 7) rfl rfl)⟩
set_option maxRecDepth 40000 in
theorem MV_Mod_ask : zMV yMod_ask hMod_ask 1 := ⟨⟨(zin_of zc1 (i := 5) rfl rfl), (zin_of zc7 (i := 15) rfl rfl), by decide +kernel, by decide +kernel⟩, (zin_of zc7 (i := 13) rfl rfl), (zin_of zc7 (i := 14) rfl rfl)⟩
set_option maxRecDepth 40000 in
theorem MV_Mod_forget : zMV yMod_forget hMod_forget 0 := ⟨⟨(zin_of zc1 (i := 5) rfl rfl), (zin_of zc7 (i := 19) rfl rfl), by decide +kernel, by decide +kernel⟩, (zin_of zc7 (i := 17) rfl rfl), (zin_of zc7 (i := 18) rfl rfl)⟩
set_option maxRecDepth 40000 in
theorem MV_Mod_askedNow : zMV yMod_askedNow hMod_askedNow 1 := ⟨⟨(zin_of zc1 (i := 5) rfl rfl), (zin_of zc7 (i := 27) rfl rfl), by decide +kernel, by decide +kernel⟩, (zin_of zc7 (i := 26) rfl rfl), (zin_of zc0 (i := 65) rfl rfl)⟩
set_option maxRecDepth 40000 in
theorem MV_Mod_asked : zMV yMod_asked hMod_asked 1 := ⟨⟨(zin_of zc1 (i := 5) rfl rfl), (zin_of zc7 (i := 23) rfl rfl), by decide +kernel, by decide +kernel⟩, (zin_of zc7 (i := 21) rfl rfl), (zin_of zc7 (i := 22) rfl rfl)⟩
set_option maxRecDepth 40000 in
theorem MV_Mod_recent : zMV yMod_recent hMod_recent 0 := ⟨⟨(zin_of zc1 (i := 5) rfl rfl), (zin_of zc7 (i := 31) rfl rfl), by decide +kernel, by decide +kernel⟩, (zin_of zc7 (i := 29) rfl rfl), (zin_of zc7 (i := 30) rfl rfl)⟩
set_option maxRecDepth 40000 in
theorem MS_Mod_isOrder : zMS yMod_isOrder hMod_isOrder 1 := ⟨⟨(zin_of zc1 (i := 5) rfl rfl), (zin_of zc7 (i := 38) rfl rfl), by decide +kernel, by decide +kernel⟩, (zin_of zc7 (i := 37) rfl rfl)⟩
set_option maxRecDepth 40000 in
theorem MV_Mod_byOrderNow : zMV yMod_byOrderNow hMod_byOrderNow 2 := ⟨⟨(zin_of zc1 (i := 5) rfl rfl), (zin_of zc7 (i := 42) rfl rfl), by decide +kernel, by decide +kernel⟩, (zin_of zc7 (i := 41) rfl rfl), (zin_of zc0 (i := 66) rfl rfl)⟩
set_option maxRecDepth 40000 in
theorem MV_Mod_byOrder : zMV yMod_byOrder hMod_byOrder 2 := ⟨⟨(zin_of zc1 (i := 5) rfl rfl), (zin_of zc7 (i := 35) rfl rfl), by decide +kernel, by decide +kernel⟩, (zin_of zc7 (i := 33) rfl rfl), (zin_of zc7 (i := 34) rfl rfl)⟩
set_option maxRecDepth 40000 in
theorem MV_Mod_houseNow : zMV yMod_houseNow hMod_houseNow 1 := ⟨⟨(zin_of zc1 (i := 5) rfl rfl), (zin_of zc7 (i := 50) rfl rfl), by decide +kernel, by decide +kernel⟩, (zin_of zc7 (i := 49) rfl rfl), (zin_of zc0 (i := 67) rfl rfl)⟩
set_option maxRecDepth 40000 in
theorem MV_Mod_house : zMV yMod_house hMod_house 1 := ⟨⟨(zin_of zc1 (i := 5) rfl rfl), (zin_of zc7 (i := 46) rfl rfl), by decide +kernel, by decide +kernel⟩, (zin_of zc7 (i := 44) rfl rfl), (zin_of zc7 (i := 45) rfl rfl)⟩
set_option maxRecDepth 40000 in
theorem MV_Mod_knock : zMV yMod_knock hMod_knock 0 := ⟨⟨(zin_of zc1 (i := 5) rfl rfl), (zin_of zc7 (i := 54) rfl rfl), by decide +kernel, by decide +kernel⟩, (zin_of zc7 (i := 52) rfl rfl), (zin_of zc7 (i := 53) rfl rfl)⟩
set_option maxRecDepth 40000 in
theorem MV_Mod_isSound : zMV yMod_isSound hMod_isSound 0 := ⟨⟨(zin_of zc1 (i := 5) rfl rfl), (zin_of zc7 (i := 58) rfl rfl), by decide +kernel, by decide +kernel⟩, (zin_of zc7 (i := 56) rfl rfl), (zin_of zc7 (i := 57) rfl rfl)⟩
set_option maxRecDepth 40000 in
theorem MS_Mod_add : zMS yMod_add hMod_add 2 := ⟨⟨(zin_of zc1 (i := 5) rfl rfl), (zin_of zc7 (i := 66) rfl rfl), by decide +kernel, by decide +kernel⟩, (zin_of zc7 (i := 65) rfl rfl)⟩
set_option maxRecDepth 40000 in
theorem MV_Mod_digest : zMV yMod_digest hMod_digest 0 := ⟨⟨(zin_of zc1 (i := 5) rfl rfl), (zin_of zc7 (i := 62) rfl rfl), by decide +kernel, by decide +kernel⟩, (zin_of zc7 (i := 60) rfl rfl), (zin_of zc7 (i := 61) rfl rfl)⟩
set_option maxRecDepth 40000 in
theorem MI_Asb_init_d00df : zMI yAsb_init_d00df hAsb_init_d00df 1 := ⟨⟨(zin_of zc1 (i := 12) rfl rfl), (zin_of zc1 (i := 163) rfl rfl), by decide +kernel, by decide +kernel⟩, (zin_of zc1 (i := 162) rfl rfl), rfl, rfl⟩
set_option maxRecDepth 40000 in
theorem MS_Int_getChars_ba4f3 : zMS yInt_getChars_ba4f3 hInt_getChars_ba4f3 3 := ⟨⟨(zin_of zc1 (i := 22) rfl rfl), (zin_of zc2 (i := 55) rfl rfl), by decide +kernel, by decide +kernel⟩, (zin_of zc2 (i := 54) rfl rfl)⟩
set_option maxRecDepth 40000 in
theorem MS_Int_stringSize_0f7a4 : zMS yInt_stringSize_0f7a4 hInt_stringSize_0f7a4 1 := ⟨⟨(zin_of zc1 (i := 22) rfl rfl), (zin_of zc2 (i := 52) rfl rfl), by decide +kernel, by decide +kernel⟩, (zin_of zc2 (i := 51) rfl rfl)⟩
set_option maxRecDepth 40000 in
theorem MS_Mth_floorMod_7cf53 : zMS yMth_floorMod_7cf53 hMth_floorMod_7cf53 2 := ⟨⟨(zin_of zc1 (i := 17) rfl rfl), (zin_of zc3 (i := 52) rfl rfl), by decide +kernel, by decide +kernel⟩, (zin_of zc3 (i := 51) rfl rfl)⟩
set_option maxRecDepth 40000 in
theorem MS_Mth_max_7cf53 : zMS yMth_max_7cf53 hMth_max_7cf53 2 := ⟨⟨(zin_of zc1 (i := 17) rfl rfl), (zin_of zc1 (i := 208) rfl rfl), by decide +kernel, by decide +kernel⟩, (zin_of zc1 (i := 207) rfl rfl)⟩
set_option maxRecDepth 40000 in
theorem MS_Mth_min_7cf53 : zMS yMth_min_7cf53 hMth_min_7cf53 2 := ⟨⟨(zin_of zc1 (i := 17) rfl rfl), (zin_of zc1 (i := 226) rfl rfl), by decide +kernel, by decide +kernel⟩, (zin_of zc1 (i := 225) rfl rfl)⟩
set_option maxRecDepth 40000 in
theorem MI_Str_init_81219 : zMI yStr_init_81219 hStr_init_81219 1 := ⟨⟨(zin_of zc1 (i := 14) rfl rfl), (zin_of zc2 (i := 85) rfl rfl), by decide +kernel, by decide +kernel⟩, (zin_of zc2 (i := 84) rfl rfl), rfl, rfl⟩
set_option maxRecDepth 40000 in
theorem MV_Str_length_8abf5 : zMV yStr_length_8abf5 hStr_length_8abf5 0 := ⟨⟨(zin_of zc1 (i := 14) rfl rfl), (zin_of zc2 (i := 175) rfl rfl), by decide +kernel, by decide +kernel⟩, (zin_of zc2 (i := 173) rfl rfl), (zin_of zc2 (i := 174) rfl rfl)⟩
set_option maxRecDepth 40000 in
theorem MV_Str_getBytes_840e7 : zMV yStr_getBytes_840e7 hStr_getBytes_840e7 3 := ⟨⟨(zin_of zc1 (i := 14) rfl rfl), (zin_of zc2 (i := 193) rfl rfl), by decide +kernel, by decide +kernel⟩, (zin_of zc2 (i := 191) rfl rfl), (zin_of zc2 (i := 192) rfl rfl)⟩
set_option maxRecDepth 40000 in
theorem MI_Str_init_db425 : zMI yStr_init_db425 hStr_init_db425 2 := ⟨⟨(zin_of zc1 (i := 14) rfl rfl), (zin_of zc2 (i := 88) rfl rfl), by decide +kernel, by decide +kernel⟩, (zin_of zc2 (i := 87) rfl rfl), rfl, rfl⟩
set_option maxRecDepth 40000 in
theorem MV_Str_coder_7d493 : zMV yStr_coder_7d493 hStr_coder_7d493 0 := ⟨⟨(zin_of zc1 (i := 14) rfl rfl), (zin_of zc2 (i := 179) rfl rfl), by decide +kernel, by decide +kernel⟩, (zin_of zc2 (i := 177) rfl rfl), (zin_of zc2 (i := 178) rfl rfl)⟩
set_option maxRecDepth 40000 in
theorem MS_Str_checkIndex_df160 : zMS yStr_checkIndex_df160 hStr_checkIndex_df160 2 := ⟨⟨(zin_of zc1 (i := 14) rfl rfl), (zin_of zc2 (i := 39) rfl rfl), by decide +kernel, by decide +kernel⟩, (zin_of zc2 (i := 38) rfl rfl)⟩
set_option maxRecDepth 40000 in
theorem MS_Str_checkBoundsOffCount_cabcc : zMS yStr_checkBoundsOffCount_cabcc hStr_checkBoundsOffCount_cabcc 3 := ⟨⟨(zin_of zc1 (i := 14) rfl rfl), (zin_of zc2 (i := 16) rfl rfl), by decide +kernel, by decide +kernel⟩, (zin_of zc2 (i := 15) rfl rfl)⟩
set_option maxRecDepth 40000 in
theorem MS_Str_checkBoundsBeginEnd_23922 : zMS yStr_checkBoundsBeginEnd_23922 hStr_checkBoundsBeginEnd_23922 3 := ⟨⟨(zin_of zc1 (i := 14) rfl rfl), (zin_of zc2 (i := 68) rfl rfl), by decide +kernel, by decide +kernel⟩, (zin_of zc2 (i := 67) rfl rfl)⟩
set_option maxRecDepth 40000 in
theorem MI_Sbd_init_da8c8 : zMI ySbd_init_da8c8 hSbd_init_da8c8 0 := ⟨⟨(zin_of zc1 (i := 13) rfl rfl), (zin_of zc1 (i := 160) rfl rfl), by decide +kernel, by decide +kernel⟩, (zin_of zc1 (i := 159) rfl rfl), rfl, rfl⟩
set_option maxRecDepth 40000 in
theorem MV_Sbd_append_15ec4 : zMV ySbd_append_15ec4 hSbd_append_15ec4 1 := ⟨⟨(zin_of zc1 (i := 13) rfl rfl), (zin_of zc2 (i := 161) rfl rfl), by decide +kernel, by decide +kernel⟩, (zin_of zc2 (i := 159) rfl rfl), (zin_of zc2 (i := 160) rfl rfl)⟩
set_option maxRecDepth 40000 in
theorem MV_Sbd_append_cf468 : zMV ySbd_append_cf468 hSbd_append_cf468 1 := ⟨⟨(zin_of zc1 (i := 13) rfl rfl), (zin_of zc1 (i := 191) rfl rfl), by decide +kernel, by decide +kernel⟩, (zin_of zc1 (i := 189) rfl rfl), (zin_of zc1 (i := 190) rfl rfl)⟩
set_option maxRecDepth 40000 in
theorem MV_Sbd_append_bf812 : zMV ySbd_append_bf812 hSbd_append_bf812 1 := ⟨⟨(zin_of zc1 (i := 13) rfl rfl), (zin_of zc2 (i := 46) rfl rfl), by decide +kernel, by decide +kernel⟩, (zin_of zc2 (i := 44) rfl rfl), (zin_of zc2 (i := 45) rfl rfl)⟩
set_option maxRecDepth 40000 in
theorem MV_Sbd_toString_0e30d : zMV ySbd_toString_0e30d hSbd_toString_0e30d 0 := ⟨⟨(zin_of zc1 (i := 13) rfl rfl), (zin_of zc2 (i := 80) rfl rfl), by decide +kernel, by decide +kernel⟩, (zin_of zc2 (i := 78) rfl rfl), (zin_of zc2 (i := 79) rfl rfl)⟩
set_option maxRecDepth 40000 in
theorem MS_Lat_canEncode_fc78d : zMS yLat_canEncode_fc78d hLat_canEncode_fc78d 1 := ⟨⟨(zin_of zc1 (i := 20) rfl rfl), (zin_of zc1 (i := 237) rfl rfl), by decide +kernel, by decide +kernel⟩, (zin_of zc1 (i := 236) rfl rfl)⟩
set_option maxRecDepth 40000 in
theorem MS_Lat_inflate_0e8fd : zMS yLat_inflate_0e8fd hLat_inflate_0e8fd 5 := ⟨⟨(zin_of zc1 (i := 20) rfl rfl), (zin_of zc2 (i := 4) rfl rfl), by decide +kernel, by decide +kernel⟩, (zin_of zc2 (i := 3) rfl rfl)⟩
set_option maxRecDepth 40000 in
theorem MS_Utf_newBytesFor_77867 : zMS yUtf_newBytesFor_77867 hUtf_newBytesFor_77867 1 := ⟨⟨(zin_of zc1 (i := 15) rfl rfl), (zin_of zc1 (i := 169) rfl rfl), by decide +kernel, by decide +kernel⟩, (zin_of zc1 (i := 168) rfl rfl)⟩
set_option maxRecDepth 40000 in
theorem MS_Utf_newBytesLength_0f7a4 : zMS yUtf_newBytesLength_0f7a4 hUtf_newBytesLength_0f7a4 1 := ⟨⟨(zin_of zc1 (i := 15) rfl rfl), (zin_of zc1 (i := 172) rfl rfl), by decide +kernel, by decide +kernel⟩, (zin_of zc1 (i := 171) rfl rfl)⟩
set_option maxRecDepth 40000 in
theorem MS_Utf_putChar_b72d1 : zMS yUtf_putChar_b72d1 hUtf_putChar_b72d1 3 := ⟨⟨(zin_of zc1 (i := 15) rfl rfl), (zin_of zc2 (i := 24) rfl rfl), by decide +kernel, by decide +kernel⟩, (zin_of zc2 (i := 23) rfl rfl)⟩
set_option maxRecDepth 40000 in
theorem MS_Utf_getChar_3b067 : zMS yUtf_getChar_3b067 hUtf_getChar_3b067 2 := ⟨⟨(zin_of zc1 (i := 15) rfl rfl), (zin_of zc2 (i := 230) rfl rfl), by decide +kernel, by decide +kernel⟩, (zin_of zc2 (i := 229) rfl rfl)⟩
set_option maxRecDepth 40000 in
theorem MS_Utf_length_9d52b : zMS yUtf_length_9d52b hUtf_length_9d52b 1 := ⟨⟨(zin_of zc1 (i := 15) rfl rfl), (zin_of zc2 (i := 13) rfl rfl), by decide +kernel, by decide +kernel⟩, (zin_of zc2 (i := 12) rfl rfl)⟩
set_option maxRecDepth 40000 in
theorem MS_Utf_coderFromArrayLen_85cad : zMS yUtf_coderFromArrayLen_85cad hUtf_coderFromArrayLen_85cad 2 := ⟨⟨(zin_of zc1 (i := 15) rfl rfl), (zin_of zc2 (i := 234) rfl rfl), by decide +kernel, by decide +kernel⟩, (zin_of zc2 (i := 233) rfl rfl)⟩
set_option maxRecDepth 40000 in
theorem MS_Utf_compress_39247 : zMS yUtf_compress_39247 hUtf_compress_39247 3 := ⟨⟨(zin_of zc1 (i := 15) rfl rfl), (zin_of zc2 (i := 224) rfl rfl), by decide +kernel, by decide +kernel⟩, (zin_of zc2 (i := 223) rfl rfl)⟩
set_option maxRecDepth 40000 in
theorem MS_Utf_compress_5af95 : zMS yUtf_compress_5af95 hUtf_compress_5af95 5 := ⟨⟨(zin_of zc1 (i := 15) rfl rfl), (zin_of zc2 (i := 227) rfl rfl), by decide +kernel, by decide +kernel⟩, (zin_of zc2 (i := 226) rfl rfl)⟩
set_option maxRecDepth 40000 in
theorem MS_Utf_putCharSB_b72d1 : zMS yUtf_putCharSB_b72d1 hUtf_putCharSB_b72d1 3 := ⟨⟨(zin_of zc1 (i := 15) rfl rfl), (zin_of zc2 (i := 33) rfl rfl), by decide +kernel, by decide +kernel⟩, (zin_of zc2 (i := 32) rfl rfl)⟩
set_option maxRecDepth 40000 in
theorem MS_Utf_getChars_46870 : zMS yUtf_getChars_46870 hUtf_getChars_46870 4 := ⟨⟨(zin_of zc1 (i := 15) rfl rfl), (zin_of zc2 (i := 62) rfl rfl), by decide +kernel, by decide +kernel⟩, (zin_of zc2 (i := 61) rfl rfl)⟩
set_option maxRecDepth 40000 in
theorem MS_Utf_putCharsAt_cd4e5 : zMS yUtf_putCharsAt_cd4e5 hUtf_putCharsAt_cd4e5 6 := ⟨⟨(zin_of zc1 (i := 15) rfl rfl), (zin_of zc2 (i := 171) rfl rfl), by decide +kernel, by decide +kernel⟩, (zin_of zc2 (i := 170) rfl rfl)⟩
set_option maxRecDepth 40000 in
theorem MS_Utf_inflate_0e8fd : zMS yUtf_inflate_0e8fd hUtf_inflate_0e8fd 5 := ⟨⟨(zin_of zc1 (i := 15) rfl rfl), (zin_of zc2 (i := 7) rfl rfl), by decide +kernel, by decide +kernel⟩, (zin_of zc2 (i := 6) rfl rfl)⟩
set_option maxRecDepth 40000 in
theorem MS_Utf_getChars_ba4f3 : zMS yUtf_getChars_ba4f3 hUtf_getChars_ba4f3 3 := ⟨⟨(zin_of zc1 (i := 15) rfl rfl), (zin_of zc2 (i := 74) rfl rfl), by decide +kernel, by decide +kernel⟩, (zin_of zc2 (i := 73) rfl rfl)⟩
set_option maxRecDepth 40000 in
theorem MS_Utf_checkIndex_2214a : zMS yUtf_checkIndex_2214a hUtf_checkIndex_2214a 2 := ⟨⟨(zin_of zc1 (i := 15) rfl rfl), (zin_of zc2 (i := 36) rfl rfl), by decide +kernel, by decide +kernel⟩, (zin_of zc2 (i := 35) rfl rfl)⟩
set_option maxRecDepth 40000 in
theorem MS_Utf_checkBoundsBeginEnd_d044e : zMS yUtf_checkBoundsBeginEnd_d044e hUtf_checkBoundsBeginEnd_d044e 3 := ⟨⟨(zin_of zc1 (i := 15) rfl rfl), (zin_of zc2 (i := 65) rfl rfl), by decide +kernel, by decide +kernel⟩, (zin_of zc2 (i := 64) rfl rfl)⟩
set_option maxRecDepth 40000 in
theorem MS_Utf_checkBoundsOffCount_d044e : zMS yUtf_checkBoundsOffCount_d044e hUtf_checkBoundsOffCount_d044e 3 := ⟨⟨(zin_of zc1 (i := 15) rfl rfl), (zin_of zc2 (i := 10) rfl rfl), by decide +kernel, by decide +kernel⟩, (zin_of zc2 (i := 9) rfl rfl)⟩
set_option maxRecDepth 40000 in
theorem MS_Arr_copyOf_9075b : zMS yArr_copyOf_9075b hArr_copyOf_9075b 2 := ⟨⟨(zin_of zc1 (i := 18) rfl rfl), (zin_of zc1 (i := 216) rfl rfl), by decide +kernel, by decide +kernel⟩, (zin_of zc1 (i := 215) rfl rfl)⟩
set_option maxRecDepth 40000 in
theorem MS_Arr_checkLength_df160 : zMS yArr_checkLength_df160 hArr_checkLength_df160 2 := ⟨⟨(zin_of zc1 (i := 18) rfl rfl), (zin_of zc2 (i := 112) rfl rfl), by decide +kernel, by decide +kernel⟩, (zin_of zc2 (i := 111) rfl rfl)⟩
set_option maxRecDepth 40000 in
theorem MS_Arr_copyOfRange_39247 : zMS yArr_copyOfRange_39247 hArr_copyOfRange_39247 3 := ⟨⟨(zin_of zc1 (i := 18) rfl rfl), (zin_of zc2 (i := 106) rfl rfl), by decide +kernel, by decide +kernel⟩, (zin_of zc2 (i := 105) rfl rfl)⟩
set_option maxRecDepth 40000 in
theorem MS_Arr_copyOfRangeByte_39247 : zMS yArr_copyOfRangeByte_39247 hArr_copyOfRangeByte_39247 3 := ⟨⟨(zin_of zc1 (i := 18) rfl rfl), (zin_of zc2 (i := 109) rfl rfl), by decide +kernel, by decide +kernel⟩, (zin_of zc2 (i := 108) rfl rfl)⟩
set_option maxRecDepth 40000 in
theorem MS_Asu_newLength_cabcc : zMS yAsu_newLength_cabcc hAsu_newLength_cabcc 3 := ⟨⟨(zin_of zc1 (i := 16) rfl rfl), (zin_of zc1 (i := 205) rfl rfl), by decide +kernel, by decide +kernel⟩, (zin_of zc1 (i := 204) rfl rfl)⟩
set_option maxRecDepth 40000 in
theorem MS_Asu_hugeLength_7cf53 : zMS yAsu_hugeLength_7cf53 hAsu_hugeLength_7cf53 2 := ⟨⟨(zin_of zc1 (i := 16) rfl rfl), (zin_of zc1 (i := 212) rfl rfl), by decide +kernel, by decide +kernel⟩, (zin_of zc1 (i := 211) rfl rfl)⟩
set_option maxRecDepth 40000 in
theorem MS_Prc_checkIndex_8e157 : zMS yPrc_checkIndex_8e157 hPrc_checkIndex_8e157 3 := ⟨⟨(zin_of zc1 (i := 21) rfl rfl), (zin_of zc2 (i := 42) rfl rfl), by decide +kernel, by decide +kernel⟩, (zin_of zc2 (i := 41) rfl rfl)⟩
set_option maxRecDepth 40000 in
theorem MS_Prc_checkFromToIndex_8c36e : zMS yPrc_checkFromToIndex_8c36e hPrc_checkFromToIndex_8c36e 4 := ⟨⟨(zin_of zc1 (i := 21) rfl rfl), (zin_of zc2 (i := 71) rfl rfl), by decide +kernel, by decide +kernel⟩, (zin_of zc2 (i := 70) rfl rfl)⟩
set_option maxRecDepth 40000 in
theorem MS_Prc_checkFromIndexSize_8c36e : zMS yPrc_checkFromIndexSize_8c36e hPrc_checkFromIndexSize_8c36e 4 := ⟨⟨(zin_of zc1 (i := 21) rfl rfl), (zin_of zc2 (i := 21) rfl rfl), by decide +kernel, by decide +kernel⟩, (zin_of zc2 (i := 20) rfl rfl)⟩
set_option maxRecDepth 40000 in
theorem MW_Law_put : zMSW yLaw_put hLaw_put 5 := ⟨(zin_of zc1 (i := 0) rfl rfl), (zin_of zc3 (i := 219) rfl rfl), by decide +kernel, by decide +kernel, (zin_of zc3 (i := 218) rfl rfl)⟩
set_option maxRecDepth 40000 in
theorem MW_Law_take : zMSW yLaw_take hLaw_take 4 := ⟨(zin_of zc1 (i := 0) rfl rfl), (zin_of zc4 (i := 5) rfl rfl), by decide +kernel, by decide +kernel, (zin_of zc4 (i := 4) rfl rfl)⟩
set_option maxRecDepth 40000 in
theorem MW_Law_look : zMSW yLaw_look hLaw_look 4 := ⟨(zin_of zc1 (i := 0) rfl rfl), (zin_of zc4 (i := 20) rfl rfl), by decide +kernel, by decide +kernel, (zin_of zc4 (i := 19) rfl rfl)⟩
set_option maxRecDepth 40000 in
theorem MW_Law_get : zMSW yLaw_get hLaw_get 4 := ⟨(zin_of zc1 (i := 0) rfl rfl), (zin_of zc4 (i := 27) rfl rfl), by decide +kernel, by decide +kernel, (zin_of zc4 (i := 26) rfl rfl)⟩
set_option maxRecDepth 40000 in
theorem MW_Law_set : zMSW yLaw_set hLaw_set 5 := ⟨(zin_of zc1 (i := 0) rfl rfl), (zin_of zc4 (i := 39) rfl rfl), by decide +kernel, by decide +kernel, (zin_of zc4 (i := 38) rfl rfl)⟩
set_option maxRecDepth 40000 in
theorem MW_Law_insert : zMSW yLaw_insert hLaw_insert 5 := ⟨(zin_of zc1 (i := 0) rfl rfl), (zin_of zc4 (i := 47) rfl rfl), by decide +kernel, by decide +kernel, (zin_of zc4 (i := 46) rfl rfl)⟩
set_option maxRecDepth 40000 in
theorem MW_Law_removeAt : zMSW yLaw_removeAt hLaw_removeAt 4 := ⟨(zin_of zc1 (i := 0) rfl rfl), (zin_of zc4 (i := 59) rfl rfl), by decide +kernel, by decide +kernel, (zin_of zc4 (i := 58) rfl rfl)⟩
set_option maxRecDepth 40000 in
theorem MW_Law_drop : zMSW yLaw_drop hLaw_drop 5 := ⟨(zin_of zc1 (i := 0) rfl rfl), (zin_of zc4 (i := 66) rfl rfl), by decide +kernel, by decide +kernel, (zin_of zc4 (i := 65) rfl rfl)⟩
set_option maxRecDepth 40000 in
theorem MW_Law_thin : zMSW yLaw_thin hLaw_thin 4 := ⟨(zin_of zc1 (i := 0) rfl rfl), (zin_of zc4 (i := 74) rfl rfl), by decide +kernel, by decide +kernel, (zin_of zc4 (i := 73) rfl rfl)⟩
set_option maxRecDepth 40000 in
theorem MW_Law_indexOf : zMSW yLaw_indexOf hLaw_indexOf 5 := ⟨(zin_of zc1 (i := 0) rfl rfl), (zin_of zc4 (i := 85) rfl rfl), by decide +kernel, by decide +kernel, (zin_of zc4 (i := 84) rfl rfl)⟩
set_option maxRecDepth 40000 in
theorem MW_Law_has : zMSW yLaw_has hLaw_has 4 := ⟨(zin_of zc1 (i := 0) rfl rfl), (zin_of zc4 (i := 92) rfl rfl), by decide +kernel, by decide +kernel, (zin_of zc4 (i := 91) rfl rfl)⟩
set_option maxRecDepth 40000 in
theorem MW_Law_size : zMSW yLaw_size hLaw_size 3 := ⟨(zin_of zc1 (i := 0) rfl rfl), (zin_of zc4 (i := 99) rfl rfl), by decide +kernel, by decide +kernel, (zin_of zc4 (i := 98) rfl rfl)⟩
set_option maxRecDepth 40000 in
theorem MW_Law_text : zMSW yLaw_text hLaw_text 4 := ⟨(zin_of zc1 (i := 0) rfl rfl), (zin_of zc4 (i := 106) rfl rfl), by decide +kernel, by decide +kernel, (zin_of zc4 (i := 105) rfl rfl)⟩
set_option maxRecDepth 40000 in
theorem MW_Law_clear : zMSW yLaw_clear hLaw_clear 3 := ⟨(zin_of zc1 (i := 0) rfl rfl), (zin_of zc4 (i := 113) rfl rfl), by decide +kernel, by decide +kernel, (zin_of zc4 (i := 112) rfl rfl)⟩
set_option maxRecDepth 40000 in
theorem MW_Law_append : zMSW yLaw_append hLaw_append 4 := ⟨(zin_of zc1 (i := 0) rfl rfl), (zin_of zc4 (i := 120) rfl rfl), by decide +kernel, by decide +kernel, (zin_of zc4 (i := 119) rfl rfl)⟩
set_option maxRecDepth 40000 in
theorem MW_Law_appendAt : zMSW yLaw_appendAt hLaw_appendAt 5 := ⟨(zin_of zc1 (i := 0) rfl rfl), (zin_of zc4 (i := 136) rfl rfl), by decide +kernel, by decide +kernel, (zin_of zc4 (i := 135) rfl rfl)⟩
set_option maxRecDepth 40000 in
theorem MW_Law_copy : zMSW yLaw_copy hLaw_copy 4 := ⟨(zin_of zc1 (i := 0) rfl rfl), (zin_of zc4 (i := 143) rfl rfl), by decide +kernel, by decide +kernel, (zin_of zc4 (i := 142) rfl rfl)⟩
set_option maxRecDepth 40000 in
theorem MW_Law_places : zMSW yLaw_places hLaw_places 4 := ⟨(zin_of zc1 (i := 0) rfl rfl), (zin_of zc4 (i := 150) rfl rfl), by decide +kernel, by decide +kernel, (zin_of zc4 (i := 149) rfl rfl)⟩
set_option maxRecDepth 40000 in
theorem MW_Law_rotate : zMSW yLaw_rotate hLaw_rotate 4 := ⟨(zin_of zc1 (i := 0) rfl rfl), (zin_of zc4 (i := 158) rfl rfl), by decide +kernel, by decide +kernel, (zin_of zc4 (i := 157) rfl rfl)⟩
set_option maxRecDepth 40000 in
theorem MW_Law_move : zMSW yLaw_move hLaw_move 5 := ⟨(zin_of zc1 (i := 0) rfl rfl), (zin_of zc4 (i := 168) rfl rfl), by decide +kernel, by decide +kernel, (zin_of zc4 (i := 167) rfl rfl)⟩
set_option maxRecDepth 40000 in
theorem MW_Law_swap : zMSW yLaw_swap hLaw_swap 5 := ⟨(zin_of zc1 (i := 0) rfl rfl), (zin_of zc4 (i := 175) rfl rfl), by decide +kernel, by decide +kernel, (zin_of zc4 (i := 174) rfl rfl)⟩
set_option maxRecDepth 40000 in
theorem MW_Law_reverse : zMSW yLaw_reverse hLaw_reverse 3 := ⟨(zin_of zc1 (i := 0) rfl rfl), (zin_of zc4 (i := 183) rfl rfl), by decide +kernel, by decide +kernel, (zin_of zc4 (i := 182) rfl rfl)⟩
set_option maxRecDepth 40000 in
theorem MW_Law_through : zMSW yLaw_through hLaw_through 5 := ⟨(zin_of zc1 (i := 0) rfl rfl), (zin_of zc4 (i := 190) rfl rfl), by decide +kernel, by decide +kernel, (zin_of zc4 (i := 189) rfl rfl)⟩
set_option maxRecDepth 40000 in
theorem MW_Law_areSame : zMSW yLaw_areSame hLaw_areSame 4 := ⟨(zin_of zc1 (i := 0) rfl rfl), (zin_of zc4 (i := 201) rfl rfl), by decide +kernel, by decide +kernel, (zin_of zc4 (i := 200) rfl rfl)⟩
set_option maxRecDepth 40000 in
theorem MW_Law_isMirror : zMSW yLaw_isMirror hLaw_isMirror 3 := ⟨(zin_of zc1 (i := 0) rfl rfl), (zin_of zc4 (i := 208) rfl rfl), by decide +kernel, by decide +kernel, (zin_of zc4 (i := 207) rfl rfl)⟩
set_option maxRecDepth 40000 in
theorem MW_Law_open : zMSW yLaw_open hLaw_open 5 := ⟨(zin_of zc1 (i := 0) rfl rfl), (zin_of zc4 (i := 215) rfl rfl), by decide +kernel, by decide +kernel, (zin_of zc4 (i := 214) rfl rfl)⟩
set_option maxRecDepth 40000 in
theorem MW_Law_shut : zMSW yLaw_shut hLaw_shut 3 := ⟨(zin_of zc1 (i := 0) rfl rfl), (zin_of zc4 (i := 226) rfl rfl), by decide +kernel, by decide +kernel, (zin_of zc4 (i := 225) rfl rfl)⟩
set_option maxRecDepth 40000 in
theorem MW_Law_forth : zMSW yLaw_forth hLaw_forth 3 := ⟨(zin_of zc1 (i := 0) rfl rfl), (zin_of zc4 (i := 233) rfl rfl), by decide +kernel, by decide +kernel, (zin_of zc4 (i := 232) rfl rfl)⟩
set_option maxRecDepth 40000 in
theorem MW_Law_back : zMSW yLaw_back hLaw_back 3 := ⟨(zin_of zc1 (i := 0) rfl rfl), (zin_of zc5 (i := 26) rfl rfl), by decide +kernel, by decide +kernel, (zin_of zc5 (i := 25) rfl rfl)⟩
set_option maxRecDepth 40000 in
theorem MW_Law_puts : zMSW yLaw_puts hLaw_puts 4 := ⟨(zin_of zc1 (i := 0) rfl rfl), (zin_of zc5 (i := 37) rfl rfl), by decide +kernel, by decide +kernel, (zin_of zc5 (i := 36) rfl rfl)⟩
set_option maxRecDepth 40000 in
theorem MW_Law_cuts : zMSW yLaw_cuts hLaw_cuts 3 := ⟨(zin_of zc1 (i := 0) rfl rfl), (zin_of zc5 (i := 49) rfl rfl), by decide +kernel, by decide +kernel, (zin_of zc5 (i := 48) rfl rfl)⟩
set_option maxRecDepth 40000 in
theorem MW_Law_changes : zMSW yLaw_changes hLaw_changes 4 := ⟨(zin_of zc1 (i := 0) rfl rfl), (zin_of zc5 (i := 61) rfl rfl), by decide +kernel, by decide +kernel, (zin_of zc5 (i := 60) rfl rfl)⟩
set_option maxRecDepth 40000 in
theorem MW_Law_meet : zMSW yLaw_meet hLaw_meet 4 := ⟨(zin_of zc1 (i := 0) rfl rfl), (zin_of zc5 (i := 68) rfl rfl), by decide +kernel, by decide +kernel, (zin_of zc5 (i := 67) rfl rfl)⟩
set_option maxRecDepth 40000 in
theorem MW_Law_ofCursor : zMSW yLaw_ofCursor hLaw_ofCursor 4 := ⟨(zin_of zc1 (i := 0) rfl rfl), (zin_of zc5 (i := 79) rfl rfl), by decide +kernel, by decide +kernel, (zin_of zc5 (i := 78) rfl rfl)⟩
set_option maxRecDepth 40000 in
theorem MW_Law_plus : zMSW yLaw_plus hLaw_plus 4 := ⟨(zin_of zc1 (i := 0) rfl rfl), (zin_of zc5 (i := 83) rfl rfl), by decide +kernel, by decide +kernel, (zin_of zc5 (i := 82) rfl rfl)⟩
set_option maxRecDepth 40000 in
theorem MW_Law_times : zMSW yLaw_times hLaw_times 4 := ⟨(zin_of zc1 (i := 0) rfl rfl), (zin_of zc5 (i := 90) rfl rfl), by decide +kernel, by decide +kernel, (zin_of zc5 (i := 89) rfl rfl)⟩
set_option maxRecDepth 40000 in
theorem MW_Law_shift : zMSW yLaw_shift hLaw_shift 3 := ⟨(zin_of zc1 (i := 0) rfl rfl), (zin_of zc5 (i := 97) rfl rfl), by decide +kernel, by decide +kernel, (zin_of zc5 (i := 96) rfl rfl)⟩
set_option maxRecDepth 40000 in
theorem MW_Law_trim : zMSW yLaw_trim hLaw_trim 3 := ⟨(zin_of zc1 (i := 0) rfl rfl), (zin_of zc5 (i := 104) rfl rfl), by decide +kernel, by decide +kernel, (zin_of zc5 (i := 103) rfl rfl)⟩
set_option maxRecDepth 40000 in
theorem MW_Law_derive : zMSW yLaw_derive hLaw_derive 3 := ⟨(zin_of zc1 (i := 0) rfl rfl), (zin_of zc5 (i := 111) rfl rfl), by decide +kernel, by decide +kernel, (zin_of zc5 (i := 110) rfl rfl)⟩
set_option maxRecDepth 40000 in
theorem MW_Law_value : zMSW yLaw_value hLaw_value 4 := ⟨(zin_of zc1 (i := 0) rfl rfl), (zin_of zc5 (i := 122) rfl rfl), by decide +kernel, by decide +kernel, (zin_of zc5 (i := 121) rfl rfl)⟩
set_option maxRecDepth 40000 in
theorem MW_Law_degree : zMSW yLaw_degree hLaw_degree 3 := ⟨(zin_of zc1 (i := 0) rfl rfl), (zin_of zc5 (i := 129) rfl rfl), by decide +kernel, by decide +kernel, (zin_of zc5 (i := 128) rfl rfl)⟩
set_option maxRecDepth 40000 in
theorem MW_Law_ask : zMSW yLaw_ask hLaw_ask 3 := ⟨(zin_of zc1 (i := 0) rfl rfl), (zin_of zc5 (i := 136) rfl rfl), by decide +kernel, by decide +kernel, (zin_of zc5 (i := 135) rfl rfl)⟩
set_option maxRecDepth 40000 in
theorem MW_Law_asked : zMSW yLaw_asked hLaw_asked 3 := ⟨(zin_of zc1 (i := 0) rfl rfl), (zin_of zc5 (i := 150) rfl rfl), by decide +kernel, by decide +kernel, (zin_of zc5 (i := 149) rfl rfl)⟩
set_option maxRecDepth 40000 in
theorem MW_Law_byOrder : zMSW yLaw_byOrder hLaw_byOrder 4 := ⟨(zin_of zc1 (i := 0) rfl rfl), (zin_of zc5 (i := 154) rfl rfl), by decide +kernel, by decide +kernel, (zin_of zc5 (i := 153) rfl rfl)⟩
set_option maxRecDepth 40000 in
theorem MW_Law_house : zMSW yLaw_house hLaw_house 3 := ⟨(zin_of zc1 (i := 0) rfl rfl), (zin_of zc5 (i := 161) rfl rfl), by decide +kernel, by decide +kernel, (zin_of zc5 (i := 160) rfl rfl)⟩
set_option maxRecDepth 40000 in
theorem in_Law : Cond.initialized RLaw ∈ zWS := (zin_of zc1 (i := 0) rfl rfl)
set_option maxRecDepth 40000 in
theorem in_Cls : Cond.initialized RCls ∈ zWS := (zin_of zc1 (i := 1) rfl rfl)
set_option maxRecDepth 40000 in
theorem in_Rec : Cond.initialized RRec ∈ zWS := (zin_of zc1 (i := 2) rfl rfl)
set_option maxRecDepth 40000 in
theorem in_Row : Cond.initialized RRow ∈ zWS := (zin_of zc1 (i := 3) rfl rfl)
set_option maxRecDepth 40000 in
theorem in_Cur : Cond.initialized RCur ∈ zWS := (zin_of zc1 (i := 4) rfl rfl)
set_option maxRecDepth 40000 in
theorem in_Mod : Cond.initialized RMod ∈ zWS := (zin_of zc1 (i := 5) rfl rfl)
set_option maxRecDepth 40000 in
theorem in_Out : Cond.initialized ROut ∈ zWS := (zin_of zc1 (i := 6) rfl rfl)
set_option maxRecDepth 40000 in
theorem in_Throwable : Cond.initialized "java/lang/Throwable" ∈ zWS := (zin_of zc1 (i := 7) rfl rfl)
set_option maxRecDepth 40000 in
theorem in_Exception : Cond.initialized "java/lang/Exception" ∈ zWS := (zin_of zc1 (i := 8) rfl rfl)
set_option maxRecDepth 40000 in
theorem in_RuntimeException : Cond.initialized "java/lang/RuntimeException" ∈ zWS := (zin_of zc1 (i := 9) rfl rfl)
set_option maxRecDepth 40000 in
theorem in_IndexOutOfBoundsException : Cond.initialized "java/lang/IndexOutOfBoundsException" ∈ zWS := (zin_of zc1 (i := 10) rfl rfl)
set_option maxRecDepth 40000 in
theorem in_IllegalArgumentException : Cond.initialized "java/lang/IllegalArgumentException" ∈ zWS := (zin_of zc1 (i := 11) rfl rfl)
set_option maxRecDepth 40000 in
theorem in_Asb : Cond.initialized RAsb ∈ zWS := (zin_of zc1 (i := 12) rfl rfl)
set_option maxRecDepth 40000 in
theorem in_Sbd : Cond.initialized RSbd ∈ zWS := (zin_of zc1 (i := 13) rfl rfl)
set_option maxRecDepth 40000 in
theorem in_Str : Cond.initialized RStr ∈ zWS := (zin_of zc1 (i := 14) rfl rfl)
set_option maxRecDepth 40000 in
theorem in_Utf : Cond.initialized RUtf ∈ zWS := (zin_of zc1 (i := 15) rfl rfl)
set_option maxRecDepth 40000 in
theorem in_Asu : Cond.initialized RAsu ∈ zWS := (zin_of zc1 (i := 16) rfl rfl)
set_option maxRecDepth 40000 in
theorem in_Mth : Cond.initialized RMth ∈ zWS := (zin_of zc1 (i := 17) rfl rfl)
set_option maxRecDepth 40000 in
theorem in_Arr : Cond.initialized RArr ∈ zWS := (zin_of zc1 (i := 18) rfl rfl)
set_option maxRecDepth 40000 in
theorem in_Sys : Cond.initialized RSys ∈ zWS := (zin_of zc1 (i := 19) rfl rfl)
set_option maxRecDepth 40000 in
theorem in_Lat : Cond.initialized RLat ∈ zWS := (zin_of zc1 (i := 20) rfl rfl)
set_option maxRecDepth 40000 in
theorem in_Prc : Cond.initialized RPrc ∈ zWS := (zin_of zc1 (i := 21) rfl rfl)
set_option maxRecDepth 40000 in
theorem in_Int : Cond.initialized RInt ∈ zWS := (zin_of zc1 (i := 22) rfl rfl)
set_option maxRecDepth 40000 in
theorem in_IllegalStateException : Cond.initialized "java/lang/IllegalStateException" ∈ zWS := (zin_of zc1 (i := 23) rfl rfl)
set_option maxRecDepth 40000 in
theorem cl_Law_8 : Cond.classLink RLaw 8 RCls ∈ zWS := (zin_of zc1 (i := 24) rfl rfl)
set_option maxRecDepth 40000 in
theorem im_Cls : Cond.instantiable RCls 6 ∈ zWS := (zin_of zc1 (i := 25) rfl rfl)
set_option maxRecDepth 40000 in
theorem lk_Law_168 : Cond.methodLink RLaw 168 yCls_init ∈ zWS := (zin_of zc1 (i := 26) rfl rfl)
set_option maxRecDepth 40000 in
theorem lk_Cls_1 : Cond.methodLink RCls 1 objectInit ∈ zWS := (zin_of zc1 (i := 29) rfl rfl)
set_option maxRecDepth 40000 in
theorem cl_Cls_9 : Cond.classLink RCls 9 RRow ∈ zWS := (zin_of zc1 (i := 32) rfl rfl)
set_option maxRecDepth 40000 in
theorem cl_Cls_15 : Cond.classLink RCls 15 RCur ∈ zWS := (zin_of zc1 (i := 34) rfl rfl)
set_option maxRecDepth 40000 in
theorem cl_Cls_21 : Cond.classLink RCls 21 RRec ∈ zWS := (zin_of zc1 (i := 36) rfl rfl)
set_option maxRecDepth 40000 in
theorem im_Rec : Cond.instantiable RRec 5 ∈ zWS := (zin_of zc1 (i := 37) rfl rfl)
set_option maxRecDepth 40000 in
theorem lk_Cls_23 : Cond.methodLinkNest RCls 23 yRec_init "Cursorlist" ∈ zNW := (zinN_of zc1 (i := 38) rfl rfl)
set_option maxRecDepth 40000 in
theorem lk_Rec_3 : Cond.methodLink RRec 3 objectInit ∈ zWS := (zin_of zc1 (i := 41) rfl rfl)
set_option maxRecDepth 40000 in
theorem cl_Rec_9 : Cond.classLink RRec 9 RRow ∈ zWS := (zin_of zc1 (i := 42) rfl rfl)
set_option maxRecDepth 40000 in
theorem im_Row : Cond.instantiable RRow 2 ∈ zWS := (zin_of zc1 (i := 43) rfl rfl)
set_option maxRecDepth 40000 in
theorem lk_Rec_11 : Cond.methodLinkNest RRec 11 yRow_init "Cursorlist" ∈ zNW := (zinN_of zc1 (i := 44) rfl rfl)
set_option maxRecDepth 40000 in
theorem lk_Row_3 : Cond.methodLink RRow 3 objectInit ∈ zWS := (zin_of zc1 (i := 47) rfl rfl)
set_option maxRecDepth 40000 in
theorem fl_Row_9 : Cond.fieldLink RRow 9 "Cursorlist$Row" "items" "[I" ∈ zWS := (zin_of zc1 (i := 48) rfl rfl)
set_option maxRecDepth 40000 in
theorem fl_Row_15 : Cond.fieldLink RRow 15 "Cursorlist$Row" "count" "I" ∈ zWS := (zin_of zc1 (i := 49) rfl rfl)
set_option maxRecDepth 40000 in
theorem fl_Cls_46 : Cond.fieldLinkNest RCls 46 "Cursorlist$Row" "count" "I" "Cursorlist" ∈ zNW := (zinN_of zc1 (i := 50) rfl rfl)
set_option maxRecDepth 40000 in
theorem ac_int : Cond.arrayClass FieldType.int ∈ zWS := (zin_of zc1 (i := 56) rfl rfl)
set_option maxRecDepth 40000 in
theorem lk_Rec_22 : Cond.methodLink RRec 22 yRec_begin ∈ zWS := (zin_of zc1 (i := 57) rfl rfl)
set_option maxRecDepth 40000 in
theorem lk_Rec_25 : Cond.methodLinkNest RRec 25 yRow_becomePlaces "Cursorlist" ∈ zNW := (zinN_of zc1 (i := 61) rfl rfl)
set_option maxRecDepth 40000 in
theorem lk_Row_64 : Cond.methodLink RRow 64 yRow_addBehind ∈ zWS := (zin_of zc1 (i := 65) rfl rfl)
set_option maxRecDepth 40000 in
theorem lk_Row_60 : Cond.methodLink RRow 60 yRow_putIn ∈ zWS := (zin_of zc1 (i := 69) rfl rfl)
set_option maxRecDepth 40000 in
theorem lk_Row_23 : Cond.methodLink RRow 23 yRow_hasGap ∈ zWS := (zin_of zc1 (i := 73) rfl rfl)
set_option maxRecDepth 40000 in
theorem fl_Rec_12 : Cond.fieldLink RRec 12 "Cursorlist$Recency" "keys" "LCursorlist$Row;" ∈ zWS := (zin_of zc1 (i := 77) rfl rfl)
set_option maxRecDepth 40000 in
theorem fl_Cls_234 : Cond.fieldLinkNest RCls 234 "Cursorlist$Recency" "keys" "LCursorlist$Row;" "Cursorlist" ∈ zNW := (zinN_of zc1 (i := 78) rfl rfl)
set_option maxRecDepth 40000 in
theorem fl_Rec_18 : Cond.fieldLink RRec 18 "Cursorlist$Recency" "timesAsked" "[I" ∈ zWS := (zin_of zc1 (i := 79) rfl rfl)
set_option maxRecDepth 40000 in
theorem fl_Rec_29 : Cond.fieldLink RRec 29 "Cursorlist$Recency" "askings" "I" ∈ zWS := (zin_of zc1 (i := 80) rfl rfl)
set_option maxRecDepth 40000 in
theorem fl_Cls_215 : Cond.fieldLinkNest RCls 215 "Cursorlist$Recency" "askings" "I" "Cursorlist" ∈ zNW := (zinN_of zc1 (i := 81) rfl rfl)
set_option maxRecDepth 40000 in
theorem fl_Rec_33 : Cond.fieldLink RRec 33 "Cursorlist$Recency" "cost" "I" ∈ zWS := (zin_of zc1 (i := 82) rfl rfl)
set_option maxRecDepth 40000 in
theorem fl_Cls_228 : Cond.fieldLinkNest RCls 228 "Cursorlist$Recency" "cost" "I" "Cursorlist" ∈ zNW := (zinN_of zc1 (i := 83) rfl rfl)
set_option maxRecDepth 40000 in
theorem fl_Rec_36 : Cond.fieldLink RRec 36 "Cursorlist$Recency" "lastKey" "I" ∈ zWS := (zin_of zc1 (i := 84) rfl rfl)
set_option maxRecDepth 40000 in
theorem fl_Cls_231 : Cond.fieldLinkNest RCls 231 "Cursorlist$Recency" "lastKey" "I" "Cursorlist" ∈ zNW := (zinN_of zc1 (i := 85) rfl rfl)
set_option maxRecDepth 40000 in
theorem lk_Cls_28 : Cond.methodLinkNest RCls 28 yRow_init "Cursorlist" ∈ zNW := (zinN_of zc1 (i := 97) rfl rfl)
set_option maxRecDepth 40000 in
theorem im_Cur : Cond.instantiable RCur 5 ∈ zWS := (zin_of zc1 (i := 98) rfl rfl)
set_option maxRecDepth 40000 in
theorem lk_Cls_33 : Cond.methodLinkNest RCls 33 yCur_init "Cursorlist" ∈ zNW := (zinN_of zc1 (i := 99) rfl rfl)
set_option maxRecDepth 40000 in
theorem lk_Cur_3 : Cond.methodLink RCur 3 objectInit ∈ zWS := (zin_of zc1 (i := 102) rfl rfl)
set_option maxRecDepth 40000 in
theorem fl_Cur_15 : Cond.fieldLink RCur 15 "Cursorlist$Cursor" "isThere" "Z" ∈ zWS := (zin_of zc1 (i := 103) rfl rfl)
set_option maxRecDepth 40000 in
theorem fl_Cls_144 : Cond.fieldLinkNest RCls 144 "Cursorlist$Cursor" "isThere" "Z" "Cursorlist" ∈ zNW := (zinN_of zc1 (i := 104) rfl rfl)
set_option maxRecDepth 40000 in
theorem fl_Cur_19 : Cond.fieldLink RCur 19 "Cursorlist$Cursor" "isStale" "Z" ∈ zWS := (zin_of zc1 (i := 105) rfl rfl)
set_option maxRecDepth 40000 in
theorem fl_Cls_152 : Cond.fieldLinkNest RCls 152 "Cursorlist$Cursor" "isStale" "Z" "Cursorlist" ∈ zNW := (zinN_of zc1 (i := 106) rfl rfl)
set_option maxRecDepth 40000 in
theorem fl_Cur_22 : Cond.fieldLink RCur 22 "Cursorlist$Cursor" "list" "I" ∈ zWS := (zin_of zc1 (i := 107) rfl rfl)
set_option maxRecDepth 40000 in
theorem fl_Cls_169 : Cond.fieldLinkNest RCls 169 "Cursorlist$Cursor" "list" "I" "Cursorlist" ∈ zNW := (zinN_of zc1 (i := 108) rfl rfl)
set_option maxRecDepth 40000 in
theorem fl_Cur_25 : Cond.fieldLink RCur 25 "Cursorlist$Cursor" "index" "I" ∈ zWS := (zin_of zc1 (i := 109) rfl rfl)
set_option maxRecDepth 40000 in
theorem fl_Cls_172 : Cond.fieldLinkNest RCls 172 "Cursorlist$Cursor" "index" "I" "Cursorlist" ∈ zNW := (zinN_of zc1 (i := 110) rfl rfl)
set_option maxRecDepth 40000 in
theorem fl_Cur_9 : Cond.fieldLink RCur 9 "Cursorlist$Cursor" "last" "I" ∈ zWS := (zin_of zc1 (i := 111) rfl rfl)
set_option maxRecDepth 40000 in
theorem fl_Cls_175 : Cond.fieldLinkNest RCls 175 "Cursorlist$Cursor" "last" "I" "Cursorlist" ∈ zNW := (zinN_of zc1 (i := 112) rfl rfl)
set_option maxRecDepth 40000 in
theorem fl_Cls_11 : Cond.fieldLink RCls 11 "Cursorlist" "lists" "[LCursorlist$Row;" ∈ zWS := (zin_of zc1 (i := 124) rfl rfl)
set_option maxRecDepth 40000 in
theorem fl_Cls_17 : Cond.fieldLink RCls 17 "Cursorlist" "cursors" "[LCursorlist$Cursor;" ∈ zWS := (zin_of zc1 (i := 125) rfl rfl)
set_option maxRecDepth 40000 in
theorem fl_Cls_24 : Cond.fieldLink RCls 24 "Cursorlist" "recency" "LCursorlist$Recency;" ∈ zWS := (zin_of zc1 (i := 126) rfl rfl)
set_option maxRecDepth 40000 in
theorem fl_Cls_29 : Cond.fieldLink RCls 29 "Cursorlist" "result" "LCursorlist$Row;" ∈ zWS := (zin_of zc1 (i := 127) rfl rfl)
set_option maxRecDepth 40000 in
theorem fl_Cls_259 : Cond.fieldLink RCls 259 "Cursorlist" "refusals" "I" ∈ zWS := (zin_of zc1 (i := 128) rfl rfl)
set_option maxRecDepth 40000 in
theorem fl_Cls_262 : Cond.fieldLink RCls 262 "Cursorlist" "knocks" "I" ∈ zWS := (zin_of zc1 (i := 129) rfl rfl)
set_option maxRecDepth 40000 in
theorem lk_Law_310 : Cond.methodLink RLaw 310 yCls_forget ∈ zWS := (zin_of zc1 (i := 143) rfl rfl)
set_option maxRecDepth 40000 in
theorem lk_Cls_226 : Cond.methodLinkNest RCls 226 yRec_begin "Cursorlist" ∈ zNW := (zinN_of zc1 (i := 147) rfl rfl)
set_option maxRecDepth 40000 in
theorem lk_Law_317 : Cond.methodLink RLaw 317 yCls_recent ∈ zWS := (zin_of zc1 (i := 148) rfl rfl)
set_option maxRecDepth 40000 in
theorem lk_Cls_94 : Cond.methodLinkNest RCls 94 yRow_joined "Cursorlist" ∈ zNW := (zinN_of zc1 (i := 152) rfl rfl)
set_option maxRecDepth 40000 in
theorem cl_Row_26 : Cond.classLink RRow 26 RSbd ∈ zWS := (zin_of zc1 (i := 156) rfl rfl)
set_option maxRecDepth 40000 in
theorem im_Sbd : Cond.instantiable RSbd 4 ∈ zWS := (zin_of zc1 (i := 157) rfl rfl)
set_option maxRecDepth 40000 in
theorem lk_Row_28 : Cond.methodLink RRow 28 ySbd_init_da8c8 ∈ zWS := (zin_of zc1 (i := 158) rfl rfl)
set_option maxRecDepth 40000 in
theorem lk_Sbd_1 : Cond.methodLink RSbd 1 yAsb_init_d00df ∈ zWS := (zin_of zc1 (i := 161) rfl rfl)
set_option maxRecDepth 40000 in
theorem lk_Asb_3 : Cond.methodLink RAsb 3 objectInit ∈ zWS := (zin_of zc1 (i := 164) rfl rfl)
set_option maxRecDepth 40000 in
theorem fl_Asb_18 : Cond.fieldLink RAsb 18 "java/lang/String" "COMPACT_STRINGS" "Z" ∈ zWS := (zin_of zc1 (i := 165) rfl rfl)
set_option maxRecDepth 40000 in
theorem lk_Asb_26 : Cond.methodLink RAsb 26 yUtf_newBytesFor_77867 ∈ zWS := (zin_of zc1 (i := 167) rfl rfl)
set_option maxRecDepth 40000 in
theorem lk_Utf_11 : Cond.methodLink RUtf 11 yUtf_newBytesLength_0f7a4 ∈ zWS := (zin_of zc1 (i := 170) rfl rfl)
set_option maxRecDepth 40000 in
theorem ct_Utf_20 : Cond.constant RUtf 20 (1073741823) ∈ zWS := (zin_of zc1 (i := 173) rfl rfl)
set_option maxRecDepth 40000 in
theorem fl_Asb_15 : Cond.fieldLink RAsb 15 "java/lang/AbstractStringBuilder" "value" "[B" ∈ zWS := (zin_of zc1 (i := 174) rfl rfl)
set_option maxRecDepth 40000 in
theorem fl_Asb_22 : Cond.fieldLink RAsb 22 "java/lang/AbstractStringBuilder" "coder" "B" ∈ zWS := (zin_of zc1 (i := 175) rfl rfl)
set_option maxRecDepth 40000 in
theorem fl_Str_1048 : Cond.fieldLink RStr 1048 "java/lang/AbstractStringBuilder" "maybeLatin1" "Z" ∈ zWS := (zin_of zc1 (i := 176) rfl rfl)
set_option maxRecDepth 40000 in
theorem fl_Asb_79 : Cond.fieldLink RAsb 79 "java/lang/AbstractStringBuilder" "count" "I" ∈ zWS := (zin_of zc1 (i := 177) rfl rfl)
set_option maxRecDepth 40000 in
theorem ac_byte : Cond.arrayClass FieldType.byte ∈ zWS := (zin_of zc1 (i := 187) rfl rfl)
set_option maxRecDepth 40000 in
theorem lk_Row_29 : Cond.methodLink RRow 29 ySbd_append_cf468 ∈ zWS := (zin_of zc1 (i := 188) rfl rfl)
set_option maxRecDepth 40000 in
theorem lk_Sbd_50 : Cond.methodLink RSbd 50 yAsb_append_3fe6f ∈ zWS := (zin_of zc1 (i := 192) rfl rfl)
set_option maxRecDepth 40000 in
theorem lk_Asb_100 : Cond.methodLink RAsb 100 yAsb_ensureCapacityInternal_d00df ∈ zWS := (zin_of zc1 (i := 195) rfl rfl)
set_option maxRecDepth 40000 in
theorem lk_Asb_104 : Cond.methodLink RAsb 104 yAsb_newCapacity_0f7a4 ∈ zWS := (zin_of zc1 (i := 199) rfl rfl)
set_option maxRecDepth 40000 in
theorem lk_Asb_114 : Cond.methodLink RAsb 114 yAsu_newLength_cabcc ∈ zWS := (zin_of zc1 (i := 203) rfl rfl)
set_option maxRecDepth 40000 in
theorem lk_Asu_194 : Cond.methodLink RAsu 194 yMth_max_7cf53 ∈ zWS := (zin_of zc1 (i := 206) rfl rfl)
set_option maxRecDepth 40000 in
theorem ct_Asu_200 : Cond.constant RAsu 200 (2147483639) ∈ zWS := (zin_of zc1 (i := 209) rfl rfl)
set_option maxRecDepth 40000 in
theorem lk_Asu_201 : Cond.methodLink RAsu 201 yAsu_hugeLength_7cf53 ∈ zWS := (zin_of zc1 (i := 210) rfl rfl)
set_option maxRecDepth 40000 in
theorem ct_Asb_39 : Cond.constant RAsb 39 (2147483647) ∈ zWS := (zin_of zc1 (i := 213) rfl rfl)
set_option maxRecDepth 40000 in
theorem lk_Asb_108 : Cond.methodLink RAsb 108 yArr_copyOf_9075b ∈ zWS := (zin_of zc1 (i := 214) rfl rfl)
set_option maxRecDepth 40000 in
theorem lk_Arr_310 : Cond.methodLink RArr 310 ⟨"[B", "clone", "()Ljava/lang/Object;"⟩ ∈ zWS := (zin_of zc1 (i := 217) rfl rfl)
set_option maxRecDepth 40000 in
theorem cl_Arr_311 : Cond.classLink RArr 311 "[B" ∈ zWS := (zin_of zc1 (i := 223) rfl rfl)
set_option maxRecDepth 40000 in
theorem lk_Arr_304 : Cond.methodLink RArr 304 yMth_min_7cf53 ∈ zWS := (zin_of zc1 (i := 224) rfl rfl)
set_option maxRecDepth 40000 in
theorem lk_Arr_150 : Cond.methodLink RArr 150 ⟨"java/lang/System", "arraycopy", "(Ljava/lang/Object;ILjava/lang/Object;II)V"⟩ ∈ zWS := (zin_of zc1 (i := 227) rfl rfl)
set_option maxRecDepth 40000 in
theorem lk_Asb_83 : Cond.methodLink RAsb 83 yAsb_isLatin1_aae02 ∈ zWS := (zin_of zc1 (i := 230) rfl rfl)
set_option maxRecDepth 40000 in
theorem lk_Asb_191 : Cond.methodLink RAsb 191 yLat_canEncode_fc78d ∈ zWS := (zin_of zc1 (i := 235) rfl rfl)
set_option maxRecDepth 40000 in
theorem lk_Asb_195 : Cond.methodLink RAsb 195 yAsb_inflate_da8c8 ∈ zWS := (zin_of zc1 (i := 238) rfl rfl)
set_option maxRecDepth 40000 in
theorem lk_Asb_125 : Cond.methodLink RAsb 125 yLat_inflate_0e8fd ∈ zWS := (zin_of zc2 (i := 2) rfl rfl)
set_option maxRecDepth 40000 in
theorem lk_Lat_240 : Cond.methodLink RLat 240 yUtf_inflate_0e8fd ∈ zWS := (zin_of zc2 (i := 5) rfl rfl)
set_option maxRecDepth 40000 in
theorem lk_Utf_173 : Cond.methodLink RUtf 173 yUtf_checkBoundsOffCount_d044e ∈ zWS := (zin_of zc2 (i := 8) rfl rfl)
set_option maxRecDepth 40000 in
theorem lk_Utf_48 : Cond.methodLink RUtf 48 yUtf_length_9d52b ∈ zWS := (zin_of zc2 (i := 11) rfl rfl)
set_option maxRecDepth 40000 in
theorem lk_Utf_419 : Cond.methodLink RUtf 419 yStr_checkBoundsOffCount_cabcc ∈ zWS := (zin_of zc2 (i := 14) rfl rfl)
set_option maxRecDepth 40000 in
theorem fl_Str_1053 : Cond.fieldLink RStr 1053 "jdk/internal/util/Preconditions" "SIOOBE_FORMATTER" "Ljava/util/function/BiFunction;" ∈ zWS := (zin_of zc2 (i := 17) rfl rfl)
set_option maxRecDepth 40000 in
theorem lk_Str_1065 : Cond.methodLink RStr 1065 yPrc_checkFromIndexSize_8c36e ∈ zWS := (zin_of zc2 (i := 19) rfl rfl)
set_option maxRecDepth 40000 in
theorem lk_Utf_111 : Cond.methodLink RUtf 111 yUtf_putChar_b72d1 ∈ zWS := (zin_of zc2 (i := 22) rfl rfl)
set_option maxRecDepth 40000 in
theorem fl_Utf_44 : Cond.fieldLink RUtf 44 "java/lang/StringUTF16" "$assertionsDisabled" "Z" ∈ zWS := (zin_of zc2 (i := 25) rfl rfl)
set_option maxRecDepth 40000 in
theorem fl_Utf_59 : Cond.fieldLink RUtf 59 "java/lang/StringUTF16" "HI_BYTE_SHIFT" "I" ∈ zWS := (zin_of zc2 (i := 27) rfl rfl)
set_option maxRecDepth 40000 in
theorem fl_Utf_63 : Cond.fieldLink RUtf 63 "java/lang/StringUTF16" "LO_BYTE_SHIFT" "I" ∈ zWS := (zin_of zc2 (i := 29) rfl rfl)
set_option maxRecDepth 40000 in
theorem lk_Asb_197 : Cond.methodLink RAsb 197 yUtf_putCharSB_b72d1 ∈ zWS := (zin_of zc2 (i := 31) rfl rfl)
set_option maxRecDepth 40000 in
theorem lk_Utf_67 : Cond.methodLink RUtf 67 yUtf_checkIndex_2214a ∈ zWS := (zin_of zc2 (i := 34) rfl rfl)
set_option maxRecDepth 40000 in
theorem lk_Utf_414 : Cond.methodLink RUtf 414 yStr_checkIndex_df160 ∈ zWS := (zin_of zc2 (i := 37) rfl rfl)
set_option maxRecDepth 40000 in
theorem lk_Str_1059 : Cond.methodLink RStr 1059 yPrc_checkIndex_8e157 ∈ zWS := (zin_of zc2 (i := 40) rfl rfl)
set_option maxRecDepth 40000 in
theorem lk_Row_33 : Cond.methodLink RRow 33 ySbd_append_bf812 ∈ zWS := (zin_of zc2 (i := 43) rfl rfl)
set_option maxRecDepth 40000 in
theorem lk_Sbd_53 : Cond.methodLink RSbd 53 yAsb_append_c97b9 ∈ zWS := (zin_of zc2 (i := 47) rfl rfl)
set_option maxRecDepth 40000 in
theorem lk_Asb_245 : Cond.methodLink RAsb 245 yInt_stringSize_0f7a4 ∈ zWS := (zin_of zc2 (i := 50) rfl rfl)
set_option maxRecDepth 40000 in
theorem lk_Asb_248 : Cond.methodLink RAsb 248 yInt_getChars_ba4f3 ∈ zWS := (zin_of zc2 (i := 53) rfl rfl)
set_option maxRecDepth 40000 in
theorem fl_Int_83 : Cond.fieldLink RInt 83 "java/lang/Integer" "DigitOnes" "[B" ∈ zWS := (zin_of zc2 (i := 56) rfl rfl)
set_option maxRecDepth 40000 in
theorem fl_Int_87 : Cond.fieldLink RInt 87 "java/lang/Integer" "DigitTens" "[B" ∈ zWS := (zin_of zc2 (i := 58) rfl rfl)
set_option maxRecDepth 40000 in
theorem lk_Asb_251 : Cond.methodLink RAsb 251 yUtf_getChars_46870 ∈ zWS := (zin_of zc2 (i := 60) rfl rfl)
set_option maxRecDepth 40000 in
theorem lk_Utf_96 : Cond.methodLink RUtf 96 yUtf_checkBoundsBeginEnd_d044e ∈ zWS := (zin_of zc2 (i := 63) rfl rfl)
set_option maxRecDepth 40000 in
theorem lk_Utf_241 : Cond.methodLink RUtf 241 yStr_checkBoundsBeginEnd_23922 ∈ zWS := (zin_of zc2 (i := 66) rfl rfl)
set_option maxRecDepth 40000 in
theorem lk_Str_1062 : Cond.methodLink RStr 1062 yPrc_checkFromToIndex_8c36e ∈ zWS := (zin_of zc2 (i := 69) rfl rfl)
set_option maxRecDepth 40000 in
theorem lk_Utf_393 : Cond.methodLink RUtf 393 yUtf_getChars_ba4f3 ∈ zWS := (zin_of zc2 (i := 72) rfl rfl)
set_option maxRecDepth 40000 in
theorem fl_Utf_403 : Cond.fieldLink RUtf 403 "java/lang/Integer" "DigitOnes" "[B" ∈ zWS := (zin_of zc2 (i := 75) rfl rfl)
set_option maxRecDepth 40000 in
theorem fl_Utf_407 : Cond.fieldLink RUtf 407 "java/lang/Integer" "DigitTens" "[B" ∈ zWS := (zin_of zc2 (i := 76) rfl rfl)
set_option maxRecDepth 40000 in
theorem lk_Row_36 : Cond.methodLink RRow 36 ySbd_toString_0e30d ∈ zWS := (zin_of zc2 (i := 77) rfl rfl)
set_option maxRecDepth 40000 in
theorem cl_Sbd_18 : Cond.classLink RSbd 18 RStr ∈ zWS := (zin_of zc2 (i := 81) rfl rfl)
set_option maxRecDepth 40000 in
theorem im_Str : Cond.instantiable RStr 4 ∈ zWS := (zin_of zc2 (i := 82) rfl rfl)
set_option maxRecDepth 40000 in
theorem lk_Sbd_137 : Cond.methodLink RSbd 137 yStr_init_81219 ∈ zWS := (zin_of zc2 (i := 83) rfl rfl)
set_option maxRecDepth 40000 in
theorem lk_Str_489 : Cond.methodLink RStr 489 yStr_init_db425 ∈ zWS := (zin_of zc2 (i := 86) rfl rfl)
set_option maxRecDepth 40000 in
theorem lk_Str_1 : Cond.methodLink RStr 1 objectInit ∈ zWS := (zin_of zc2 (i := 89) rfl rfl)
set_option maxRecDepth 40000 in
theorem lk_Str_552 : Cond.methodLink RStr 552 yAsb_getValue_6d5f1 ∈ zWS := (zin_of zc2 (i := 90) rfl rfl)
set_option maxRecDepth 40000 in
theorem lk_Str_549 : Cond.methodLink RStr 549 yAsb_length_8abf5 ∈ zWS := (zin_of zc2 (i := 95) rfl rfl)
set_option maxRecDepth 40000 in
theorem lk_Sbd_343 : Cond.methodLink RSbd 343 yAsb_length_8abf5 ∈ zWS := (zin_of zc2 (i := 101) rfl rfl)
set_option maxRecDepth 40000 in
theorem lk_Str_1047 : Cond.methodLink RStr 1047 yAsb_isLatin1_aae02 ∈ zWS := (zin_of zc2 (i := 103) rfl rfl)
set_option maxRecDepth 40000 in
theorem lk_Str_54 : Cond.methodLink RStr 54 yArr_copyOfRange_39247 ∈ zWS := (zin_of zc2 (i := 104) rfl rfl)
set_option maxRecDepth 40000 in
theorem lk_Arr_339 : Cond.methodLink RArr 339 yArr_copyOfRangeByte_39247 ∈ zWS := (zin_of zc2 (i := 107) rfl rfl)
set_option maxRecDepth 40000 in
theorem lk_Arr_343 : Cond.methodLink RArr 343 yArr_checkLength_df160 ∈ zWS := (zin_of zc2 (i := 110) rfl rfl)
set_option maxRecDepth 40000 in
theorem cl_Arr_43 : Cond.classLink RArr 43 "java/lang/IllegalArgumentException" ∈ zWS := (zin_of zc2 (i := 113) rfl rfl)
set_option maxRecDepth 40000 in
theorem im_IllegalArgumentException : Cond.instantiable "java/lang/IllegalArgumentException" 6 ∈ zWS := (zin_of zc2 (i := 114) rfl rfl)
set_option maxRecDepth 40000 in
theorem im_Throwable : Cond.instantiable "java/lang/Throwable" 6 ∈ zWS := (zin_of zc2 (i := 152) rfl rfl)
set_option maxRecDepth 40000 in
theorem cl_Arr_45 : Cond.classLink RArr 45 RSbd ∈ zWS := (zin_of zc2 (i := 154) rfl rfl)
set_option maxRecDepth 40000 in
theorem lk_Arr_47 : Cond.methodLink RArr 47 ySbd_init_da8c8 ∈ zWS := (zin_of zc2 (i := 155) rfl rfl)
set_option maxRecDepth 40000 in
theorem lk_Arr_54 : Cond.methodLink RArr 54 ySbd_append_bf812 ∈ zWS := (zin_of zc2 (i := 156) rfl rfl)
set_option maxRecDepth 40000 in
theorem lk_Arr_50 : Cond.methodLink RArr 50 ySbd_append_15ec4 ∈ zWS := (zin_of zc2 (i := 158) rfl rfl)
set_option maxRecDepth 40000 in
theorem lk_Sbd_29 : Cond.methodLink RSbd 29 yAsb_append_cf1ce ∈ zWS := (zin_of zc2 (i := 162) rfl rfl)
set_option maxRecDepth 40000 in
theorem lk_Asb_204 : Cond.methodLink RAsb 204 yAsb_appendNull_278bc ∈ zWS := (zin_of zc2 (i := 165) rfl rfl)
set_option maxRecDepth 40000 in
theorem lk_Asb_226 : Cond.methodLink RAsb 226 yUtf_putCharsAt_cd4e5 ∈ zWS := (zin_of zc2 (i := 169) rfl rfl)
set_option maxRecDepth 40000 in
theorem lk_Asb_32 : Cond.methodLink RAsb 32 yStr_length_8abf5 ∈ zWS := (zin_of zc2 (i := 172) rfl rfl)
set_option maxRecDepth 40000 in
theorem lk_Str_335 : Cond.methodLink RStr 335 yStr_coder_7d493 ∈ zWS := (zin_of zc2 (i := 176) rfl rfl)
set_option maxRecDepth 40000 in
theorem fl_Str_38 : Cond.fieldLink RStr 38 "java/lang/String" "COMPACT_STRINGS" "Z" ∈ zWS := (zin_of zc2 (i := 180) rfl rfl)
set_option maxRecDepth 40000 in
theorem lk_Asb_208 : Cond.methodLink RAsb 208 yAsb_putStringAt_47b60 ∈ zWS := (zin_of zc2 (i := 181) rfl rfl)
set_option maxRecDepth 40000 in
theorem lk_Asb_397 : Cond.methodLink RAsb 397 yAsb_inflateIfNeededFor_a7421 ∈ zWS := (zin_of zc2 (i := 185) rfl rfl)
set_option maxRecDepth 40000 in
theorem lk_Asb_40 : Cond.methodLink RAsb 40 yStr_coder_7d493 ∈ zWS := (zin_of zc2 (i := 189) rfl rfl)
set_option maxRecDepth 40000 in
theorem lk_Asb_399 : Cond.methodLink RAsb 399 yStr_getBytes_840e7 ∈ zWS := (zin_of zc2 (i := 190) rfl rfl)
set_option maxRecDepth 40000 in
theorem lk_Str_212 : Cond.methodLink RStr 212 ⟨"java/lang/System", "arraycopy", "(Ljava/lang/Object;ILjava/lang/Object;II)V"⟩ ∈ zWS := (zin_of zc2 (i := 194) rfl rfl)
set_option maxRecDepth 40000 in
theorem lk_Str_106 : Cond.methodLink RStr 106 yLat_inflate_0e8fd ∈ zWS := (zin_of zc2 (i := 195) rfl rfl)
set_option maxRecDepth 40000 in
theorem lk_Arr_61 : Cond.methodLink RArr 61 ySbd_toString_0e30d ∈ zWS := (zin_of zc2 (i := 196) rfl rfl)
set_option maxRecDepth 40000 in
theorem lk_Arr_65 : Cond.methodLink RArr 65 ⟨"java/lang/IllegalArgumentException", "<init>", "(Ljava/lang/String;)V"⟩ ∈ zWS := (zin_of zc2 (i := 197) rfl rfl)
set_option maxRecDepth 40000 in
theorem lk_Str_1051 : Cond.methodLink RStr 1051 yUtf_compress_39247 ∈ zWS := (zin_of zc2 (i := 222) rfl rfl)
set_option maxRecDepth 40000 in
theorem lk_Utf_123 : Cond.methodLink RUtf 123 yUtf_compress_5af95 ∈ zWS := (zin_of zc2 (i := 225) rfl rfl)
set_option maxRecDepth 40000 in
theorem lk_Utf_71 : Cond.methodLink RUtf 71 yUtf_getChar_3b067 ∈ zWS := (zin_of zc2 (i := 228) rfl rfl)
set_option maxRecDepth 40000 in
theorem lk_Utf_126 : Cond.methodLink RUtf 126 yArr_copyOfRange_39247 ∈ zWS := (zin_of zc2 (i := 231) rfl rfl)
set_option maxRecDepth 40000 in
theorem lk_Str_47 : Cond.methodLink RStr 47 yUtf_coderFromArrayLen_85cad ∈ zWS := (zin_of zc2 (i := 232) rfl rfl)
set_option maxRecDepth 40000 in
theorem fl_Str_9 : Cond.fieldLink RStr 9 "java/lang/String" "value" "[B" ∈ zWS := (zin_of zc2 (i := 235) rfl rfl)
set_option maxRecDepth 40000 in
theorem fl_Str_15 : Cond.fieldLink RStr 15 "java/lang/String" "coder" "B" ∈ zWS := (zin_of zc2 (i := 236) rfl rfl)
set_option maxRecDepth 40000 in
theorem lk_Law_328 : Cond.methodLink RLaw 328 yCls_knock ∈ zWS := (zin_of zc3 (i := 6) rfl rfl)
set_option maxRecDepth 40000 in
theorem lk_Law_332 : Cond.methodLink RLaw 332 yCls_isSound ∈ zWS := (zin_of zc3 (i := 10) rfl rfl)
set_option maxRecDepth 40000 in
theorem lk_Cls_265 : Cond.methodLink RCls 265 yCls_turnsBack ∈ zWS := (zin_of zc3 (i := 14) rfl rfl)
set_option maxRecDepth 40000 in
theorem lk_Cls_105 : Cond.methodLinkNest RCls 105 yRow_become "Cursorlist" ∈ zNW := (zinN_of zc3 (i := 18) rfl rfl)
set_option maxRecDepth 40000 in
theorem lk_Cls_126 : Cond.methodLinkNest RCls 126 yRow_turnRound "Cursorlist" ∈ zNW := (zinN_of zc3 (i := 22) rfl rfl)
set_option maxRecDepth 40000 in
theorem lk_Row_48 : Cond.methodLink RRow 48 yRow_exchange ∈ zWS := (zin_of zc3 (i := 26) rfl rfl)
set_option maxRecDepth 40000 in
theorem lk_Row_40 : Cond.methodLink RRow 40 yRow_itemAt ∈ zWS := (zin_of zc3 (i := 30) rfl rfl)
set_option maxRecDepth 40000 in
theorem lk_Row_19 : Cond.methodLink RRow 19 yRow_hasPlace ∈ zWS := (zin_of zc3 (i := 34) rfl rfl)
set_option maxRecDepth 40000 in
theorem lk_Row_44 : Cond.methodLink RRow 44 yRow_changeAt ∈ zWS := (zin_of zc3 (i := 38) rfl rfl)
set_option maxRecDepth 40000 in
theorem lk_Cls_133 : Cond.methodLinkNest RCls 133 yRow_isAs "Cursorlist" ∈ zNW := (zinN_of zc3 (i := 42) rfl rfl)
set_option maxRecDepth 40000 in
theorem lk_Cls_112 : Cond.methodLinkNest RCls 112 yRow_turnBy "Cursorlist" ∈ zNW := (zinN_of zc3 (i := 46) rfl rfl)
set_option maxRecDepth 40000 in
theorem lk_Row_51 : Cond.methodLink RRow 51 yMth_floorMod_7cf53 ∈ zWS := (zin_of zc3 (i := 50) rfl rfl)
set_option maxRecDepth 40000 in
theorem lk_Row_57 : Cond.methodLink RRow 57 yRow_takeOut ∈ zWS := (zin_of zc3 (i := 53) rfl rfl)
set_option maxRecDepth 40000 in
theorem lk_Cls_268 : Cond.methodLink RCls 268 yCls_addsUp ∈ zWS := (zin_of zc3 (i := 57) rfl rfl)
set_option maxRecDepth 40000 in
theorem lk_Cls_200 : Cond.methodLinkNest RCls 200 yRow_becomeSum "Cursorlist" ∈ zNW := (zinN_of zc3 (i := 61) rfl rfl)
set_option maxRecDepth 40000 in
theorem lk_Row_71 : Cond.methodLink RRow 71 yMth_max_7cf53 ∈ zWS := (zin_of zc3 (i := 65) rfl rfl)
set_option maxRecDepth 40000 in
theorem lk_Cls_325 : Cond.methodLink RCls 325 yCls_agreesWithResult ∈ zWS := (zin_of zc3 (i := 66) rfl rfl)
set_option maxRecDepth 40000 in
theorem lk_Cls_329 : Cond.methodLink RCls 329 yCls_isResultAt ∈ zWS := (zin_of zc3 (i := 70) rfl rfl)
set_option maxRecDepth 40000 in
theorem lk_Cls_212 : Cond.methodLinkNest RCls 212 yRow_restAt "Cursorlist" ∈ zNW := (zinN_of zc3 (i := 74) rfl rfl)
set_option maxRecDepth 40000 in
theorem lk_Cls_333 : Cond.methodLink RCls 333 yMth_floorMod_7cf53 ∈ zWS := (zin_of zc3 (i := 78) rfl rfl)
set_option maxRecDepth 40000 in
theorem lk_Cls_203 : Cond.methodLinkNest RCls 203 yRow_becomeProduct "Cursorlist" ∈ zNW := (zinN_of zc3 (i := 79) rfl rfl)
set_option maxRecDepth 40000 in
theorem lk_Row_74 : Cond.methodLink RRow 74 yRow_coefficientOfProduct ∈ zWS := (zin_of zc3 (i := 83) rfl rfl)
set_option maxRecDepth 40000 in
theorem lk_Cls_271 : Cond.methodLink RCls 271 yCls_isRecencySound ∈ zWS := (zin_of zc3 (i := 86) rfl rfl)
set_option maxRecDepth 40000 in
theorem lk_Cls_237 : Cond.methodLinkNest RCls 237 yRow_isOrder "Cursorlist" ∈ zNW := (zinN_of zc3 (i := 90) rfl rfl)
set_option maxRecDepth 40000 in
theorem lk_Row_78 : Cond.methodLink RRow 78 yRow_placeOf ∈ zWS := (zin_of zc3 (i := 94) rfl rfl)
set_option maxRecDepth 40000 in
theorem lk_Cls_247 : Cond.methodLinkNest RCls 247 yRec_boundBy "Cursorlist" ∈ zNW := (zinN_of zc3 (i := 98) rfl rfl)
set_option maxRecDepth 40000 in
theorem lk_Rec_51 : Cond.methodLink RRec 51 yRec_costBy ∈ zWS := (zin_of zc3 (i := 102) rfl rfl)
set_option maxRecDepth 40000 in
theorem lk_Rec_39 : Cond.methodLinkNest RRec 39 yRow_placeOf "Cursorlist" ∈ zNW := (zinN_of zc3 (i := 106) rfl rfl)
set_option maxRecDepth 40000 in
theorem lk_Rec_55 : Cond.methodLinkNest RRec 55 yRow_inversions "Cursorlist" ∈ zNW := (zinN_of zc3 (i := 107) rfl rfl)
set_option maxRecDepth 40000 in
theorem lk_Law_337 : Cond.methodLink RLaw 337 yCls_digest ∈ zWS := (zin_of zc3 (i := 111) rfl rfl)
set_option maxRecDepth 40000 in
theorem ct_Cls_274 : Cond.constantLong RCls 274 (7834) ∈ zWS := (zin_of zc3 (i := 115) rfl rfl)
set_option maxRecDepth 40000 in
theorem lk_Cls_276 : Cond.methodLink RCls 276 yCls_house ∈ zWS := (zin_of zc3 (i := 116) rfl rfl)
set_option maxRecDepth 40000 in
theorem lk_Cls_38 : Cond.methodLink RCls 38 yCls_demandWithin ∈ zWS := (zin_of zc3 (i := 120) rfl rfl)
set_option maxRecDepth 40000 in
theorem cl_Cls_181 : Cond.classLink RCls 181 "java/lang/IllegalArgumentException" ∈ zWS := (zin_of zc3 (i := 123) rfl rfl)
set_option maxRecDepth 40000 in
theorem lk_Cls_185 : Cond.methodLink RCls 185 ⟨"java/lang/IllegalArgumentException", "<init>", "(Ljava/lang/String;)V"⟩ ∈ zWS := (zin_of zc3 (i := 125) rfl rfl)
set_option maxRecDepth 40000 in
theorem lk_Cls_250 : Cond.methodLink RCls 250 yCls_itemsOfAll ∈ zWS := (zin_of zc3 (i := 126) rfl rfl)
set_option maxRecDepth 40000 in
theorem lk_Cls_253 : Cond.methodLink RCls 253 yCls_cursorsThere ∈ zWS := (zin_of zc3 (i := 130) rfl rfl)
set_option maxRecDepth 40000 in
theorem lk_Cls_192 : Cond.methodLink RCls 192 yCls_numberOf ∈ zWS := (zin_of zc3 (i := 134) rfl rfl)
set_option maxRecDepth 40000 in
theorem lk_Cls_256 : Cond.methodLink RCls 256 yCls_cursorsStale ∈ zWS := (zin_of zc3 (i := 137) rfl rfl)
set_option maxRecDepth 40000 in
theorem lk_Cls_279 : Cond.methodLink RCls 279 yCls_mixed ∈ zWS := (zin_of zc3 (i := 141) rfl rfl)
set_option maxRecDepth 40000 in
theorem ct_Cls_338 : Cond.constantLong RCls 338 (31) ∈ zWS := (zin_of zc3 (i := 144) rfl rfl)
set_option maxRecDepth 40000 in
theorem lk_Cls_283 : Cond.methodLink RCls 283 yCls_mixedWithList ∈ zWS := (zin_of zc3 (i := 145) rfl rfl)
set_option maxRecDepth 40000 in
theorem lk_Cls_293 : Cond.methodLink RCls 293 yCls_mixedWithItems ∈ zWS := (zin_of zc3 (i := 148) rfl rfl)
set_option maxRecDepth 40000 in
theorem lk_Cls_70 : Cond.methodLinkNest RCls 70 yRow_itemAt "Cursorlist" ∈ zNW := (zinN_of zc3 (i := 151) rfl rfl)
set_option maxRecDepth 40000 in
theorem lk_Cls_206 : Cond.methodLinkNest RCls 206 yRow_lastNotZero "Cursorlist" ∈ zNW := (zinN_of zc3 (i := 152) rfl rfl)
set_option maxRecDepth 40000 in
theorem lk_Cls_287 : Cond.methodLink RCls 287 yCls_ofCursor ∈ zWS := (zin_of zc3 (i := 156) rfl rfl)
set_option maxRecDepth 40000 in
theorem lk_Cls_137 : Cond.methodLink RCls 137 yCls_cursorAt ∈ zWS := (zin_of zc3 (i := 160) rfl rfl)
set_option maxRecDepth 40000 in
theorem cl_Cls_302 : Cond.classLink RCls 302 "java/lang/IndexOutOfBoundsException" ∈ zWS := (zin_of zc3 (i := 164) rfl rfl)
set_option maxRecDepth 40000 in
theorem im_IndexOutOfBoundsException : Cond.instantiable "java/lang/IndexOutOfBoundsException" 6 ∈ zWS := (zin_of zc3 (i := 165) rfl rfl)
set_option maxRecDepth 40000 in
theorem lk_Cls_306 : Cond.methodLink RCls 306 ⟨"java/lang/IndexOutOfBoundsException", "<init>", "(Ljava/lang/String;)V"⟩ ∈ zWS := (zin_of zc3 (i := 174) rfl rfl)
set_option maxRecDepth 40000 in
theorem lk_Cls_196 : Cond.methodLink RCls 196 yCls_whereIs ∈ zWS := (zin_of zc3 (i := 180) rfl rfl)
set_option maxRecDepth 40000 in
theorem lk_Cls_155 : Cond.methodLink RCls 155 yCls_rowUnder ∈ zWS := (zin_of zc3 (i := 184) rfl rfl)
set_option maxRecDepth 40000 in
theorem lk_Cls_34 : Cond.methodLink RCls 34 yCls_listAt ∈ zWS := (zin_of zc3 (i := 188) rfl rfl)
set_option maxRecDepth 40000 in
theorem lk_Cls_290 : Cond.methodLink RCls 290 yCls_asked ∈ zWS := (zin_of zc3 (i := 193) rfl rfl)
set_option maxRecDepth 40000 in
theorem lk_Cls_296 : Cond.methodLink RCls 296 yCls_mixedWithOrder ∈ zWS := (zin_of zc3 (i := 197) rfl rfl)
set_option maxRecDepth 40000 in
theorem lk_Cls_241 : Cond.methodLinkNest RCls 241 yRec_costBy "Cursorlist" ∈ zNW := (zinN_of zc3 (i := 201) rfl rfl)
set_option maxRecDepth 40000 in
theorem lk_Cls_244 : Cond.methodLinkNest RCls 244 yRow_inversions "Cursorlist" ∈ zNW := (zinN_of zc3 (i := 202) rfl rfl)
set_option maxRecDepth 40000 in
theorem lk_Cls_299 : Cond.methodLink RCls 299 yCls_isSound ∈ zWS := (zin_of zc3 (i := 203) rfl rfl)
set_option maxRecDepth 40000 in
theorem cl_Law_14 : Cond.classLink RLaw 14 ROut ∈ zWS := (zin_of zc3 (i := 204) rfl rfl)
set_option maxRecDepth 40000 in
theorem im_Out : Cond.instantiable ROut 2 ∈ zWS := (zin_of zc3 (i := 205) rfl rfl)
set_option maxRecDepth 40000 in
theorem lk_Law_172 : Cond.methodLinkNest RLaw 172 yOut_init "CursorlistLaw" ∈ zNW := (zinN_of zc3 (i := 206) rfl rfl)
set_option maxRecDepth 40000 in
theorem lk_Out_1 : Cond.methodLink ROut 1 objectInit ∈ zWS := (zin_of zc3 (i := 209) rfl rfl)
set_option maxRecDepth 40000 in
theorem fl_Law_13 : Cond.fieldLinkNest RLaw 13 "CursorlistLaw$Out" "n" "J" "CursorlistLaw" ∈ zNW := (zinN_of zc3 (i := 210) rfl rfl)
set_option maxRecDepth 40000 in
theorem fl_Law_65 : Cond.fieldLinkNest RLaw 65 "CursorlistLaw$Out" "s" "Ljava/lang/String;" "CursorlistLaw" ∈ zNW := (zinN_of zc3 (i := 211) rfl rfl)
set_option maxRecDepth 40000 in
theorem lk_Law_173 : Cond.methodLink RLaw 173 yLaw_put ∈ zWS := (zin_of zc3 (i := 217) rfl rfl)
set_option maxRecDepth 40000 in
theorem cl_Law_19 : Cond.classLink RLaw 19 "java/lang/IndexOutOfBoundsException" ∈ zWS := (zin_of zc3 (i := 220) rfl rfl)
set_option maxRecDepth 40000 in
theorem cl_Law_21 : Cond.classLink RLaw 21 "java/lang/IllegalArgumentException" ∈ zWS := (zin_of zc3 (i := 221) rfl rfl)
set_option maxRecDepth 40000 in
theorem lk_Law_7 : Cond.methodLink RLaw 7 yCls_put ∈ zWS := (zin_of zc3 (i := 222) rfl rfl)
set_option maxRecDepth 40000 in
theorem lk_Cls_42 : Cond.methodLink RCls 42 yCls_demandItem ∈ zWS := (zin_of zc3 (i := 226) rfl rfl)
set_option maxRecDepth 40000 in
theorem lk_Cls_50 : Cond.methodLink RCls 50 yCls_putInto ∈ zWS := (zin_of zc3 (i := 229) rfl rfl)
set_option maxRecDepth 40000 in
theorem lk_Cls_119 : Cond.methodLinkNest RCls 119 yRow_putIn "Cursorlist" ∈ zNW := (zinN_of zc3 (i := 233) rfl rfl)
set_option maxRecDepth 40000 in
theorem lk_Cls_54 : Cond.methodLink RCls 54 yCls_refuse ∈ zWS := (zin_of zc3 (i := 234) rfl rfl)
set_option maxRecDepth 40000 in
theorem ct_Cls_324 : Cond.constant RCls 324 (-1000009) ∈ zWS := (zin_of zc3 (i := 238) rfl rfl)
set_option maxRecDepth 40000 in
theorem lk_Cls_58 : Cond.methodLink RCls 58 yCls_makeStale ∈ zWS := (zin_of zc3 (i := 239) rfl rfl)
set_option maxRecDepth 40000 in
theorem lk_Law_179 : Cond.methodLink RLaw 179 yLaw_take ∈ zWS := (zin_of zc4 (i := 3) rfl rfl)
set_option maxRecDepth 40000 in
theorem lk_Law_23 : Cond.methodLink RLaw 23 yCls_take ∈ zWS := (zin_of zc4 (i := 6) rfl rfl)
set_option maxRecDepth 40000 in
theorem lk_Cls_62 : Cond.methodLink RCls 62 yCls_endOf ∈ zWS := (zin_of zc4 (i := 10) rfl rfl)
set_option maxRecDepth 40000 in
theorem lk_Cls_66 : Cond.methodLink RCls 66 yCls_takeFrom ∈ zWS := (zin_of zc4 (i := 13) rfl rfl)
set_option maxRecDepth 40000 in
theorem lk_Cls_88 : Cond.methodLinkNest RCls 88 yRow_takeOut "Cursorlist" ∈ zNW := (zinN_of zc4 (i := 17) rfl rfl)
set_option maxRecDepth 40000 in
theorem lk_Law_183 : Cond.methodLink RLaw 183 yLaw_look ∈ zWS := (zin_of zc4 (i := 18) rfl rfl)
set_option maxRecDepth 40000 in
theorem lk_Law_27 : Cond.methodLink RLaw 27 yCls_look ∈ zWS := (zin_of zc4 (i := 21) rfl rfl)
set_option maxRecDepth 40000 in
theorem lk_Law_186 : Cond.methodLink RLaw 186 yLaw_get ∈ zWS := (zin_of zc4 (i := 25) rfl rfl)
set_option maxRecDepth 40000 in
theorem lk_Law_30 : Cond.methodLink RLaw 30 yCls_get ∈ zWS := (zin_of zc4 (i := 28) rfl rfl)
set_option maxRecDepth 40000 in
theorem lk_Cls_74 : Cond.methodLink RCls 74 yCls_demandPlace ∈ zWS := (zin_of zc4 (i := 32) rfl rfl)
set_option maxRecDepth 40000 in
theorem lk_Cls_309 : Cond.methodLinkNest RCls 309 yRow_hasPlace "Cursorlist" ∈ zNW := (zinN_of zc4 (i := 35) rfl rfl)
set_option maxRecDepth 40000 in
theorem lk_Law_189 : Cond.methodLink RLaw 189 yLaw_set ∈ zWS := (zin_of zc4 (i := 37) rfl rfl)
set_option maxRecDepth 40000 in
theorem lk_Law_33 : Cond.methodLink RLaw 33 yCls_set ∈ zWS := (zin_of zc4 (i := 40) rfl rfl)
set_option maxRecDepth 40000 in
theorem lk_Cls_78 : Cond.methodLinkNest RCls 78 yRow_changeAt "Cursorlist" ∈ zNW := (zinN_of zc4 (i := 44) rfl rfl)
set_option maxRecDepth 40000 in
theorem lk_Law_192 : Cond.methodLink RLaw 192 yLaw_insert ∈ zWS := (zin_of zc4 (i := 45) rfl rfl)
set_option maxRecDepth 40000 in
theorem lk_Law_36 : Cond.methodLink RLaw 36 yCls_insert ∈ zWS := (zin_of zc4 (i := 48) rfl rfl)
set_option maxRecDepth 40000 in
theorem lk_Cls_81 : Cond.methodLink RCls 81 yCls_demandGap ∈ zWS := (zin_of zc4 (i := 52) rfl rfl)
set_option maxRecDepth 40000 in
theorem lk_Cls_315 : Cond.methodLinkNest RCls 315 yRow_hasGap "Cursorlist" ∈ zNW := (zinN_of zc4 (i := 55) rfl rfl)
set_option maxRecDepth 40000 in
theorem lk_Law_195 : Cond.methodLink RLaw 195 yLaw_removeAt ∈ zWS := (zin_of zc4 (i := 57) rfl rfl)
set_option maxRecDepth 40000 in
theorem lk_Law_39 : Cond.methodLink RLaw 39 yCls_removeAt ∈ zWS := (zin_of zc4 (i := 60) rfl rfl)
set_option maxRecDepth 40000 in
theorem lk_Law_198 : Cond.methodLink RLaw 198 yLaw_drop ∈ zWS := (zin_of zc4 (i := 64) rfl rfl)
set_option maxRecDepth 40000 in
theorem lk_Law_42 : Cond.methodLink RLaw 42 yCls_drop ∈ zWS := (zin_of zc4 (i := 67) rfl rfl)
set_option maxRecDepth 40000 in
theorem lk_Cls_84 : Cond.methodLinkNest RCls 84 yRow_placeOf "Cursorlist" ∈ zNW := (zinN_of zc4 (i := 71) rfl rfl)
set_option maxRecDepth 40000 in
theorem lk_Law_202 : Cond.methodLink RLaw 202 yLaw_thin ∈ zWS := (zin_of zc4 (i := 72) rfl rfl)
set_option maxRecDepth 40000 in
theorem lk_Law_46 : Cond.methodLink RLaw 46 yCls_thin ∈ zWS := (zin_of zc4 (i := 75) rfl rfl)
set_option maxRecDepth 40000 in
theorem lk_Cls_91 : Cond.methodLinkNest RCls 91 yRow_takeOutAll "Cursorlist" ∈ zNW := (zinN_of zc4 (i := 79) rfl rfl)
set_option maxRecDepth 40000 in
theorem lk_Law_205 : Cond.methodLink RLaw 205 yLaw_indexOf ∈ zWS := (zin_of zc4 (i := 83) rfl rfl)
set_option maxRecDepth 40000 in
theorem lk_Law_49 : Cond.methodLink RLaw 49 yCls_indexOf ∈ zWS := (zin_of zc4 (i := 86) rfl rfl)
set_option maxRecDepth 40000 in
theorem lk_Law_208 : Cond.methodLink RLaw 208 yLaw_has ∈ zWS := (zin_of zc4 (i := 90) rfl rfl)
set_option maxRecDepth 40000 in
theorem lk_Law_53 : Cond.methodLink RLaw 53 yCls_has ∈ zWS := (zin_of zc4 (i := 93) rfl rfl)
set_option maxRecDepth 40000 in
theorem lk_Law_211 : Cond.methodLink RLaw 211 yLaw_size ∈ zWS := (zin_of zc4 (i := 97) rfl rfl)
set_option maxRecDepth 40000 in
theorem lk_Law_57 : Cond.methodLink RLaw 57 yCls_size ∈ zWS := (zin_of zc4 (i := 100) rfl rfl)
set_option maxRecDepth 40000 in
theorem lk_Law_219 : Cond.methodLink RLaw 219 yLaw_text ∈ zWS := (zin_of zc4 (i := 104) rfl rfl)
set_option maxRecDepth 40000 in
theorem lk_Law_61 : Cond.methodLink RLaw 61 yCls_text ∈ zWS := (zin_of zc4 (i := 107) rfl rfl)
set_option maxRecDepth 40000 in
theorem lk_Law_223 : Cond.methodLink RLaw 223 yLaw_clear ∈ zWS := (zin_of zc4 (i := 111) rfl rfl)
set_option maxRecDepth 40000 in
theorem lk_Law_69 : Cond.methodLink RLaw 69 yCls_clear ∈ zWS := (zin_of zc4 (i := 114) rfl rfl)
set_option maxRecDepth 40000 in
theorem lk_Law_226 : Cond.methodLink RLaw 226 yLaw_append ∈ zWS := (zin_of zc4 (i := 118) rfl rfl)
set_option maxRecDepth 40000 in
theorem lk_Law_72 : Cond.methodLink RLaw 72 yCls_append ∈ zWS := (zin_of zc4 (i := 121) rfl rfl)
set_option maxRecDepth 40000 in
theorem lk_Cls_98 : Cond.methodLinkNest RCls 98 yRow_becomeJoined "Cursorlist" ∈ zNW := (zinN_of zc4 (i := 125) rfl rfl)
set_option maxRecDepth 40000 in
theorem lk_Row_67 : Cond.methodLink RRow 67 yRow_become ∈ zWS := (zin_of zc4 (i := 129) rfl rfl)
set_option maxRecDepth 40000 in
theorem lk_Cls_102 : Cond.methodLink RCls 102 yCls_becomeResult ∈ zWS := (zin_of zc4 (i := 130) rfl rfl)
set_option maxRecDepth 40000 in
theorem lk_Law_229 : Cond.methodLink RLaw 229 yLaw_appendAt ∈ zWS := (zin_of zc4 (i := 134) rfl rfl)
set_option maxRecDepth 40000 in
theorem lk_Law_75 : Cond.methodLink RLaw 75 yCls_appendAt ∈ zWS := (zin_of zc4 (i := 137) rfl rfl)
set_option maxRecDepth 40000 in
theorem lk_Law_232 : Cond.methodLink RLaw 232 yLaw_copy ∈ zWS := (zin_of zc4 (i := 141) rfl rfl)
set_option maxRecDepth 40000 in
theorem lk_Law_78 : Cond.methodLink RLaw 78 yCls_copy ∈ zWS := (zin_of zc4 (i := 144) rfl rfl)
set_option maxRecDepth 40000 in
theorem lk_Law_235 : Cond.methodLink RLaw 235 yLaw_places ∈ zWS := (zin_of zc4 (i := 148) rfl rfl)
set_option maxRecDepth 40000 in
theorem lk_Law_81 : Cond.methodLink RLaw 81 yCls_places ∈ zWS := (zin_of zc4 (i := 151) rfl rfl)
set_option maxRecDepth 40000 in
theorem lk_Cls_109 : Cond.methodLinkNest RCls 109 yRow_becomePlaces "Cursorlist" ∈ zNW := (zinN_of zc4 (i := 155) rfl rfl)
set_option maxRecDepth 40000 in
theorem lk_Law_238 : Cond.methodLink RLaw 238 yLaw_rotate ∈ zWS := (zin_of zc4 (i := 156) rfl rfl)
set_option maxRecDepth 40000 in
theorem lk_Law_84 : Cond.methodLink RLaw 84 yCls_rotate ∈ zWS := (zin_of zc4 (i := 159) rfl rfl)
set_option maxRecDepth 40000 in
theorem lk_Cls_115 : Cond.methodLink RCls 115 yCls_firstOf ∈ zWS := (zin_of zc4 (i := 163) rfl rfl)
set_option maxRecDepth 40000 in
theorem lk_Law_241 : Cond.methodLink RLaw 241 yLaw_move ∈ zWS := (zin_of zc4 (i := 166) rfl rfl)
set_option maxRecDepth 40000 in
theorem lk_Law_87 : Cond.methodLink RLaw 87 yCls_move ∈ zWS := (zin_of zc4 (i := 169) rfl rfl)
set_option maxRecDepth 40000 in
theorem lk_Law_244 : Cond.methodLink RLaw 244 yLaw_swap ∈ zWS := (zin_of zc4 (i := 173) rfl rfl)
set_option maxRecDepth 40000 in
theorem lk_Law_90 : Cond.methodLink RLaw 90 yCls_swap ∈ zWS := (zin_of zc4 (i := 176) rfl rfl)
set_option maxRecDepth 40000 in
theorem lk_Cls_123 : Cond.methodLinkNest RCls 123 yRow_exchange "Cursorlist" ∈ zNW := (zinN_of zc4 (i := 180) rfl rfl)
set_option maxRecDepth 40000 in
theorem lk_Law_247 : Cond.methodLink RLaw 247 yLaw_reverse ∈ zWS := (zin_of zc4 (i := 181) rfl rfl)
set_option maxRecDepth 40000 in
theorem lk_Law_93 : Cond.methodLink RLaw 93 yCls_reverse ∈ zWS := (zin_of zc4 (i := 184) rfl rfl)
set_option maxRecDepth 40000 in
theorem lk_Law_250 : Cond.methodLink RLaw 250 yLaw_through ∈ zWS := (zin_of zc4 (i := 188) rfl rfl)
set_option maxRecDepth 40000 in
theorem lk_Law_96 : Cond.methodLink RLaw 96 yCls_through ∈ zWS := (zin_of zc4 (i := 191) rfl rfl)
set_option maxRecDepth 40000 in
theorem lk_Cls_129 : Cond.methodLinkNest RCls 129 yRow_becomeThrough "Cursorlist" ∈ zNW := (zinN_of zc4 (i := 195) rfl rfl)
set_option maxRecDepth 40000 in
theorem lk_Law_253 : Cond.methodLink RLaw 253 yLaw_areSame ∈ zWS := (zin_of zc4 (i := 199) rfl rfl)
set_option maxRecDepth 40000 in
theorem lk_Law_99 : Cond.methodLink RLaw 99 yCls_areSame ∈ zWS := (zin_of zc4 (i := 202) rfl rfl)
set_option maxRecDepth 40000 in
theorem lk_Law_256 : Cond.methodLink RLaw 256 yLaw_isMirror ∈ zWS := (zin_of zc4 (i := 206) rfl rfl)
set_option maxRecDepth 40000 in
theorem lk_Law_102 : Cond.methodLink RLaw 102 yCls_isMirror ∈ zWS := (zin_of zc4 (i := 209) rfl rfl)
set_option maxRecDepth 40000 in
theorem lk_Law_259 : Cond.methodLink RLaw 259 yLaw_open ∈ zWS := (zin_of zc4 (i := 213) rfl rfl)
set_option maxRecDepth 40000 in
theorem lk_Law_106 : Cond.methodLink RLaw 106 yCls_open ∈ zWS := (zin_of zc4 (i := 216) rfl rfl)
set_option maxRecDepth 40000 in
theorem lk_Cls_141 : Cond.methodLinkNest RCls 141 yCur_begin "Cursorlist" ∈ zNW := (zinN_of zc4 (i := 220) rfl rfl)
set_option maxRecDepth 40000 in
theorem lk_Law_262 : Cond.methodLink RLaw 262 yLaw_shut ∈ zWS := (zin_of zc4 (i := 224) rfl rfl)
set_option maxRecDepth 40000 in
theorem lk_Law_109 : Cond.methodLink RLaw 109 yCls_shut ∈ zWS := (zin_of zc4 (i := 227) rfl rfl)
set_option maxRecDepth 40000 in
theorem lk_Law_265 : Cond.methodLink RLaw 265 yLaw_forth ∈ zWS := (zin_of zc4 (i := 231) rfl rfl)
set_option maxRecDepth 40000 in
theorem cl_Law_115 : Cond.classLink RLaw 115 "java/lang/IllegalStateException" ∈ zWS := (zin_of zc4 (i := 234) rfl rfl)
set_option maxRecDepth 40000 in
theorem lk_Law_112 : Cond.methodLink RLaw 112 yCls_forth ∈ zWS := (zin_of zc4 (i := 235) rfl rfl)
set_option maxRecDepth 40000 in
theorem lk_Cls_148 : Cond.methodLink RCls 148 yCls_demandThere ∈ zWS := (zin_of zc4 (i := 239) rfl rfl)
set_option maxRecDepth 40000 in
theorem cl_Cls_218 : Cond.classLink RCls 218 "java/lang/IllegalStateException" ∈ zWS := (zin_of zc5 (i := 2) rfl rfl)
set_option maxRecDepth 40000 in
theorem im_IllegalStateException : Cond.instantiable "java/lang/IllegalStateException" 6 ∈ zWS := (zin_of zc5 (i := 3) rfl rfl)
set_option maxRecDepth 40000 in
theorem lk_Cls_222 : Cond.methodLink RCls 222 ⟨"java/lang/IllegalStateException", "<init>", "(Ljava/lang/String;)V"⟩ ∈ zWS := (zin_of zc5 (i := 12) rfl rfl)
set_option maxRecDepth 40000 in
theorem lk_Cls_159 : Cond.methodLinkNest RCls 159 yCur_stepForth "Cursorlist" ∈ zNW := (zinN_of zc5 (i := 18) rfl rfl)
set_option maxRecDepth 40000 in
theorem lk_Cur_28 : Cond.methodLinkNest RCur 28 yRow_hasPlace "Cursorlist" ∈ zNW := (zinN_of zc5 (i := 22) rfl rfl)
set_option maxRecDepth 40000 in
theorem lk_Cur_34 : Cond.methodLinkNest RCur 34 yRow_itemAt "Cursorlist" ∈ zNW := (zinN_of zc5 (i := 23) rfl rfl)
set_option maxRecDepth 40000 in
theorem lk_Law_268 : Cond.methodLink RLaw 268 yLaw_back ∈ zWS := (zin_of zc5 (i := 24) rfl rfl)
set_option maxRecDepth 40000 in
theorem lk_Law_117 : Cond.methodLink RLaw 117 yCls_back ∈ zWS := (zin_of zc5 (i := 27) rfl rfl)
set_option maxRecDepth 40000 in
theorem lk_Cls_162 : Cond.methodLinkNest RCls 162 yCur_stepBack "Cursorlist" ∈ zNW := (zinN_of zc5 (i := 31) rfl rfl)
set_option maxRecDepth 40000 in
theorem lk_Law_271 : Cond.methodLink RLaw 271 yLaw_puts ∈ zWS := (zin_of zc5 (i := 35) rfl rfl)
set_option maxRecDepth 40000 in
theorem lk_Law_120 : Cond.methodLink RLaw 120 yCls_puts ∈ zWS := (zin_of zc5 (i := 38) rfl rfl)
set_option maxRecDepth 40000 in
theorem lk_Cls_165 : Cond.methodLinkNest RCls 165 yCur_putHere "Cursorlist" ∈ zNW := (zinN_of zc5 (i := 42) rfl rfl)
set_option maxRecDepth 40000 in
theorem lk_Cur_38 : Cond.methodLinkNest RCur 38 yRow_putIn "Cursorlist" ∈ zNW := (zinN_of zc5 (i := 46) rfl rfl)
set_option maxRecDepth 40000 in
theorem lk_Law_274 : Cond.methodLink RLaw 274 yLaw_cuts ∈ zWS := (zin_of zc5 (i := 47) rfl rfl)
set_option maxRecDepth 40000 in
theorem lk_Law_123 : Cond.methodLink RLaw 123 yCls_cuts ∈ zWS := (zin_of zc5 (i := 50) rfl rfl)
set_option maxRecDepth 40000 in
theorem lk_Cls_178 : Cond.methodLinkNest RCls 178 yCur_cutLast "Cursorlist" ∈ zNW := (zinN_of zc5 (i := 54) rfl rfl)
set_option maxRecDepth 40000 in
theorem lk_Cur_42 : Cond.methodLinkNest RCur 42 yRow_takeOut "Cursorlist" ∈ zNW := (zinN_of zc5 (i := 58) rfl rfl)
set_option maxRecDepth 40000 in
theorem lk_Law_277 : Cond.methodLink RLaw 277 yLaw_changes ∈ zWS := (zin_of zc5 (i := 59) rfl rfl)
set_option maxRecDepth 40000 in
theorem lk_Law_126 : Cond.methodLink RLaw 126 yCls_changes ∈ zWS := (zin_of zc5 (i := 62) rfl rfl)
set_option maxRecDepth 40000 in
theorem lk_Law_280 : Cond.methodLink RLaw 280 yLaw_meet ∈ zWS := (zin_of zc5 (i := 66) rfl rfl)
set_option maxRecDepth 40000 in
theorem lk_Law_129 : Cond.methodLink RLaw 129 yCls_meet ∈ zWS := (zin_of zc5 (i := 69) rfl rfl)
set_option maxRecDepth 40000 in
theorem lk_Cls_188 : Cond.methodLink RCls 188 yCls_sumUntilMet ∈ zWS := (zin_of zc5 (i := 74) rfl rfl)
set_option maxRecDepth 40000 in
theorem lk_Law_283 : Cond.methodLink RLaw 283 yLaw_ofCursor ∈ zWS := (zin_of zc5 (i := 77) rfl rfl)
set_option maxRecDepth 40000 in
theorem lk_Law_132 : Cond.methodLink RLaw 132 yCls_ofCursor ∈ zWS := (zin_of zc5 (i := 80) rfl rfl)
set_option maxRecDepth 40000 in
theorem lk_Law_286 : Cond.methodLink RLaw 286 yLaw_plus ∈ zWS := (zin_of zc5 (i := 81) rfl rfl)
set_option maxRecDepth 40000 in
theorem lk_Law_135 : Cond.methodLink RLaw 135 yCls_plus ∈ zWS := (zin_of zc5 (i := 84) rfl rfl)
set_option maxRecDepth 40000 in
theorem lk_Law_289 : Cond.methodLink RLaw 289 yLaw_times ∈ zWS := (zin_of zc5 (i := 88) rfl rfl)
set_option maxRecDepth 40000 in
theorem lk_Law_138 : Cond.methodLink RLaw 138 yCls_times ∈ zWS := (zin_of zc5 (i := 91) rfl rfl)
set_option maxRecDepth 40000 in
theorem lk_Law_292 : Cond.methodLink RLaw 292 yLaw_shift ∈ zWS := (zin_of zc5 (i := 95) rfl rfl)
set_option maxRecDepth 40000 in
theorem lk_Law_141 : Cond.methodLink RLaw 141 yCls_shift ∈ zWS := (zin_of zc5 (i := 98) rfl rfl)
set_option maxRecDepth 40000 in
theorem lk_Law_295 : Cond.methodLink RLaw 295 yLaw_trim ∈ zWS := (zin_of zc5 (i := 102) rfl rfl)
set_option maxRecDepth 40000 in
theorem lk_Law_144 : Cond.methodLink RLaw 144 yCls_trim ∈ zWS := (zin_of zc5 (i := 105) rfl rfl)
set_option maxRecDepth 40000 in
theorem lk_Law_298 : Cond.methodLink RLaw 298 yLaw_derive ∈ zWS := (zin_of zc5 (i := 109) rfl rfl)
set_option maxRecDepth 40000 in
theorem lk_Law_147 : Cond.methodLink RLaw 147 yCls_derive ∈ zWS := (zin_of zc5 (i := 112) rfl rfl)
set_option maxRecDepth 40000 in
theorem lk_Cls_209 : Cond.methodLinkNest RCls 209 yRow_becomeDerived "Cursorlist" ∈ zNW := (zinN_of zc5 (i := 116) rfl rfl)
set_option maxRecDepth 40000 in
theorem lk_Law_301 : Cond.methodLink RLaw 301 yLaw_value ∈ zWS := (zin_of zc5 (i := 120) rfl rfl)
set_option maxRecDepth 40000 in
theorem lk_Law_150 : Cond.methodLink RLaw 150 yCls_value ∈ zWS := (zin_of zc5 (i := 123) rfl rfl)
set_option maxRecDepth 40000 in
theorem lk_Law_304 : Cond.methodLink RLaw 304 yLaw_degree ∈ zWS := (zin_of zc5 (i := 127) rfl rfl)
set_option maxRecDepth 40000 in
theorem lk_Law_153 : Cond.methodLink RLaw 153 yCls_degree ∈ zWS := (zin_of zc5 (i := 130) rfl rfl)
set_option maxRecDepth 40000 in
theorem lk_Law_307 : Cond.methodLink RLaw 307 yLaw_ask ∈ zWS := (zin_of zc5 (i := 134) rfl rfl)
set_option maxRecDepth 40000 in
theorem lk_Law_156 : Cond.methodLink RLaw 156 yCls_ask ∈ zWS := (zin_of zc5 (i := 137) rfl rfl)
set_option maxRecDepth 40000 in
theorem lk_Cls_223 : Cond.methodLinkNest RCls 223 yRec_bringAhead "Cursorlist" ∈ zNW := (zinN_of zc5 (i := 142) rfl rfl)
set_option maxRecDepth 40000 in
theorem lk_Rec_43 : Cond.methodLinkNest RRec 43 yRow_takeOut "Cursorlist" ∈ zNW := (zinN_of zc5 (i := 146) rfl rfl)
set_option maxRecDepth 40000 in
theorem lk_Rec_47 : Cond.methodLinkNest RRec 47 yRow_putIn "Cursorlist" ∈ zNW := (zinN_of zc5 (i := 147) rfl rfl)
set_option maxRecDepth 40000 in
theorem lk_Law_314 : Cond.methodLink RLaw 314 yLaw_asked ∈ zWS := (zin_of zc5 (i := 148) rfl rfl)
set_option maxRecDepth 40000 in
theorem lk_Law_159 : Cond.methodLink RLaw 159 yCls_asked ∈ zWS := (zin_of zc5 (i := 151) rfl rfl)
set_option maxRecDepth 40000 in
theorem lk_Law_322 : Cond.methodLink RLaw 322 yLaw_byOrder ∈ zWS := (zin_of zc5 (i := 152) rfl rfl)
set_option maxRecDepth 40000 in
theorem lk_Law_162 : Cond.methodLink RLaw 162 yCls_byOrder ∈ zWS := (zin_of zc5 (i := 155) rfl rfl)
set_option maxRecDepth 40000 in
theorem lk_Law_325 : Cond.methodLink RLaw 325 yLaw_house ∈ zWS := (zin_of zc5 (i := 159) rfl rfl)
set_option maxRecDepth 40000 in
theorem lk_Law_165 : Cond.methodLink RLaw 165 yCls_house ∈ zWS := (zin_of zc5 (i := 162) rfl rfl)
set_option maxRecDepth 40000 in
theorem cl_Law_169 : Cond.classLink RLaw 169 RMod ∈ zWS := (zin_of zc5 (i := 163) rfl rfl)
set_option maxRecDepth 40000 in
theorem im_Mod : Cond.instantiable RMod 13 ∈ zWS := (zin_of zc5 (i := 164) rfl rfl)
set_option maxRecDepth 40000 in
theorem lk_Law_171 : Cond.methodLink RLaw 171 yMod_init ∈ zWS := (zin_of zc5 (i := 165) rfl rfl)
set_option maxRecDepth 40000 in
theorem lk_Mod_1 : Cond.methodLink RMod 1 objectInit ∈ zWS := (zin_of zc5 (i := 168) rfl rfl)
set_option maxRecDepth 40000 in
theorem cl_Mod_9 : Cond.classLink RMod 9 "[[I" ∈ zWS := (zin_of zc5 (i := 169) rfl rfl)
set_option maxRecDepth 40000 in
theorem fl_Mod_11 : Cond.fieldLink RMod 11 "CursorlistModel" "rows" "[[I" ∈ zWS := (zin_of zc5 (i := 171) rfl rfl)
set_option maxRecDepth 40000 in
theorem fl_Mod_14 : Cond.fieldLink RMod 14 "CursorlistModel" "isThere" "[Z" ∈ zWS := (zin_of zc5 (i := 172) rfl rfl)
set_option maxRecDepth 40000 in
theorem fl_Mod_18 : Cond.fieldLink RMod 18 "CursorlistModel" "isStale" "[Z" ∈ zWS := (zin_of zc5 (i := 173) rfl rfl)
set_option maxRecDepth 40000 in
theorem fl_Mod_21 : Cond.fieldLink RMod 21 "CursorlistModel" "over" "[I" ∈ zWS := (zin_of zc5 (i := 174) rfl rfl)
set_option maxRecDepth 40000 in
theorem fl_Mod_25 : Cond.fieldLink RMod 25 "CursorlistModel" "index" "[I" ∈ zWS := (zin_of zc5 (i := 175) rfl rfl)
set_option maxRecDepth 40000 in
theorem fl_Mod_28 : Cond.fieldLink RMod 28 "CursorlistModel" "lastAt" "[I" ∈ zWS := (zin_of zc5 (i := 176) rfl rfl)
set_option maxRecDepth 40000 in
theorem fl_Mod_31 : Cond.fieldLink RMod 31 "CursorlistModel" "recent" "[I" ∈ zWS := (zin_of zc5 (i := 177) rfl rfl)
set_option maxRecDepth 40000 in
theorem fl_Mod_34 : Cond.fieldLink RMod 34 "CursorlistModel" "askings" "[I" ∈ zWS := (zin_of zc5 (i := 178) rfl rfl)
set_option maxRecDepth 40000 in
theorem fl_Mod_184 : Cond.fieldLink RMod 184 "CursorlistModel" "asked" "I" ∈ zWS := (zin_of zc5 (i := 179) rfl rfl)
set_option maxRecDepth 40000 in
theorem fl_Mod_187 : Cond.fieldLink RMod 187 "CursorlistModel" "paid" "I" ∈ zWS := (zin_of zc5 (i := 180) rfl rfl)
set_option maxRecDepth 40000 in
theorem fl_Mod_45 : Cond.fieldLink RMod 45 "CursorlistModel" "refusals" "I" ∈ zWS := (zin_of zc5 (i := 181) rfl rfl)
set_option maxRecDepth 40000 in
theorem fl_Mod_200 : Cond.fieldLink RMod 200 "CursorlistModel" "knocks" "I" ∈ zWS := (zin_of zc5 (i := 182) rfl rfl)
set_option maxRecDepth 40000 in
theorem fl_Mod_37 : Cond.fieldLink RMod 37 "CursorlistModel" "thrown" "I" ∈ zWS := (zin_of zc5 (i := 183) rfl rfl)
set_option maxRecDepth 40000 in
theorem ac_boolean : Cond.arrayClass FieldType.boolean ∈ zWS := (zin_of zc5 (i := 211) rfl rfl)
set_option maxRecDepth 40000 in
theorem lk_Law_215 : Cond.methodLink RLaw 215 yMod_thrown ∈ zWS := (zin_of zc5 (i := 212) rfl rfl)
set_option maxRecDepth 40000 in
theorem lk_Law_178 : Cond.methodLink RLaw 178 yMod_put ∈ zWS := (zin_of zc5 (i := 216) rfl rfl)
set_option maxRecDepth 40000 in
theorem lk_Mod_81 : Cond.methodLink RMod 81 yMod_isNo ∈ zWS := (zin_of zc5 (i := 220) rfl rfl)
set_option maxRecDepth 40000 in
theorem lk_Mod_41 : Cond.methodLink RMod 41 yMod_isOut ∈ zWS := (zin_of zc5 (i := 223) rfl rfl)
set_option maxRecDepth 40000 in
theorem lk_Mod_85 : Cond.methodLink RMod 85 yMod_isNoItem ∈ zWS := (zin_of zc5 (i := 226) rfl rfl)
set_option maxRecDepth 40000 in
theorem lk_Mod_88 : Cond.methodLink RMod 88 yMod_fails ∈ zWS := (zin_of zc5 (i := 229) rfl rfl)
set_option maxRecDepth 40000 in
theorem lk_Mod_92 : Cond.methodLink RMod 92 yMod_refused ∈ zWS := (zin_of zc5 (i := 233) rfl rfl)
set_option maxRecDepth 40000 in
theorem ct_Mod_48 : Cond.constant RMod 48 (-1000009) ∈ zWS := (zin_of zc5 (i := 237) rfl rfl)
set_option maxRecDepth 40000 in
theorem lk_Mod_49 : Cond.methodLink RMod 49 yMod_with ∈ zWS := (zin_of zc5 (i := 238) rfl rfl)
set_option maxRecDepth 40000 in
theorem lk_Mod_95 : Cond.methodLink RMod 95 yMod_becomes ∈ zWS := (zin_of zc6 (i := 1) rfl rfl)
set_option maxRecDepth 40000 in
theorem lk_Mod_77 : Cond.methodLink RMod 77 yMod_become ∈ zWS := (zin_of zc6 (i := 5) rfl rfl)
set_option maxRecDepth 40000 in
theorem lk_Law_182 : Cond.methodLink RLaw 182 yMod_take ∈ zWS := (zin_of zc6 (i := 9) rfl rfl)
set_option maxRecDepth 40000 in
theorem lk_Mod_99 : Cond.methodLink RMod 99 yMod_isAtEnd ∈ zWS := (zin_of zc6 (i := 13) rfl rfl)
set_option maxRecDepth 40000 in
theorem lk_Mod_102 : Cond.methodLink RMod 102 yMod_without ∈ zWS := (zin_of zc6 (i := 16) rfl rfl)
set_option maxRecDepth 40000 in
theorem lk_Law_185 : Cond.methodLink RLaw 185 yMod_look ∈ zWS := (zin_of zc6 (i := 19) rfl rfl)
set_option maxRecDepth 40000 in
theorem lk_Law_188 : Cond.methodLink RLaw 188 yMod_get ∈ zWS := (zin_of zc6 (i := 23) rfl rfl)
set_option maxRecDepth 40000 in
theorem lk_Mod_106 : Cond.methodLink RMod 106 yMod_isNoPlace ∈ zWS := (zin_of zc6 (i := 27) rfl rfl)
set_option maxRecDepth 40000 in
theorem lk_Law_191 : Cond.methodLink RLaw 191 yMod_set ∈ zWS := (zin_of zc6 (i := 31) rfl rfl)
set_option maxRecDepth 40000 in
theorem lk_Law_194 : Cond.methodLink RLaw 194 yMod_insert ∈ zWS := (zin_of zc6 (i := 35) rfl rfl)
set_option maxRecDepth 40000 in
theorem lk_Law_197 : Cond.methodLink RLaw 197 yMod_removeAt ∈ zWS := (zin_of zc6 (i := 39) rfl rfl)
set_option maxRecDepth 40000 in
theorem lk_Law_201 : Cond.methodLink RLaw 201 yMod_drop ∈ zWS := (zin_of zc6 (i := 43) rfl rfl)
set_option maxRecDepth 40000 in
theorem lk_Mod_110 : Cond.methodLink RMod 110 yMod_find ∈ zWS := (zin_of zc6 (i := 47) rfl rfl)
set_option maxRecDepth 40000 in
theorem lk_Law_204 : Cond.methodLink RLaw 204 yMod_thin ∈ zWS := (zin_of zc6 (i := 50) rfl rfl)
set_option maxRecDepth 40000 in
theorem lk_Law_207 : Cond.methodLink RLaw 207 yMod_indexOf ∈ zWS := (zin_of zc6 (i := 54) rfl rfl)
set_option maxRecDepth 40000 in
theorem lk_Law_210 : Cond.methodLink RLaw 210 yMod_has ∈ zWS := (zin_of zc6 (i := 58) rfl rfl)
set_option maxRecDepth 40000 in
theorem lk_Law_214 : Cond.methodLink RLaw 214 yMod_size ∈ zWS := (zin_of zc6 (i := 62) rfl rfl)
set_option maxRecDepth 40000 in
theorem lk_Law_222 : Cond.methodLink RLaw 222 yMod_text ∈ zWS := (zin_of zc6 (i := 66) rfl rfl)
set_option maxRecDepth 40000 in
theorem lk_Mod_114 : Cond.methodLink RMod 114 yMod_turned ∈ zWS := (zin_of zc6 (i := 71) rfl rfl)
set_option maxRecDepth 40000 in
theorem lk_Mod_118 : Cond.methodLink RMod 118 yMod_told ∈ zWS := (zin_of zc6 (i := 74) rfl rfl)
set_option maxRecDepth 40000 in
theorem cl_Mod_55 : Cond.classLink RMod 55 RSbd ∈ zWS := (zin_of zc6 (i := 77) rfl rfl)
set_option maxRecDepth 40000 in
theorem lk_Mod_57 : Cond.methodLink RMod 57 ySbd_init_da8c8 ∈ zWS := (zin_of zc6 (i := 78) rfl rfl)
set_option maxRecDepth 40000 in
theorem lk_Mod_58 : Cond.methodLink RMod 58 ySbd_append_15ec4 ∈ zWS := (zin_of zc6 (i := 79) rfl rfl)
set_option maxRecDepth 40000 in
theorem lk_Mod_62 : Cond.methodLink RMod 62 yStr_length_8abf5 ∈ zWS := (zin_of zc6 (i := 80) rfl rfl)
set_option maxRecDepth 40000 in
theorem lk_Mod_70 : Cond.methodLink RMod 70 ySbd_append_bf812 ∈ zWS := (zin_of zc6 (i := 82) rfl rfl)
set_option maxRecDepth 40000 in
theorem lk_Mod_73 : Cond.methodLink RMod 73 ySbd_toString_0e30d ∈ zWS := (zin_of zc6 (i := 83) rfl rfl)
set_option maxRecDepth 40000 in
theorem lk_Law_225 : Cond.methodLink RLaw 225 yMod_clear ∈ zWS := (zin_of zc6 (i := 84) rfl rfl)
set_option maxRecDepth 40000 in
theorem lk_Law_228 : Cond.methodLink RLaw 228 yMod_append ∈ zWS := (zin_of zc6 (i := 88) rfl rfl)
set_option maxRecDepth 40000 in
theorem lk_Mod_122 : Cond.methodLink RMod 122 yMod_joins ∈ zWS := (zin_of zc6 (i := 92) rfl rfl)
set_option maxRecDepth 40000 in
theorem lk_Mod_126 : Cond.methodLink RMod 126 yMod_joined ∈ zWS := (zin_of zc6 (i := 96) rfl rfl)
set_option maxRecDepth 40000 in
theorem lk_Law_231 : Cond.methodLink RLaw 231 yMod_appendAt ∈ zWS := (zin_of zc6 (i := 99) rfl rfl)
set_option maxRecDepth 40000 in
theorem lk_Law_234 : Cond.methodLink RLaw 234 yMod_copy ∈ zWS := (zin_of zc6 (i := 103) rfl rfl)
set_option maxRecDepth 40000 in
theorem lk_Mod_130 : Cond.methodLink RMod 130 yMod_copied ∈ zWS := (zin_of zc6 (i := 107) rfl rfl)
set_option maxRecDepth 40000 in
theorem lk_Law_237 : Cond.methodLink RLaw 237 yMod_places ∈ zWS := (zin_of zc6 (i := 110) rfl rfl)
set_option maxRecDepth 40000 in
theorem lk_Law_240 : Cond.methodLink RLaw 240 yMod_rotate ∈ zWS := (zin_of zc6 (i := 114) rfl rfl)
set_option maxRecDepth 40000 in
theorem lk_Mod_133 : Cond.methodLink RMod 133 yMod_first ∈ zWS := (zin_of zc6 (i := 118) rfl rfl)
set_option maxRecDepth 40000 in
theorem lk_Law_243 : Cond.methodLink RLaw 243 yMod_move ∈ zWS := (zin_of zc6 (i := 122) rfl rfl)
set_option maxRecDepth 40000 in
theorem lk_Law_246 : Cond.methodLink RLaw 246 yMod_swap ∈ zWS := (zin_of zc6 (i := 126) rfl rfl)
set_option maxRecDepth 40000 in
theorem lk_Law_249 : Cond.methodLink RLaw 249 yMod_reverse ∈ zWS := (zin_of zc6 (i := 130) rfl rfl)
set_option maxRecDepth 40000 in
theorem lk_Law_252 : Cond.methodLink RLaw 252 yMod_through ∈ zWS := (zin_of zc6 (i := 134) rfl rfl)
set_option maxRecDepth 40000 in
theorem lk_Law_255 : Cond.methodLink RLaw 255 yMod_areSame ∈ zWS := (zin_of zc6 (i := 138) rfl rfl)
set_option maxRecDepth 40000 in
theorem lk_Mod_137 : Cond.methodLink RMod 137 yMod_areLike ∈ zWS := (zin_of zc6 (i := 142) rfl rfl)
set_option maxRecDepth 40000 in
theorem lk_Law_258 : Cond.methodLink RLaw 258 yMod_isMirror ∈ zWS := (zin_of zc6 (i := 145) rfl rfl)
set_option maxRecDepth 40000 in
theorem lk_Law_261 : Cond.methodLink RLaw 261 yMod_open ∈ zWS := (zin_of zc6 (i := 149) rfl rfl)
set_option maxRecDepth 40000 in
theorem lk_Mod_141 : Cond.methodLink RMod 141 yMod_isNoCursor ∈ zWS := (zin_of zc6 (i := 153) rfl rfl)
set_option maxRecDepth 40000 in
theorem lk_Law_264 : Cond.methodLink RLaw 264 yMod_shut ∈ zWS := (zin_of zc6 (i := 156) rfl rfl)
set_option maxRecDepth 40000 in
theorem lk_Law_267 : Cond.methodLink RLaw 267 yMod_forth ∈ zWS := (zin_of zc6 (i := 160) rfl rfl)
set_option maxRecDepth 40000 in
theorem lk_Mod_151 : Cond.methodLink RMod 151 yMod_asksOn ∈ zWS := (zin_of zc6 (i := 164) rfl rfl)
set_option maxRecDepth 40000 in
theorem lk_Mod_144 : Cond.methodLink RMod 144 yMod_isNotThere ∈ zWS := (zin_of zc6 (i := 168) rfl rfl)
set_option maxRecDepth 40000 in
theorem lk_Mod_147 : Cond.methodLink RMod 147 yMod_goes ∈ zWS := (zin_of zc6 (i := 172) rfl rfl)
set_option maxRecDepth 40000 in
theorem lk_Law_270 : Cond.methodLink RLaw 270 yMod_back ∈ zWS := (zin_of zc6 (i := 176) rfl rfl)
set_option maxRecDepth 40000 in
theorem lk_Law_273 : Cond.methodLink RLaw 273 yMod_puts ∈ zWS := (zin_of zc6 (i := 180) rfl rfl)
set_option maxRecDepth 40000 in
theorem lk_Law_276 : Cond.methodLink RLaw 276 yMod_cuts ∈ zWS := (zin_of zc6 (i := 184) rfl rfl)
set_option maxRecDepth 40000 in
theorem lk_Law_279 : Cond.methodLink RLaw 279 yMod_changes ∈ zWS := (zin_of zc6 (i := 188) rfl rfl)
set_option maxRecDepth 40000 in
theorem lk_Law_282 : Cond.methodLink RLaw 282 yMod_meet ∈ zWS := (zin_of zc6 (i := 192) rfl rfl)
set_option maxRecDepth 40000 in
theorem lk_Law_285 : Cond.methodLink RLaw 285 yMod_ofCursor ∈ zWS := (zin_of zc6 (i := 196) rfl rfl)
set_option maxRecDepth 40000 in
theorem lk_Mod_154 : Cond.methodLink RMod 154 yMod_ofCursorNow ∈ zWS := (zin_of zc6 (i := 200) rfl rfl)
set_option maxRecDepth 40000 in
theorem lk_Law_288 : Cond.methodLink RLaw 288 yMod_plus ∈ zWS := (zin_of zc6 (i := 204) rfl rfl)
set_option maxRecDepth 40000 in
theorem lk_Mod_166 : Cond.methodLink RMod 166 yMod_fits ∈ zWS := (zin_of zc6 (i := 208) rfl rfl)
set_option maxRecDepth 40000 in
theorem lk_Mod_162 : Cond.methodLink RMod 162 yMod_fitting ∈ zWS := (zin_of zc6 (i := 212) rfl rfl)
set_option maxRecDepth 40000 in
theorem ct_Mod_158 : Cond.constantLong RMod 158 (-9999) ∈ zWS := (zin_of zc6 (i := 215) rfl rfl)
set_option maxRecDepth 40000 in
theorem ct_Mod_160 : Cond.constantLong RMod 160 (9999) ∈ zWS := (zin_of zc6 (i := 216) rfl rfl)
set_option maxRecDepth 40000 in
theorem ac_long : Cond.arrayClass FieldType.long ∈ zWS := (zin_of zc6 (i := 217) rfl rfl)
set_option maxRecDepth 40000 in
theorem lk_Law_291 : Cond.methodLink RLaw 291 yMod_times ∈ zWS := (zin_of zc6 (i := 218) rfl rfl)
set_option maxRecDepth 40000 in
theorem lk_Law_294 : Cond.methodLink RLaw 294 yMod_shift ∈ zWS := (zin_of zc6 (i := 222) rfl rfl)
set_option maxRecDepth 40000 in
theorem lk_Law_297 : Cond.methodLink RLaw 297 yMod_trim ∈ zWS := (zin_of zc6 (i := 226) rfl rfl)
set_option maxRecDepth 40000 in
theorem lk_Law_300 : Cond.methodLink RLaw 300 yMod_derive ∈ zWS := (zin_of zc6 (i := 230) rfl rfl)
set_option maxRecDepth 40000 in
theorem lk_Law_303 : Cond.methodLink RLaw 303 yMod_value ∈ zWS := (zin_of zc6 (i := 234) rfl rfl)
set_option maxRecDepth 40000 in
theorem lk_Mod_176 : Cond.methodLink RMod 176 yMod_valueOf ∈ zWS := (zin_of zc6 (i := 238) rfl rfl)
set_option maxRecDepth 40000 in
theorem lk_Mod_172 : Cond.methodLink RMod 172 yMod_rest ∈ zWS := (zin_of zc7 (i := 1) rfl rfl)
set_option maxRecDepth 40000 in
theorem ct_Mod_170 : Cond.constantLong RMod 170 (9973) ∈ zWS := (zin_of zc7 (i := 4) rfl rfl)
set_option maxRecDepth 40000 in
theorem lk_Law_306 : Cond.methodLink RLaw 306 yMod_degree ∈ zWS := (zin_of zc7 (i := 5) rfl rfl)
set_option maxRecDepth 40000 in
theorem lk_Mod_180 : Cond.methodLink RMod 180 yMod_degreeOf ∈ zWS := (zin_of zc7 (i := 9) rfl rfl)
set_option maxRecDepth 40000 in
theorem lk_Law_309 : Cond.methodLink RLaw 309 yMod_ask ∈ zWS := (zin_of zc7 (i := 12) rfl rfl)
set_option maxRecDepth 40000 in
theorem lk_Law_313 : Cond.methodLink RLaw 313 yMod_forget ∈ zWS := (zin_of zc7 (i := 16) rfl rfl)
set_option maxRecDepth 40000 in
theorem lk_Law_316 : Cond.methodLink RLaw 316 yMod_asked ∈ zWS := (zin_of zc7 (i := 20) rfl rfl)
set_option maxRecDepth 40000 in
theorem lk_Mod_190 : Cond.methodLink RMod 190 yMod_askedNow ∈ zWS := (zin_of zc7 (i := 24) rfl rfl)
set_option maxRecDepth 40000 in
theorem lk_Law_321 : Cond.methodLink RLaw 321 yMod_recent ∈ zWS := (zin_of zc7 (i := 28) rfl rfl)
set_option maxRecDepth 40000 in
theorem lk_Law_324 : Cond.methodLink RLaw 324 yMod_byOrder ∈ zWS := (zin_of zc7 (i := 32) rfl rfl)
set_option maxRecDepth 40000 in
theorem lk_Mod_193 : Cond.methodLink RMod 193 yMod_isOrder ∈ zWS := (zin_of zc7 (i := 36) rfl rfl)
set_option maxRecDepth 40000 in
theorem lk_Mod_197 : Cond.methodLink RMod 197 yMod_byOrderNow ∈ zWS := (zin_of zc7 (i := 39) rfl rfl)
set_option maxRecDepth 40000 in
theorem lk_Law_327 : Cond.methodLink RLaw 327 yMod_house ∈ zWS := (zin_of zc7 (i := 43) rfl rfl)
set_option maxRecDepth 40000 in
theorem lk_Mod_203 : Cond.methodLink RMod 203 yMod_houseNow ∈ zWS := (zin_of zc7 (i := 47) rfl rfl)
set_option maxRecDepth 40000 in
theorem lk_Law_331 : Cond.methodLink RLaw 331 yMod_knock ∈ zWS := (zin_of zc7 (i := 51) rfl rfl)
set_option maxRecDepth 40000 in
theorem lk_Law_336 : Cond.methodLink RLaw 336 yMod_isSound ∈ zWS := (zin_of zc7 (i := 55) rfl rfl)
set_option maxRecDepth 40000 in
theorem lk_Law_341 : Cond.methodLink RLaw 341 yMod_digest ∈ zWS := (zin_of zc7 (i := 59) rfl rfl)
set_option maxRecDepth 40000 in
theorem ct_Mod_208 : Cond.constantLong RMod 208 (7834) ∈ zWS := (zin_of zc7 (i := 63) rfl rfl)
set_option maxRecDepth 40000 in
theorem lk_Mod_210 : Cond.methodLink RMod 210 yMod_add ∈ zWS := (zin_of zc7 (i := 64) rfl rfl)
set_option maxRecDepth 40000 in
theorem ct_Mod_206 : Cond.constantLong RMod 206 (31) ∈ zWS := (zin_of zc7 (i := 67) rfl rfl)
set_option maxRecDepth 40000 in
theorem ob_i : Cond.instanceMethod objectInit ∈ zWS := (zin_of zc1 (i := 30) rfl rfl)
set_option maxRecDepth 40000 in
theorem ob_c : Cond.code objectInit ⟨#[0xb1]⟩ 1 none ∈ zWS := (zin_of zc1 (i := 31) rfl rfl)
theorem fd_Str : zFd zkStr RStr TStr 4 tyStr := ⟨rfl, fun w hw => List.mem_filter.mpr ⟨(by decide +kernel : ∀ w ∈ u_ws RStr TStr 4, w ∈ lw_tbl) w hw, (by decide +kernel : ∀ w ∈ u_ws RStr TStr 4, goodWord w = true) w hw⟩, tyStr_ok, nmStr⟩
theorem fd_Sbd : zFd zkSbd RSbd TSbd 4 tySbd := ⟨rfl, fun w hw => List.mem_filter.mpr ⟨(by decide +kernel : ∀ w ∈ u_ws RSbd TSbd 4, w ∈ lw_tbl) w hw, (by decide +kernel : ∀ w ∈ u_ws RSbd TSbd 4, goodWord w = true) w hw⟩, tySbd_ok, nmSbd⟩
theorem fd_Cur : zFd zkCur RCur TCur 5 tyCur := ⟨rfl, fun w hw => List.mem_filter.mpr ⟨(by decide +kernel : ∀ w ∈ u_ws RCur TCur 5, w ∈ lw_tbl) w hw, (by decide +kernel : ∀ w ∈ u_ws RCur TCur 5, goodWord w = true) w hw⟩, tyCur_ok, nmCur⟩
theorem fd_Rec : zFd zkRec RRec TRec 5 tyRec := ⟨rfl, fun w hw => List.mem_filter.mpr ⟨(by decide +kernel : ∀ w ∈ u_ws RRec TRec 5, w ∈ lw_tbl) w hw, (by decide +kernel : ∀ w ∈ u_ws RRec TRec 5, goodWord w = true) w hw⟩, tyRec_ok, nmRec⟩
theorem fd_Row : zFd zkRow RRow TRow 2 tyRow := ⟨rfl, fun w hw => List.mem_filter.mpr ⟨(by decide +kernel : ∀ w ∈ u_ws RRow TRow 2, w ∈ lw_tbl) w hw, (by decide +kernel : ∀ w ∈ u_ws RRow TRow 2, goodWord w = true) w hw⟩, tyRow_ok, nmRow⟩
theorem fd_Cls : zFd zkCls RCls TCls 6 tyCls := ⟨rfl, fun w hw => List.mem_filter.mpr ⟨(by decide +kernel : ∀ w ∈ u_ws RCls TCls 6, w ∈ lw_tbl) w hw, (by decide +kernel : ∀ w ∈ u_ws RCls TCls 6, goodWord w = true) w hw⟩, tyCls_ok, nmCls⟩
theorem fd_Out : zFd zkOut ROut TOut 2 tyOut := ⟨rfl, fun w hw => List.mem_filter.mpr ⟨(by decide +kernel : ∀ w ∈ u_ws ROut TOut 2, w ∈ lw_tbl) w hw, (by decide +kernel : ∀ w ∈ u_ws ROut TOut 2, goodWord w = true) w hw⟩, tyOut_ok, nmOut⟩
theorem fd_Mod : zFd zkMod RMod TMod 13 tyMod := ⟨rfl, fun w hw => List.mem_filter.mpr ⟨(by decide +kernel : ∀ w ∈ u_ws RMod TMod 13, w ∈ lw_tbl) w hw, (by decide +kernel : ∀ w ∈ u_ws RMod TMod 13, goodWord w = true) w hw⟩, tyMod_ok, nmMod⟩
end
