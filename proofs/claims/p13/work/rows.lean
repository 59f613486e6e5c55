section
-- ===== PART A: goes FIRST, ahead of the names: the tables' words, and 'selects' of the private methods out of them =====
/-- a private method of a class that the tables say can be made, by its rows of tables_1 -/
def lw_okq (q : MethodName × Nat) : Prop := (q.1.cls ≠ "java/lang/invoke/MethodHandle" ∧ q.1.cls ≠ "java/lang/invoke/VarHandle") ∧ Cond.instantiable q.1.cls q.2 ∈ tables_1 ∧ Cond.privateMethod q.1 ∈ tables_1 ∧ Cond.instanceMethod q.1 ∈ tables_1
theorem lw_p0 : lw_okq (⟨"Cursorlist$Recency", "begin", "()V"⟩, 5) := ⟨⟨by decide +kernel, by decide +kernel⟩, List.mem_of_getElem? (i := 37) (by decide +kernel), List.mem_of_getElem? (i := 58) (by decide +kernel), List.mem_of_getElem? (i := 59) (by decide +kernel)⟩
theorem lw_p1 : lw_okq (⟨"Cursorlist$Row", "becomePlaces", "(I)V"⟩, 2) := ⟨⟨by decide +kernel, by decide +kernel⟩, List.mem_of_getElem? (i := 43) (by decide +kernel), List.mem_of_getElem? (i := 62) (by decide +kernel), List.mem_of_getElem? (i := 63) (by decide +kernel)⟩
theorem lw_p2 : lw_okq (⟨"Cursorlist$Row", "addBehind", "(I)Z"⟩, 2) := ⟨⟨by decide +kernel, by decide +kernel⟩, List.mem_of_getElem? (i := 43) (by decide +kernel), List.mem_of_getElem? (i := 66) (by decide +kernel), List.mem_of_getElem? (i := 67) (by decide +kernel)⟩
theorem lw_p3 : lw_okq (⟨"Cursorlist$Row", "putIn", "(II)Z"⟩, 2) := ⟨⟨by decide +kernel, by decide +kernel⟩, List.mem_of_getElem? (i := 43) (by decide +kernel), List.mem_of_getElem? (i := 70) (by decide +kernel), List.mem_of_getElem? (i := 71) (by decide +kernel)⟩
theorem lw_p4 : lw_okq (⟨"Cursorlist$Row", "hasGap", "(I)Z"⟩, 2) := ⟨⟨by decide +kernel, by decide +kernel⟩, List.mem_of_getElem? (i := 43) (by decide +kernel), List.mem_of_getElem? (i := 74) (by decide +kernel), List.mem_of_getElem? (i := 75) (by decide +kernel)⟩
theorem lw_p5 : lw_okq (⟨"Cursorlist$Row", "joined", "(Z)Ljava/lang/String;"⟩, 2) := ⟨⟨by decide +kernel, by decide +kernel⟩, List.mem_of_getElem? (i := 43) (by decide +kernel), List.mem_of_getElem? (i := 153) (by decide +kernel), List.mem_of_getElem? (i := 154) (by decide +kernel)⟩
theorem lw_p6 : lw_okq (⟨"java/lang/Throwable", "fillInStackTrace", "(I)Ljava/lang/Throwable;"⟩, 6) := ⟨⟨by decide +kernel, by decide +kernel⟩, List.mem_of_getElem? (i := 392) (by decide +kernel), List.mem_of_getElem? (i := 390) (by decide +kernel), List.mem_of_getElem? (i := 391) (by decide +kernel)⟩
theorem lw_p7 : lw_okq (⟨"Cursorlist", "turnsBack", "(LCursorlist$Row;)Z"⟩, 6) := ⟨⟨by decide +kernel, by decide +kernel⟩, List.mem_of_getElem? (i := 25) (by decide +kernel), List.mem_of_getElem? (i := 495) (by decide +kernel), List.mem_of_getElem? (i := 496) (by decide +kernel)⟩
theorem lw_p8 : lw_okq (⟨"Cursorlist$Row", "become", "(LCursorlist$Row;)V"⟩, 2) := ⟨⟨by decide +kernel, by decide +kernel⟩, List.mem_of_getElem? (i := 43) (by decide +kernel), List.mem_of_getElem? (i := 499) (by decide +kernel), List.mem_of_getElem? (i := 500) (by decide +kernel)⟩
theorem lw_p9 : lw_okq (⟨"Cursorlist$Row", "turnRound", "()V"⟩, 2) := ⟨⟨by decide +kernel, by decide +kernel⟩, List.mem_of_getElem? (i := 43) (by decide +kernel), List.mem_of_getElem? (i := 503) (by decide +kernel), List.mem_of_getElem? (i := 504) (by decide +kernel)⟩
theorem lw_p10 : lw_okq (⟨"Cursorlist$Row", "exchange", "(II)V"⟩, 2) := ⟨⟨by decide +kernel, by decide +kernel⟩, List.mem_of_getElem? (i := 43) (by decide +kernel), List.mem_of_getElem? (i := 507) (by decide +kernel), List.mem_of_getElem? (i := 508) (by decide +kernel)⟩
theorem lw_p11 : lw_okq (⟨"Cursorlist$Row", "itemAt", "(I)I"⟩, 2) := ⟨⟨by decide +kernel, by decide +kernel⟩, List.mem_of_getElem? (i := 43) (by decide +kernel), List.mem_of_getElem? (i := 511) (by decide +kernel), List.mem_of_getElem? (i := 512) (by decide +kernel)⟩
theorem lw_p12 : lw_okq (⟨"Cursorlist$Row", "hasPlace", "(I)Z"⟩, 2) := ⟨⟨by decide +kernel, by decide +kernel⟩, List.mem_of_getElem? (i := 43) (by decide +kernel), List.mem_of_getElem? (i := 515) (by decide +kernel), List.mem_of_getElem? (i := 516) (by decide +kernel)⟩
theorem lw_p13 : lw_okq (⟨"Cursorlist$Row", "changeAt", "(II)V"⟩, 2) := ⟨⟨by decide +kernel, by decide +kernel⟩, List.mem_of_getElem? (i := 43) (by decide +kernel), List.mem_of_getElem? (i := 519) (by decide +kernel), List.mem_of_getElem? (i := 520) (by decide +kernel)⟩
theorem lw_p14 : lw_okq (⟨"Cursorlist$Row", "isAs", "(LCursorlist$Row;)Z"⟩, 2) := ⟨⟨by decide +kernel, by decide +kernel⟩, List.mem_of_getElem? (i := 43) (by decide +kernel), List.mem_of_getElem? (i := 523) (by decide +kernel), List.mem_of_getElem? (i := 524) (by decide +kernel)⟩
theorem lw_p15 : lw_okq (⟨"Cursorlist$Row", "turnBy", "(I)V"⟩, 2) := ⟨⟨by decide +kernel, by decide +kernel⟩, List.mem_of_getElem? (i := 43) (by decide +kernel), List.mem_of_getElem? (i := 527) (by decide +kernel), List.mem_of_getElem? (i := 528) (by decide +kernel)⟩
def lw_privs_1 : List (MethodName × Nat) := [(⟨"Cursorlist$Recency", "begin", "()V"⟩, 5), (⟨"Cursorlist$Row", "becomePlaces", "(I)V"⟩, 2), (⟨"Cursorlist$Row", "addBehind", "(I)Z"⟩, 2), (⟨"Cursorlist$Row", "putIn", "(II)Z"⟩, 2), (⟨"Cursorlist$Row", "hasGap", "(I)Z"⟩, 2), (⟨"Cursorlist$Row", "joined", "(Z)Ljava/lang/String;"⟩, 2), (⟨"java/lang/Throwable", "fillInStackTrace", "(I)Ljava/lang/Throwable;"⟩, 6), (⟨"Cursorlist", "turnsBack", "(LCursorlist$Row;)Z"⟩, 6), (⟨"Cursorlist$Row", "become", "(LCursorlist$Row;)V"⟩, 2), (⟨"Cursorlist$Row", "turnRound", "()V"⟩, 2), (⟨"Cursorlist$Row", "exchange", "(II)V"⟩, 2), (⟨"Cursorlist$Row", "itemAt", "(I)I"⟩, 2), (⟨"Cursorlist$Row", "hasPlace", "(I)Z"⟩, 2), (⟨"Cursorlist$Row", "changeAt", "(II)V"⟩, 2), (⟨"Cursorlist$Row", "isAs", "(LCursorlist$Row;)Z"⟩, 2), (⟨"Cursorlist$Row", "turnBy", "(I)V"⟩, 2)]
theorem lw_r1 : ∀ q ∈ lw_privs_1, lw_okq q := List.forall_mem_cons.mpr ⟨lw_p0, List.forall_mem_cons.mpr ⟨lw_p1, List.forall_mem_cons.mpr ⟨lw_p2, List.forall_mem_cons.mpr ⟨lw_p3, List.forall_mem_cons.mpr ⟨lw_p4, List.forall_mem_cons.mpr ⟨lw_p5, List.forall_mem_cons.mpr ⟨lw_p6, List.forall_mem_cons.mpr ⟨lw_p7, List.forall_mem_cons.mpr ⟨lw_p8, List.forall_mem_cons.mpr ⟨lw_p9, List.forall_mem_cons.mpr ⟨lw_p10, List.forall_mem_cons.mpr ⟨lw_p11, List.forall_mem_cons.mpr ⟨lw_p12, List.forall_mem_cons.mpr ⟨lw_p13, List.forall_mem_cons.mpr ⟨lw_p14, List.forall_mem_cons.mpr ⟨lw_p15, fun _ h => absurd h List.not_mem_nil⟩⟩⟩⟩⟩⟩⟩⟩⟩⟩⟩⟩⟩⟩⟩⟩
theorem lw_p16 : lw_okq (⟨"Cursorlist$Row", "takeOut", "(I)I"⟩, 2) := ⟨⟨by decide +kernel, by decide +kernel⟩, List.mem_of_getElem? (i := 43) (by decide +kernel), List.mem_of_getElem? (i := 534) (by decide +kernel), List.mem_of_getElem? (i := 535) (by decide +kernel)⟩
theorem lw_p17 : lw_okq (⟨"Cursorlist", "addsUp", "(LCursorlist$Row;LCursorlist$Row;)Z"⟩, 6) := ⟨⟨by decide +kernel, by decide +kernel⟩, List.mem_of_getElem? (i := 25) (by decide +kernel), List.mem_of_getElem? (i := 538) (by decide +kernel), List.mem_of_getElem? (i := 539) (by decide +kernel)⟩
theorem lw_p18 : lw_okq (⟨"Cursorlist$Row", "becomeSum", "(LCursorlist$Row;LCursorlist$Row;)Z"⟩, 2) := ⟨⟨by decide +kernel, by decide +kernel⟩, List.mem_of_getElem? (i := 43) (by decide +kernel), List.mem_of_getElem? (i := 542) (by decide +kernel), List.mem_of_getElem? (i := 543) (by decide +kernel)⟩
theorem lw_p19 : lw_okq (⟨"Cursorlist", "agreesWithResult", "(LCursorlist$Row;LCursorlist$Row;Z)Z"⟩, 6) := ⟨⟨by decide +kernel, by decide +kernel⟩, List.mem_of_getElem? (i := 25) (by decide +kernel), List.mem_of_getElem? (i := 547) (by decide +kernel), List.mem_of_getElem? (i := 548) (by decide +kernel)⟩
theorem lw_p20 : lw_okq (⟨"Cursorlist", "isResultAt", "(LCursorlist$Row;LCursorlist$Row;ZI)Z"⟩, 6) := ⟨⟨by decide +kernel, by decide +kernel⟩, List.mem_of_getElem? (i := 25) (by decide +kernel), List.mem_of_getElem? (i := 551) (by decide +kernel), List.mem_of_getElem? (i := 552) (by decide +kernel)⟩
theorem lw_p21 : lw_okq (⟨"Cursorlist$Row", "restAt", "(I)I"⟩, 2) := ⟨⟨by decide +kernel, by decide +kernel⟩, List.mem_of_getElem? (i := 43) (by decide +kernel), List.mem_of_getElem? (i := 555) (by decide +kernel), List.mem_of_getElem? (i := 556) (by decide +kernel)⟩
theorem lw_p22 : lw_okq (⟨"Cursorlist$Row", "becomeProduct", "(LCursorlist$Row;LCursorlist$Row;)Z"⟩, 2) := ⟨⟨by decide +kernel, by decide +kernel⟩, List.mem_of_getElem? (i := 43) (by decide +kernel), List.mem_of_getElem? (i := 560) (by decide +kernel), List.mem_of_getElem? (i := 561) (by decide +kernel)⟩
theorem lw_p23 : lw_okq (⟨"Cursorlist", "isRecencySound", "()Z"⟩, 6) := ⟨⟨by decide +kernel, by decide +kernel⟩, List.mem_of_getElem? (i := 25) (by decide +kernel), List.mem_of_getElem? (i := 567) (by decide +kernel), List.mem_of_getElem? (i := 568) (by decide +kernel)⟩
theorem lw_p24 : lw_okq (⟨"Cursorlist$Row", "isOrder", "()Z"⟩, 2) := ⟨⟨by decide +kernel, by decide +kernel⟩, List.mem_of_getElem? (i := 43) (by decide +kernel), List.mem_of_getElem? (i := 571) (by decide +kernel), List.mem_of_getElem? (i := 572) (by decide +kernel)⟩
theorem lw_p25 : lw_okq (⟨"Cursorlist$Row", "placeOf", "(IZ)I"⟩, 2) := ⟨⟨by decide +kernel, by decide +kernel⟩, List.mem_of_getElem? (i := 43) (by decide +kernel), List.mem_of_getElem? (i := 575) (by decide +kernel), List.mem_of_getElem? (i := 576) (by decide +kernel)⟩
theorem lw_p26 : lw_okq (⟨"Cursorlist$Recency", "boundBy", "(LCursorlist$Row;)I"⟩, 5) := ⟨⟨by decide +kernel, by decide +kernel⟩, List.mem_of_getElem? (i := 37) (by decide +kernel), List.mem_of_getElem? (i := 579) (by decide +kernel), List.mem_of_getElem? (i := 580) (by decide +kernel)⟩
theorem lw_p27 : lw_okq (⟨"Cursorlist$Recency", "costBy", "(LCursorlist$Row;)I"⟩, 5) := ⟨⟨by decide +kernel, by decide +kernel⟩, List.mem_of_getElem? (i := 37) (by decide +kernel), List.mem_of_getElem? (i := 583) (by decide +kernel), List.mem_of_getElem? (i := 584) (by decide +kernel)⟩
theorem lw_p28 : lw_okq (⟨"Cursorlist$Row", "inversions", "()I"⟩, 2) := ⟨⟨by decide +kernel, by decide +kernel⟩, List.mem_of_getElem? (i := 43) (by decide +kernel), List.mem_of_getElem? (i := 588) (by decide +kernel), List.mem_of_getElem? (i := 589) (by decide +kernel)⟩
theorem lw_p29 : lw_okq (⟨"Cursorlist", "itemsOfAll", "()I"⟩, 6) := ⟨⟨by decide +kernel, by decide +kernel⟩, List.mem_of_getElem? (i := 25) (by decide +kernel), List.mem_of_getElem? (i := 607) (by decide +kernel), List.mem_of_getElem? (i := 608) (by decide +kernel)⟩
theorem lw_p30 : lw_okq (⟨"Cursorlist", "cursorsThere", "()I"⟩, 6) := ⟨⟨by decide +kernel, by decide +kernel⟩, List.mem_of_getElem? (i := 25) (by decide +kernel), List.mem_of_getElem? (i := 611) (by decide +kernel), List.mem_of_getElem? (i := 612) (by decide +kernel)⟩
theorem lw_p31 : lw_okq (⟨"Cursorlist", "cursorsStale", "()I"⟩, 6) := ⟨⟨by decide +kernel, by decide +kernel⟩, List.mem_of_getElem? (i := 25) (by decide +kernel), List.mem_of_getElem? (i := 618) (by decide +kernel), List.mem_of_getElem? (i := 619) (by decide +kernel)⟩
def lw_privs_2 : List (MethodName × Nat) := [(⟨"Cursorlist$Row", "takeOut", "(I)I"⟩, 2), (⟨"Cursorlist", "addsUp", "(LCursorlist$Row;LCursorlist$Row;)Z"⟩, 6), (⟨"Cursorlist$Row", "becomeSum", "(LCursorlist$Row;LCursorlist$Row;)Z"⟩, 2), (⟨"Cursorlist", "agreesWithResult", "(LCursorlist$Row;LCursorlist$Row;Z)Z"⟩, 6), (⟨"Cursorlist", "isResultAt", "(LCursorlist$Row;LCursorlist$Row;ZI)Z"⟩, 6), (⟨"Cursorlist$Row", "restAt", "(I)I"⟩, 2), (⟨"Cursorlist$Row", "becomeProduct", "(LCursorlist$Row;LCursorlist$Row;)Z"⟩, 2), (⟨"Cursorlist", "isRecencySound", "()Z"⟩, 6), (⟨"Cursorlist$Row", "isOrder", "()Z"⟩, 2), (⟨"Cursorlist$Row", "placeOf", "(IZ)I"⟩, 2), (⟨"Cursorlist$Recency", "boundBy", "(LCursorlist$Row;)I"⟩, 5), (⟨"Cursorlist$Recency", "costBy", "(LCursorlist$Row;)I"⟩, 5), (⟨"Cursorlist$Row", "inversions", "()I"⟩, 2), (⟨"Cursorlist", "itemsOfAll", "()I"⟩, 6), (⟨"Cursorlist", "cursorsThere", "()I"⟩, 6), (⟨"Cursorlist", "cursorsStale", "()I"⟩, 6)]
theorem lw_r2 : ∀ q ∈ lw_privs_2, lw_okq q := List.forall_mem_cons.mpr ⟨lw_p16, List.forall_mem_cons.mpr ⟨lw_p17, List.forall_mem_cons.mpr ⟨lw_p18, List.forall_mem_cons.mpr ⟨lw_p19, List.forall_mem_cons.mpr ⟨lw_p20, List.forall_mem_cons.mpr ⟨lw_p21, List.forall_mem_cons.mpr ⟨lw_p22, List.forall_mem_cons.mpr ⟨lw_p23, List.forall_mem_cons.mpr ⟨lw_p24, List.forall_mem_cons.mpr ⟨lw_p25, List.forall_mem_cons.mpr ⟨lw_p26, List.forall_mem_cons.mpr ⟨lw_p27, List.forall_mem_cons.mpr ⟨lw_p28, List.forall_mem_cons.mpr ⟨lw_p29, List.forall_mem_cons.mpr ⟨lw_p30, List.forall_mem_cons.mpr ⟨lw_p31, fun _ h => absurd h List.not_mem_nil⟩⟩⟩⟩⟩⟩⟩⟩⟩⟩⟩⟩⟩⟩⟩⟩
theorem lw_p32 : lw_okq (⟨"Cursorlist$Row", "lastNotZero", "()I"⟩, 2) := ⟨⟨by decide +kernel, by decide +kernel⟩, List.mem_of_getElem? (i := 43) (by decide +kernel), List.mem_of_getElem? (i := 633) (by decide +kernel), List.mem_of_getElem? (i := 634) (by decide +kernel)⟩
theorem lw_p33 : lw_okq (⟨"Cursorlist", "cursorAt", "(I)LCursorlist$Cursor;"⟩, 6) := ⟨⟨by decide +kernel, by decide +kernel⟩, List.mem_of_getElem? (i := 25) (by decide +kernel), List.mem_of_getElem? (i := 641) (by decide +kernel), List.mem_of_getElem? (i := 642) (by decide +kernel)⟩
theorem lw_p34 : lw_okq (⟨"Cursorlist", "whereIs", "(LCursorlist$Cursor;I)I"⟩, 6) := ⟨⟨by decide +kernel, by decide +kernel⟩, List.mem_of_getElem? (i := 25) (by decide +kernel), List.mem_of_getElem? (i := 661) (by decide +kernel), List.mem_of_getElem? (i := 662) (by decide +kernel)⟩
theorem lw_p35 : lw_okq (⟨"Cursorlist", "rowUnder", "(LCursorlist$Cursor;)LCursorlist$Row;"⟩, 6) := ⟨⟨by decide +kernel, by decide +kernel⟩, List.mem_of_getElem? (i := 25) (by decide +kernel), List.mem_of_getElem? (i := 665) (by decide +kernel), List.mem_of_getElem? (i := 666) (by decide +kernel)⟩
theorem lw_p36 : lw_okq (⟨"Cursorlist", "listAt", "(I)LCursorlist$Row;"⟩, 6) := ⟨⟨by decide +kernel, by decide +kernel⟩, List.mem_of_getElem? (i := 25) (by decide +kernel), List.mem_of_getElem? (i := 669) (by decide +kernel), List.mem_of_getElem? (i := 670) (by decide +kernel)⟩
theorem lw_p37 : lw_okq (⟨"Cursorlist", "mixedWithOrder", "(JLCursorlist$Row;)J"⟩, 6) := ⟨⟨by decide +kernel, by decide +kernel⟩, List.mem_of_getElem? (i := 25) (by decide +kernel), List.mem_of_getElem? (i := 678) (by decide +kernel), List.mem_of_getElem? (i := 679) (by decide +kernel)⟩
theorem lw_p38 : lw_okq (⟨"Cursorlist", "putInto", "(III)I"⟩, 6) := ⟨⟨by decide +kernel, by decide +kernel⟩, List.mem_of_getElem? (i := 25) (by decide +kernel), List.mem_of_getElem? (i := 710) (by decide +kernel), List.mem_of_getElem? (i := 711) (by decide +kernel)⟩
theorem lw_p39 : lw_okq (⟨"Cursorlist", "refuse", "()I"⟩, 6) := ⟨⟨by decide +kernel, by decide +kernel⟩, List.mem_of_getElem? (i := 25) (by decide +kernel), List.mem_of_getElem? (i := 715) (by decide +kernel), List.mem_of_getElem? (i := 716) (by decide +kernel)⟩
theorem lw_p40 : lw_okq (⟨"Cursorlist", "makeStale", "(II)V"⟩, 6) := ⟨⟨by decide +kernel, by decide +kernel⟩, List.mem_of_getElem? (i := 25) (by decide +kernel), List.mem_of_getElem? (i := 720) (by decide +kernel), List.mem_of_getElem? (i := 721) (by decide +kernel)⟩
theorem lw_p41 : lw_okq (⟨"Cursorlist", "takeFrom", "(II)I"⟩, 6) := ⟨⟨by decide +kernel, by decide +kernel⟩, List.mem_of_getElem? (i := 25) (by decide +kernel), List.mem_of_getElem? (i := 734) (by decide +kernel), List.mem_of_getElem? (i := 735) (by decide +kernel)⟩
theorem lw_p42 : lw_okq (⟨"Cursorlist$Row", "takeOutAll", "(I)I"⟩, 2) := ⟨⟨by decide +kernel, by decide +kernel⟩, List.mem_of_getElem? (i := 43) (by decide +kernel), List.mem_of_getElem? (i := 800) (by decide +kernel), List.mem_of_getElem? (i := 801) (by decide +kernel)⟩
theorem lw_p43 : lw_okq (⟨"Cursorlist$Row", "becomeJoined", "(LCursorlist$Row;ILCursorlist$Row;)Z"⟩, 2) := ⟨⟨by decide +kernel, by decide +kernel⟩, List.mem_of_getElem? (i := 43) (by decide +kernel), List.mem_of_getElem? (i := 846) (by decide +kernel), List.mem_of_getElem? (i := 847) (by decide +kernel)⟩
theorem lw_p44 : lw_okq (⟨"Cursorlist", "becomeResult", "(IZ)I"⟩, 6) := ⟨⟨by decide +kernel, by decide +kernel⟩, List.mem_of_getElem? (i := 25) (by decide +kernel), List.mem_of_getElem? (i := 851) (by decide +kernel), List.mem_of_getElem? (i := 852) (by decide +kernel)⟩
theorem lw_p45 : lw_okq (⟨"Cursorlist$Row", "becomeThrough", "(LCursorlist$Row;LCursorlist$Row;)Z"⟩, 2) := ⟨⟨by decide +kernel, by decide +kernel⟩, List.mem_of_getElem? (i := 43) (by decide +kernel), List.mem_of_getElem? (i := 916) (by decide +kernel), List.mem_of_getElem? (i := 917) (by decide +kernel)⟩
theorem lw_p46 : lw_okq (⟨"Cursorlist$Cursor", "begin", "(II)V"⟩, 5) := ⟨⟨by decide +kernel, by decide +kernel⟩, List.mem_of_getElem? (i := 98) (by decide +kernel), List.mem_of_getElem? (i := 941) (by decide +kernel), List.mem_of_getElem? (i := 942) (by decide +kernel)⟩
theorem lw_p47 : lw_okq (⟨"Cursorlist$Cursor", "stepForth", "(LCursorlist$Row;)I"⟩, 5) := ⟨⟨by decide +kernel, by decide +kernel⟩, List.mem_of_getElem? (i := 98) (by decide +kernel), List.mem_of_getElem? (i := 979) (by decide +kernel), List.mem_of_getElem? (i := 980) (by decide +kernel)⟩
def lw_privs_3 : List (MethodName × Nat) := [(⟨"Cursorlist$Row", "lastNotZero", "()I"⟩, 2), (⟨"Cursorlist", "cursorAt", "(I)LCursorlist$Cursor;"⟩, 6), (⟨"Cursorlist", "whereIs", "(LCursorlist$Cursor;I)I"⟩, 6), (⟨"Cursorlist", "rowUnder", "(LCursorlist$Cursor;)LCursorlist$Row;"⟩, 6), (⟨"Cursorlist", "listAt", "(I)LCursorlist$Row;"⟩, 6), (⟨"Cursorlist", "mixedWithOrder", "(JLCursorlist$Row;)J"⟩, 6), (⟨"Cursorlist", "putInto", "(III)I"⟩, 6), (⟨"Cursorlist", "refuse", "()I"⟩, 6), (⟨"Cursorlist", "makeStale", "(II)V"⟩, 6), (⟨"Cursorlist", "takeFrom", "(II)I"⟩, 6), (⟨"Cursorlist$Row", "takeOutAll", "(I)I"⟩, 2), (⟨"Cursorlist$Row", "becomeJoined", "(LCursorlist$Row;ILCursorlist$Row;)Z"⟩, 2), (⟨"Cursorlist", "becomeResult", "(IZ)I"⟩, 6), (⟨"Cursorlist$Row", "becomeThrough", "(LCursorlist$Row;LCursorlist$Row;)Z"⟩, 2), (⟨"Cursorlist$Cursor", "begin", "(II)V"⟩, 5), (⟨"Cursorlist$Cursor", "stepForth", "(LCursorlist$Row;)I"⟩, 5)]
theorem lw_r3 : ∀ q ∈ lw_privs_3, lw_okq q := List.forall_mem_cons.mpr ⟨lw_p32, List.forall_mem_cons.mpr ⟨lw_p33, List.forall_mem_cons.mpr ⟨lw_p34, List.forall_mem_cons.mpr ⟨lw_p35, List.forall_mem_cons.mpr ⟨lw_p36, List.forall_mem_cons.mpr ⟨lw_p37, List.forall_mem_cons.mpr ⟨lw_p38, List.forall_mem_cons.mpr ⟨lw_p39, List.forall_mem_cons.mpr ⟨lw_p40, List.forall_mem_cons.mpr ⟨lw_p41, List.forall_mem_cons.mpr ⟨lw_p42, List.forall_mem_cons.mpr ⟨lw_p43, List.forall_mem_cons.mpr ⟨lw_p44, List.forall_mem_cons.mpr ⟨lw_p45, List.forall_mem_cons.mpr ⟨lw_p46, List.forall_mem_cons.mpr ⟨lw_p47, fun _ h => absurd h List.not_mem_nil⟩⟩⟩⟩⟩⟩⟩⟩⟩⟩⟩⟩⟩⟩⟩⟩
theorem lw_p48 : lw_okq (⟨"Cursorlist$Cursor", "stepBack", "(LCursorlist$Row;)I"⟩, 5) := ⟨⟨by decide +kernel, by decide +kernel⟩, List.mem_of_getElem? (i := 98) (by decide +kernel), List.mem_of_getElem? (i := 992) (by decide +kernel), List.mem_of_getElem? (i := 993) (by decide +kernel)⟩
theorem lw_p49 : lw_okq (⟨"Cursorlist$Cursor", "putHere", "(LCursorlist$Row;I)Z"⟩, 5) := ⟨⟨by decide +kernel, by decide +kernel⟩, List.mem_of_getElem? (i := 98) (by decide +kernel), List.mem_of_getElem? (i := 1003) (by decide +kernel), List.mem_of_getElem? (i := 1004) (by decide +kernel)⟩
theorem lw_p50 : lw_okq (⟨"Cursorlist$Cursor", "cutLast", "(LCursorlist$Row;)V"⟩, 5) := ⟨⟨by decide +kernel, by decide +kernel⟩, List.mem_of_getElem? (i := 98) (by decide +kernel), List.mem_of_getElem? (i := 1015) (by decide +kernel), List.mem_of_getElem? (i := 1016) (by decide +kernel)⟩
theorem lw_p51 : lw_okq (⟨"Cursorlist$Row", "becomeDerived", "(LCursorlist$Row;)Z"⟩, 2) := ⟨⟨by decide +kernel, by decide +kernel⟩, List.mem_of_getElem? (i := 43) (by decide +kernel), List.mem_of_getElem? (i := 1077) (by decide +kernel), List.mem_of_getElem? (i := 1078) (by decide +kernel)⟩
theorem lw_p52 : lw_okq (⟨"Cursorlist$Recency", "bringAhead", "(I)I"⟩, 5) := ⟨⟨by decide +kernel, by decide +kernel⟩, List.mem_of_getElem? (i := 37) (by decide +kernel), List.mem_of_getElem? (i := 1103) (by decide +kernel), List.mem_of_getElem? (i := 1104) (by decide +kernel)⟩
theorem lw_p53 : lw_okq (⟨"CursorlistModel", "fails", "(ZZZ)Z"⟩, 13) := ⟨⟨by decide +kernel, by decide +kernel⟩, List.mem_of_getElem? (i := 1124) (by decide +kernel), List.mem_of_getElem? (i := 1190) (by decide +kernel), List.mem_of_getElem? (i := 1191) (by decide +kernel)⟩
theorem lw_p54 : lw_okq (⟨"CursorlistModel", "refused", "()I"⟩, 13) := ⟨⟨by decide +kernel, by decide +kernel⟩, List.mem_of_getElem? (i := 1124) (by decide +kernel), List.mem_of_getElem? (i := 1194) (by decide +kernel), List.mem_of_getElem? (i := 1195) (by decide +kernel)⟩
theorem lw_p55 : lw_okq (⟨"CursorlistModel", "becomes", "(I[I)I"⟩, 13) := ⟨⟨by decide +kernel, by decide +kernel⟩, List.mem_of_getElem? (i := 1124) (by decide +kernel), List.mem_of_getElem? (i := 1202) (by decide +kernel), List.mem_of_getElem? (i := 1203) (by decide +kernel)⟩
theorem lw_p56 : lw_okq (⟨"CursorlistModel", "become", "(I[II)V"⟩, 13) := ⟨⟨by decide +kernel, by decide +kernel⟩, List.mem_of_getElem? (i := 1124) (by decide +kernel), List.mem_of_getElem? (i := 1206) (by decide +kernel), List.mem_of_getElem? (i := 1207) (by decide +kernel)⟩
theorem lw_p57 : lw_okq (⟨"CursorlistModel", "isNoPlace", "(II)Z"⟩, 13) := ⟨⟨by decide +kernel, by decide +kernel⟩, List.mem_of_getElem? (i := 1124) (by decide +kernel), List.mem_of_getElem? (i := 1228) (by decide +kernel), List.mem_of_getElem? (i := 1229) (by decide +kernel)⟩
theorem lw_p58 : lw_okq (⟨"CursorlistModel", "joins", "(III)I"⟩, 13) := ⟨⟨by decide +kernel, by decide +kernel⟩, List.mem_of_getElem? (i := 1124) (by decide +kernel), List.mem_of_getElem? (i := 1293) (by decide +kernel), List.mem_of_getElem? (i := 1294) (by decide +kernel)⟩
theorem lw_p59 : lw_okq (⟨"CursorlistModel", "first", "(I)I"⟩, 13) := ⟨⟨by decide +kernel, by decide +kernel⟩, List.mem_of_getElem? (i := 1124) (by decide +kernel), List.mem_of_getElem? (i := 1319) (by decide +kernel), List.mem_of_getElem? (i := 1320) (by decide +kernel)⟩
theorem lw_p60 : lw_okq (⟨"CursorlistModel", "asksOn", "(IZ)I"⟩, 13) := ⟨⟨by decide +kernel, by decide +kernel⟩, List.mem_of_getElem? (i := 1124) (by decide +kernel), List.mem_of_getElem? (i := 1365) (by decide +kernel), List.mem_of_getElem? (i := 1366) (by decide +kernel)⟩
theorem lw_p61 : lw_okq (⟨"CursorlistModel", "isNotThere", "(I)Z"⟩, 13) := ⟨⟨by decide +kernel, by decide +kernel⟩, List.mem_of_getElem? (i := 1124) (by decide +kernel), List.mem_of_getElem? (i := 1369) (by decide +kernel), List.mem_of_getElem? (i := 1370) (by decide +kernel)⟩
theorem lw_p62 : lw_okq (⟨"CursorlistModel", "goes", "(IZ)I"⟩, 13) := ⟨⟨by decide +kernel, by decide +kernel⟩, List.mem_of_getElem? (i := 1124) (by decide +kernel), List.mem_of_getElem? (i := 1373) (by decide +kernel), List.mem_of_getElem? (i := 1374) (by decide +kernel)⟩
theorem lw_p63 : lw_okq (⟨"CursorlistModel", "ofCursorNow", "(II)I"⟩, 13) := ⟨⟨by decide +kernel, by decide +kernel⟩, List.mem_of_getElem? (i := 1124) (by decide +kernel), List.mem_of_getElem? (i := 1401) (by decide +kernel), List.mem_of_getElem? (i := 1402) (by decide +kernel)⟩
def lw_privs_4 : List (MethodName × Nat) := [(⟨"Cursorlist$Cursor", "stepBack", "(LCursorlist$Row;)I"⟩, 5), (⟨"Cursorlist$Cursor", "putHere", "(LCursorlist$Row;I)Z"⟩, 5), (⟨"Cursorlist$Cursor", "cutLast", "(LCursorlist$Row;)V"⟩, 5), (⟨"Cursorlist$Row", "becomeDerived", "(LCursorlist$Row;)Z"⟩, 2), (⟨"Cursorlist$Recency", "bringAhead", "(I)I"⟩, 5), (⟨"CursorlistModel", "fails", "(ZZZ)Z"⟩, 13), (⟨"CursorlistModel", "refused", "()I"⟩, 13), (⟨"CursorlistModel", "becomes", "(I[I)I"⟩, 13), (⟨"CursorlistModel", "become", "(I[II)V"⟩, 13), (⟨"CursorlistModel", "isNoPlace", "(II)Z"⟩, 13), (⟨"CursorlistModel", "joins", "(III)I"⟩, 13), (⟨"CursorlistModel", "first", "(I)I"⟩, 13), (⟨"CursorlistModel", "asksOn", "(IZ)I"⟩, 13), (⟨"CursorlistModel", "isNotThere", "(I)Z"⟩, 13), (⟨"CursorlistModel", "goes", "(IZ)I"⟩, 13), (⟨"CursorlistModel", "ofCursorNow", "(II)I"⟩, 13)]
theorem lw_r4 : ∀ q ∈ lw_privs_4, lw_okq q := List.forall_mem_cons.mpr ⟨lw_p48, List.forall_mem_cons.mpr ⟨lw_p49, List.forall_mem_cons.mpr ⟨lw_p50, List.forall_mem_cons.mpr ⟨lw_p51, List.forall_mem_cons.mpr ⟨lw_p52, List.forall_mem_cons.mpr ⟨lw_p53, List.forall_mem_cons.mpr ⟨lw_p54, List.forall_mem_cons.mpr ⟨lw_p55, List.forall_mem_cons.mpr ⟨lw_p56, List.forall_mem_cons.mpr ⟨lw_p57, List.forall_mem_cons.mpr ⟨lw_p58, List.forall_mem_cons.mpr ⟨lw_p59, List.forall_mem_cons.mpr ⟨lw_p60, List.forall_mem_cons.mpr ⟨lw_p61, List.forall_mem_cons.mpr ⟨lw_p62, List.forall_mem_cons.mpr ⟨lw_p63, fun _ h => absurd h List.not_mem_nil⟩⟩⟩⟩⟩⟩⟩⟩⟩⟩⟩⟩⟩⟩⟩⟩
theorem lw_p64 : lw_okq (⟨"CursorlistModel", "fits", "(I[J)I"⟩, 13) := ⟨⟨by decide +kernel, by decide +kernel⟩, List.mem_of_getElem? (i := 1124) (by decide +kernel), List.mem_of_getElem? (i := 1409) (by decide +kernel), List.mem_of_getElem? (i := 1410) (by decide +kernel)⟩
theorem lw_p65 : lw_okq (⟨"CursorlistModel", "askedNow", "(I)I"⟩, 13) := ⟨⟨by decide +kernel, by decide +kernel⟩, List.mem_of_getElem? (i := 1124) (by decide +kernel), List.mem_of_getElem? (i := 1465) (by decide +kernel), List.mem_of_getElem? (i := 1466) (by decide +kernel)⟩
theorem lw_p66 : lw_okq (⟨"CursorlistModel", "byOrderNow", "([II)I"⟩, 13) := ⟨⟨by decide +kernel, by decide +kernel⟩, List.mem_of_getElem? (i := 1124) (by decide +kernel), List.mem_of_getElem? (i := 1480) (by decide +kernel), List.mem_of_getElem? (i := 1481) (by decide +kernel)⟩
theorem lw_p67 : lw_okq (⟨"CursorlistModel", "houseNow", "(I)I"⟩, 13) := ⟨⟨by decide +kernel, by decide +kernel⟩, List.mem_of_getElem? (i := 1124) (by decide +kernel), List.mem_of_getElem? (i := 1488) (by decide +kernel), List.mem_of_getElem? (i := 1489) (by decide +kernel)⟩
def lw_privs_5 : List (MethodName × Nat) := [(⟨"CursorlistModel", "fits", "(I[J)I"⟩, 13), (⟨"CursorlistModel", "askedNow", "(I)I"⟩, 13), (⟨"CursorlistModel", "byOrderNow", "([II)I"⟩, 13), (⟨"CursorlistModel", "houseNow", "(I)I"⟩, 13)]
theorem lw_r5 : ∀ q ∈ lw_privs_5, lw_okq q := List.forall_mem_cons.mpr ⟨lw_p64, List.forall_mem_cons.mpr ⟨lw_p65, List.forall_mem_cons.mpr ⟨lw_p66, List.forall_mem_cons.mpr ⟨lw_p67, fun _ h => absurd h List.not_mem_nil⟩⟩⟩⟩
def lw_privs : List (MethodName × Nat) := lw_privs_1 ++ (lw_privs_2 ++ (lw_privs_3 ++ (lw_privs_4 ++ (lw_privs_5))))
def lw_tbl : List Cond := k2_sels lw_privs ++ tables_1
theorem lw_privs_ok : ∀ q ∈ lw_privs, lw_okq q := by
  show ∀ q ∈ lw_privs_1 ++ (lw_privs_2 ++ (lw_privs_3 ++ (lw_privs_4 ++ (lw_privs_5)))), lw_okq q
  exact List.forall_mem_append.mpr ⟨lw_r1, List.forall_mem_append.mpr ⟨lw_r2, List.forall_mem_append.mpr ⟨lw_r3, List.forall_mem_append.mpr ⟨lw_r4, lw_r5⟩⟩⟩⟩
end
section
/-! ===== BEGIN words of one list among another's, by their places ===== -/
theorem goodIn_r {big : List Cond} (ws : List Cond) (ps : List Nat) (hp : ws = ps.filterMap (fun i => big[i]?)) (h : ws.all goodWord = true) : GoodIn big ws := by
  intro w hw
  have h1 := List.all_eq_true.mp h w hw
  rw [hp] at hw
  obtain ⟨i, -, hi⟩ := List.mem_filterMap.mp hw
  have hm : w ∈ big := by first | exact List.mem_of_getElem? hi | exact List.getElem?_mem hi
  exact ⟨hm, good_of_word h1⟩
theorem goodIn_app {big a b : List Cond} (ha : GoodIn big a) (hb : GoodIn big b) : GoodIn big (a ++ b) := fun w h => (List.mem_append.mp h).elim (ha w) (hb w)
theorem goodIn_ca {big a b : List Cond} {c : Cond} (ha : GoodIn big (c :: a)) (hb : GoodIn big b) : GoodIn big (c :: (a ++ b)) := fun w h => (List.mem_cons.mp h).elim (fun e => ha w (List.mem_cons.mpr (Or.inl e))) (fun h => (List.mem_append.mp h).elim (fun h => ha w (List.mem_cons.mpr (Or.inr h))) (hb w))
theorem goodIn_sub {big ws : List Cond} (hm : ∀ w ∈ ws, w ∈ big) (h : ws.all goodWord = true) : GoodIn big ws := fun w hw => ⟨hm w hw, good_of_word (List.all_eq_true.mp h w hw)⟩
/-! ===== END ===== -/
/-! ===== BEGIN exceptions that leave a method, and their catching by the caller (launches without stack traces) ===== -/
section VXA
/-! The laws vx_back, vx_callV, vx_callS, vx_callSW, vx_throw0, vx_throwS follow proofs of the library, with one case more: JvmDerived/Free/Laws.lean (Back.of_free), Shelf42/LK1.lean (callV, callS), Shelf/KitTraced.lean (throwNew0V, throwNewS). -/
/-- where a method has thrown q: the class by its name, the cell, what was written, the world -/
def vx_T (XC : String → State → State → Prop) (st : State) (q : Addr) (t : State) (mc ms : Nat) (free : Addr → Prop) : Prop :=
  ∃ (E : String) (ce : Cell) (L : List Loc), XC E st t ∧ t.heap[q]? = some ce ∧ ce.vm = .none ∧ st.vm.findClass E = some ce.cls ∧ st.WarmedH t.vm ∧ st.sameButNew ({ t with vm := st.vm } : State) L mc ms ∧ ∀ z ∈ L, free z.base
def vx_Q (Qc : Array Value → State → Outcome → State → Prop) (XC : String → State → State → Prop) (mc ms : Nat) (free : Addr → Prop) : Array Value → State → Outcome → State → Prop := fun a st o t =>
  (Qc a st o t ∧ ∃ L, FrameEnd st o t L mc ms ∧ ∀ q ∈ L, free q.base) ∨ ∃ q, o = .threw q ∧ vx_T XC st q t mc ms free
/-- a callee that returns or throws -/
def vx_Met (l : Launch) (y : MethodName) (ws : List Cond) (rm : Room) (Pc : Array Value → State → Prop) (Qc : Array Value → State → Outcome → State → Prop) (XC : String → State → State → Prop) (mc ms : Nat) (free : Addr → Prop) : Prop :=
  MetFree l y (headSpec ws rm) Pc (fun _ _ _ _ _ => True) (vx_Q Qc XC mc ms free)
def vx_Post (XC : String → State → State → Prop) (mc ms : Nat) (free : Addr → Prop) : Pt → Array Value → Addr → Pt → Prop := fun A a q B =>
  ∃ (g : JFrame) (mk : MethodId) (t : State) (L : List Loc) (E : String) (ce : Cell), B.U.heap = t.heap ∧ B.U.vm = t.vm ∧ XC E (A.U.calling g mk a) t ∧ t.heap[q]? = some ce ∧ ce.vm = .none ∧ A.U.vm.findClass E = some ce.cls ∧ B.locs = A.locs ++ L ∧ (∀ z ∈ L, free z.base) ∧ B.cells = A.cells + mc ∧ B.slots = A.slots + ms
def vx_Back (l : Launch) (R : Room) (p : Program) (e : Env) (below : List Frame) (s : State) (sargs : Array Value) (y : MethodName) (len W9 : Nat)
    (Pre : Pt → Array Value → Prop) (Post : Pt → Array Value → Option Value → Pt → Prop) (PostX : Pt → Array Value → Addr → Pt → Prop) : Prop :=
  ∀ (m : MethodId) (meth : Method) (c : Code) (A : Pt) (g : JFrame) (ig : Instr) (mk : MethodId) (a : Array Value),
    Stand p l e R s m sargs below meth c A.U A.locs A.cells A.slots → g.method = m → g.locals.size = c.maxLocals → decode c.code g.pc = .ok (ig, len) →
    2 * g.monitorRoom + (g.stack.map fun v => v.category).sum ≤ W9 → A.U.methodNamed? y = some mk → Pre A a →
    (∃ (v : Option Value) (B : Pt), Stand p l e R s m sargs below meth c B.U B.locs B.cells B.slots ∧ Post A a v B ∧
      Steps p.tables e below (doInvoke e (A.U.setTop g) [] mk a).1 (B.U.setTop { g with pc := g.pc + len, stack := v.toList ++ g.stack })) ∨
    (∃ (q : Addr) (B : Pt), Stand p l e R s m sargs below meth c B.U B.locs B.cells B.slots ∧ PostX A a q B ∧
      Steps p.tables e below (doInvoke e (A.U.setTop g) [] mk a).1 ((B.U.setTop g).pushFrame (.throwing q)))
section Payer
variable {l : Launch} {R : Room} {p : Program} {e : Env} {below : List Frame} {s : State} {sargs : Array Value} {y : MethodName} {len W9 : Nat}
theorem vx_back {ws : List Cond} {rm : Room} {Pc : Array Value → State → Prop} {Qc : Array Value → State → Outcome → State → Prop} {XC : String → State → State → Prop} {mc ms : Nat} {free : Addr → Prop} {bytes : ByteArray} {maxL : Nat} {ret : Option FieldType}
    (hM : vx_Met l y ws rm Pc Qc XC mc ms free) (hblind : FrameBlind Pc) (hrc : rm.cells = mc) (hrs : rm.slots = ms)
    (hframes : rm.frames + 1 ≤ R.frames) (hlocals : W9 + (maxL + 11) + rm.locals ≤ R.locals)
    (hws : ∀ w ∈ ws, ∀ a' U, s.WarmedH U.vm → w.before a' U = true) (hcode : Cond.code y bytes maxL ret ∈ ws) (hinit : ∀ a' U, s.WarmedH U.vm → (Cond.initialized y.cls).before a' U = true) :
    vx_Back l R p e below s sargs y len W9 (PreOf R mc ms Pc) (PostOf Qc mc ms free) (vx_Post XC mc ms free) := by
  intro m meth c A g ig mk a X hg hsize hdg hW hn hp
  have h1 : (headSpec ws rm).pre.before a A.U = true := atoms_intro fun w hw => hws w hw _ _ X.warmed
  have h2 : (Cond.code y bytes maxL ret).before a A.U = true := hws _ hcode _ _ X.warmed
  have h3 : (Cond.initialized y.cls).before a A.U = true := hinit _ _ X.warmed
  have h4 : A.cells + (headSpec ws rm).room.cells ≤ R.cells := by rw [show (headSpec ws rm).room.cells = mc from hrc]; exact hp.1
  have h5 : A.slots + (headSpec ws rm).room.slots ≤ R.slots := by rw [show (headSpec ws rm).room.slots = ms from hrs]; exact hp.2.1
  have hPc : Pc a (A.U.calling g mk a) := hblind _ _ _ _ hp.2.2
  obtain ⟨U, Ls, c0, s0⟩ := A
  dsimp only [Pt.U, Pt.locs, Pt.cells, Pt.slots] at h1 h2 h3 h4 h5 X hn hPc ⊢
  obtain ⟨methY, cY, hmY, hcY, -, hlY, -, -, -, -⟩ := Cond.code_spec hn h2
  obtain ⟨kY, hkY, -⟩ := className_of_methodNamed hn
  have hinitY : kY.init = .initialized := Cond.initialized_spec (findClass_of_methodNamed hn) hkY h3
  have h : At U g.method c below := by rw [hg]; exact X.here
  have hlocals9 : W9 + (maxL + 11) + (headSpec ws rm).room.locals ≤ R.locals := hlocals
  have happ : (headSpec ws rm).appliesLoose y e.platform (U.calling g mk a) = true :=
    Spec.appliesLoose_calling (g := g) h hdg hn hkY hinitY
      (X.room_calling (g := g) (R' := (headSpec ws rm).room) hsize hmY hcY hframes (by rw [hlY]; omega) h4 h5) h1
  obtain ⟨mid, hmid⟩ := h.above
  have hfr : (U.setTop g).frames = (.java g :: mid) ++ below := by rw [State.frames_setTop' g h.top, hmid]; rfl
  obtain ⟨o, s₂, hsteps, -, hend, hq⟩ := Steps.callFree hM p X.admits X.cas X.clock (acts := []) hfr happ hPc trivial
  have hq' : vx_Q Qc XC mc ms free a (U.calling g mk a) o s₂ := hq
  rw [State.frames_setTop' g h.top] at hend
  obtain ⟨g₀, hg0⟩ := Option.isSome_iff_exists.mp h.top
  obtain ⟨r, hr⟩ := State.topJava?_eq_some.mp hg0
  have hr' : (({ U with heap := s₂.heap, slotsUsed := s₂.slotsUsed } : State).setVm s₂.vm).frames = .java g₀ :: r := hr
  rcases hq' with ⟨hqc, L, hfe, hL⟩ | ⟨q, rfl, E, ce, L, hx, hce, hcv, hcl, hW₂, hsm, hL⟩
  · obtain ⟨⟨v, rfl⟩, hW₂, e2, q2, q3, q4, q5, q6⟩ := id hfe
    have e3 : s₂ = ({ (U.calling g mk a).setFrames s₂.frames with heap := s₂.heap, slotsUsed := s₂.slotsUsed } : State).setVm s₂.vm := by
      have : s₂ = ({ s₂ with vm := (U.calling g mk a).vm } : State).setVm s₂.vm := rfl
      rw [e2] at this
      exact this
    obtain ⟨c₂, i₂, len₂, hc₂, hd₂, hf₂⟩ := hend
    have hW' : U.WarmedH s₂.vm := hW₂
    have hcc : c₂ = c := by
      have h1 : s₂.code? g.method = U.code? g.method := by
        rw [State.code?_eq, State.code?_eq, hW'.alike.method?]
      exact Option.some.inj (hc₂.symm.trans (h1.trans h.code))
    subst hcc
    have hlen : len₂ = len := by rw [hdg] at hd₂; cases hd₂; rfl
    subst hlen
    have hs₂ : s₂ = (({ U with heap := s₂.heap, slotsUsed := s₂.slotsUsed } : State).setVm s₂.vm).setTop { g with pc := g.pc + len₂, stack := v.toList ++ g.stack } := by
      refine e3.trans ?_
      rw [hf₂, State.calling_eq h.top, State.setFrames_setFrames, State.setTop_of_frames _ hr', hr]
      rfl
    have hsame : U.sameButNew ({ U with heap := s₂.heap, slotsUsed := s₂.slotsUsed } : State) L mc ms := by
      refine ⟨?_, q2, q3, q4, q5, q6⟩
      obtain ⟨t, ht, -⟩ := State.frames_cons hr
      show ({ U with heap := s₂.heap, slotsUsed := s₂.slotsUsed } : State) = { U.setFrames U.frames with heap := s₂.heap, slotsUsed := s₂.slotsUsed }
      rw [State.setFrames_self ht]
    subst hg
    refine Or.inl ⟨v, ⟨(({ U with heap := s₂.heap, slotsUsed := s₂.slotsUsed } : State).setVm s₂.vm), Ls ++ L, c0 + mc, s0 + ms⟩,
      ⟨X.admits, X.cas, X.clock, X.frames, X.room, X.hears, X.method, X.code, (X.here.setHeapUsed s₂.heap s₂.slotsUsed).setVm hW'.alike, X.tail, State.WarmedH.trans X.warmed hW', X.limits, X.bytes, X.same.trans (hsame.setVm s.vm)⟩,
      ⟨g, mk, s₂, L, rfl, rfl, hqc, rfl, hL, rfl, rfl⟩, ?_⟩
    show Steps p.tables e below _ ((({ U with heap := s₂.heap, slotsUsed := s₂.slotsUsed } : State).setVm s₂.vm).setTop { g with pc := g.pc + len₂, stack := v.toList ++ g.stack })
    rw [← hs₂]
    exact hsteps
  · obtain ⟨e2, q2, q3, q4, q5, q6⟩ := id hsm
    have e3 : s₂ = ({ (U.calling g mk a).setFrames s₂.frames with heap := s₂.heap, slotsUsed := s₂.slotsUsed } : State).setVm s₂.vm := by
      have : s₂ = ({ s₂ with vm := (U.calling g mk a).vm } : State).setVm s₂.vm := rfl
      rw [e2] at this
      exact this
    have hf₂ : s₂.frames = .throwing q :: .java g :: U.frames.tail := hend
    have hW' : U.WarmedH s₂.vm := hW₂
    have hs₂ : s₂ = ((({ U with heap := s₂.heap, slotsUsed := s₂.slotsUsed } : State).setVm s₂.vm).setTop g).pushFrame (.throwing q) := by
      refine e3.trans ?_
      rw [hf₂, State.calling_eq h.top, State.setFrames_setFrames, State.pushFrame, State.frames_setTop _ hr', State.setTop_of_frames _ hr', State.setFrames_setFrames, hr]
      rfl
    have hsame : U.sameButNew ({ U with heap := s₂.heap, slotsUsed := s₂.slotsUsed } : State) L mc ms := by
      refine ⟨?_, q2, q3, q4, q5, q6⟩
      obtain ⟨t, ht, -⟩ := State.frames_cons hr
      show ({ U with heap := s₂.heap, slotsUsed := s₂.slotsUsed } : State) = { U.setFrames U.frames with heap := s₂.heap, slotsUsed := s₂.slotsUsed }
      rw [State.setFrames_self ht]
    subst hg
    refine Or.inr ⟨q, ⟨(({ U with heap := s₂.heap, slotsUsed := s₂.slotsUsed } : State).setVm s₂.vm), Ls ++ L, c0 + mc, s0 + ms⟩,
      ⟨X.admits, X.cas, X.clock, X.frames, X.room, X.hears, X.method, X.code, (X.here.setHeapUsed s₂.heap s₂.slotsUsed).setVm hW'.alike, X.tail, State.WarmedH.trans X.warmed hW', X.limits, X.bytes, X.same.trans (hsame.setVm s.vm)⟩,
      ⟨g, mk, s₂, L, E, ce, rfl, rfl, hx, hce, hcv, hcl, rfl, hL, rfl, rfl⟩, ?_⟩
    show Steps p.tables e below _ (((({ U with heap := s₂.heap, slotsUsed := s₂.slotsUsed } : State).setVm s₂.vm).setTop g).pushFrame (.throwing q))
    rw [← hs₂]
    exact hsteps
end Payer
section Calls
variable {p : Program} {l : Launch} {e : Env} {R : Room} {s : State} {m : MethodId} {args : Array Value} {below : List Frame} {meth : Method} {c : Code} {T : State} {locs : List Loc} {cells slots : Nat}
theorem vx_callV (X : Stand p l e R s m args below meth c T locs cells slots) (hexec : p.tables.exec = Jvm.exec) {own C : String} {index : Nat} {y : MethodName} {bytes : ByteArray} {maxL : Nat} {ret : Option FieldType}
    (hown : s.vm.findClass own = some m.cls) (hlink : (Cond.methodLink own index y).before args s = true) (hinst : (Cond.instanceMethod y).before args s = true) (hsel : (Cond.selects C y y).before args s = true)
    (hcode : (Cond.code y bytes maxL ret).before args s = true) (hy : y.cls ≠ "java/lang/invoke/MethodHandle" ∧ y.cls ≠ "java/lang/invoke/VarHandle")
    {W9 : Nat} {Pre : Pt → Array Value → Prop} {Post : Pt → Array Value → Option Value → Pt → Prop} {PostX : Pt → Array Value → Addr → Pt → Prop} (hK : vx_Back l R p e below s args y 3 W9 Pre Post PostX)
    {b : Addr} {cellB : Cell} (hcell : T.heap[b]? = some cellB) (hobj : cellB.vm.isStatics = false) (hcls : s.vm.findClass C = some cellB.cls)
    {g : JFrame} (hg : g.method = m) (hsize : g.locals.size = c.maxLocals) {argsL rest : List Value} (hlen : ∀ sig, parseMethodDescriptor y.desc = some sig → argsL.length = sig.parameters.length)
    (hstack : g.stack = argsL.reverse ++ .ref b :: rest) (hW : 2 * g.monitorRoom + (rest.map fun v => v.category).sum ≤ W9) (hdg : decode c.code g.pc = .ok (.invokevirtual index, 3))
    (hpre : ∀ vm₁, s.WarmedH vm₁ → Pre ⟨T.setVm vm₁, locs, cells, slots⟩ (Value.ref b :: argsL).toArray) :
    (∃ (v : Option Value) (vm₁ : Vm) (B : Pt), s.WarmedH vm₁ ∧ Stand p l e R s m args below meth c B.U B.locs B.cells B.slots ∧ Post ⟨T.setVm vm₁, locs, cells, slots⟩ (Value.ref b :: argsL).toArray v B ∧
      ∀ target, Steps p.tables e below (B.U.setTop { g with pc := g.pc + 3, stack := v.toList ++ rest }) target → Steps p.tables e below (T.setTop g) target) ∨
    (∃ (q : Addr) (vm₁ : Vm) (B : Pt), s.WarmedH vm₁ ∧ Stand p l e R s m args below meth c B.U B.locs B.cells B.slots ∧ PostX ⟨T.setVm vm₁, locs, cells, slots⟩ (Value.ref b :: argsL).toArray q B ∧
      Steps p.tables e below (T.setTop g) ((B.U.setTop { g with stack := rest }).pushFrame (.throwing q))) := by
  obtain ⟨mk, methM, hnamed, hmethM, hstM, habM⟩ := Cond.instanceMethod_spec hinst
  obtain ⟨methM', cM, hmethM', -, -, -, -, -, -, hsigM⟩ := Cond.code_spec hnamed hcode
  cases hmethM.symm.trans hmethM'
  obtain ⟨c2, r2, m2, q1, q2, q3, q4, kP, hkP, hkPi⟩ := Cond.selects_spec hsel
  cases hcls.symm.trans q1
  cases (State.methodFound?_of_named hnamed hy).symm.trans q2
  cases hnamed.symm.trans q3
  have hselP : selectMethod e.platform s.vm cellB.cls mk = .method mk := by rw [Launch.admits_selectMethod X.admits]; exact q4
  obtain ⟨vm₁, X₁, hstep₁⟩ := X.invokevirtual hexec hown hlink hnamed hmethM hstM hkP hkPi hy (a := b) (cell := cellB) hcell
    (fun z h => by rw [h] at hobj; cases hobj) hselP hmethM habM hkP hkPi (g := g) hg (argsL := argsL) (rest := rest) (hlen _ hsigM) hstack hdg
  rcases hK m meth c ⟨T.setVm vm₁, locs, cells, slots⟩ { g with stack := rest } (.invokevirtual index) mk (Value.ref b :: argsL).toArray X₁ hg hsize hdg hW (X₁.named hnamed) (hpre vm₁ X₁.warmed) with ⟨v, B, X', hpost, hsteps⟩ | ⟨q, B, X', hpost, hsteps⟩
  · exact Or.inl ⟨v, vm₁, B, X₁.warmed, X', hpost, fun target h => hstep₁ _ fun acts => by rw [doInvoke_state]; exact hsteps.trans h⟩
  · exact Or.inr ⟨q, vm₁, B, X₁.warmed, X', hpost, hstep₁ _ fun acts => by rw [doInvoke_state]; exact hsteps⟩
theorem vx_callS (X : Stand p l e R s m args below meth c T locs cells slots) (hexec : p.tables.exec = Jvm.exec) {own : String} {index : Nat} {y : MethodName} {bytes : ByteArray} {maxL : Nat} {ret : Option FieldType}
    (hown : s.vm.findClass own = some m.cls) (hlink : (Cond.methodLink own index y).before args s = true) (hstat : (Cond.static y).before args s = true) (hinit : (Cond.initialized y.cls).before args s = true)
    (hcode : (Cond.code y bytes maxL ret).before args s = true) (hy : y.cls ≠ "java/lang/invoke/MethodHandle" ∧ y.cls ≠ "java/lang/invoke/VarHandle")
    {W9 : Nat} {Pre : Pt → Array Value → Prop} {Post : Pt → Array Value → Option Value → Pt → Prop} {PostX : Pt → Array Value → Addr → Pt → Prop} (hK : vx_Back l R p e below s args y 3 W9 Pre Post PostX)
    {g : JFrame} (hg : g.method = m) (hsize : g.locals.size = c.maxLocals) {argsL rest : List Value} (hlen : ∀ sig, parseMethodDescriptor y.desc = some sig → argsL.length = sig.parameters.length)
    (hstack : g.stack = argsL.reverse ++ rest) (hW : 2 * g.monitorRoom + (rest.map fun v => v.category).sum ≤ W9) (hdg : decode c.code g.pc = .ok (.invokestatic index, 3))
    (hpre : ∀ vm₁, s.WarmedH vm₁ → Pre ⟨T.setVm vm₁, locs, cells, slots⟩ argsL.toArray) :
    (∃ (v : Option Value) (vm₁ : Vm) (B : Pt), s.WarmedH vm₁ ∧ Stand p l e R s m args below meth c B.U B.locs B.cells B.slots ∧ Post ⟨T.setVm vm₁, locs, cells, slots⟩ argsL.toArray v B ∧
      ∀ target, Steps p.tables e below (B.U.setTop { g with pc := g.pc + 3, stack := v.toList ++ rest }) target → Steps p.tables e below (T.setTop g) target) ∨
    (∃ (q : Addr) (vm₁ : Vm) (B : Pt), s.WarmedH vm₁ ∧ Stand p l e R s m args below meth c B.U B.locs B.cells B.slots ∧ PostX ⟨T.setVm vm₁, locs, cells, slots⟩ argsL.toArray q B ∧
      Steps p.tables e below (T.setTop g) ((B.U.setTop { g with stack := rest }).pushFrame (.throwing q))) := by
  obtain ⟨mk, hnamed⟩ := Cond.code_named hcode
  obtain ⟨methM, cM, hmethM, -, -, -, -, -, -, hsigM⟩ := Cond.code_spec hnamed hcode
  have hstatic : methM.isStatic = true := Cond.static_spec hnamed hmethM hstat
  obtain ⟨kP, hkP, -⟩ := className_of_methodNamed hnamed
  have hinitP : kP.init = .initialized := Cond.initialized_spec (findClass_of_methodNamed hnamed) hkP hinit
  obtain ⟨vm₁, X₁, hstep₁⟩ := X.invokestatic hexec hown hlink hnamed hmethM hstatic hkP hinitP hy (g := g) hg (argsL := argsL) (rest := rest) (hlen _ hsigM) hstack hdg
  rcases hK m meth c ⟨T.setVm vm₁, locs, cells, slots⟩ { g with stack := rest } (.invokestatic index) mk argsL.toArray X₁ hg hsize hdg hW (X₁.named hnamed) (hpre vm₁ X₁.warmed) with ⟨v, B, X', hpost, hsteps⟩ | ⟨q, B, X', hpost, hsteps⟩
  · exact Or.inl ⟨v, vm₁, B, X₁.warmed, X', hpost, fun target h => hstep₁ _ fun acts => by rw [doInvoke_state]; exact hsteps.trans h⟩
  · exact Or.inr ⟨q, vm₁, B, X₁.warmed, X', hpost, hstep₁ _ fun acts => by rw [doInvoke_state]; exact hsteps⟩
end Calls
theorem vx_cls {s : State} {T : State} {vm₁ : Vm} {E : String} {k : ClassId} (hW : s.WarmedH vm₁) (h : (T.setVm vm₁).vm.findClass E = some k) : s.vm.findClass E = some k := by
  have h1 : vm₁.findClass E = some k := h
  rw [hW.alike.findClass] at h1
  exact h1
/-- the method's frame g, with q thrown over it -/
def vx_W (p : Program) (l : Launch) (e : Env) (R : Room) (s : State) (m : MethodId) (args : Array Value) (below : List Frame) (meth : Method) (c : Code) (H : Heap) (locs : List Loc) (cells slots : Nat) (Q : State → Prop) (g : JFrame) (q : Addr) : Prop :=
  ∀ T : State, T.heap = H → Stand p l e R s m args below meth c T locs cells slots → ∃ t, Steps p.tables e below ((T.setTop g).pushFrame (.throwing q)) t ∧ Q t
def vx_Run (p : Program) (l : Launch) (e : Env) (R : Room) (s : State) (m : MethodId) (args : Array Value) (below : List Frame) (meth : Method) (c : Code) (H : Heap) (locs : List Loc) (cells slots mc ms : Nat) (g : JFrame) (rest : List Value) (Qa : State → Outcome → State → Prop) (XC : String → State → State → Prop) (free : Addr → Prop) : Prop :=
  ∀ T : State, T.heap = H → Stand p l e R s m args below meth c T locs cells slots →
    (∃ (v : Option Value) (st₀ t T' : State) (L : List Loc), st₀.heap = H ∧ Stand p l e R s m args below meth c T' (locs ++ L) (cells + mc) (slots + ms) ∧ (∀ q ∈ L, free q.base) ∧ T'.heap = t.heap ∧ T'.vm = t.vm ∧ Qa st₀ (.returned v) t ∧
      Goes p e below T g T' { g with pc := g.pc + 3, stack := v.toList ++ rest }) ∨
    (∃ (q : Addr) (st₀ t T' : State) (L : List Loc) (E : String) (ce : Cell), st₀.heap = H ∧ Stand p l e R s m args below meth c T' (locs ++ L) (cells + mc) (slots + ms) ∧ (∀ z ∈ L, free z.base) ∧ T'.heap = t.heap ∧ T'.vm = t.vm ∧ XC E st₀ t ∧ t.heap[q]? = some ce ∧ ce.vm = .none ∧ s.vm.findClass E = some ce.cls ∧
      Steps p.tables e below (T.setTop g) ((T'.setTop { g with stack := rest }).pushFrame (.throwing q)))
def vx_X {S : Type} (px : S → Prop) (B : String → S → State → Prop) (A : Nat → Prop) : String → State → State → Prop := fun E st t => ∃ u : S, px u ∧ B E u t ∧ va_F A st t
section Runs
variable {p : Program} {l : Launch} {e : Env} {R : Room} {s : State} {m : MethodId} {args : Array Value} {below : List Frame} {meth : Method} {c : Code} {H : Heap} {locs : List Loc} {cells slots : Nat}
variable {y : MethodName} {bytes cc : ByteArray} {maxL nL mc ms n index : Nat} {ret : Option FieldType} {ws : List Cond} {rm : Room} {Pc : Array Value → State → Prop} {Qc : Array Value → State → Outcome → State → Prop} {XC : String → State → State → Prop} {free : Addr → Prop} {Ts : List Cond} {own C : String} {b : Addr} {As rest : List Value} {g : JFrame}
theorem vx_callBack (cb : CallB R s args own index y bytes maxL ret ws rm mc ms n) (hM : vx_Met l y ws rm Pc Qc XC mc ms free) (hbl : FrameBlind Pc) : vx_Back l R p e below s args y 3 8 (PreOf R mc ms Pc) (PostOf Qc mc ms free) (vx_Post XC mc ms free) := by
  obtain ⟨hrc, hrs, hfr, hlo, hws, hcw, -, hini, -⟩ := cb
  exact vx_back (bytes := bytes) (maxL := maxL) (ret := ret) hM hbl hrc hrs hfr hlo hws hcw (fun a' U hW => word_at hW (Or.inl (by first | rfl | simp [Cond.onTables, Cond.keeps, Cond.steady])) hini)
theorem vx_runV (S : CallFix p m c cc nL s args Ts own) (hM : vx_Met l y ws rm Pc Qc XC mc ms free) (cw : CallW R s args own C index y bytes maxL ret ws rm mc ms n) (hp : PreV s H C b Pc As)
    (hg : g.method = m) (hn : As.length = n) (hsize : g.locals.size = nL) (hstack : g.stack = As.reverse ++ .ref b :: rest) (hW : 2 * g.monitorRoom + (rest.map fun v => v.category).sum ≤ 8) (hdg : decode cc g.pc = .ok (.invokevirtual index, 3)) (hf : cells + mc ≤ R.cells ∧ slots + ms ≤ R.slots) :
    vx_Run p l e R s m args below meth c H locs cells slots mc ms g rest (Qc (Value.ref b :: As).toArray) XC free := by
  have hK : vx_Back l R p e below s args y 3 8 (PreOf R mc ms Pc) (PostOf Qc mc ms free) (vx_Post XC mc ms free) := vx_callBack cw.1 hM hp.1
  obtain ⟨⟨-, -, -, -, -, -, hcode, -, hy, hlen, hl⟩, hin, hse⟩ := cw
  obtain ⟨hx, hb, hml, ho, -⟩ := S
  obtain ⟨-, ⟨cellB, hcB, hoB, hclB⟩, hPc⟩ := hp
  intro T hT X
  rcases vx_callV X hx (C := C) (bytes := bytes) (maxL := maxL) (ret := ret) ho hl hin hse hcode hy hK (by rw [hT]; exact hcB) hoB hclB hg (hsize.trans hml.symm) (argsL := As) (rest := rest) (fun sig h => hn.trans (hlen sig h)) hstack hW (by rw [hb]; exact hdg)
    (fun vm₁ hW₁ => ⟨hf.1, hf.2, hPc (T.setVm vm₁) hT hW₁⟩) with ⟨v, vm₁, ⟨U', l2, c2, s2⟩, hW₁, X', ⟨g', mk, t, L, e1, e2, hq, h1, hL, h2, h3⟩, st⟩ | ⟨q, vm₁, ⟨U', l2, c2, s2⟩, hW₁, X', ⟨g', mk, t, L, E, ce, e1, e2, hq, hce, hcv, hcl, h1, hL, h2, h3⟩, st⟩
  · dsimp only [Pt.U, Pt.locs, Pt.cells, Pt.slots] at X' e1 e2 h1 h2 h3 st
    subst h1; subst h2; subst h3
    exact Or.inl ⟨v, (T.setVm vm₁).calling g' mk (Value.ref b :: As).toArray, t, U', L, hT, X', hL, e1, e2, hq, st⟩
  · dsimp only [Pt.U, Pt.locs, Pt.cells, Pt.slots] at X' e1 e2 h1 h2 h3 st hcl
    subst h1; subst h2; subst h3
    exact Or.inr ⟨q, (T.setVm vm₁).calling g' mk (Value.ref b :: As).toArray, t, U', L, E, ce, hT, X', hL, e1, e2, hq, hce, hcv, vx_cls hW₁ hcl, st⟩
theorem vx_runS (S : CallFix p m c cc nL s args Ts own) (hM : vx_Met l y ws rm Pc Qc XC mc ms free) (cw : CallB R s args own index y bytes maxL ret ws rm mc ms n ∧ (Cond.static y).before args s = true) (hp : PreS s H Pc As)
    (hg : g.method = m) (hn : As.length = n) (hsize : g.locals.size = nL) (hstack : g.stack = As.reverse ++ rest) (hW : 2 * g.monitorRoom + (rest.map fun v => v.category).sum ≤ 8) (hdg : decode cc g.pc = .ok (.invokestatic index, 3)) (hf : cells + mc ≤ R.cells ∧ slots + ms ≤ R.slots) :
    vx_Run p l e R s m args below meth c H locs cells slots mc ms g rest (Qc As.toArray) XC free := by
  have hK : vx_Back l R p e below s args y 3 8 (PreOf R mc ms Pc) (PostOf Qc mc ms free) (vx_Post XC mc ms free) := vx_callBack cw.1 hM hp.1
  obtain ⟨⟨-, -, -, -, -, -, hcode, hini, hy, hlen, hl⟩, hstt⟩ := cw
  obtain ⟨hx, hb, hml, ho, -⟩ := S
  intro T hT X
  rcases vx_callS X hx (bytes := bytes) (maxL := maxL) (ret := ret) ho hl hstt hini hcode hy hK hg (hsize.trans hml.symm) (argsL := As) (rest := rest) (fun sig h => hn.trans (hlen sig h)) hstack hW (by rw [hb]; exact hdg)
    (fun vm₁ hW₁ => ⟨hf.1, hf.2, hp.2 (T.setVm vm₁) hT hW₁⟩) with ⟨v, vm₁, ⟨U', l2, c2, s2⟩, hW₁, X', ⟨g', mk, t, L, e1, e2, hq, h1, hL, h2, h3⟩, st⟩ | ⟨q, vm₁, ⟨U', l2, c2, s2⟩, hW₁, X', ⟨g', mk, t, L, E, ce, e1, e2, hq, hce, hcv, hcl, h1, hL, h2, h3⟩, st⟩
  · dsimp only [Pt.U, Pt.locs, Pt.cells, Pt.slots] at X' e1 e2 h1 h2 h3 st
    subst h1; subst h2; subst h3
    exact Or.inl ⟨v, (T.setVm vm₁).calling g' mk As.toArray, t, U', L, hT, X', hL, e1, e2, hq, st⟩
  · dsimp only [Pt.U, Pt.locs, Pt.cells, Pt.slots] at X' e1 e2 h1 h2 h3 st hcl
    subst h1; subst h2; subst h3
    exact Or.inr ⟨q, (T.setVm vm₁).calling g' mk As.toArray, t, U', L, E, ce, hT, X', hL, e1, e2, hq, hce, hcv, vx_cls hW₁ hcl, st⟩
end Runs
section Rows
variable {p : Program} {l : Launch} {e : Env} {R : Room} {s : State} {m : MethodId} {args : Array Value} {below : List Frame} {meth : Method} {c : Code} {H : Heap} {locs : List Loc} {cells slots : Nat} {Q : State → Prop}
variable {mc ms : Nat} {free : Addr → Prop} {A0 A1 : Nat → Prop} {H0 : Heap} {a : Array Value} {pc : Nat} {ls : Array Slot} {st0 rest : List Value}
theorem vx_keep {st₀ t T' : State} {L : List Loc} (h0 : st₀.heap = H) (e1 : T'.heap = t.heap) (hS : va_S A0 H0 H locs) (hA : ∀ q, q < H.size → A1 q → A0 q) (hf : ∀ q, free q → A0 q) (hL : ∀ q ∈ L, free q.base) (hF : va_F A1 st₀ t) :
    H.size ≤ T'.heap.size ∧ (∀ q : Nat, q < H.size → ¬ A1 q → T'.heap[q]? = H[q]?) ∧ va_S A0 H0 T'.heap (locs ++ L) := by
  obtain ⟨hz, hk⟩ := hF
  rw [h0] at hz hk
  exact ⟨by rw [e1]; exact hz, fun q h1 h2 => by rw [e1]; exact hk q h1 h2,
    ⟨Nat.le_trans hS.1 (by rw [e1]; exact hz), fun q h1 h2 => by rw [e1, hk q (Nat.lt_of_lt_of_le h1 hS.1) (fun z => h2 (hA q (Nat.lt_of_lt_of_le h1 hS.1) z))]; exact hS.2.1 q h1 h2, fun q hq => by
      rcases List.mem_append.mp hq with h | h
      · exact hS.2.2 q h
      · exact hf _ (hL q h)⟩⟩
theorem vx_calli {S SX : Type} {post : Int32 → S → Prop} {px : SX → Prop} {B : S → State → Prop} {BX : String → SX → State → Prop} {AX : Nat → Prop} (hr : vx_Run p l e R s m args below meth c H locs cells slots mc ms (F0 m pc ls st0) rest (va_Qi post B A1 a) (vx_X px BX AX) free) (hS : va_S A0 H0 H locs) (hA : ∀ q, q < H.size → A1 q → A0 q) (hf : ∀ q, free q → A0 q) (hAX : ∀ q, q < H.size → AX q → A0 q)
    (kx : ∀ (E : String) (ce : Cell) (q9 : Addr) (u : SX) (t : State) (H1 : Heap) (locs1 : List Loc), t.heap = H1 → s.vm.Alike t.vm → px u → BX E u t → H.size ≤ H1.size → (∀ q : Nat, q < H.size → ¬ AX q → H1[q]? = H[q]?) → va_S A0 H0 H1 locs1 → H1[q9]? = some ce → ce.vm = .none → s.vm.findClass E = some ce.cls → vx_W p l e R s m args below meth c H1 locs1 (cells + mc) (slots + ms) Q (F0 m pc ls rest) q9)
    (kk : ∀ (r : Int32) (u : S) (t : State) (H1 : Heap) (locs1 : List Loc), t.heap = H1 → s.vm.Alike t.vm → post r u → B u t → H.size ≤ H1.size → (∀ q : Nat, q < H.size → ¬ A1 q → H1[q]? = H[q]?) → va_S A0 H0 H1 locs1 → W p l e R s m args below meth c H1 locs1 (cells + mc) (slots + ms) Q (F0 m (pc + 3) ls (.int r :: rest))) : W p l e R s m args below meth c H locs cells slots Q (F0 m pc ls st0) := by
  intro T hT X
  rcases hr T hT X with ⟨v, st₀, t, T', L, h0, X', hL, e1, e2, ⟨⟨r, u, hv, hp, hb⟩, hF⟩, st⟩ | ⟨q, st₀, t, T', L, E, ce, h0, X', hL, e1, e2, ⟨u, hp, hb, hF⟩, hce, hcv, hcl, st⟩
  · cases hv
    obtain ⟨k1, k2, k3⟩ := vx_keep h0 e1 hS hA hf hL hF
    obtain ⟨t2, a1, b1⟩ := kk r u t T'.heap (locs ++ L) e1.symm (by rw [← e2]; exact X'.warmed.alike) hp hb k1 k2 k3 T' rfl X'
    exact ⟨t2, st t2 a1, b1⟩
  · obtain ⟨k1, k2, k3⟩ := vx_keep h0 e1 hS hAX hf hL hF
    obtain ⟨t2, a1, b1⟩ := kx E ce q u t T'.heap (locs ++ L) e1.symm (by rw [← e2]; exact X'.warmed.alike) hp hb k1 k2 k3 (by rw [e1]; exact hce) hcv hcl T' rfl X'
    exact ⟨t2, st.trans a1, b1⟩
theorem vx_calll {S SX : Type} {post : Int64 → S → Prop} {px : SX → Prop} {B : S → State → Prop} {BX : String → SX → State → Prop} {AX : Nat → Prop} (hr : vx_Run p l e R s m args below meth c H locs cells slots mc ms (F0 m pc ls st0) rest (va_Ql post B A1 a) (vx_X px BX AX) free) (hS : va_S A0 H0 H locs) (hA : ∀ q, q < H.size → A1 q → A0 q) (hf : ∀ q, free q → A0 q) (hAX : ∀ q, q < H.size → AX q → A0 q)
    (kx : ∀ (E : String) (ce : Cell) (q9 : Addr) (u : SX) (t : State) (H1 : Heap) (locs1 : List Loc), t.heap = H1 → s.vm.Alike t.vm → px u → BX E u t → H.size ≤ H1.size → (∀ q : Nat, q < H.size → ¬ AX q → H1[q]? = H[q]?) → va_S A0 H0 H1 locs1 → H1[q9]? = some ce → ce.vm = .none → s.vm.findClass E = some ce.cls → vx_W p l e R s m args below meth c H1 locs1 (cells + mc) (slots + ms) Q (F0 m pc ls rest) q9)
    (kk : ∀ (r : Int64) (u : S) (t : State) (H1 : Heap) (locs1 : List Loc), t.heap = H1 → s.vm.Alike t.vm → post r u → B u t → H.size ≤ H1.size → (∀ q : Nat, q < H.size → ¬ A1 q → H1[q]? = H[q]?) → va_S A0 H0 H1 locs1 → W p l e R s m args below meth c H1 locs1 (cells + mc) (slots + ms) Q (F0 m (pc + 3) ls (.long r :: rest))) : W p l e R s m args below meth c H locs cells slots Q (F0 m pc ls st0) := by
  intro T hT X
  rcases hr T hT X with ⟨v, st₀, t, T', L, h0, X', hL, e1, e2, ⟨⟨r, u, hv, hp, hb⟩, hF⟩, st⟩ | ⟨q, st₀, t, T', L, E, ce, h0, X', hL, e1, e2, ⟨u, hp, hb, hF⟩, hce, hcv, hcl, st⟩
  · cases hv
    obtain ⟨k1, k2, k3⟩ := vx_keep h0 e1 hS hA hf hL hF
    obtain ⟨t2, a1, b1⟩ := kk r u t T'.heap (locs ++ L) e1.symm (by rw [← e2]; exact X'.warmed.alike) hp hb k1 k2 k3 T' rfl X'
    exact ⟨t2, st t2 a1, b1⟩
  · obtain ⟨k1, k2, k3⟩ := vx_keep h0 e1 hS hAX hf hL hF
    obtain ⟨t2, a1, b1⟩ := kx E ce q u t T'.heap (locs ++ L) e1.symm (by rw [← e2]; exact X'.warmed.alike) hp hb k1 k2 k3 (by rw [e1]; exact hce) hcv hcl T' rfl X'
    exact ⟨t2, st.trans a1, b1⟩
theorem vx_callf {S SX : Type} {post : UInt32 → S → Prop} {px : SX → Prop} {B : S → State → Prop} {BX : String → SX → State → Prop} {AX : Nat → Prop} (hr : vx_Run p l e R s m args below meth c H locs cells slots mc ms (F0 m pc ls st0) rest (va_Qf post B A1 a) (vx_X px BX AX) free) (hS : va_S A0 H0 H locs) (hA : ∀ q, q < H.size → A1 q → A0 q) (hf : ∀ q, free q → A0 q) (hAX : ∀ q, q < H.size → AX q → A0 q)
    (kx : ∀ (E : String) (ce : Cell) (q9 : Addr) (u : SX) (t : State) (H1 : Heap) (locs1 : List Loc), t.heap = H1 → s.vm.Alike t.vm → px u → BX E u t → H.size ≤ H1.size → (∀ q : Nat, q < H.size → ¬ AX q → H1[q]? = H[q]?) → va_S A0 H0 H1 locs1 → H1[q9]? = some ce → ce.vm = .none → s.vm.findClass E = some ce.cls → vx_W p l e R s m args below meth c H1 locs1 (cells + mc) (slots + ms) Q (F0 m pc ls rest) q9)
    (kk : ∀ (r : UInt32) (u : S) (t : State) (H1 : Heap) (locs1 : List Loc), t.heap = H1 → s.vm.Alike t.vm → post r u → B u t → H.size ≤ H1.size → (∀ q : Nat, q < H.size → ¬ A1 q → H1[q]? = H[q]?) → va_S A0 H0 H1 locs1 → W p l e R s m args below meth c H1 locs1 (cells + mc) (slots + ms) Q (F0 m (pc + 3) ls (.float r :: rest))) : W p l e R s m args below meth c H locs cells slots Q (F0 m pc ls st0) := by
  intro T hT X
  rcases hr T hT X with ⟨v, st₀, t, T', L, h0, X', hL, e1, e2, ⟨⟨r, u, hv, hp, hb⟩, hF⟩, st⟩ | ⟨q, st₀, t, T', L, E, ce, h0, X', hL, e1, e2, ⟨u, hp, hb, hF⟩, hce, hcv, hcl, st⟩
  · cases hv
    obtain ⟨k1, k2, k3⟩ := vx_keep h0 e1 hS hA hf hL hF
    obtain ⟨t2, a1, b1⟩ := kk r u t T'.heap (locs ++ L) e1.symm (by rw [← e2]; exact X'.warmed.alike) hp hb k1 k2 k3 T' rfl X'
    exact ⟨t2, st t2 a1, b1⟩
  · obtain ⟨k1, k2, k3⟩ := vx_keep h0 e1 hS hAX hf hL hF
    obtain ⟨t2, a1, b1⟩ := kx E ce q u t T'.heap (locs ++ L) e1.symm (by rw [← e2]; exact X'.warmed.alike) hp hb k1 k2 k3 (by rw [e1]; exact hce) hcv hcl T' rfl X'
    exact ⟨t2, st.trans a1, b1⟩
theorem vx_calld {S SX : Type} {post : UInt64 → S → Prop} {px : SX → Prop} {B : S → State → Prop} {BX : String → SX → State → Prop} {AX : Nat → Prop} (hr : vx_Run p l e R s m args below meth c H locs cells slots mc ms (F0 m pc ls st0) rest (va_Qd post B A1 a) (vx_X px BX AX) free) (hS : va_S A0 H0 H locs) (hA : ∀ q, q < H.size → A1 q → A0 q) (hf : ∀ q, free q → A0 q) (hAX : ∀ q, q < H.size → AX q → A0 q)
    (kx : ∀ (E : String) (ce : Cell) (q9 : Addr) (u : SX) (t : State) (H1 : Heap) (locs1 : List Loc), t.heap = H1 → s.vm.Alike t.vm → px u → BX E u t → H.size ≤ H1.size → (∀ q : Nat, q < H.size → ¬ AX q → H1[q]? = H[q]?) → va_S A0 H0 H1 locs1 → H1[q9]? = some ce → ce.vm = .none → s.vm.findClass E = some ce.cls → vx_W p l e R s m args below meth c H1 locs1 (cells + mc) (slots + ms) Q (F0 m pc ls rest) q9)
    (kk : ∀ (r : UInt64) (u : S) (t : State) (H1 : Heap) (locs1 : List Loc), t.heap = H1 → s.vm.Alike t.vm → post r u → B u t → H.size ≤ H1.size → (∀ q : Nat, q < H.size → ¬ A1 q → H1[q]? = H[q]?) → va_S A0 H0 H1 locs1 → W p l e R s m args below meth c H1 locs1 (cells + mc) (slots + ms) Q (F0 m (pc + 3) ls (.double r :: rest))) : W p l e R s m args below meth c H locs cells slots Q (F0 m pc ls st0) := by
  intro T hT X
  rcases hr T hT X with ⟨v, st₀, t, T', L, h0, X', hL, e1, e2, ⟨⟨r, u, hv, hp, hb⟩, hF⟩, st⟩ | ⟨q, st₀, t, T', L, E, ce, h0, X', hL, e1, e2, ⟨u, hp, hb, hF⟩, hce, hcv, hcl, st⟩
  · cases hv
    obtain ⟨k1, k2, k3⟩ := vx_keep h0 e1 hS hA hf hL hF
    obtain ⟨t2, a1, b1⟩ := kk r u t T'.heap (locs ++ L) e1.symm (by rw [← e2]; exact X'.warmed.alike) hp hb k1 k2 k3 T' rfl X'
    exact ⟨t2, st t2 a1, b1⟩
  · obtain ⟨k1, k2, k3⟩ := vx_keep h0 e1 hS hAX hf hL hF
    obtain ⟨t2, a1, b1⟩ := kx E ce q u t T'.heap (locs ++ L) e1.symm (by rw [← e2]; exact X'.warmed.alike) hp hb k1 k2 k3 (by rw [e1]; exact hce) hcv hcl T' rfl X'
    exact ⟨t2, st.trans a1, b1⟩
theorem vx_callv {S SX : Type} {post : S → Prop} {px : SX → Prop} {B : S → State → Prop} {BX : String → SX → State → Prop} {AX : Nat → Prop} (hr : vx_Run p l e R s m args below meth c H locs cells slots mc ms (F0 m pc ls st0) rest (va_Qv post B A1 a) (vx_X px BX AX) free) (hS : va_S A0 H0 H locs) (hA : ∀ q, q < H.size → A1 q → A0 q) (hf : ∀ q, free q → A0 q) (hAX : ∀ q, q < H.size → AX q → A0 q)
    (kx : ∀ (E : String) (ce : Cell) (q9 : Addr) (u : SX) (t : State) (H1 : Heap) (locs1 : List Loc), t.heap = H1 → s.vm.Alike t.vm → px u → BX E u t → H.size ≤ H1.size → (∀ q : Nat, q < H.size → ¬ AX q → H1[q]? = H[q]?) → va_S A0 H0 H1 locs1 → H1[q9]? = some ce → ce.vm = .none → s.vm.findClass E = some ce.cls → vx_W p l e R s m args below meth c H1 locs1 (cells + mc) (slots + ms) Q (F0 m pc ls rest) q9)
    (kk : ∀ (u : S) (t : State) (H1 : Heap) (locs1 : List Loc), t.heap = H1 → s.vm.Alike t.vm → post u → B u t → H.size ≤ H1.size → (∀ q : Nat, q < H.size → ¬ A1 q → H1[q]? = H[q]?) → va_S A0 H0 H1 locs1 → W p l e R s m args below meth c H1 locs1 (cells + mc) (slots + ms) Q (F0 m (pc + 3) ls (rest))) : W p l e R s m args below meth c H locs cells slots Q (F0 m pc ls st0) := by
  intro T hT X
  rcases hr T hT X with ⟨v, st₀, t, T', L, h0, X', hL, e1, e2, ⟨⟨u, hv, hp, hb⟩, hF⟩, st⟩ | ⟨q, st₀, t, T', L, E, ce, h0, X', hL, e1, e2, ⟨u, hp, hb, hF⟩, hce, hcv, hcl, st⟩
  · cases hv
    obtain ⟨k1, k2, k3⟩ := vx_keep h0 e1 hS hA hf hL hF
    obtain ⟨t2, a1, b1⟩ := kk u t T'.heap (locs ++ L) e1.symm (by rw [← e2]; exact X'.warmed.alike) hp hb k1 k2 k3 T' rfl X'
    exact ⟨t2, st t2 a1, b1⟩
  · obtain ⟨k1, k2, k3⟩ := vx_keep h0 e1 hS hAX hf hL hF
    obtain ⟨t2, a1, b1⟩ := kx E ce q u t T'.heap (locs ++ L) e1.symm (by rw [← e2]; exact X'.warmed.alike) hp hb k1 k2 k3 (by rw [e1]; exact hce) hcv hcl T' rfl X'
    exact ⟨t2, st.trans a1, b1⟩
/-- caught by the row x of this method's table; the rows ahead don't take it -/
theorem vx_catch {own name : String} {E : String} {ce : Cell} {q : Addr} (hown : s.vm.findClass own = some m.cls) (pre : List ExceptionTableEntry) (x : ExceptionTableEntry) (suf : List ExceptionTableEntry) (hsplit : c.exceptionTable.toList = pre ++ x :: suf)
    (hpass : ∀ z ∈ pre, covers z pc = false ∨ (z.catchType ≠ 0 ∧ ∃ nm : String, (Cond.classLink own z.catchType nm).before args s = true ∧ va_Nc E nm s)) (hx : covers x pc = true) (h0 : x.catchType ≠ 0)
    (hlink : (Cond.classLink own x.catchType name).before args s = true) (hcast : (Cond.castable E name).before args s = true) (hcell : H[q]? = some ce) (hv : ce.vm = .none) (hcl : s.vm.findClass E = some ce.cls)
    (kk : W p l e R s m args below meth c H locs cells slots Q (F0 m x.handlerPc ls [.ref q])) : vx_W p l e R s m args below meth c H locs cells slots Q (F0 m pc ls rest) q := by
  intro T hT X
  have hpl : e.platform.magicAccessors = ({} : Platform).magicAccessors := by rw [X.admits.platform]
  obtain ⟨c3, c4, hc3, hc4, hasg⟩ := Cond.castable_spec hcast
  cases Option.some.inj (hc3.symm.trans hcl)
  obtain ⟨c5, hc5, hcl5⟩ := Cond.classLink_spec hown hlink e.platform hpl
  cases Option.some.inj (hc4.symm.trans hc5)
  obtain ⟨vm', X', st⟩ := X.thenCaughtThrough q (g := F0 m pc ls rest) rfl (Steps.refl _) (by rw [hT]; exact hcell) (by rw [hv]; rfl) (by obtain ⟨k9, h9, -⟩ := Vm.findClass_spec hcl; exact ⟨k9, h9⟩) pre x suf hsplit
    (fun z hz => by
      rcases hpass z hz with h | ⟨hz0, nm, hl1, hn1⟩
      · exact Or.inl h
      · obtain ⟨c6, hc6, hcl6⟩ := Cond.classLink_spec hown hl1 e.platform hpl
        obtain ⟨a8, b8, h1, h2, h3⟩ := hn1
        cases Option.some.inj (h1.symm.trans hcl)
        cases Option.some.inj (h2.symm.trans hc6)
        exact Or.inr ⟨hz0, _, hcl6, h3⟩) hx (Or.inr ⟨h0, c4, hcl5, hasg⟩)
  obtain ⟨t, a1, b1⟩ := kk (T.setVm vm') hT X'
  exact ⟨t, st.trans a1, b1⟩
end Rows
section Ends
variable {p : Program} {l : Launch} {e : Env} {R : Room} {s : State} {m : MethodId} {args : Array Value} {below : List Frame} {meth : Method} {c : Code} {H : Heap} {locs : List Loc} {cells slots : Nat} {Q : State → Prop}
variable {mc ms : Nat} {free : Addr → Prop} {A0 A1 : Nat → Prop} {H0 : Heap} {a : Array Value} {ls : Array Slot} {st0 rest : List Value}
variable {Qc : Array Value → State → Outcome → State → Prop} {XC : String → State → State → Prop}
/-- what a body that may throw owes at its end -/
def vx_MQ (below : List Frame) (Qc : Array Value → State → Outcome → State → Prop) (XC : String → State → State → Prop) (a : Array Value) (s : State) (mc ms : Nat) (free : Addr → Prop) : State → Prop := fun t =>
  ∃ o, t.status = .running ∧ Ended t below o ∧ vx_Q Qc XC mc ms free a s o t
theorem vx_ret {g : JFrame} {mc ms : Nat} (k : W p l e R s m args below meth c H locs cells slots (MQ below Qc args s mc ms free) g) : W p l e R s m args below meth c H locs cells slots (vx_MQ below Qc XC args s mc ms free) g := by
  intro T hT X
  obtain ⟨t, a1, o, b1, b2, b3, b4⟩ := k T hT X
  exact ⟨t, a1, o, b1, b2, Or.inl ⟨b3, b4⟩⟩
/-- not caught here: it goes on to the caller -/
theorem vx_widen {g : JFrame} {q : Addr} {k n : Nat} (h1 : cells ≤ k) (h2 : slots ≤ n) (kk : vx_W p l e R s m args below meth c H locs k n Q g q) : vx_W p l e R s m args below meth c H locs cells slots Q g q := fun T hT X => kk T hT (stand_widen X h1 h2)
theorem vx_out {pc : Nat} {E : String} {ce : Cell} {q : Addr} {mc ms : Nat} (hout : ∀ x ∈ c.exceptionTable.toList, covers x pc = false) (hlocks : meth.locks = false) (hcell : H[q]? = some ce) (hv : ce.vm = .none) (hcl : s.vm.findClass E = some ce.cls)
    (hx : ∀ t : State, t.heap = H → s.vm.Alike t.vm → XC E s t) (hf : ∀ z ∈ locs, free z.base) (hc : cells ≤ mc) (hs : slots ≤ ms) :
    vx_W p l e R s m args below meth c H locs cells slots (vx_MQ below Qc XC args s mc ms free) (F0 m pc ls rest) q := by
  intro T hT X
  obtain ⟨st1, hrun, hend, hW, hsm⟩ := X.leaveThrown q (g := F0 m pc ls rest) rfl rfl rfl hout hlocks
  have hcell9 : (T.setFrames (.throwing q :: below)).heap[q]? = some ce := by
    show T.heap[q]? = some ce
    rw [hT]; exact hcell
  exact ⟨_, st1, .threw q, hrun, hend, Or.inr ⟨q, rfl, E, ce, locs, hx _ hT hW.alike, hcell9, hv, hcl, hW, hsm.mono hc hs, hf⟩⟩
theorem vx_frame {U : State} {k n : Nat} (h : s.sameButNew ({ U with vm := s.vm } : State) locs k n) : s.heap.size ≤ U.heap.size ∧ ∀ q : Nat, q < s.heap.size → (∀ z ∈ locs, z.base ≠ q) → U.heap[q]? = s.heap[q]? := by
  obtain ⟨-, h2, -, -, -, h6⟩ := h
  refine ⟨h2, fun q hq hz => ?_⟩
  obtain ⟨c9, e1, e2, e3, e4⟩ := h6 q _ (Array.getElem?_eq_getElem hq)
  have hs : c9.slots = (s.heap[q]).slots := Array.ext_getElem? fun i => e4 i fun hm => hz _ hm rfl
  have h9 : c9 = s.heap[q] := by
    rw [hs] at e2
    exact e2
  have e5 : U.heap[q]? = some c9 := e1
  rw [e5, h9, Array.getElem?_eq_getElem hq]
/-- the words of a throw but the four that speak of the heap -/
def vx_no (w : Cond) : Bool := decide (w ≠ .isRef (.static Bundle.tN "UNASSIGNED_STACK" Bundle.steD)) && decide (w ≠ .isRef (.static Bundle.tN "SUPPRESSED_SENTINEL" Bundle.listD)) && decide (w ≠ .laysStatic Bundle.tN "UNASSIGNED_STACK" Bundle.steD) && decide (w ≠ .laysStatic Bundle.tN "SUPPRESSED_SENTINEL" Bundle.listD)
def vx_at0 (own : String) (ic : Nat) (X : String) (names : List String) : List Cond := (Bundle.ownAtoms0 own ic X names).filter vx_no
def vx_atS (own : String) (ic : Nat) (X : String) (names : List String) : List Cond := (Bundle.ownAtoms own ic X names).filter vx_no
/-- a word that the tables alone decide, or a good one -/
def vx_ot (w : Cond) : Bool := w.onTables || goodWord w
theorem vx_ot_at {args a' : Array Value} {s U : State} {w : Cond} (hW : s.WarmedH U.vm) (hvm : s.vm = U.vm) (hg : vx_ot w = true) (h : w.before args s = true) : w.before a' U = true := by
  simp only [vx_ot, Bool.or_eq_true] at hg
  rcases hg with hg | hg
  · exact va_tabs hg hvm h
  · exact word_at hW (good_of_word hg) h
/-- a list's words: the good ones out of the method's own list, the others by premises of their own -/
theorem vx_hat {args : Array Value} {s : State} {L B : List Cond} (h1 : ∀ w ∈ L.filter goodWord, w.before args s = true) (h2 : ∀ w ∈ L.filter (fun w => !goodWord w), w ∈ B) (h3 : ∀ w ∈ B, w.before args s = true) : ∀ w ∈ L, w.before args s = true := by
  intro w hw
  by_cases g : goodWord w = true
  · exact h1 w (List.mem_filter.mpr ⟨hw, g⟩)
  · refine h3 w (h2 w (List.mem_filter.mpr ⟨hw, ?_⟩))
    show (!goodWord w) = true
    cases hgw : goodWord w
    · rfl
    · exact absurd hgw g
theorem vx_c {args : Array Value} {s : State} {w : Cond} {B : List Cond} (h : w.before args s = true) (t : ∀ w ∈ B, w.before args s = true) : ∀ w' ∈ w :: B, w'.before args s = true := fun w' h' => (List.mem_cons.mp h').elim (fun e => by rw [e]; exact h) (t w')
theorem vx_n {args : Array Value} {s : State} : ∀ w ∈ ([] : List Cond), w.before args s = true := fun _ h => nomatch h
theorem vx_own {args : Array Value} {s : State} {L : List Cond} (h1 : ∀ w ∈ L.filter vx_no, w.before args s = true)
    (hU : (Cond.isRef (.static Bundle.tN "UNASSIGNED_STACK" Bundle.steD)).before args s = true) (hN : (Cond.isRef (.static Bundle.tN "SUPPRESSED_SENTINEL" Bundle.listD)).before args s = true)
    (lU : (Cond.laysStatic Bundle.tN "UNASSIGNED_STACK" Bundle.steD).before args s = true) (lN : (Cond.laysStatic Bundle.tN "SUPPRESSED_SENTINEL" Bundle.listD).before args s = true) : ∀ w ∈ L, w.before args s = true := by
  intro w hw
  by_cases e1 : w = .isRef (.static Bundle.tN "UNASSIGNED_STACK" Bundle.steD)
  · rw [e1]; exact hU
  · by_cases e2 : w = .isRef (.static Bundle.tN "SUPPRESSED_SENTINEL" Bundle.listD)
    · rw [e2]; exact hN
    · by_cases e3 : w = .laysStatic Bundle.tN "UNASSIGNED_STACK" Bundle.steD
      · rw [e3]; exact lU
      · by_cases e4 : w = .laysStatic Bundle.tN "SUPPRESSED_SENTINEL" Bundle.listD
        · rw [e4]; exact lN
        · exact h1 w (List.mem_filter.mpr ⟨hw, by unfold vx_no; rw [decide_eq_true e1, decide_eq_true e2, decide_eq_true e3, decide_eq_true e4]; rfl⟩)
/-- where a static field lies, its class's statics cell in H -/
def vx_L (C n d : String) (A : Nat → Prop) (U : State) (H : Heap) : Prop := ∃ (c : ClassId) (k : Class) (i : Nat) (f : Field) (a : Nat) (cell : Cell), U.vm.findClass C = some c ∧ U.fieldFound? C n d = some (c, k, i, f) ∧ f.isStatic = true ∧ k.statics = some a ∧ H[a]? = some cell ∧ cell.vm.isStatics = true ∧ cell.cls = c ∧ f.slot < cell.slots.size ∧ k.staticTypes[f.slot]? = some f.type ∧ ¬ A a
theorem vx_L.moved {C n d : String} {A : Nat → Prop} {u U : State} {H : Heap} (hvm : u.vm.Alike U.vm) (h : vx_L C n d A u H) : vx_L C n d A U H := by
  obtain ⟨c, k, i, f, a, cell, h1, h2, h3, h4, h5, h6, h7, h8, h9, h10⟩ := h
  obtain ⟨k', hi', he⟩ := State.fieldFound?_setVm hvm h2
  exact ⟨c, k', i, f, a, cell, by rw [hvm.findClass]; exact h1, hi', h3, by rw [he]; exact h4, h5, h6, h7, h8, by rw [he]; exact h9, h10⟩
theorem vx_L.kept {C n d : String} {A : Nat → Prop} {U : State} {H H1 : Heap} (h : vx_L C n d A U H) (hq : ∀ a : Nat, a < H.size → ¬ A a → H1[a]? = H[a]?) : vx_L C n d A U H1 := by
  obtain ⟨c, k, i, f, a, cell, h1, h2, h3, h4, h5, h6, h7, h8, h9, h10⟩ := h
  exact ⟨c, k, i, f, a, cell, h1, h2, h3, h4, by rw [hq a (Array.getElem?_eq_some_iff.mp h5).1 h10]; exact h5, h6, h7, h8, h9, h10⟩
theorem vx_L.narrow {C n d : String} {A B : Nat → Prop} {U : State} {H : Heap} (h : vx_L C n d A U H) (hAB : ∀ q, B q → A q) : vx_L C n d B U H := by
  obtain ⟨c, k, i, f, a, cell, h1, h2, h3, h4, h5, h6, h7, h8, h9, h10⟩ := h
  exact ⟨c, k, i, f, a, cell, h1, h2, h3, h4, h5, h6, h7, h8, h9, fun z => h10 (hAB _ z)⟩
theorem vx_L.word {C n d : String} {A : Nat → Prop} {s : State} {args : Array Value} (h : vx_L C n d A s s.heap) : (Cond.laysStatic C n d).before args s = true := by
  obtain ⟨c, k, i, f, a, cell, h1, h2, h3, h4, h5, h6, h7, h8, h9, -⟩ := h
  show (Cond.laysStatic C n d).holds args s none s [] = true
  exact Cond.laysStatic_of h1 h2 h3 h4 h5 h6 h7 h8 h9
/-- .. and what it holds: null or some reference -/
def vx_Zq (C n d : String) (A : Nat → Prop) (U : State) (H : Heap) : Prop := va_Zq C n d A U H ∧ vx_L C n d A U H
theorem vx_Zq.moved {C n d : String} {A : Nat → Prop} {u U : State} {H : Heap} (hvm : u.vm.Alike U.vm) (h : vx_Zq C n d A u H) : vx_Zq C n d A U H := ⟨va_Zq.moved hvm h.1, vx_L.moved hvm h.2⟩
theorem vx_Zq.kept {C n d : String} {A : Nat → Prop} {U : State} {H H1 : Heap} (h : vx_Zq C n d A U H) (hq : ∀ a : Nat, a < H.size → ¬ A a → H1[a]? = H[a]?) : vx_Zq C n d A U H1 := ⟨va_Zq.kept h.1 hq, vx_L.kept h.2 hq⟩
theorem vx_Zq.narrow {C n d : String} {A B : Nat → Prop} {U : State} {H : Heap} (h : vx_Zq C n d A U H) (hAB : ∀ q, B q → A q) : vx_Zq C n d B U H := ⟨va_Zq.narrow h.1 hAB, vx_L.narrow h.2 hAB⟩
theorem vx_Zqof {args : Array Value} {s : State} {C n d : String} {A : Nat → Prop} (hl : (Cond.laysStatic C n d).before args s = true) (hini : (Cond.initialized C).before args s = true) (h : (Cond.isRef (.static C n d)).before args s = true) (hA : ∀ a : Nat, a < s.heap.size → ¬ A a) : vx_Zq C n d A s s.heap := by
  refine ⟨va_Zqof hl hini h hA, ?_⟩
  obtain ⟨c, k, i, f, a, cell, h1, h2, h3, h4, h5, h6, h7, h8, h9⟩ := Cond.laysStatic_spec hl
  exact ⟨c, k, i, f, a, cell, h1, h2, h3, h4, h5, h6, h7, h8, h9, hA a (Array.getElem?_eq_some_iff.mp h5).1⟩
theorem vx_isRef {C n d : String} {v : Value} {A : Nat → Prop} {s : State} {args : Array Value} (h : va_Z C n d v A s s.heap) (hv : v.isRef = true) : (Cond.isRef (.static C n d)).before args s = true := by
  obtain ⟨cf, kf, fi, f, a, cell, h1, h2, h3, h4, h5, h6, h7, -⟩ := h
  have he : (Term.static C n d).eval args s none [] s = some v := by
    simp [Term.eval, State.fieldNamed?, h1, h2, h4, h5, h6, h7]
  simp only [Cond.before, Cond.holds, Cond.value, he]
  cases v <;> simp_all [Value.isRef]
theorem vx_isRefq {C n d : String} {A : Nat → Prop} {s : State} {args : Array Value} (h : va_Zq C n d A s s.heap) : (Cond.isRef (.static C n d)).before args s = true := by
  rcases h with h | ⟨t, h⟩
  · exact vx_isRef h rfl
  · exact vx_isRef h rfl
/-- the same frame, seen from here: as if the method were called anew in this heap -/
theorem vx_rebase {T : State} (X : Stand p l e R s m args below meth c T locs cells slots) {R' : Room} (hf : R'.frames ≤ R.frames) (hl : R'.locals ≤ R.locals) (hc : cells + R'.cells ≤ R.cells) (hs : slots + R'.slots ≤ R.slots) :
    Stand p l e R' ((T.setVm s.vm).setFrames (.invoking m args :: below)) m args below meth c T [] 0 0 := by
  have htop : (T.setVm s.vm).topJava?.isSome := X.here.top
  have hF : ((T.setVm s.vm).setFrames (.invoking m args :: below)).frames = .invoking m args :: below := State.frames_setFrames _ (State.cur_lt_of_top htop)
  obtain ⟨g₀, hg0⟩ := Option.isSome_iff_exists.mp htop
  obtain ⟨r, hr⟩ := State.topJava?_eq_some.mp hg0
  have hl9 : e.platform.stackLimits (T.setVm s.vm).me = e.platform.stackLimits s.me := X.limits
  have hb9 : (T.setVm s.vm).me.stackBytes = s.me.stackBytes := X.bytes
  refine ⟨X.admits, X.cas, X.clock, hF, ?_, X.hears, X.method, X.code, X.here, X.tail, X.warmed, ?_, ?_, ?_⟩
  · have h := X.room
    have hU : ((T.setVm s.vm).setFrames (.invoking m args :: below)).localsInUse = s.localsInUse := by
      rw [State.localsInUse_invoking hF (meth := meth) (c := c) X.method X.code, State.localsInUse_invoking X.frames X.method X.code]
    simp only [State.hasRoom, Bool.and_eq_true, decide_eq_true_eq] at h ⊢
    obtain ⟨⟨⟨⟨h1, h2, h3, h4, h5, h6⟩, h7⟩, h8⟩, h9⟩ := h
    rw [X.frames, List.length_cons] at h2 h3
    have q1 := X.heapSize
    have q2 := X.used
    simp only [hF, hU, List.length_cons, State.stackLimits_setFrames, State.stackBytes_setFrames, hl9, hb9]
    refine ⟨⟨⟨⟨by omega, by omega, by omega, by omega, by omega, h6⟩, ?_⟩, ?_⟩, X.book⟩
    · show T.heap.size + R'.cells ≤ e.platform.maxCells
      omega
    · show T.slotsUsed + R'.slots ≤ e.platform.maxSlots
      omega
  · rw [State.stackLimits_setFrames]; rfl
  · rw [State.stackBytes_setFrames]; rfl
  · refine ⟨?_, Nat.le_refl _, Nat.le_refl _, ?_, ?_, fun a c9 h9 => ⟨c9, h9, rfl, rfl, fun _ _ => rfl⟩⟩
    · obtain ⟨t, ht, -⟩ := State.frames_cons hr
      show T.setVm s.vm = { ((T.setVm s.vm).setFrames (.invoking m args :: below)).setFrames (T.setVm s.vm).frames with heap := T.heap, slotsUsed := T.slotsUsed }
      rw [State.setFrames_setFrames, State.setFrames_self ht]
      rfl
    · show T.slotsUsed = T.slotsUsed + ((T.heap.toList.drop T.heap.size).map (·.slots.size)).sum
      rw [List.drop_eq_nil_of_le (Nat.le_of_eq Array.length_toList)]
      rfl
    · show ((T.heap.toList.drop T.heap.size).map (·.slots.size)).sum ≤ 0
      rw [List.drop_eq_nil_of_le (Nat.le_of_eq Array.length_toList)]
      exact Nat.le_refl _
/-- 'throw new E()': new; dup; invokespecial; athrow -/
theorem vx_throw0 {cc : ByteArray} {pc : Nat} (hexec : p.tables.exec = Jvm.exec) (hb : c.code = cc) (hl : l.stackTraces = false) {own cls : String} {names : List String} {ik ic mc ms : Nat} {A : Nat → Prop}
    (hown : s.vm.findClass own = some m.cls) (hcls : Bundle.fit cls = true) (hnames : ∀ n ∈ names, Bundle.fit n = true)
    (hk : (Cond.classLink own ik cls).before args s = true) (hini : (Cond.initialized cls).before args s = true) (hat : ∀ w ∈ vx_at0 own ic cls names, w.before args s = true)
    (hgood : ∀ w ∈ Cond.classLink own ik cls :: Cond.initialized cls :: vx_at0 own ic cls names, vx_ot w = true)
    (hU : vx_Zq Bundle.tN "UNASSIGNED_STACK" Bundle.steD A s s.heap) (hN : vx_Zq Bundle.tN "SUPPRESSED_SENTINEL" Bundle.listD A s s.heap) (hS : va_S A s.heap H locs) (hsize : ls.size = c.maxLocals)
    (d0 : decode cc pc = .ok (.new ik, 3)) (d3 : decode cc (pc + 3) = .ok (.dup, 1)) (d4 : decode cc (pc + 4) = .ok (.invokespecial ic, 3)) (d7 : decode cc (pc + 7) = .ok (.athrow, 1))
    (hout : ∀ x ∈ c.exceptionTable.toList, covers x (pc + 7) = false)
    (hRframes : names.length + 3 < R.frames) (hRlocals : (rest.map fun v => v.category).sum + (13 * (names.length + 1) + 42) ≤ R.locals) (hRcells : cells + 1 ≤ R.cells) (hRslots : slots + 6 ≤ R.slots) (hlocks : meth.locks = false)
    (hx : ∀ t : State, s.vm.Alike t.vm → H.size ≤ t.heap.size → (∀ q : Nat, q < H.size → t.heap[q]? = H[q]?) → XC cls s t)
    (hf : ∀ z ∈ locs, free z.base) (hc : cells + 1 ≤ mc) (hs : slots + 6 ≤ ms) :
    W p l e R s m args below meth c H locs cells slots (vx_MQ below Qc XC args s mc ms free) (F0 m pc ls rest) := by
  intro T hT X
  have htr : e.platform.stackTraces = false := (show e.platform.stackTraces = l.stackTraces by rw [X.admits.platform]).trans hl
  have Y := vx_rebase X (R' := { frames := R.frames, locals := R.locals, cells := 1, slots := 6 }) (Nat.le_refl _) (Nat.le_refl _) hRcells hRslots
  obtain ⟨s', hA⟩ : ∃ z, z = (T.setVm s.vm).setFrames (.invoking m args :: below) := ⟨_, rfl⟩
  rw [← hA] at Y
  have hvm : s'.vm = s.vm := by rw [hA]; rfl
  have hhp : s'.heap = H := by rw [hA]; exact hT
  have hW0 : s.WarmedH s'.vm := by rw [hvm]; exact State.WarmedH.refl s
  have hat' : ∀ w ∈ vx_at0 own ic cls names, w.before args s' = true := fun w hw => vx_ot_at hW0 hvm.symm (hgood w (List.mem_cons_of_mem _ (List.mem_cons_of_mem _ hw))) (hat w hw)
  have hk' : (Cond.classLink own ik cls).before args s' = true := vx_ot_at hW0 hvm.symm (hgood _ List.mem_cons_self) hk
  have hini' : (Cond.initialized cls).before args s' = true := vx_ot_at hW0 hvm.symm (hgood _ (List.mem_cons_of_mem _ List.mem_cons_self)) hini
  have hU' : vx_Zq Bundle.tN "UNASSIGNED_STACK" Bundle.steD A s' s'.heap := by rw [hhp]; exact vx_Zq.moved hW0.alike (hU.kept hS.2.1)
  have hN' : vx_Zq Bundle.tN "SUPPRESSED_SENTINEL" Bundle.listD A s' s'.heap := by rw [hhp]; exact vx_Zq.moved hW0.alike (hN.kept hS.2.1)
  have h : ∀ w ∈ Bundle.ownAtoms0 own ic cls names, w.before args s' = true := vx_own hat' (vx_isRefq hU'.1) (vx_isRefq hN'.1) hU'.2.word hN'.2.word
  have hown' : s'.vm.findClass own = some m.cls := by rw [hvm]; exact hown
  have hins : (Cond.instantiable cls 6).before args s' = true := h _ (by simp [Bundle.ownAtoms0])
  obtain ⟨vm₁, cX, kX, hfX, hkX, -, -, X₁, st1⟩ := Y.newCold hexec (own := own) (C := cls) (index := ik) (n := 6) hown' hk' hins hini'
    (g := F0 m pc ls rest) rfl (by rw [hb]; exact d0) (Nat.le_refl _) (Nat.le_refl _)
  generalize hT1 : (T.setVm vm₁).pushCell { cls := cX, slots := kX.instanceTypes.map defaultValue, vm := .none } = T1 at X₁ st1
  have hcat : (Value.ref T.heap.size).category = 1 := rfl
  have hcellA : T1.heap[T.heap.size]? = some (freshCell cX kX) := by rw [← hT1]; exact State.heap_pushCell_size _ _
  have d3' : decode c.code (pc + 3) = .ok (.dup, 1) := by rw [hb]; exact d3
  obtain ⟨U, hsteps, hrun, hend, hW, hsame, ce, hce, hO⟩ := X₁.ctorThrow0 hexec htr (own := own) (cls := cls) (names := names) (ic := ic) hown' hcls hnames h (fun x hx => nomatch hx) hfX hkX hcellA (by rw [hhp, hT]; exact Nat.le_refl _)
    (g := { method := m, pc := pc + 4, locals := ls, stack := .ref T.heap.size :: .ref T.heap.size :: rest, locked := none }) rfl hsize rfl rfl (rest := rest) rfl
    (by rw [hb]; exact d4) (by rw [hb]; exact d7) hout hRframes (by simp only [List.map_cons, List.sum_cons, hcat]; omega) hlocks
  obtain ⟨f1, f2⟩ := vx_frame hsame
  rw [hhp] at f1 f2
  have hWs : s.WarmedH U.vm := State.WarmedH.trans hW0 hW
  have hcl : s.vm.findClass cls = some ce.cls := by
    have h9 := hO.cls
    rw [hvm] at h9
    exact h9
  have hall : s.sameButNew ({ U with vm := s.vm } : State) locs mc ms := by
    subst hA
    obtain ⟨e1, e2⟩ := hsame
    rw [State.setFrames_setFrames] at e1
    have h2 : (T.setVm s.vm).sameButNew ({ U with vm := s.vm } : State) [] (0 + 1) (0 + 6) := ⟨e1, e2⟩
    have h3 := X.same.trans h2
    rw [List.append_nil] at h3
    exact h3.mono hc hs
  refine ⟨U, ?_, .threw T.heap.size, hrun, hend, Or.inr ⟨T.heap.size, rfl, cls, ce, locs, hx U hWs.alike f1 (fun q hq => f2 q hq (fun z hz => nomatch hz)), hce, hO.vm, hcl, hWs, hall, hf⟩⟩
  refine st1 _ ?_
  show Steps p.tables e below (T1.setTop { method := m, pc := pc + 3, locals := ls, stack := .ref T.heap.size :: rest, locked := none }) _
  jvm_step X₁.here [X₁.here.top, hexec, d3', Value.category]
  exact hsteps
/-- 'throw new E("text")': new; dup; ldc; invokespecial; athrow -/
theorem vx_throwS {cc : ByteArray} {pc : Nat} (hexec : p.tables.exec = Jvm.exec) (hb : c.code = cc) (hl : l.stackTraces = false) {own cls text : String} {names : List String} {ik is ic mc ms sa : Nat} {A : Nat → Prop}
    (hown : s.vm.findClass own = some m.cls) (hcls : Bundle.fit cls = true) (hnames : ∀ n ∈ names, Bundle.fit n = true)
    (hk : (Cond.classLink own ik cls).before args s = true) (hini : (Cond.initialized cls).before args s = true) (hstr : vk_R own is text sa s) (hat : ∀ w ∈ vx_atS own ic cls names, w.before args s = true)
    (hgood : ∀ w ∈ Cond.classLink own ik cls :: Cond.initialized cls :: vx_atS own ic cls names, vx_ot w = true)
    (hU : vx_Zq Bundle.tN "UNASSIGNED_STACK" Bundle.steD A s s.heap) (hN : vx_Zq Bundle.tN "SUPPRESSED_SENTINEL" Bundle.listD A s s.heap) (hS : va_S A s.heap H locs) (hsize : ls.size = c.maxLocals)
    (d0 : decode cc pc = .ok (.new ik, 3)) (d3 : decode cc (pc + 3) = .ok (.dup, 1)) (d4 : decode cc (pc + 4) = .ok (.ldc is, 2)) (d6 : decode cc (pc + 6) = .ok (.invokespecial ic, 3)) (d9 : decode cc (pc + 9) = .ok (.athrow, 1))
    (hout : ∀ x ∈ c.exceptionTable.toList, covers x (pc + 9) = false)
    (hRframes : names.length + 3 < R.frames) (hRlocals : (rest.map fun v => v.category).sum + (13 * (names.length + 1) + 43) ≤ R.locals) (hRcells : cells + 1 ≤ R.cells) (hRslots : slots + 6 ≤ R.slots) (hlocks : meth.locks = false)
    (hx : ∀ t : State, s.vm.Alike t.vm → H.size ≤ t.heap.size → (∀ q : Nat, q < H.size → t.heap[q]? = H[q]?) → XC cls s t)
    (hf : ∀ z ∈ locs, free z.base) (hc : cells + 1 ≤ mc) (hs : slots + 6 ≤ ms) :
    W p l e R s m args below meth c H locs cells slots (vx_MQ below Qc XC args s mc ms free) (F0 m pc ls rest) := by
  intro T hT X
  have htr : e.platform.stackTraces = false := (show e.platform.stackTraces = l.stackTraces by rw [X.admits.platform]).trans hl
  have Y := vx_rebase X (R' := { frames := R.frames, locals := R.locals, cells := 1, slots := 6 }) (Nat.le_refl _) (Nat.le_refl _) hRcells hRslots
  obtain ⟨s', hA⟩ : ∃ z, z = (T.setVm s.vm).setFrames (.invoking m args :: below) := ⟨_, rfl⟩
  rw [← hA] at Y
  have hvm : s'.vm = s.vm := by rw [hA]; rfl
  have hhp : s'.heap = H := by rw [hA]; exact hT
  have hW0 : s.WarmedH s'.vm := by rw [hvm]; exact State.WarmedH.refl s
  have hat' : ∀ w ∈ vx_atS own ic cls names, w.before args s' = true := fun w hw => vx_ot_at hW0 hvm.symm (hgood w (List.mem_cons_of_mem _ (List.mem_cons_of_mem _ hw))) (hat w hw)
  have hk' : (Cond.classLink own ik cls).before args s' = true := vx_ot_at hW0 hvm.symm (hgood _ List.mem_cons_self) hk
  have hini' : (Cond.initialized cls).before args s' = true := vx_ot_at hW0 hvm.symm (hgood _ (List.mem_cons_of_mem _ List.mem_cons_self)) hini
  have hU' : vx_Zq Bundle.tN "UNASSIGNED_STACK" Bundle.steD A s' s'.heap := by rw [hhp]; exact vx_Zq.moved hW0.alike (hU.kept hS.2.1)
  have hN' : vx_Zq Bundle.tN "SUPPRESSED_SENTINEL" Bundle.listD A s' s'.heap := by rw [hhp]; exact vx_Zq.moved hW0.alike (hN.kept hS.2.1)
  have h : ∀ w ∈ Bundle.ownAtoms own ic cls names, w.before args s' = true := vx_own hat' (vx_isRefq hU'.1) (vx_isRefq hN'.1) hU'.2.word hN'.2.word
  have hown' : s'.vm.findClass own = some m.cls := by rw [hvm]; exact hown
  have hins : (Cond.instantiable cls 6).before args s' = true := h _ (by simp [Bundle.ownAtoms])
  obtain ⟨vm₁, cX, kX, hfX, hkX, -, -, X₁, st1⟩ := Y.newCold hexec (own := own) (C := cls) (index := ik) (n := 6) hown' hk' hins hini'
    (g := F0 m pc ls rest) rfl (by rw [hb]; exact d0) (Nat.le_refl _) (Nat.le_refl _)
  generalize hT1 : (T.setVm vm₁).pushCell { cls := cX, slots := kX.instanceTypes.map defaultValue, vm := .none } = T1 at X₁ st1
  have hcat : (Value.ref T.heap.size).category = 1 := rfl
  have hcellA : T1.heap[T.heap.size]? = some (freshCell cX kX) := by rw [← hT1]; exact State.heap_pushCell_size _ _
  have d3' : decode c.code (pc + 3) = .ok (.dup, 1) := by rw [hb]; exact d3
  have d4' : decode c.code (pc + 4) = .ok (.ldc is, 2) := by rw [hb]; exact d4
  have hstr' : vk_R own is text sa s' := vk_R.warm hW0 hstr
  obtain ⟨U, hsteps, hrun, hend, hW, hsame, ce, hce, hO⟩ := X₁.ctorThrowS hexec htr (own := own) (cls := cls) (names := names) (ic := ic) hown' hcls hnames h (fun x hx => nomatch hx) hfX hkX hcellA (by rw [hhp, hT]; exact Nat.le_refl _) (msg := .ref sa) rfl
    (g := { method := m, pc := pc + 6, locals := ls, stack := .ref sa :: .ref T.heap.size :: .ref T.heap.size :: rest, locked := none }) rfl hsize rfl rfl (rest := rest) rfl
    (by rw [hb]; exact d6) (by rw [hb]; exact d9) hout hRframes (by simp only [List.map_cons, List.sum_cons, hcat]; omega) hlocks
  obtain ⟨f1, f2⟩ := vx_frame hsame
  rw [hhp] at f1 f2
  have hWs : s.WarmedH U.vm := State.WarmedH.trans hW0 hW
  have hcl : s.vm.findClass cls = some ce.cls := by
    have h9 := hO.cls
    rw [hvm] at h9
    exact h9
  have hall : s.sameButNew ({ U with vm := s.vm } : State) locs mc ms := by
    subst hA
    obtain ⟨e1, e2⟩ := hsame
    rw [State.setFrames_setFrames] at e1
    have h2 : (T.setVm s.vm).sameButNew ({ U with vm := s.vm } : State) [] (0 + 1) (0 + 6) := ⟨e1, e2⟩
    have h3 := X.same.trans h2
    rw [List.append_nil] at h3
    exact h3.mono hc hs
  refine ⟨U, ?_, .threw T.heap.size, hrun, hend, Or.inr ⟨T.heap.size, rfl, cls, ce, locs, hx U hWs.alike f1 (fun q hq => f2 q hq (fun z hz => nomatch hz)), hce, hO.vm, hcl, hWs, hall, hf⟩⟩
  refine st1 _ ?_
  show Steps p.tables e below (T1.setTop { method := m, pc := pc + 3, locals := ls, stack := .ref T.heap.size :: rest, locked := none }) _
  jvm_step X₁.here [X₁.here.top, hexec, d3', Value.category]
  exact X₁.ldcString hexec (own := own) (text := text) (index := is) (a := sa) hown' hstr'.1 hstr'.2
    (g := { method := m, pc := pc + 4, locals := ls, stack := .ref T.heap.size :: .ref T.heap.size :: rest, locked := none }) rfl d4' _ hsteps
/-- 'throw new E("text")', the text by a wide index -/
theorem vx_throwSW {cc : ByteArray} {pc : Nat} (hexec : p.tables.exec = Jvm.exec) (hb : c.code = cc) (hl : l.stackTraces = false) {own cls text : String} {names : List String} {ik is ic mc ms sa : Nat} {A : Nat → Prop}
    (hown : s.vm.findClass own = some m.cls) (hcls : Bundle.fit cls = true) (hnames : ∀ n ∈ names, Bundle.fit n = true)
    (hk : (Cond.classLink own ik cls).before args s = true) (hini : (Cond.initialized cls).before args s = true) (hstr : vk_R own is text sa s) (hat : ∀ w ∈ vx_atS own ic cls names, w.before args s = true)
    (hgood : ∀ w ∈ Cond.classLink own ik cls :: Cond.initialized cls :: vx_atS own ic cls names, vx_ot w = true)
    (hU : vx_Zq Bundle.tN "UNASSIGNED_STACK" Bundle.steD A s s.heap) (hN : vx_Zq Bundle.tN "SUPPRESSED_SENTINEL" Bundle.listD A s s.heap) (hS : va_S A s.heap H locs) (hsize : ls.size = c.maxLocals)
    (d0 : decode cc pc = .ok (.new ik, 3)) (d3 : decode cc (pc + 3) = .ok (.dup, 1)) (d4 : decode cc (pc + 4) = .ok (.ldc_w is, 3)) (d7 : decode cc (pc + 7) = .ok (.invokespecial ic, 3)) (d10 : decode cc (pc + 10) = .ok (.athrow, 1))
    (hout : ∀ x ∈ c.exceptionTable.toList, covers x (pc + 10) = false)
    (hRframes : names.length + 3 < R.frames) (hRlocals : (rest.map fun v => v.category).sum + (13 * (names.length + 1) + 43) ≤ R.locals) (hRcells : cells + 1 ≤ R.cells) (hRslots : slots + 6 ≤ R.slots) (hlocks : meth.locks = false)
    (hx : ∀ t : State, s.vm.Alike t.vm → H.size ≤ t.heap.size → (∀ q : Nat, q < H.size → t.heap[q]? = H[q]?) → XC cls s t)
    (hf : ∀ z ∈ locs, free z.base) (hc : cells + 1 ≤ mc) (hs : slots + 6 ≤ ms) :
    W p l e R s m args below meth c H locs cells slots (vx_MQ below Qc XC args s mc ms free) (F0 m pc ls rest) := by
  intro T hT X
  have htr : e.platform.stackTraces = false := (show e.platform.stackTraces = l.stackTraces by rw [X.admits.platform]).trans hl
  have Y := vx_rebase X (R' := { frames := R.frames, locals := R.locals, cells := 1, slots := 6 }) (Nat.le_refl _) (Nat.le_refl _) hRcells hRslots
  obtain ⟨s', hA⟩ : ∃ z, z = (T.setVm s.vm).setFrames (.invoking m args :: below) := ⟨_, rfl⟩
  rw [← hA] at Y
  have hvm : s'.vm = s.vm := by rw [hA]; rfl
  have hhp : s'.heap = H := by rw [hA]; exact hT
  have hW0 : s.WarmedH s'.vm := by rw [hvm]; exact State.WarmedH.refl s
  have hat' : ∀ w ∈ vx_atS own ic cls names, w.before args s' = true := fun w hw => vx_ot_at hW0 hvm.symm (hgood w (List.mem_cons_of_mem _ (List.mem_cons_of_mem _ hw))) (hat w hw)
  have hk' : (Cond.classLink own ik cls).before args s' = true := vx_ot_at hW0 hvm.symm (hgood _ List.mem_cons_self) hk
  have hini' : (Cond.initialized cls).before args s' = true := vx_ot_at hW0 hvm.symm (hgood _ (List.mem_cons_of_mem _ List.mem_cons_self)) hini
  have hU' : vx_Zq Bundle.tN "UNASSIGNED_STACK" Bundle.steD A s' s'.heap := by rw [hhp]; exact vx_Zq.moved hW0.alike (hU.kept hS.2.1)
  have hN' : vx_Zq Bundle.tN "SUPPRESSED_SENTINEL" Bundle.listD A s' s'.heap := by rw [hhp]; exact vx_Zq.moved hW0.alike (hN.kept hS.2.1)
  have h : ∀ w ∈ Bundle.ownAtoms own ic cls names, w.before args s' = true := vx_own hat' (vx_isRefq hU'.1) (vx_isRefq hN'.1) hU'.2.word hN'.2.word
  have hown' : s'.vm.findClass own = some m.cls := by rw [hvm]; exact hown
  have hins : (Cond.instantiable cls 6).before args s' = true := h _ (by simp [Bundle.ownAtoms])
  obtain ⟨vm₁, cX, kX, hfX, hkX, -, -, X₁, st1⟩ := Y.newCold hexec (own := own) (C := cls) (index := ik) (n := 6) hown' hk' hins hini'
    (g := F0 m pc ls rest) rfl (by rw [hb]; exact d0) (Nat.le_refl _) (Nat.le_refl _)
  generalize hT1 : (T.setVm vm₁).pushCell { cls := cX, slots := kX.instanceTypes.map defaultValue, vm := .none } = T1 at X₁ st1
  have hcat : (Value.ref T.heap.size).category = 1 := rfl
  have hcellA : T1.heap[T.heap.size]? = some (freshCell cX kX) := by rw [← hT1]; exact State.heap_pushCell_size _ _
  have d3' : decode c.code (pc + 3) = .ok (.dup, 1) := by rw [hb]; exact d3
  have d4' : decode c.code (pc + 4) = .ok (.ldc_w is, 3) := by rw [hb]; exact d4
  have hstr' : vk_R own is text sa s' := vk_R.warm hW0 hstr
  obtain ⟨U, hsteps, hrun, hend, hW, hsame, ce, hce, hO⟩ := X₁.ctorThrowS hexec htr (own := own) (cls := cls) (names := names) (ic := ic) hown' hcls hnames h (fun x hx => nomatch hx) hfX hkX hcellA (by rw [hhp, hT]; exact Nat.le_refl _) (msg := .ref sa) rfl
    (g := { method := m, pc := pc + 7, locals := ls, stack := .ref sa :: .ref T.heap.size :: .ref T.heap.size :: rest, locked := none }) rfl hsize rfl rfl (rest := rest) rfl
    (by rw [hb]; exact d7) (by rw [hb]; exact d10) hout hRframes (by simp only [List.map_cons, List.sum_cons, hcat]; omega) hlocks
  obtain ⟨f1, f2⟩ := vx_frame hsame
  rw [hhp] at f1 f2
  have hWs : s.WarmedH U.vm := State.WarmedH.trans hW0 hW
  have hcl : s.vm.findClass cls = some ce.cls := by
    have h9 := hO.cls
    rw [hvm] at h9
    exact h9
  have hall : s.sameButNew ({ U with vm := s.vm } : State) locs mc ms := by
    subst hA
    obtain ⟨e1, e2⟩ := hsame
    rw [State.setFrames_setFrames] at e1
    have h2 : (T.setVm s.vm).sameButNew ({ U with vm := s.vm } : State) [] (0 + 1) (0 + 6) := ⟨e1, e2⟩
    have h3 := X.same.trans h2
    rw [List.append_nil] at h3
    exact h3.mono hc hs
  refine ⟨U, ?_, .threw T.heap.size, hrun, hend, Or.inr ⟨T.heap.size, rfl, cls, ce, locs, hx U hWs.alike f1 (fun q hq => f2 q hq (fun z hz => nomatch hz)), hce, hO.vm, hcl, hWs, hall, hf⟩⟩
  refine st1 _ ?_
  show Steps p.tables e below (T1.setTop { method := m, pc := pc + 3, locals := ls, stack := .ref T.heap.size :: rest, locked := none }) _
  jvm_step X₁.here [X₁.here.top, hexec, d3', Value.category]
  exact X₁.ldcStringW hexec (own := own) (text := text) (index := is) (a := sa) hown' hstr'.1 hstr'.2
    (g := { method := m, pc := pc + 4, locals := ls, stack := .ref T.heap.size :: .ref T.heap.size :: rest, locked := none }) rfl d4' _ hsteps
end Ends
section Bodies
variable {l : Launch}
theorem vx_ofW {y : MethodName} {ws ws' : List Cond} {rm : Room} {Pc : Array Value → State → Prop} {Qc : Array Value → State → Outcome → State → Prop} {XC : String → State → State → Prop} {mc ms : Nat} {free : Addr → Prop} {cc : ByteArray} {maxL : Nat} {ret : Option FieldType}
    (hy : plainName y.cls = true) (hw : ws = Cond.code y cc maxL ret :: ws')
    (body : ∀ p e s m args below meth c s₁, BodyLoose p l y (headSpec ws rm) cc maxL ret e s m args below meth c s₁ → c.maxLocals = maxL → (∀ x ∈ c.exceptionTable.toList, False) → Pc args s →
      W p l e (headSpec ws rm).room s m args below meth c s.heap [] 0 0 (vx_MQ below Qc XC args s mc ms free) (entryFrame m args maxL)) : vx_Met l y ws rm Pc Qc XC mc ms free := by
  refine MetFree.of_bodyS (code := cc) (maxLocals := maxL) (ret := ret) hy ?_ ?_
  · intro args s m h hn
    obtain ⟨meth, c, h1, h2, h3, h4, h5, h6, -, -⟩ := Cond.code_spec hn (atoms_spec (ws := ws) h _ (by rw [hw]; exact List.mem_cons_self))
    exact ⟨meth, c, h1, h2, h3, h4, h5, h6⟩
  · intro p e s m args below meth c s₁ B hml hP _
    have hh0 : s₁.heap = s.heap := by rw [B.state]; rfl
    have ht : ∀ x ∈ c.exceptionTable.toList, False := by
      obtain ⟨meth9, c9, h1, h2, -, -, -, -, h7, -⟩ := Cond.code_spec B.named (atoms_spec (ws := ws) B.pre _ (by rw [hw]; exact List.mem_cons_self))
      cases Option.some.inj (h1.symm.trans B.method)
      cases Option.some.inj (h2.symm.trans (Stand.of_body B).code)
      intro x hx
      rw [Array.isEmpty_iff.mp h7] at hx
      cases hx
    obtain ⟨t, a1, o, b1, b2, b3⟩ := body p e s m args below meth c s₁ B hml ht hP s₁ hh0 (Stand.of_body B)
    exact ⟨t, o, a1, b1, b2, b3⟩
/-- the table of a body with handlers -/
theorem vx_table {p : Program} {x y : MethodName} {S : Spec} {cc bytes : ByteArray} {maxL maxL' : Nat} {ret ret' : Option FieldType} {e : Env} {s s₁ : State} {m : MethodId} {args : Array Value} {below : List Frame} {meth : Method} {c : Code} {hh : List (Nat × Nat × Nat × Nat)}
    (B : BodyLoose p l y S cc maxL ret e s m args below meth c s₁) (h : (Cond.codeWith y bytes maxL' ret' hh).before args s = true) : c.exceptionTable.toList = tableOf hh := by
  obtain ⟨m9, meth9, c9, hn9, h1, h2, -, -, h6, -⟩ := Cond.codeWith_spec h
  cases Option.some.inj (hn9.symm.trans B.named)
  cases Option.some.inj (h1.symm.trans B.method)
  cases Option.some.inj (h2.symm.trans (Stand.of_body B).code)
  rw [← h6, table_eq]
end Bodies
end VXA
/-! ===== END ===== -/
/-! ===== BEGIN a static call of a method with an exception table ===== -/
section VXS
variable {p : Program} {l : Launch} {e : Env} {R : Room} {s : State} {m : MethodId} {args : Array Value} {below : List Frame} {meth : Method} {c : Code} {T : State} {H : Heap} {locs : List Loc} {cells slots : Nat}
abbrev vx_CSW (R : Room) (s : State) (args : Array Value) (own : String) (index : Nat) (y : MethodName) (bytes : ByteArray) (maxL : Nat) (ret : Option FieldType) (hh : List (Nat × Nat × Nat × Nat)) (ws : List Cond) (rm : Room) (mc ms n : Nat) : Prop :=
  (rm.cells = mc ∧ rm.slots = ms ∧ rm.frames + 1 ≤ R.frames ∧ 8 + (maxL + 11) + rm.locals ≤ R.locals ∧ (∀ w ∈ ws, ∀ (a' : Array Value) (U : State), s.WarmedH U.vm → w.before a' U = true) ∧ Cond.codeWith y bytes maxL ret hh ∈ ws) ∧
  (Cond.codeWith y bytes maxL ret hh).before args s = true ∧ (Cond.initialized y.cls).before args s = true ∧ (y.cls ≠ "java/lang/invoke/MethodHandle" ∧ y.cls ≠ "java/lang/invoke/VarHandle") ∧
  (∀ sig, parseMethodDescriptor y.desc = some sig → n = sig.parameters.length) ∧ (Cond.methodLink own index y).before args s = true ∧ (Cond.static y).before args s = true
theorem vx_cwSW {own : String} {index maxL mc ms : Nat} {y : MethodName} {bytes : ByteArray} {ret : Option FieldType} {hh : List (Nat × Nat × Nat × Nat)} {Ts ws ws' : List Cond} {rm : Room} (n : Nat) (ht : ∀ w ∈ Ts, w.before args s = true) (hT : GoodIn Ts (va_wsS own index y ws)) (hw : ws = Cond.codeWith y bytes maxL ret hh :: ws') (hrc : rm.cells = mc) (hrs : rm.slots = ms)
    (hd : y.cls ≠ "java/lang/invoke/MethodHandle" ∧ y.cls ≠ "java/lang/invoke/VarHandle" ∧ (parseMethodDescriptor y.desc).map (fun d => d.parameters.length) = some n) (hR : rm.frames + 1 ≤ R.frames ∧ 8 + (maxL + 11) + rm.locals ≤ R.locals) :
    vx_CSW R s args own index y bytes maxL ret hh ws rm mc ms n := by
  have ok : ∀ w ∈ va_wsS own index y ws, w.before args s = true := fun w h => ht w (hT w h).1
  have hG : GoodIn Ts ws := fun w h => hT w (by unfold va_wsS; exact List.mem_append_right _ h)
  have hc : Cond.codeWith y bytes maxL ret hh ∈ ws := by rw [hw]; exact List.mem_cons_self
  refine ⟨⟨hrc, hrs, hR.1, hR.2, pay_in ht hG, hc⟩, ht _ (hG _ hc).1, ok _ (by simp [va_wsS]), ⟨hd.1, hd.2.1⟩, fun sig h => ?_, ok _ (by simp [va_wsS]), ok _ (by simp [va_wsS])⟩
  have h2 := hd.2.2
  rw [h] at h2
  exact (Option.some.inj h2).symm
theorem vx_callSW (X : Stand p l e R s m args below meth c T locs cells slots) (hexec : p.tables.exec = Jvm.exec) {own : String} {index : Nat} {y : MethodName} {bytes : ByteArray} {maxL : Nat} {ret : Option FieldType} {hh : List (Nat × Nat × Nat × Nat)}
    (hown : s.vm.findClass own = some m.cls) (hlink : (Cond.methodLink own index y).before args s = true) (hstat : (Cond.static y).before args s = true) (hinit : (Cond.initialized y.cls).before args s = true)
    (hcode : (Cond.codeWith y bytes maxL ret hh).before args s = true) (hy : y.cls ≠ "java/lang/invoke/MethodHandle" ∧ y.cls ≠ "java/lang/invoke/VarHandle")
    {W9 : Nat} {Pre : Pt → Array Value → Prop} {Post : Pt → Array Value → Option Value → Pt → Prop} (hK : Back l R p e below s args y 3 W9 Pre Post)
    {g : JFrame} (hg : g.method = m) (hsize : g.locals.size = c.maxLocals) {argsL rest : List Value} (hlen : ∀ sig, parseMethodDescriptor y.desc = some sig → argsL.length = sig.parameters.length)
    (hstack : g.stack = argsL.reverse ++ rest) (hW : 2 * g.monitorRoom + (rest.map fun v => v.category).sum ≤ W9) (hdg : decode c.code g.pc = .ok (.invokestatic index, 3))
    (hpre : ∀ vm₁, s.WarmedH vm₁ → Pre ⟨T.setVm vm₁, locs, cells, slots⟩ argsL.toArray) :
    ∃ (v : Option Value) (vm₁ : Vm) (B : Pt), s.WarmedH vm₁ ∧ Stand p l e R s m args below meth c B.U B.locs B.cells B.slots ∧ Post ⟨T.setVm vm₁, locs, cells, slots⟩ argsL.toArray v B ∧
      ∀ target, Steps p.tables e below (B.U.setTop { g with pc := g.pc + 3, stack := v.toList ++ rest }) target → Steps p.tables e below (T.setTop g) target := by
  obtain ⟨mk, methM, cM, hnamed, hmethM, -, -, -, -, -, -, hsigM⟩ := Cond.codeWith_spec hcode
  have hstatic : methM.isStatic = true := Cond.static_spec hnamed hmethM hstat
  obtain ⟨kP, hkP, -⟩ := className_of_methodNamed hnamed
  have hinitP : kP.init = .initialized := Cond.initialized_spec (findClass_of_methodNamed hnamed) hkP hinit
  obtain ⟨vm₁, X₁, hstep₁⟩ := X.invokestatic hexec hown hlink hnamed hmethM hstatic hkP hinitP hy (g := g) hg (argsL := argsL) (rest := rest) (hlen _ hsigM) hstack hdg
  obtain ⟨v, B, X', hpost, hsteps⟩ := hK m meth c ⟨T.setVm vm₁, locs, cells, slots⟩ { g with stack := rest } (.invokestatic index) mk argsL.toArray X₁ hg hsize hdg hW (X₁.named hnamed) (hpre vm₁ X₁.warmed)
  exact ⟨v, vm₁, B, X₁.warmed, X', hpost, fun target h => hstep₁ _ fun acts => by rw [doInvoke_state]; exact hsteps.trans h⟩
theorem vx_runSW {y : MethodName} {bytes cc : ByteArray} {maxL nL mc ms n index : Nat} {ret : Option FieldType} {hh : List (Nat × Nat × Nat × Nat)} {ws : List Cond} {rm : Room} {Pc : Array Value → State → Prop} {Qc : Array Value → State → Outcome → State → Prop} {free : Addr → Prop} {Ts : List Cond} {own : String} {As rest : List Value} {g : JFrame}
    (S : CallFix p m c cc nL s args Ts own) (hM : Met l y ws rm Pc Qc mc ms free) (cw : vx_CSW R s args own index y bytes maxL ret hh ws rm mc ms n) (hp : PreS s H Pc As)
    (hg : g.method = m) (hn : As.length = n) (hsize : g.locals.size = nL) (hstack : g.stack = As.reverse ++ rest) (hW : 2 * g.monitorRoom + (rest.map fun v => v.category).sum ≤ 8) (hdg : decode cc g.pc = .ok (.invokestatic index, 3)) (hf : cells + mc ≤ R.cells ∧ slots + ms ≤ R.slots) :
    va_Run p l e R s m args below meth c H locs cells slots mc ms g rest (Qc As.toArray) (free) := by
  obtain ⟨⟨hrc, hrs, hfr, hlo, hws, hcw⟩, hcode, hini, hy, hlen, hl, hstt⟩ := cw
  have hK : Back l R p e below s args y 3 8 (PreOf R mc ms Pc) (PostOf Qc mc ms free) := va_backW (hh := hh) (bytes := bytes) (maxL := maxL) (ret := ret) hM hp.1 hrc hrs hfr hlo hws hcw (fun a' U hW => word_at hW (Or.inl (by first | rfl | simp [Cond.onTables, Cond.keeps, Cond.steady])) hini)
  obtain ⟨hx, hb, hml, ho, -⟩ := S
  intro T hT X
  obtain ⟨v, vm₁, ⟨U', l2, c2, s2⟩, hW₁, X', ⟨g', mk, t, L, e1, e2, hq, h1, hL, h2, h3⟩, st⟩ := vx_callSW X hx (hh := hh) (bytes := bytes) (maxL := maxL) (ret := ret) ho hl hstt hini hcode hy hK hg (hsize.trans hml.symm) (argsL := As) (rest := rest) (fun sig h => hn.trans (hlen sig h)) hstack hW (by rw [hb]; exact hdg)
    (fun vm₁ hW₁ => ⟨hf.1, hf.2, hp.2 (T.setVm vm₁) hT hW₁⟩)
  dsimp only [Pt.U, Pt.locs, Pt.cells, Pt.slots] at X' e1 e2 h1 h2 h3 st
  subst h1; subst h2; subst h3
  exact ⟨v, (T.setVm vm₁).calling g' mk As.toArray, t, U', L, hT, X', hL, e1, e2, hq, st⟩
/-- not caught here, past rows that name other classes: it goes on to the caller -/
theorem vx_outP {p : Program} {l : Launch} {e : Env} {R : Room} {s : State} {m : MethodId} {args : Array Value} {below : List Frame} {meth : Method} {c : Code} {H : Heap} {locs : List Loc} {cells slots : Nat} {free : Addr → Prop} {ls : Array Slot} {rest : List Value} {Qc : Array Value → State → Outcome → State → Prop} {XC : String → State → State → Prop}
    {pc : Nat} {own E : String} {ce : Cell} {q : Addr} {mc ms : Nat} (hown : s.vm.findClass own = some m.cls) (hlocks : meth.locks = false)
    (hpass : ∀ z ∈ c.exceptionTable.toList, covers z pc = false ∨ (z.catchType ≠ 0 ∧ ∃ nm : String, (Cond.classLink own z.catchType nm).before args s = true ∧ va_Nc E nm s)) (hcell : H[q]? = some ce) (hv : ce.vm = .none) (hcl : s.vm.findClass E = some ce.cls)
    (hx : ∀ t : State, t.heap = H → s.vm.Alike t.vm → XC E s t) (hf : ∀ z ∈ locs, free z.base) (hc : cells ≤ mc) (hs : slots ≤ ms) :
    vx_W p l e R s m args below meth c H locs cells slots (vx_MQ below Qc XC args s mc ms free) (F0 m pc ls rest) q := by
  intro T hT X
  have hpl : e.platform.magicAccessors = ({} : Platform).magicAccessors := by rw [X.admits.platform]
  obtain ⟨vm', hW', X', st⟩ := X.outThrough hlocks q (g := F0 m pc ls rest) rfl rfl rfl (cell := ce) (by rw [hT]; exact hcell) (by rw [hv]; rfl)
    (by obtain ⟨k9, h9, -⟩ := Vm.findClass_spec hcl; exact ⟨k9, h9⟩) (fun z hz => by
      rcases hpass z hz with h | ⟨hz0, nm, hl1, hn1⟩
      · exact Or.inl h
      · obtain ⟨c6, hc6, hcl6⟩ := Cond.classLink_spec hown hl1 e.platform hpl
        obtain ⟨a8, b8, h1, h2, h3⟩ := hn1
        cases Option.some.inj (h1.symm.trans hcl)
        cases Option.some.inj (h2.symm.trans hc6)
        exact Or.inr ⟨hz0, _, hcl6, h3⟩)
  obtain ⟨g₀, hfr⟩ := X'.frames_eq
  have hcell9 : ((T.setVm vm').setFrames (.throwing q :: below)).heap[q]? = some ce := by
    show T.heap[q]? = some ce
    rw [hT]; exact hcell
  have hend : Ended ((T.setVm vm').setFrames (.throwing q :: below)) below (.threw q) := State.frames_setFrames _ (State.cur_lt_of_frames hfr)
  refine ⟨(T.setVm vm').setFrames (.throwing q :: below), ?_, .threw q, X'.here.running, hend, Or.inr ⟨q, rfl, E, ce, locs, hx _ hT (X'.ends _).1.alike, hcell9, hv, hcl, (X'.ends _).1, (X'.ends _).2.mono hc hs, hf⟩⟩
  rw [X.pushThrowing_eq]
  exact st
/-- a thing of a world lies in the heap -/
theorem vx_lt {D : va_G} {cl : List vw_C} {ws : va_W} {H1 : Heap} (h : va_P D cl ws H1) {k : Nat} {q : Nat × va_E} (hk : ws[k]? = some q) : q.1 < H1.size := (h k q hk).lt
end VXS
/-! ===== END ===== -/
/-! ===== BEGIN methods with a table of their own: called by a name, returning or throwing ===== -/
section VXH
/-! vx_backW, vx_callVX, vx_callSX, vx_callVW, vx_runVW, vx_runVX, vx_runSX, vx_ofWH follow the same proofs as their sisters above (Free/Laws.lean, Shelf42/LK1.lean); vx_outP calls Shelf42/NT130.lean (outThrough). -/
section
variable {l : Launch} {R : Room} {p : Program} {e : Env} {below : List Frame} {s : State} {sargs : Array Value} {y : MethodName} {len W9 : Nat}
theorem vx_backW {ws : List Cond} {rm : Room} {Pc : Array Value → State → Prop} {Qc : Array Value → State → Outcome → State → Prop} {XC : String → State → State → Prop} {mc ms : Nat} {free : Addr → Prop} {bytes : ByteArray} {maxL : Nat} {ret : Option FieldType} {hh : List (Nat × Nat × Nat × Nat)}
    (hM : vx_Met l y ws rm Pc Qc XC mc ms free) (hblind : FrameBlind Pc) (hrc : rm.cells = mc) (hrs : rm.slots = ms)
    (hframes : rm.frames + 1 ≤ R.frames) (hlocals : W9 + (maxL + 11) + rm.locals ≤ R.locals)
    (hws : ∀ w ∈ ws, ∀ a' U, s.WarmedH U.vm → w.before a' U = true) (hcode : Cond.codeWith y bytes maxL ret hh ∈ ws) (hinit : ∀ a' U, s.WarmedH U.vm → (Cond.initialized y.cls).before a' U = true) :
    vx_Back l R p e below s sargs y len W9 (PreOf R mc ms Pc) (PostOf Qc mc ms free) (vx_Post XC mc ms free) := by
  intro m meth c A g ig mk a X hg hsize hdg hW hn hp
  have h1 : (headSpec ws rm).pre.before a A.U = true := atoms_intro fun w hw => hws w hw _ _ X.warmed
  have h2 : (Cond.codeWith y bytes maxL ret hh).before a A.U = true := hws _ hcode _ _ X.warmed
  have h3 : (Cond.initialized y.cls).before a A.U = true := hinit _ _ X.warmed
  have h4 : A.cells + (headSpec ws rm).room.cells ≤ R.cells := by rw [show (headSpec ws rm).room.cells = mc from hrc]; exact hp.1
  have h5 : A.slots + (headSpec ws rm).room.slots ≤ R.slots := by rw [show (headSpec ws rm).room.slots = ms from hrs]; exact hp.2.1
  have hPc : Pc a (A.U.calling g mk a) := hblind _ _ _ _ hp.2.2
  obtain ⟨U, Ls, c0, s0⟩ := A
  dsimp only [Pt.U, Pt.locs, Pt.cells, Pt.slots] at h1 h2 h3 h4 h5 X hn hPc ⊢
  obtain ⟨m9, methY, cY, hn9, hmY, hcY, -, hlY, -⟩ := Cond.codeWith_spec h2
  cases Option.some.inj (hn9.symm.trans hn)
  obtain ⟨kY, hkY, -⟩ := className_of_methodNamed hn
  have hinitY : kY.init = .initialized := Cond.initialized_spec (findClass_of_methodNamed hn) hkY h3
  have h : At U g.method c below := by rw [hg]; exact X.here
  have hlocals9 : W9 + (maxL + 11) + (headSpec ws rm).room.locals ≤ R.locals := hlocals
  have happ : (headSpec ws rm).appliesLoose y e.platform (U.calling g mk a) = true :=
    Spec.appliesLoose_calling (g := g) h hdg hn hkY hinitY
      (X.room_calling (g := g) (R' := (headSpec ws rm).room) hsize hmY hcY hframes (by rw [hlY]; omega) h4 h5) h1
  obtain ⟨mid, hmid⟩ := h.above
  have hfr : (U.setTop g).frames = (.java g :: mid) ++ below := by rw [State.frames_setTop' g h.top, hmid]; rfl
  obtain ⟨o, s₂, hsteps, -, hend, hq⟩ := Steps.callFree hM p X.admits X.cas X.clock (acts := []) hfr happ hPc trivial
  have hq' : vx_Q Qc XC mc ms free a (U.calling g mk a) o s₂ := hq
  rw [State.frames_setTop' g h.top] at hend
  obtain ⟨g₀, hg0⟩ := Option.isSome_iff_exists.mp h.top
  obtain ⟨r, hr⟩ := State.topJava?_eq_some.mp hg0
  have hr' : (({ U with heap := s₂.heap, slotsUsed := s₂.slotsUsed } : State).setVm s₂.vm).frames = .java g₀ :: r := hr
  rcases hq' with ⟨hqc, L, hfe, hL⟩ | ⟨q, rfl, E, ce, L, hx, hce, hcv, hcl, hW₂, hsm, hL⟩
  · obtain ⟨⟨v, rfl⟩, hW₂, e2, q2, q3, q4, q5, q6⟩ := id hfe
    have e3 : s₂ = ({ (U.calling g mk a).setFrames s₂.frames with heap := s₂.heap, slotsUsed := s₂.slotsUsed } : State).setVm s₂.vm := by
      have : s₂ = ({ s₂ with vm := (U.calling g mk a).vm } : State).setVm s₂.vm := rfl
      rw [e2] at this
      exact this
    obtain ⟨c₂, i₂, len₂, hc₂, hd₂, hf₂⟩ := hend
    have hW' : U.WarmedH s₂.vm := hW₂
    have hcc : c₂ = c := by
      have h1 : s₂.code? g.method = U.code? g.method := by
        rw [State.code?_eq, State.code?_eq, hW'.alike.method?]
      exact Option.some.inj (hc₂.symm.trans (h1.trans h.code))
    subst hcc
    have hlen : len₂ = len := by rw [hdg] at hd₂; cases hd₂; rfl
    subst hlen
    have hs₂ : s₂ = (({ U with heap := s₂.heap, slotsUsed := s₂.slotsUsed } : State).setVm s₂.vm).setTop { g with pc := g.pc + len₂, stack := v.toList ++ g.stack } := by
      refine e3.trans ?_
      rw [hf₂, State.calling_eq h.top, State.setFrames_setFrames, State.setTop_of_frames _ hr', hr]
      rfl
    have hsame : U.sameButNew ({ U with heap := s₂.heap, slotsUsed := s₂.slotsUsed } : State) L mc ms := by
      refine ⟨?_, q2, q3, q4, q5, q6⟩
      obtain ⟨t, ht, -⟩ := State.frames_cons hr
      show ({ U with heap := s₂.heap, slotsUsed := s₂.slotsUsed } : State) = { U.setFrames U.frames with heap := s₂.heap, slotsUsed := s₂.slotsUsed }
      rw [State.setFrames_self ht]
    subst hg
    refine Or.inl ⟨v, ⟨(({ U with heap := s₂.heap, slotsUsed := s₂.slotsUsed } : State).setVm s₂.vm), Ls ++ L, c0 + mc, s0 + ms⟩,
      ⟨X.admits, X.cas, X.clock, X.frames, X.room, X.hears, X.method, X.code, (X.here.setHeapUsed s₂.heap s₂.slotsUsed).setVm hW'.alike, X.tail, State.WarmedH.trans X.warmed hW', X.limits, X.bytes, X.same.trans (hsame.setVm s.vm)⟩,
      ⟨g, mk, s₂, L, rfl, rfl, hqc, rfl, hL, rfl, rfl⟩, ?_⟩
    show Steps p.tables e below _ ((({ U with heap := s₂.heap, slotsUsed := s₂.slotsUsed } : State).setVm s₂.vm).setTop { g with pc := g.pc + len₂, stack := v.toList ++ g.stack })
    rw [← hs₂]
    exact hsteps
  · obtain ⟨e2, q2, q3, q4, q5, q6⟩ := id hsm
    have e3 : s₂ = ({ (U.calling g mk a).setFrames s₂.frames with heap := s₂.heap, slotsUsed := s₂.slotsUsed } : State).setVm s₂.vm := by
      have : s₂ = ({ s₂ with vm := (U.calling g mk a).vm } : State).setVm s₂.vm := rfl
      rw [e2] at this
      exact this
    have hf₂ : s₂.frames = .throwing q :: .java g :: U.frames.tail := hend
    have hW' : U.WarmedH s₂.vm := hW₂
    have hs₂ : s₂ = ((({ U with heap := s₂.heap, slotsUsed := s₂.slotsUsed } : State).setVm s₂.vm).setTop g).pushFrame (.throwing q) := by
      refine e3.trans ?_
      rw [hf₂, State.calling_eq h.top, State.setFrames_setFrames, State.pushFrame, State.frames_setTop _ hr', State.setTop_of_frames _ hr', State.setFrames_setFrames, hr]
      rfl
    have hsame : U.sameButNew ({ U with heap := s₂.heap, slotsUsed := s₂.slotsUsed } : State) L mc ms := by
      refine ⟨?_, q2, q3, q4, q5, q6⟩
      obtain ⟨t, ht, -⟩ := State.frames_cons hr
      show ({ U with heap := s₂.heap, slotsUsed := s₂.slotsUsed } : State) = { U.setFrames U.frames with heap := s₂.heap, slotsUsed := s₂.slotsUsed }
      rw [State.setFrames_self ht]
    subst hg
    refine Or.inr ⟨q, ⟨(({ U with heap := s₂.heap, slotsUsed := s₂.slotsUsed } : State).setVm s₂.vm), Ls ++ L, c0 + mc, s0 + ms⟩,
      ⟨X.admits, X.cas, X.clock, X.frames, X.room, X.hears, X.method, X.code, (X.here.setHeapUsed s₂.heap s₂.slotsUsed).setVm hW'.alike, X.tail, State.WarmedH.trans X.warmed hW', X.limits, X.bytes, X.same.trans (hsame.setVm s.vm)⟩,
      ⟨g, mk, s₂, L, E, ce, rfl, rfl, hx, hce, hcv, hcl, rfl, hL, rfl, rfl⟩, ?_⟩
    show Steps p.tables e below _ (((({ U with heap := s₂.heap, slotsUsed := s₂.slotsUsed } : State).setVm s₂.vm).setTop g).pushFrame (.throwing q))
    rw [← hs₂]
    exact hsteps
end
variable {p : Program} {l : Launch} {e : Env} {R : Room} {s : State} {m : MethodId} {args : Array Value} {below : List Frame} {meth : Method} {c : Code} {T : State} {H : Heap} {locs : List Loc} {cells slots : Nat}
theorem vx_callVX (X : Stand p l e R s m args below meth c T locs cells slots) (hexec : p.tables.exec = Jvm.exec) {own C : String} {index : Nat} {y : MethodName} {bytes : ByteArray} {maxL : Nat} {ret : Option FieldType} {hh : List (Nat × Nat × Nat × Nat)}
    (hown : s.vm.findClass own = some m.cls) (hlink : (Cond.methodLink own index y).before args s = true) (hinst : (Cond.instanceMethod y).before args s = true) (hsel : (Cond.selects C y y).before args s = true)
    (hcode : (Cond.codeWith y bytes maxL ret hh).before args s = true) (hy : y.cls ≠ "java/lang/invoke/MethodHandle" ∧ y.cls ≠ "java/lang/invoke/VarHandle")
    {W9 : Nat} {Pre : Pt → Array Value → Prop} {Post : Pt → Array Value → Option Value → Pt → Prop} {PostX : Pt → Array Value → Addr → Pt → Prop} (hK : vx_Back l R p e below s args y 3 W9 Pre Post PostX)
    {b : Addr} {cellB : Cell} (hcell : T.heap[b]? = some cellB) (hobj : cellB.vm.isStatics = false) (hcls : s.vm.findClass C = some cellB.cls)
    {g : JFrame} (hg : g.method = m) (hsize : g.locals.size = c.maxLocals) {argsL rest : List Value} (hlen : ∀ sig, parseMethodDescriptor y.desc = some sig → argsL.length = sig.parameters.length)
    (hstack : g.stack = argsL.reverse ++ .ref b :: rest) (hW : 2 * g.monitorRoom + (rest.map fun v => v.category).sum ≤ W9) (hdg : decode c.code g.pc = .ok (.invokevirtual index, 3))
    (hpre : ∀ vm₁, s.WarmedH vm₁ → Pre ⟨T.setVm vm₁, locs, cells, slots⟩ (Value.ref b :: argsL).toArray) :
    (∃ (v : Option Value) (vm₁ : Vm) (B : Pt), s.WarmedH vm₁ ∧ Stand p l e R s m args below meth c B.U B.locs B.cells B.slots ∧ Post ⟨T.setVm vm₁, locs, cells, slots⟩ (Value.ref b :: argsL).toArray v B ∧
      ∀ target, Steps p.tables e below (B.U.setTop { g with pc := g.pc + 3, stack := v.toList ++ rest }) target → Steps p.tables e below (T.setTop g) target) ∨
    (∃ (q : Addr) (vm₁ : Vm) (B : Pt), s.WarmedH vm₁ ∧ Stand p l e R s m args below meth c B.U B.locs B.cells B.slots ∧ PostX ⟨T.setVm vm₁, locs, cells, slots⟩ (Value.ref b :: argsL).toArray q B ∧
      Steps p.tables e below (T.setTop g) ((B.U.setTop { g with stack := rest }).pushFrame (.throwing q))) := by
  obtain ⟨mk, methM, hnamed, hmethM, hstM, habM⟩ := Cond.instanceMethod_spec hinst
  obtain ⟨m8, methM', cM, hn8, hmethM', -, -, -, -, -, -, hsigM⟩ := Cond.codeWith_spec hcode
  cases Option.some.inj (hn8.symm.trans hnamed)
  cases hmethM.symm.trans hmethM'
  obtain ⟨c2, r2, m2, q1, q2, q3, q4, kP, hkP, hkPi⟩ := Cond.selects_spec hsel
  cases hcls.symm.trans q1
  cases (State.methodFound?_of_named hnamed hy).symm.trans q2
  cases hnamed.symm.trans q3
  have hselP : selectMethod e.platform s.vm cellB.cls mk = .method mk := by rw [Launch.admits_selectMethod X.admits]; exact q4
  obtain ⟨vm₁, X₁, hstep₁⟩ := X.invokevirtual hexec hown hlink hnamed hmethM hstM hkP hkPi hy (a := b) (cell := cellB) hcell
    (fun z h => by rw [h] at hobj; cases hobj) hselP hmethM habM hkP hkPi (g := g) hg (argsL := argsL) (rest := rest) (hlen _ hsigM) hstack hdg
  rcases hK m meth c ⟨T.setVm vm₁, locs, cells, slots⟩ { g with stack := rest } (.invokevirtual index) mk (Value.ref b :: argsL).toArray X₁ hg hsize hdg hW (X₁.named hnamed) (hpre vm₁ X₁.warmed) with ⟨v, B, X', hpost, hsteps⟩ | ⟨q, B, X', hpost, hsteps⟩
  · exact Or.inl ⟨v, vm₁, B, X₁.warmed, X', hpost, fun target h => hstep₁ _ fun acts => by rw [doInvoke_state]; exact hsteps.trans h⟩
  · exact Or.inr ⟨q, vm₁, B, X₁.warmed, X', hpost, hstep₁ _ fun acts => by rw [doInvoke_state]; exact hsteps⟩
theorem vx_callSX (X : Stand p l e R s m args below meth c T locs cells slots) (hexec : p.tables.exec = Jvm.exec) {own : String} {index : Nat} {y : MethodName} {bytes : ByteArray} {maxL : Nat} {ret : Option FieldType} {hh : List (Nat × Nat × Nat × Nat)}
    (hown : s.vm.findClass own = some m.cls) (hlink : (Cond.methodLink own index y).before args s = true) (hstat : (Cond.static y).before args s = true) (hinit : (Cond.initialized y.cls).before args s = true)
    (hcode : (Cond.codeWith y bytes maxL ret hh).before args s = true) (hy : y.cls ≠ "java/lang/invoke/MethodHandle" ∧ y.cls ≠ "java/lang/invoke/VarHandle")
    {W9 : Nat} {Pre : Pt → Array Value → Prop} {Post : Pt → Array Value → Option Value → Pt → Prop} {PostX : Pt → Array Value → Addr → Pt → Prop} (hK : vx_Back l R p e below s args y 3 W9 Pre Post PostX)
    {g : JFrame} (hg : g.method = m) (hsize : g.locals.size = c.maxLocals) {argsL rest : List Value} (hlen : ∀ sig, parseMethodDescriptor y.desc = some sig → argsL.length = sig.parameters.length)
    (hstack : g.stack = argsL.reverse ++ rest) (hW : 2 * g.monitorRoom + (rest.map fun v => v.category).sum ≤ W9) (hdg : decode c.code g.pc = .ok (.invokestatic index, 3))
    (hpre : ∀ vm₁, s.WarmedH vm₁ → Pre ⟨T.setVm vm₁, locs, cells, slots⟩ argsL.toArray) :
    (∃ (v : Option Value) (vm₁ : Vm) (B : Pt), s.WarmedH vm₁ ∧ Stand p l e R s m args below meth c B.U B.locs B.cells B.slots ∧ Post ⟨T.setVm vm₁, locs, cells, slots⟩ argsL.toArray v B ∧
      ∀ target, Steps p.tables e below (B.U.setTop { g with pc := g.pc + 3, stack := v.toList ++ rest }) target → Steps p.tables e below (T.setTop g) target) ∨
    (∃ (q : Addr) (vm₁ : Vm) (B : Pt), s.WarmedH vm₁ ∧ Stand p l e R s m args below meth c B.U B.locs B.cells B.slots ∧ PostX ⟨T.setVm vm₁, locs, cells, slots⟩ argsL.toArray q B ∧
      Steps p.tables e below (T.setTop g) ((B.U.setTop { g with stack := rest }).pushFrame (.throwing q))) := by
  obtain ⟨mk, methM, cM, hnamed, hmethM, -, -, -, -, -, -, hsigM⟩ := Cond.codeWith_spec hcode
  have hstatic : methM.isStatic = true := Cond.static_spec hnamed hmethM hstat
  obtain ⟨kP, hkP, -⟩ := className_of_methodNamed hnamed
  have hinitP : kP.init = .initialized := Cond.initialized_spec (findClass_of_methodNamed hnamed) hkP hinit
  obtain ⟨vm₁, X₁, hstep₁⟩ := X.invokestatic hexec hown hlink hnamed hmethM hstatic hkP hinitP hy (g := g) hg (argsL := argsL) (rest := rest) (hlen _ hsigM) hstack hdg
  rcases hK m meth c ⟨T.setVm vm₁, locs, cells, slots⟩ { g with stack := rest } (.invokestatic index) mk argsL.toArray X₁ hg hsize hdg hW (X₁.named hnamed) (hpre vm₁ X₁.warmed) with ⟨v, B, X', hpost, hsteps⟩ | ⟨q, B, X', hpost, hsteps⟩
  · exact Or.inl ⟨v, vm₁, B, X₁.warmed, X', hpost, fun target h => hstep₁ _ fun acts => by rw [doInvoke_state]; exact hsteps.trans h⟩
  · exact Or.inr ⟨q, vm₁, B, X₁.warmed, X', hpost, hstep₁ _ fun acts => by rw [doInvoke_state]; exact hsteps⟩
theorem vx_callVW (X : Stand p l e R s m args below meth c T locs cells slots) (hexec : p.tables.exec = Jvm.exec) {own C : String} {index : Nat} {y : MethodName} {bytes : ByteArray} {maxL : Nat} {ret : Option FieldType} {hh : List (Nat × Nat × Nat × Nat)}
    (hown : s.vm.findClass own = some m.cls) (hlink : (Cond.methodLink own index y).before args s = true) (hinst : (Cond.instanceMethod y).before args s = true) (hsel : (Cond.selects C y y).before args s = true)
    (hcode : (Cond.codeWith y bytes maxL ret hh).before args s = true) (hy : y.cls ≠ "java/lang/invoke/MethodHandle" ∧ y.cls ≠ "java/lang/invoke/VarHandle")
    {W9 : Nat} {Pre : Pt → Array Value → Prop} {Post : Pt → Array Value → Option Value → Pt → Prop} (hK : Back l R p e below s args y 3 W9 Pre Post)
    {b : Addr} {cellB : Cell} (hcell : T.heap[b]? = some cellB) (hobj : cellB.vm.isStatics = false) (hcls : s.vm.findClass C = some cellB.cls)
    {g : JFrame} (hg : g.method = m) (hsize : g.locals.size = c.maxLocals) {argsL rest : List Value} (hlen : ∀ sig, parseMethodDescriptor y.desc = some sig → argsL.length = sig.parameters.length)
    (hstack : g.stack = argsL.reverse ++ .ref b :: rest) (hW : 2 * g.monitorRoom + (rest.map fun v => v.category).sum ≤ W9) (hdg : decode c.code g.pc = .ok (.invokevirtual index, 3))
    (hpre : ∀ vm₁, s.WarmedH vm₁ → Pre ⟨T.setVm vm₁, locs, cells, slots⟩ (Value.ref b :: argsL).toArray) :
    ∃ (v : Option Value) (vm₁ : Vm) (B : Pt), s.WarmedH vm₁ ∧ Stand p l e R s m args below meth c B.U B.locs B.cells B.slots ∧ Post ⟨T.setVm vm₁, locs, cells, slots⟩ (Value.ref b :: argsL).toArray v B ∧
      ∀ target, Steps p.tables e below (B.U.setTop { g with pc := g.pc + 3, stack := v.toList ++ rest }) target → Steps p.tables e below (T.setTop g) target := by
  obtain ⟨mk, methM, hnamed, hmethM, hstM, habM⟩ := Cond.instanceMethod_spec hinst
  obtain ⟨m8, methM', cM, hn8, hmethM', -, -, -, -, -, -, hsigM⟩ := Cond.codeWith_spec hcode
  cases Option.some.inj (hn8.symm.trans hnamed)
  cases hmethM.symm.trans hmethM'
  obtain ⟨c2, r2, m2, q1, q2, q3, q4, kP, hkP, hkPi⟩ := Cond.selects_spec hsel
  cases hcls.symm.trans q1
  cases (State.methodFound?_of_named hnamed hy).symm.trans q2
  cases hnamed.symm.trans q3
  have hselP : selectMethod e.platform s.vm cellB.cls mk = .method mk := by rw [Launch.admits_selectMethod X.admits]; exact q4
  obtain ⟨vm₁, X₁, hstep₁⟩ := X.invokevirtual hexec hown hlink hnamed hmethM hstM hkP hkPi hy (a := b) (cell := cellB) hcell
    (fun z h => by rw [h] at hobj; cases hobj) hselP hmethM habM hkP hkPi (g := g) hg (argsL := argsL) (rest := rest) (hlen _ hsigM) hstack hdg
  obtain ⟨v, B, X', hpost, hsteps⟩ := hK m meth c ⟨T.setVm vm₁, locs, cells, slots⟩ { g with stack := rest } (.invokevirtual index) mk (Value.ref b :: argsL).toArray X₁ hg hsize hdg hW (X₁.named hnamed) (hpre vm₁ X₁.warmed)
  exact ⟨v, vm₁, B, X₁.warmed, X', hpost, fun target h => hstep₁ _ fun acts => by rw [doInvoke_state]; exact hsteps.trans h⟩
abbrev vx_CVW (R : Room) (s : State) (args : Array Value) (own C : String) (index : Nat) (y : MethodName) (bytes : ByteArray) (maxL : Nat) (ret : Option FieldType) (hh : List (Nat × Nat × Nat × Nat)) (ws : List Cond) (rm : Room) (mc ms n : Nat) : Prop :=
  (rm.cells = mc ∧ rm.slots = ms ∧ rm.frames + 1 ≤ R.frames ∧ 8 + (maxL + 11) + rm.locals ≤ R.locals ∧ (∀ w ∈ ws, ∀ (a' : Array Value) (U : State), s.WarmedH U.vm → w.before a' U = true) ∧ Cond.codeWith y bytes maxL ret hh ∈ ws) ∧
  (Cond.codeWith y bytes maxL ret hh).before args s = true ∧ (Cond.initialized y.cls).before args s = true ∧ (y.cls ≠ "java/lang/invoke/MethodHandle" ∧ y.cls ≠ "java/lang/invoke/VarHandle") ∧
  (∀ sig, parseMethodDescriptor y.desc = some sig → n = sig.parameters.length) ∧ (Cond.methodLink own index y).before args s = true ∧ (Cond.instanceMethod y).before args s = true ∧ (Cond.selects C y y).before args s = true
theorem vx_cwVW {own C : String} {index maxL mc ms : Nat} {y : MethodName} {bytes : ByteArray} {ret : Option FieldType} {hh : List (Nat × Nat × Nat × Nat)} {Ts ws ws' : List Cond} {rm : Room} (n : Nat) (ht : ∀ w ∈ Ts, w.before args s = true) (hT : GoodIn Ts (wsV own index C y ws)) (hw : ws = Cond.codeWith y bytes maxL ret hh :: ws') (hrc : rm.cells = mc) (hrs : rm.slots = ms)
    (hd : y.cls = C ∧ y.cls ≠ "java/lang/invoke/MethodHandle" ∧ y.cls ≠ "java/lang/invoke/VarHandle" ∧ (parseMethodDescriptor y.desc).map (fun d => d.parameters.length) = some n) (hR : rm.frames + 1 ≤ R.frames ∧ 8 + (maxL + 11) + rm.locals ≤ R.locals) :
    vx_CVW R s args own C index y bytes maxL ret hh ws rm mc ms n := by
  obtain ⟨hC, hd⟩ := hd
  subst hC
  have ok : ∀ w ∈ wsV own index y.cls y ws, w.before args s = true := fun w h => ht w (hT w h).1
  have hG : GoodIn Ts ws := fun w h => hT w (by unfold wsV; exact List.mem_append_right _ h)
  have hc : Cond.codeWith y bytes maxL ret hh ∈ ws := by rw [hw]; exact List.mem_cons_self
  refine ⟨⟨hrc, hrs, hR.1, hR.2, pay_in ht hG, hc⟩, ht _ (hG _ hc).1, ok _ (by simp [wsV]), ⟨hd.1, hd.2.1⟩, fun sig h => ?_, ok _ (by simp [wsV]), ok _ (by simp [wsV]), ok _ (by simp [wsV])⟩
  have h2 := hd.2.2
  rw [h] at h2
  exact (Option.some.inj h2).symm
theorem vx_runVW {y : MethodName} {bytes cc : ByteArray} {maxL nL mc ms n index : Nat} {ret : Option FieldType} {hh : List (Nat × Nat × Nat × Nat)} {ws : List Cond} {rm : Room} {Pc : Array Value → State → Prop} {Qc : Array Value → State → Outcome → State → Prop} {free : Addr → Prop} {Ts : List Cond} {own C : String} {b : Addr} {As rest : List Value} {g : JFrame}
    (S : CallFix p m c cc nL s args Ts own) (hM : Met l y ws rm Pc Qc mc ms free) (cw : vx_CVW R s args own C index y bytes maxL ret hh ws rm mc ms n) (hp : PreV s H C b Pc As)
    (hg : g.method = m) (hn : As.length = n) (hsize : g.locals.size = nL) (hstack : g.stack = As.reverse ++ .ref b :: rest) (hW : 2 * g.monitorRoom + (rest.map fun v => v.category).sum ≤ 8) (hdg : decode cc g.pc = .ok (.invokevirtual index, 3)) (hf : cells + mc ≤ R.cells ∧ slots + ms ≤ R.slots) :
    va_Run p l e R s m args below meth c H locs cells slots mc ms g rest (Qc (Value.ref b :: As).toArray) free := by
  obtain ⟨⟨hrc, hrs, hfr, hlo, hws, hcw⟩, hcode, hini, hy, hlen, hl, hin, hse⟩ := cw
  have hK : Back l R p e below s args y 3 8 (PreOf R mc ms Pc) (PostOf Qc mc ms free) := va_backW (hh := hh) (bytes := bytes) (maxL := maxL) (ret := ret) hM hp.1 hrc hrs hfr hlo hws hcw (fun a' U hW => word_at hW (Or.inl (by first | rfl | simp [Cond.onTables, Cond.keeps, Cond.steady])) hini)
  obtain ⟨hx, hb, hml, ho, -⟩ := S
  obtain ⟨-, ⟨cellB, hcB, hoB, hclB⟩, hPc⟩ := hp
  intro T hT X
  obtain ⟨v, vm₁, ⟨U', l2, c2, s2⟩, hW₁, X', ⟨g', mk, t, L, e1, e2, hq, h1, hL, h2, h3⟩, st⟩ := vx_callVW X hx (C := C) (hh := hh) (bytes := bytes) (maxL := maxL) (ret := ret) ho hl hin hse hcode hy hK (by rw [hT]; exact hcB) hoB hclB hg (hsize.trans hml.symm) (argsL := As) (rest := rest) (fun sig h => hn.trans (hlen sig h)) hstack hW (by rw [hb]; exact hdg)
    (fun vm₁ hW₁ => ⟨hf.1, hf.2, hPc (T.setVm vm₁) hT hW₁⟩)
  dsimp only [Pt.U, Pt.locs, Pt.cells, Pt.slots] at X' e1 e2 h1 h2 h3 st
  subst h1; subst h2; subst h3
  exact ⟨v, (T.setVm vm₁).calling g' mk (Value.ref b :: As).toArray, t, U', L, hT, X', hL, e1, e2, hq, st⟩
section
variable {y : MethodName} {bytes cc : ByteArray} {maxL nL mc ms n index : Nat} {ret : Option FieldType} {ws : List Cond} {rm : Room} {Pc : Array Value → State → Prop} {Qc : Array Value → State → Outcome → State → Prop} {XC : String → State → State → Prop} {free : Addr → Prop} {Ts : List Cond} {own C : String} {b : Addr} {As rest : List Value} {g : JFrame}
theorem vx_runVX {hh : List (Nat × Nat × Nat × Nat)} (S : CallFix p m c cc nL s args Ts own) (hM : vx_Met l y ws rm Pc Qc XC mc ms free) (cw : vx_CVW R s args own C index y bytes maxL ret hh ws rm mc ms n) (hp : PreV s H C b Pc As)
    (hg : g.method = m) (hn : As.length = n) (hsize : g.locals.size = nL) (hstack : g.stack = As.reverse ++ .ref b :: rest) (hW : 2 * g.monitorRoom + (rest.map fun v => v.category).sum ≤ 8) (hdg : decode cc g.pc = .ok (.invokevirtual index, 3)) (hf : cells + mc ≤ R.cells ∧ slots + ms ≤ R.slots) :
    vx_Run p l e R s m args below meth c H locs cells slots mc ms g rest (Qc (Value.ref b :: As).toArray) XC free := by
  obtain ⟨⟨hrc, hrs, hfr, hlo, hws, hcw⟩, hcode, hini, hy, hlen, hl, hin, hse⟩ := cw
  have hK : vx_Back l R p e below s args y 3 8 (PreOf R mc ms Pc) (PostOf Qc mc ms free) (vx_Post XC mc ms free) := vx_backW (hh := hh) (bytes := bytes) (maxL := maxL) (ret := ret) hM hp.1 hrc hrs hfr hlo hws hcw (fun a' U hW => word_at hW (Or.inl (by first | rfl | simp [Cond.onTables, Cond.keeps, Cond.steady])) hini)
  obtain ⟨hx, hb, hml, ho, -⟩ := S
  obtain ⟨-, ⟨cellB, hcB, hoB, hclB⟩, hPc⟩ := hp
  intro T hT X
  rcases vx_callVX X hx (C := C) (hh := hh) (bytes := bytes) (maxL := maxL) (ret := ret) ho hl hin hse hcode hy hK (by rw [hT]; exact hcB) hoB hclB hg (hsize.trans hml.symm) (argsL := As) (rest := rest) (fun sig h => hn.trans (hlen sig h)) hstack hW (by rw [hb]; exact hdg)
    (fun vm₁ hW₁ => ⟨hf.1, hf.2, hPc (T.setVm vm₁) hT hW₁⟩) with ⟨v, vm₁, ⟨U', l2, c2, s2⟩, hW₁, X', ⟨g', mk, t, L, e1, e2, hq, h1, hL, h2, h3⟩, st⟩ | ⟨q, vm₁, ⟨U', l2, c2, s2⟩, hW₁, X', ⟨g', mk, t, L, E, ce, e1, e2, hq, hce, hcv, hcl, h1, hL, h2, h3⟩, st⟩
  · dsimp only [Pt.U, Pt.locs, Pt.cells, Pt.slots] at X' e1 e2 h1 h2 h3 st
    subst h1; subst h2; subst h3
    exact Or.inl ⟨v, (T.setVm vm₁).calling g' mk (Value.ref b :: As).toArray, t, U', L, hT, X', hL, e1, e2, hq, st⟩
  · dsimp only [Pt.U, Pt.locs, Pt.cells, Pt.slots] at X' e1 e2 h1 h2 h3 st hcl
    subst h1; subst h2; subst h3
    exact Or.inr ⟨q, (T.setVm vm₁).calling g' mk (Value.ref b :: As).toArray, t, U', L, E, ce, hT, X', hL, e1, e2, hq, hce, hcv, vx_cls hW₁ hcl, st⟩
theorem vx_runSX {hh : List (Nat × Nat × Nat × Nat)} (S : CallFix p m c cc nL s args Ts own) (hM : vx_Met l y ws rm Pc Qc XC mc ms free) (cw : vx_CSW R s args own index y bytes maxL ret hh ws rm mc ms n) (hp : PreS s H Pc As)
    (hg : g.method = m) (hn : As.length = n) (hsize : g.locals.size = nL) (hstack : g.stack = As.reverse ++ rest) (hW : 2 * g.monitorRoom + (rest.map fun v => v.category).sum ≤ 8) (hdg : decode cc g.pc = .ok (.invokestatic index, 3)) (hf : cells + mc ≤ R.cells ∧ slots + ms ≤ R.slots) :
    vx_Run p l e R s m args below meth c H locs cells slots mc ms g rest (Qc As.toArray) XC free := by
  obtain ⟨⟨hrc, hrs, hfr, hlo, hws, hcw⟩, hcode, hini, hy, hlen, hl, hstt⟩ := cw
  have hK : vx_Back l R p e below s args y 3 8 (PreOf R mc ms Pc) (PostOf Qc mc ms free) (vx_Post XC mc ms free) := vx_backW (hh := hh) (bytes := bytes) (maxL := maxL) (ret := ret) hM hp.1 hrc hrs hfr hlo hws hcw (fun a' U hW => word_at hW (Or.inl (by first | rfl | simp [Cond.onTables, Cond.keeps, Cond.steady])) hini)
  obtain ⟨hx, hb, hml, ho, -⟩ := S
  intro T hT X
  rcases vx_callSX X hx (hh := hh) (bytes := bytes) (maxL := maxL) (ret := ret) ho hl hstt hini hcode hy hK hg (hsize.trans hml.symm) (argsL := As) (rest := rest) (fun sig h => hn.trans (hlen sig h)) hstack hW (by rw [hb]; exact hdg)
    (fun vm₁ hW₁ => ⟨hf.1, hf.2, hp.2 (T.setVm vm₁) hT hW₁⟩) with ⟨v, vm₁, ⟨U', l2, c2, s2⟩, hW₁, X', ⟨g', mk, t, L, e1, e2, hq, h1, hL, h2, h3⟩, st⟩ | ⟨q, vm₁, ⟨U', l2, c2, s2⟩, hW₁, X', ⟨g', mk, t, L, E, ce, e1, e2, hq, hce, hcv, hcl, h1, hL, h2, h3⟩, st⟩
  · dsimp only [Pt.U, Pt.locs, Pt.cells, Pt.slots] at X' e1 e2 h1 h2 h3 st
    subst h1; subst h2; subst h3
    exact Or.inl ⟨v, (T.setVm vm₁).calling g' mk As.toArray, t, U', L, hT, X', hL, e1, e2, hq, st⟩
  · dsimp only [Pt.U, Pt.locs, Pt.cells, Pt.slots] at X' e1 e2 h1 h2 h3 st hcl
    subst h1; subst h2; subst h3
    exact Or.inr ⟨q, (T.setVm vm₁).calling g' mk As.toArray, t, U', L, E, ce, hT, X', hL, e1, e2, hq, hce, hcv, vx_cls hW₁ hcl, st⟩
end
end VXH
theorem vx_ofWH {l : Launch} {y : MethodName} {ws ws' : List Cond} {rm : Room} {Pc : Array Value → State → Prop} {Qc : Array Value → State → Outcome → State → Prop} {XC : String → State → State → Prop} {mc ms : Nat} {free : Addr → Prop} {cc : ByteArray} {maxL : Nat} {ret : Option FieldType} {hh : List (Nat × Nat × Nat × Nat)}
    (hy : plainName y.cls = true) (hw : ws = Cond.codeWith y cc maxL ret hh :: ws')
    (body : ∀ p e s m args below meth c s₁, BodyLoose p l y (headSpec ws rm) cc maxL ret e s m args below meth c s₁ → c.maxLocals = maxL → Pc args s →
      W p l e (headSpec ws rm).room s m args below meth c s.heap [] 0 0 (vx_MQ below Qc XC args s mc ms free) (entryFrame m args maxL)) : vx_Met l y ws rm Pc Qc XC mc ms free := by
  refine MetFree.of_bodyS (code := cc) (maxLocals := maxL) (ret := ret) hy ?_ ?_
  · intro args s m h hn
    obtain ⟨m9, meth, c, hn9, h1, h2, h3, h4, -, h5, h6, -⟩ := Cond.codeWith_spec (atoms_spec (ws := ws) h _ (by rw [hw]; exact List.mem_cons_self))
    cases hn.symm.trans hn9
    exact ⟨meth, c, h1, h2, h3, h4, h5, h6⟩
  · intro p e s m args below meth c s₁ B hml hP _
    have hh0 : s₁.heap = s.heap := by rw [B.state]; rfl
    obtain ⟨t, a1, o, b1, b2, b3⟩ := body p e s m args below meth c s₁ B hml hP s₁ hh0 (Stand.of_body B)
    exact ⟨t, o, a1, b1, b2, b3⟩
/-! ===== END ===== -/
/-! ===== BEGIN a constructor that throws (launches without stack traces) ===== -/
section VXIA
variable {p : Program} {l : Launch} {e : Env} {R : Room} {s : State} {m : MethodId} {args : Array Value} {below : List Frame} {meth : Method} {c : Code} {T : State} {locs : List Loc} {cells slots : Nat}
theorem vx_callI (X : Stand p l e R s m args below meth c T locs cells slots) (hexec : p.tables.exec = Jvm.exec) {own : String} {index : Nat} {y : MethodName} {bytes : ByteArray} {maxL : Nat}
    (hown : s.vm.findClass own = some m.cls) (hy1 : y.name = "<init>") (hlink : (Cond.methodLink own index y).before args s = true) (hinst : (Cond.instanceMethod y).before args s = true)
    (hcode : (Cond.code y bytes maxL none).before args s = true) (hy : y.cls ≠ "java/lang/invoke/MethodHandle" ∧ y.cls ≠ "java/lang/invoke/VarHandle")
    {W9 : Nat} {Pre : Pt → Array Value → Prop} {Post : Pt → Array Value → Option Value → Pt → Prop} {PostX : Pt → Array Value → Addr → Pt → Prop} (hK : vx_Back l R p e below s args y 3 W9 Pre Post PostX)
    {g : JFrame} (hg : g.method = m) (hsize : g.locals.size = c.maxLocals) {a : Addr} {argsL rest : List Value} (hlen : ∀ sig, parseMethodDescriptor y.desc = some sig → argsL.length = sig.parameters.length)
    (hstack : g.stack = argsL.reverse ++ .ref a :: rest) (hW : 2 * g.monitorRoom + (rest.map fun v => v.category).sum ≤ W9) (hdg : decode c.code g.pc = .ok (.invokespecial index, 3))
    (hpre : ∀ vm₁, s.WarmedH vm₁ → Pre ⟨T.setVm vm₁, locs, cells, slots⟩ (Value.ref a :: argsL).toArray) :
    (∃ (v : Option Value) (vm₁ : Vm) (B : Pt), s.WarmedH vm₁ ∧ Stand p l e R s m args below meth c B.U B.locs B.cells B.slots ∧ Post ⟨T.setVm vm₁, locs, cells, slots⟩ (Value.ref a :: argsL).toArray v B ∧
      ∀ target, Steps p.tables e below (B.U.setTop { g with pc := g.pc + 3, stack := v.toList ++ rest }) target → Steps p.tables e below (T.setTop g) target) ∨
    (∃ (q : Addr) (vm₁ : Vm) (B : Pt), s.WarmedH vm₁ ∧ Stand p l e R s m args below meth c B.U B.locs B.cells B.slots ∧ PostX ⟨T.setVm vm₁, locs, cells, slots⟩ (Value.ref a :: argsL).toArray q B ∧
      Steps p.tables e below (T.setTop g) ((B.U.setTop { g with stack := rest }).pushFrame (.throwing q))) := by
  subst hg
  have hpl : e.platform.magicAccessors = ({} : Platform).magicAccessors := by rw [X.admits.platform]
  obtain ⟨mk, methM, cM, kP, vm₁, hnamed, hmethM, hcodeM, -, hlocalsM, -, hkP, -, hW₁, hstep₁⟩ := Steps.initColdArgs (e := e) X.here hexec X.warmed hpl hown hy1 hy hlink hinst hcode (f := g) rfl hlen hstack hdg
  have X₁ := X.noted hW₁
  rcases hK g.method meth c ⟨T.setVm vm₁, locs, cells, slots⟩ { g with stack := rest } (.invokespecial index) mk (Value.ref a :: argsL).toArray X₁ rfl hsize hdg hW (X₁.named hnamed) (hpre vm₁ X₁.warmed) with ⟨v, B, X', hpost, hsteps⟩ | ⟨q, B, X', hpost, hsteps⟩
  · exact Or.inl ⟨v, vm₁, B, X₁.warmed, X', hpost, fun target h => hstep₁ _ fun acts => by rw [doInvoke_state]; exact hsteps.trans h⟩
  · exact Or.inr ⟨q, vm₁, B, X₁.warmed, X', hpost, hstep₁ _ fun acts => by rw [doInvoke_state]; exact hsteps⟩
end VXIA
section VXIB
variable {p : Program} {l : Launch} {e : Env} {R : Room} {s : State} {m : MethodId} {args : Array Value} {below : List Frame} {meth : Method} {c : Code} {H : Heap} {locs : List Loc} {cells slots : Nat}
variable {y : MethodName} {bytes cc : ByteArray} {maxL nL mc ms n index : Nat} {ret : Option FieldType} {ws : List Cond} {rm : Room} {Pc : Array Value → State → Prop} {Qc : Array Value → State → Outcome → State → Prop} {XC : String → State → State → Prop} {free : Addr → Prop} {Ts : List Cond} {own C : String} {b : Addr} {As rest : List Value} {g : JFrame}
theorem vx_runI (S : CallFix p m c cc nL s args Ts own) (hM : vx_Met l y ws rm Pc Qc XC mc ms free) (cw : CallB R s args own index y bytes maxL none ws rm mc ms n ∧ y.name = "<init>" ∧ (Cond.instanceMethod y).before args s = true) (hp : PreS s H Pc (.ref b :: As))
    (hg : g.method = m) (hn : As.length = n) (hsize : g.locals.size = nL) (hstack : g.stack = As.reverse ++ .ref b :: rest) (hW : 2 * g.monitorRoom + (rest.map fun v => v.category).sum ≤ 8) (hdg : decode cc g.pc = .ok (.invokespecial index, 3)) (hf : cells + mc ≤ R.cells ∧ slots + ms ≤ R.slots) :
    vx_Run p l e R s m args below meth c H locs cells slots mc ms g rest (Qc (Value.ref b :: As).toArray) XC free := by
  have hK : vx_Back l R p e below s args y 3 8 (PreOf R mc ms Pc) (PostOf Qc mc ms free) (vx_Post XC mc ms free) := vx_callBack cw.1 hM hp.1
  obtain ⟨⟨-, -, -, -, -, -, hcode, -, hy, hlen, hl⟩, hy1, hin⟩ := cw
  obtain ⟨hx, hb, hml, ho, -⟩ := S
  have hPc := hp.2
  intro T hT X
  rcases vx_callI X hx (bytes := bytes) (maxL := maxL) ho hy1 hl hin hcode hy hK hg (hsize.trans hml.symm) (a := b) (argsL := As) (rest := rest) (fun sig h => hn.trans (hlen sig h)) hstack hW (by rw [hb]; exact hdg)
    (fun vm₁ hW₁ => ⟨hf.1, hf.2, hPc (T.setVm vm₁) hT hW₁⟩) with ⟨v, vm₁, ⟨U', l2, c2, s2⟩, hW₁, X', ⟨g', mk, t, L, e1, e2, hq, h1, hL, h2, h3⟩, st⟩ | ⟨q, vm₁, ⟨U', l2, c2, s2⟩, hW₁, X', ⟨g', mk, t, L, E, ce, e1, e2, hq, hce, hcv, hcl, h1, hL, h2, h3⟩, st⟩
  · dsimp only [Pt.U, Pt.locs, Pt.cells, Pt.slots] at X' e1 e2 h1 h2 h3 st
    subst h1; subst h2; subst h3
    exact Or.inl ⟨v, (T.setVm vm₁).calling g' mk (Value.ref b :: As).toArray, t, U', L, hT, X', hL, e1, e2, hq, st⟩
  · dsimp only [Pt.U, Pt.locs, Pt.cells, Pt.slots] at X' e1 e2 h1 h2 h3 st hcl
    subst h1; subst h2; subst h3
    exact Or.inr ⟨q, (T.setVm vm₁).calling g' mk (Value.ref b :: As).toArray, t, U', L, E, ce, hT, X', hL, e1, e2, hq, hce, hcv, vx_cls hW₁ hcl, st⟩
end VXIB
/-! ===== END ===== -/
/-! ===== BEGIN a private constructor of a nest mate that throws ===== -/
section VXIC
variable {p : Program} {l : Launch} {e : Env} {R : Room} {s : State} {m : MethodId} {args : Array Value} {below : List Frame} {meth : Method} {c : Code} {T : State} {locs : List Loc} {cells slots : Nat}
theorem vx_callIN (X : Stand p l e R s m args below meth c T locs cells slots) (hexec : p.tables.exec = Jvm.exec) {own : String} {index : Nat} {host : String} {y : MethodName} {bytes : ByteArray} {maxL : Nat}
    (hown : s.vm.findClass own = some m.cls) (hy1 : y.name = "<init>") (hlink : (Cond.methodLinkNest own index y host).before args s = true) (hinst : (Cond.instanceMethod y).before args s = true)
    (hcode : (Cond.code y bytes maxL none).before args s = true) (hy : y.cls ≠ "java/lang/invoke/MethodHandle" ∧ y.cls ≠ "java/lang/invoke/VarHandle")
    {W9 : Nat} {Pre : Pt → Array Value → Prop} {Post : Pt → Array Value → Option Value → Pt → Prop} {PostX : Pt → Array Value → Addr → Pt → Prop} (hK : vx_Back l R p e below s args y 3 W9 Pre Post PostX)
    {g : JFrame} (hg : g.method = m) (hsize : g.locals.size = c.maxLocals) {a : Addr} {argsL rest : List Value} (hlen : ∀ sig, parseMethodDescriptor y.desc = some sig → argsL.length = sig.parameters.length)
    (hstack : g.stack = argsL.reverse ++ .ref a :: rest) (hW : 2 * g.monitorRoom + (rest.map fun v => v.category).sum ≤ W9) (hdg : decode c.code g.pc = .ok (.invokespecial index, 3))
    (hpre : ∀ vm₁, s.WarmedH vm₁ → Pre ⟨T.setVm vm₁, locs, cells, slots⟩ (Value.ref a :: argsL).toArray) :
    (∃ (v : Option Value) (vm₁ : Vm) (B : Pt), s.WarmedH vm₁ ∧ Stand p l e R s m args below meth c B.U B.locs B.cells B.slots ∧ Post ⟨T.setVm vm₁, locs, cells, slots⟩ (Value.ref a :: argsL).toArray v B ∧
      ∀ target, Steps p.tables e below (B.U.setTop { g with pc := g.pc + 3, stack := v.toList ++ rest }) target → Steps p.tables e below (T.setTop g) target) ∨
    (∃ (q : Addr) (vm₁ : Vm) (B : Pt), s.WarmedH vm₁ ∧ Stand p l e R s m args below meth c B.U B.locs B.cells B.slots ∧ PostX ⟨T.setVm vm₁, locs, cells, slots⟩ (Value.ref a :: argsL).toArray q B ∧
      Steps p.tables e below (T.setTop g) ((B.U.setTop { g with stack := rest }).pushFrame (.throwing q))) := by
  subst hg
  have hpl : e.platform.magicAccessors = ({} : Platform).magicAccessors := by rw [X.admits.platform]
  obtain ⟨mk, methM, cM, kP, vm₁, hnamed, hmethM, hcodeM, -, hlocalsM, -, hkP, -, hW₁, hstep₁⟩ := Steps.initColdArgsNest (e := e) X.here hexec X.warmed hpl hown hy1 hy hlink hinst hcode (f := g) rfl hlen hstack hdg
  have X₁ := X.noted hW₁
  rcases hK g.method meth c ⟨T.setVm vm₁, locs, cells, slots⟩ { g with stack := rest } (.invokespecial index) mk (Value.ref a :: argsL).toArray X₁ rfl hsize hdg hW (X₁.named hnamed) (hpre vm₁ X₁.warmed) with ⟨v, B, X', hpost, hsteps⟩ | ⟨q, B, X', hpost, hsteps⟩
  · exact Or.inl ⟨v, vm₁, B, X₁.warmed, X', hpost, fun target h => hstep₁ _ fun acts => by rw [doInvoke_state]; exact hsteps.trans h⟩
  · exact Or.inr ⟨q, vm₁, B, X₁.warmed, X', hpost, hstep₁ _ fun acts => by rw [doInvoke_state]; exact hsteps⟩
end VXIC
section VXID
variable {p : Program} {l : Launch} {e : Env} {R : Room} {s : State} {m : MethodId} {args : Array Value} {below : List Frame} {meth : Method} {c : Code} {H : Heap} {locs : List Loc} {cells slots : Nat}
theorem vx_runIN {y : MethodName} {bytes cc : ByteArray} {maxL nL mc ms n index : Nat} {ws : List Cond} {rm : Room} {Pc : Array Value → State → Prop} {Qc : Array Value → State → Outcome → State → Prop} {XC : String → State → State → Prop} {free : Addr → Prop} {Ts : List Cond} {own host : String} {b : Addr} {As rest : List Value} {g : JFrame}
    (S : CallFix p m c cc nL s args Ts own) (hM : vx_Met l y ws rm Pc Qc XC mc ms free) (cw : va_CN R s args own index y host bytes maxL none ws rm mc ms n ∧ y.name = "<init>" ∧ (Cond.instanceMethod y).before args s = true) (hp : PreS s H Pc (.ref b :: As))
    (hg : g.method = m) (hn : As.length = n) (hsize : g.locals.size = nL) (hstack : g.stack = As.reverse ++ .ref b :: rest) (hW : 2 * g.monitorRoom + (rest.map fun v => v.category).sum ≤ 8) (hdg : decode cc g.pc = .ok (.invokespecial index, 3)) (hf : cells + mc ≤ R.cells ∧ slots + ms ≤ R.slots) :
    vx_Run p l e R s m args below meth c H locs cells slots mc ms g rest (Qc (Value.ref b :: As).toArray) XC free := by
  obtain ⟨⟨⟨hrc, hrs, hfr, hlo, hws, hcw⟩, hcode, hini, hy, hlen, hl⟩, hx1, hx2⟩ := cw
  have hK : vx_Back l R p e below s args y 3 8 (PreOf R mc ms Pc) (PostOf Qc mc ms free) (vx_Post XC mc ms free) := vx_back (bytes := bytes) (maxL := maxL) (ret := none) hM hp.1 hrc hrs hfr hlo hws hcw (fun a' U hW => word_at hW (Or.inl (by first | rfl | simp [Cond.onTables, Cond.keeps, Cond.steady])) hini)
  obtain ⟨hx, hb, hml, ho, -⟩ := S
  have hPc := hp.2
  intro T hT X
  rcases vx_callIN X hx (bytes := bytes) (maxL := maxL) ho hx1 hl hx2 hcode hy hK hg (hsize.trans hml.symm) (a := b) (argsL := As) (rest := rest) (fun sig h => hn.trans (hlen sig h)) hstack hW (by rw [hb]; exact hdg)
    (fun vm₁ hW₁ => ⟨hf.1, hf.2, hPc (T.setVm vm₁) hT hW₁⟩) with ⟨v, vm₁, ⟨U', l2, c2, s2⟩, hW₁, X', ⟨g', mk, t, L, e1, e2, hq, h1, hL, h2, h3⟩, st⟩ | ⟨q, vm₁, ⟨U', l2, c2, s2⟩, hW₁, X', ⟨g', mk, t, L, E, ce, e1, e2, hq, hce, hcv, hcl, h1, hL, h2, h3⟩, st⟩
  · dsimp only [Pt.U, Pt.locs, Pt.cells, Pt.slots] at X' e1 e2 h1 h2 h3 st
    subst h1; subst h2; subst h3
    exact Or.inl ⟨v, (T.setVm vm₁).calling g' mk (Value.ref b :: As).toArray, t, U', L, hT, X', hL, e1, e2, hq, st⟩
  · dsimp only [Pt.U, Pt.locs, Pt.cells, Pt.slots] at X' e1 e2 h1 h2 h3 st hcl
    subst h1; subst h2; subst h3
    exact Or.inr ⟨q, (T.setVm vm₁).calling g' mk (Value.ref b :: As).toArray, t, U', L, E, ce, hT, X', hL, e1, e2, hq, hce, hcv, vx_cls hW₁ hcl, st⟩
end VXID
/-! ===== END ===== -/
/-! ===== BEGIN a method of a class above, found by the receiver, that may throw (follows va_callVU, va_runU of this kit) ===== -/
section
variable {p : Program} {l : Launch} {e : Env} {R : Room} {s : State} {m : MethodId} {args : Array Value} {below : List Frame} {meth : Method} {c : Code} {H : Heap} {locs : List Loc} {cells slots : Nat}
theorem vx_callVU {T : State} {locs : List Loc} {cells slots : Nat} (X : Stand p l e R s m args below meth c T locs cells slots) (hexec : p.tables.exec = Jvm.exec) {own C owner : String} {index : Nat} {x y : MethodName} {bytes : ByteArray} {maxL : Nat} {ret : Option FieldType}
    (hown : s.vm.findClass own = some m.cls) (hlink : (Cond.methodLink own index x).before args s = true) (hsame : (Cond.sameMethod x.cls owner x.name x.desc).before args s = true)
    (hd0 : va_Decl s ⟨owner, x.name, x.desc⟩) (howner : owner ≠ "java/lang/invoke/MethodHandle" ∧ owner ≠ "java/lang/invoke/VarHandle")
    (hsel : (Cond.selects C x y).before args s = true) (hinst : (Cond.instanceMethod y).before args s = true) (hcode : (Cond.code y bytes maxL ret).before args s = true)
    {W : Nat} {Pre : Pt → Array Value → Prop} {Post : Pt → Array Value → Option Value → Pt → Prop} {PostX : Pt → Array Value → Addr → Pt → Prop} (hK : vx_Back l R p e below s args y 3 W Pre Post PostX)
    {b : Addr} {cellB : Cell} (hcell : T.heap[b]? = some cellB) (hobj : cellB.vm.isStatics = false) (hcls : s.vm.findClass C = some cellB.cls)
    {g : JFrame} (hg : g.method = m) (hsize : g.locals.size = c.maxLocals) {argsL rest : List Value} (hlen : ∀ sig, parseMethodDescriptor x.desc = some sig → argsL.length = sig.parameters.length)
    (hstack : g.stack = argsL.reverse ++ .ref b :: rest) (hW : 2 * g.monitorRoom + (rest.map fun v => v.category).sum ≤ W) (hdg : decode c.code g.pc = .ok (.invokevirtual index, 3))
    (hpre : ∀ vm₁, s.WarmedH vm₁ → Pre ⟨T.setVm vm₁, locs, cells, slots⟩ (Value.ref b :: argsL).toArray) :
    (∃ (v : Option Value) (vm₁ : Vm) (B : Pt), s.WarmedH vm₁ ∧ Stand p l e R s m args below meth c B.U B.locs B.cells B.slots ∧ Post ⟨T.setVm vm₁, locs, cells, slots⟩ (Value.ref b :: argsL).toArray v B ∧
      ∀ target, Steps p.tables e below (B.U.setTop { g with pc := g.pc + 3, stack := v.toList ++ rest }) target → Steps p.tables e below (T.setTop g) target) ∨
    (∃ (q : Addr) (vm₁ : Vm) (B : Pt), s.WarmedH vm₁ ∧ Stand p l e R s m args below meth c B.U B.locs B.cells B.slots ∧ PostX ⟨T.setVm vm₁, locs, cells, slots⟩ (Value.ref b :: argsL).toArray q B ∧
      Steps p.tables e below (T.setTop g) ((B.U.setTop { g with stack := rest }).pushFrame (.throwing q))) := by
  obtain ⟨r0, r, hn, hrm, hstR, hsigR⟩ := hd0
  obtain ⟨cn, ck, r1, hcn, hck, hni, hf, hn1⟩ := Cond.sameMethod_found hsame
  cases hn.symm.trans hn1
  obtain ⟨mk, methM, hnamed, hmethM, -, habM⟩ := Cond.instanceMethod_spec hinst
  obtain ⟨c2, r2, m2, q1, q2, q3, q4, kP, hkP, hkPi⟩ := Cond.selects_spec hsel
  cases hcls.symm.trans q1
  cases hf.symm.trans q2
  cases hnamed.symm.trans q3
  have hselP : selectMethod e.platform s.vm cellB.cls r0 = .method mk := by rw [Launch.admits_selectMethod X.admits]; exact q4
  obtain ⟨vm₁, X₁, hstep₁⟩ := X.invokevirtualUp hexec hown hlink hsame howner hn hrm hstR (a := b) (cell := cellB) hcell
    (fun z h => by rw [h] at hobj; cases hobj) hselP hmethM habM hkP hkPi (g := g) hg (argsL := argsL) (rest := rest) (hlen _ hsigR) hstack hdg
  rcases hK m meth c ⟨T.setVm vm₁, locs, cells, slots⟩ { g with stack := rest } (.invokevirtual index) mk (Value.ref b :: argsL).toArray X₁ hg hsize hdg hW (X₁.named hnamed) (hpre vm₁ X₁.warmed) with ⟨v, B, X', hpost, hsteps⟩ | ⟨q, B, X', hpost, hsteps⟩
  · exact Or.inl ⟨v, vm₁, B, X₁.warmed, X', hpost, fun target h => hstep₁ _ fun acts => by rw [doInvoke_state]; exact hsteps.trans h⟩
  · exact Or.inr ⟨q, vm₁, B, X₁.warmed, X', hpost, hstep₁ _ fun acts => by rw [doInvoke_state]; exact hsteps⟩
theorem vx_runU {x y : MethodName} {bytes cc : ByteArray} {maxL nL mc ms n index : Nat} {ret : Option FieldType} {ws : List Cond} {rm : Room} {Pc : Array Value → State → Prop} {Qc : Array Value → State → Outcome → State → Prop} {XC : String → State → State → Prop} {free : Addr → Prop} {Ts : List Cond} {own C owner : String} {b : Addr} {As rest : List Value} {g : JFrame}
    (S : CallFix p m c cc nL s args Ts own) (hM : vx_Met l y ws rm Pc Qc XC mc ms free) (cw : va_CU R s args own C owner index x y bytes maxL ret ws rm mc ms n) (hp : PreV s H C b Pc As)
    (hg : g.method = m) (hn : As.length = n) (hsize : g.locals.size = nL) (hstack : g.stack = As.reverse ++ .ref b :: rest) (hW : 2 * g.monitorRoom + (rest.map fun v => v.category).sum ≤ 8) (hdg : decode cc g.pc = .ok (.invokevirtual index, 3)) (hf : cells + mc ≤ R.cells ∧ slots + ms ≤ R.slots) :
    vx_Run p l e R s m args below meth c H locs cells slots mc ms g rest (Qc (Value.ref b :: As).toArray) XC free := by
  obtain ⟨hrc, hrs, hfr, hlo, hws, hcw⟩ := cw.back
  have hini := cw.init
  have hK : vx_Back l R p e below s args y 3 8 (PreOf R mc ms Pc) (PostOf Qc mc ms free) (vx_Post XC mc ms free) := vx_back (bytes := bytes) (maxL := maxL) (ret := ret) hM hp.1 hrc hrs hfr hlo hws hcw (fun a' U hW => word_at hW (Or.inl (by first | rfl | simp [Cond.onTables, Cond.keeps, Cond.steady])) hini)
  obtain ⟨hx, hb, hml, ho, -⟩ := S
  obtain ⟨-, ⟨cellB, hcB, hoB, hclB⟩, hPc⟩ := hp
  intro T hT X
  rcases vx_callVU X hx (C := C) (owner := owner) (bytes := bytes) (maxL := maxL) (ret := ret) ho cw.link cw.same cw.decl cw.notMH cw.sel cw.inst cw.code hK (by rw [hT]; exact hcB) hoB hclB hg (hsize.trans hml.symm) (argsL := As) (rest := rest) (fun sig h => hn.trans (cw.len sig h)) hstack hW (by rw [hb]; exact hdg)
    (fun vm₁ hW₁ => ⟨hf.1, hf.2, hPc (T.setVm vm₁) hT hW₁⟩) with ⟨v, vm₁, ⟨U', l2, c2, s2⟩, hW₁, X', ⟨g', mk, t, L, e1, e2, hq, h1, hL, h2, h3⟩, st⟩ | ⟨q, vm₁, ⟨U', l2, c2, s2⟩, hW₁, X', ⟨g', mk, t, L, E, ce, e1, e2, hq, hce, hcv, hcl, h1, hL, h2, h3⟩, st⟩
  · dsimp only [Pt.U, Pt.locs, Pt.cells, Pt.slots] at X' e1 e2 h1 h2 h3 st
    subst h1; subst h2; subst h3
    exact Or.inl ⟨v, (T.setVm vm₁).calling g' mk (Value.ref b :: As).toArray, t, U', L, hT, X', hL, e1, e2, hq, st⟩
  · dsimp only [Pt.U, Pt.locs, Pt.cells, Pt.slots] at X' e1 e2 h1 h2 h3 st hcl
    subst h1; subst h2; subst h3
    exact Or.inr ⟨q, (T.setVm vm₁).calling g' mk (Value.ref b :: As).toArray, t, U', L, E, ce, hT, X', hL, e1, e2, hq, hce, hcv, vx_cls hW₁ hcl, st⟩
end
/-! ===== END ===== -/
/-! ===== BEGIN super.m(..) that may throw (follows va_callSU, va_runSU) ===== -/
section
variable {p : Program} {l : Launch} {e : Env} {R : Room} {s : State} {m : MethodId} {args : Array Value} {below : List Frame} {meth : Method} {c : Code} {H : Heap} {locs : List Loc} {cells slots : Nat}
theorem vx_callSU {T : State} {locs : List Loc} {cells slots : Nat} (X : Stand p l e R s m args below meth c T locs cells slots) (hexec : p.tables.exec = Jvm.exec) {own : String} {index : Nat} {y : MethodName} {bytes : ByteArray} {maxL : Nat} {ret : Option FieldType}
    (hown : s.vm.findClass own = some m.cls) (hlink : (Cond.methodLink own index y).before args s = true) (hsame : (Cond.sameMethod y.cls y.cls y.name y.desc).before args s = true) (hsup : (Cond.superclass own y.cls).before args s = true)
    (hinst : (Cond.instanceMethod y).before args s = true) (hcode : (Cond.code y bytes maxL ret).before args s = true) (hno : y.name ≠ "<init>")
    {W : Nat} {Pre : Pt → Array Value → Prop} {Post : Pt → Array Value → Option Value → Pt → Prop} {PostX : Pt → Array Value → Addr → Pt → Prop} (hK : vx_Back l R p e below s args y 3 W Pre Post PostX)
    {b : Addr} {cellB : Cell} {kB : Class} (hcell : T.heap[b]? = some cellB) (hobj : cellB.vm.isStatics = false) (hkB : s.vm.classes[cellB.cls]? = some kB)
    {g : JFrame} (hg : g.method = m) (hsize : g.locals.size = c.maxLocals) {argsL rest : List Value} (hlen : ∀ sig, parseMethodDescriptor y.desc = some sig → argsL.length = sig.parameters.length)
    (hstack : g.stack = argsL.reverse ++ .ref b :: rest) (hW : 2 * g.monitorRoom + (rest.map fun v => v.category).sum ≤ W) (hdg : decode c.code g.pc = .ok (.invokespecial index, 3))
    (hpre : ∀ vm₁, s.WarmedH vm₁ → Pre ⟨T.setVm vm₁, locs, cells, slots⟩ (Value.ref b :: argsL).toArray) :
    (∃ (v : Option Value) (vm₁ : Vm) (B : Pt), s.WarmedH vm₁ ∧ Stand p l e R s m args below meth c B.U B.locs B.cells B.slots ∧ Post ⟨T.setVm vm₁, locs, cells, slots⟩ (Value.ref b :: argsL).toArray v B ∧
      ∀ target, Steps p.tables e below (B.U.setTop { g with pc := g.pc + 3, stack := v.toList ++ rest }) target → Steps p.tables e below (T.setTop g) target) ∨
    (∃ (q : Addr) (vm₁ : Vm) (B : Pt), s.WarmedH vm₁ ∧ Stand p l e R s m args below meth c B.U B.locs B.cells B.slots ∧ PostX ⟨T.setVm vm₁, locs, cells, slots⟩ (Value.ref b :: argsL).toArray q B ∧
      Steps p.tables e below (T.setTop g) ((B.U.setTop { g with stack := rest }).pushFrame (.throwing q))) := by
  obtain ⟨mk, methM, hnamed, hmethM, hstM, habM⟩ := Cond.instanceMethod_spec hinst
  obtain ⟨methM', cM, hmethM', -, -, -, -, -, -, hsigM⟩ := Cond.code_spec hnamed hcode
  cases hmethM.symm.trans hmethM'
  obtain ⟨ps, dk, kp, hps, hdk, hkp, hsuper, -, -, hnid⟩ := Cond.superclass_spec hown hsup
  have hn : s.methodNamed? ⟨y.cls, y.name, y.desc⟩ = some mk := hnamed
  have hpm : ps = mk.cls := Option.some.inj (hps.symm.trans (findClass_of_methodNamed hnamed))
  have hsub : s.vm.isSubclass ps mk.cls = true := by rw [hpm]; simp [Vm.isSubclass, Vm.isSubclassAux]
  obtain ⟨vm₁, X₁, hstep₁⟩ := X.invokespecialUp hexec hown hlink hsame hn hmethM hstM habM hno hdk hnid hps hsuper hsub (a := b) (cell := cellB) hcell
    (fun z h => by rw [h] at hobj; cases hobj) hkB (g := g) hg (argsL := argsL) (rest := rest) (hlen _ hsigM) hstack hdg
  rcases hK m meth c ⟨T.setVm vm₁, locs, cells, slots⟩ { g with stack := rest } (.invokespecial index) mk (Value.ref b :: argsL).toArray X₁ hg hsize hdg hW (X₁.named hnamed) (hpre vm₁ X₁.warmed) with ⟨v, B, X', hpost, hsteps⟩ | ⟨q, B, X', hpost, hsteps⟩
  · exact Or.inl ⟨v, vm₁, B, X₁.warmed, X', hpost, fun target h => hstep₁ _ (by rw [doInvoke_state]; exact hsteps.trans h)⟩
  · exact Or.inr ⟨q, vm₁, B, X₁.warmed, X', hpost, hstep₁ _ (by rw [doInvoke_state]; exact hsteps)⟩
theorem vx_runSU {y : MethodName} {bytes cc : ByteArray} {maxL nL mc ms n index : Nat} {ret : Option FieldType} {ws : List Cond} {rm : Room} {Pc : Array Value → State → Prop} {Qc : Array Value → State → Outcome → State → Prop} {XC : String → State → State → Prop} {free : Addr → Prop} {Ts : List Cond} {own C : String} {cC : ClassId} {b : Addr} {As rest : List Value} {g : JFrame}
    (hat : ClassAt s C cC) (S : CallFix p m c cc nL s args Ts own) (hM : vx_Met l y ws rm Pc Qc XC mc ms free) (cw : va_CS R s args own index y bytes maxL ret ws rm mc ms n) (hp : PreV s H C b Pc As)
    (hg : g.method = m) (hn : As.length = n) (hsize : g.locals.size = nL) (hstack : g.stack = As.reverse ++ .ref b :: rest) (hW : 2 * g.monitorRoom + (rest.map fun v => v.category).sum ≤ 8) (hdg : decode cc g.pc = .ok (.invokespecial index, 3)) (hf : cells + mc ≤ R.cells ∧ slots + ms ≤ R.slots) :
    vx_Run p l e R s m args below meth c H locs cells slots mc ms g rest (Qc (Value.ref b :: As).toArray) XC free := by
  obtain ⟨⟨hrc, hrs, hfr, hlo, hws, hcw⟩, hl1, hl2, hl3, hl4, hini, hcode, hno, hlen⟩ := cw
  have hK : vx_Back l R p e below s args y 3 8 (PreOf R mc ms Pc) (PostOf Qc mc ms free) (vx_Post XC mc ms free) := vx_back (bytes := bytes) (maxL := maxL) (ret := ret) hM hp.1 hrc hrs hfr hlo hws hcw (fun a' U hW => word_at hW (Or.inl (by first | rfl | simp [Cond.onTables, Cond.keeps, Cond.steady])) hini)
  obtain ⟨hx, hb, hml, ho, -⟩ := S
  obtain ⟨-, ⟨cellB, hcB, hoB, hclB⟩, hPc⟩ := hp
  obtain ⟨hfc, kB, hkB, -⟩ := hat
  cases hfc.symm.trans hclB
  intro T hT X
  rcases vx_callSU X hx (bytes := bytes) (maxL := maxL) (ret := ret) ho hl1 hl2 hl3 hl4 hcode hno hK (by rw [hT]; exact hcB) hoB hkB hg (hsize.trans hml.symm) (argsL := As) (rest := rest) (fun sig h => hn.trans (hlen sig h)) hstack hW (by rw [hb]; exact hdg)
    (fun vm₁ hW₁ => ⟨hf.1, hf.2, hPc (T.setVm vm₁) hT hW₁⟩) with ⟨v, vm₁, ⟨U', l2, c2, s2⟩, hW₁, X', ⟨g', mk, t, L, e1, e2, hq, h1, hL, h2, h3⟩, st⟩ | ⟨q, vm₁, ⟨U', l2, c2, s2⟩, hW₁, X', ⟨g', mk, t, L, E, ce, e1, e2, hq, hce, hcv, hcl, h1, hL, h2, h3⟩, st⟩
  · dsimp only [Pt.U, Pt.locs, Pt.cells, Pt.slots] at X' e1 e2 h1 h2 h3 st
    subst h1; subst h2; subst h3
    exact Or.inl ⟨v, (T.setVm vm₁).calling g' mk (Value.ref b :: As).toArray, t, U', L, hT, X', hL, e1, e2, hq, st⟩
  · dsimp only [Pt.U, Pt.locs, Pt.cells, Pt.slots] at X' e1 e2 h1 h2 h3 st hcl
    subst h1; subst h2; subst h3
    exact Or.inr ⟨q, (T.setVm vm₁).calling g' mk (Value.ref b :: As).toArray, t, U', L, E, ce, hT, X', hL, e1, e2, hq, hce, hcv, vx_cls hW₁ hcl, st⟩
end
/-! ===== END ===== -/
/-! ===== BEGIN a private method of a nest mate that may throw (follows va_callVN, va_callSN, va_runVN, va_runSN) ===== -/
section
variable {p : Program} {l : Launch} {e : Env} {R : Room} {s : State} {m : MethodId} {args : Array Value} {below : List Frame} {meth : Method} {c : Code} {H : Heap} {locs : List Loc} {cells slots : Nat}
variable {T : State}
theorem vx_callVN (X : Stand p l e R s m args below meth c T locs cells slots) (hexec : p.tables.exec = Jvm.exec) {own C : String} {index : Nat} {host : String} {y : MethodName} {bytes : ByteArray} {maxL : Nat} {ret : Option FieldType}
    (hown : s.vm.findClass own = some m.cls) (hlink : (Cond.methodLinkNest own index y host).before args s = true) (hinst : (Cond.instanceMethod y).before args s = true) (hsel : (Cond.selects C y y).before args s = true)
    (hcode : (Cond.code y bytes maxL ret).before args s = true) (hy : y.cls ≠ "java/lang/invoke/MethodHandle" ∧ y.cls ≠ "java/lang/invoke/VarHandle")
    {W : Nat} {Pre : Pt → Array Value → Prop} {Post : Pt → Array Value → Option Value → Pt → Prop} {PostX : Pt → Array Value → Addr → Pt → Prop} (hK : vx_Back l R p e below s args y 3 W Pre Post PostX)
    {b : Addr} {cellB : Cell} (hcell : T.heap[b]? = some cellB) (hobj : cellB.vm.isStatics = false) (hcls : s.vm.findClass C = some cellB.cls)
    {g : JFrame} (hg : g.method = m) (hsize : g.locals.size = c.maxLocals) {argsL rest : List Value} (hlen : ∀ sig, parseMethodDescriptor y.desc = some sig → argsL.length = sig.parameters.length)
    (hstack : g.stack = argsL.reverse ++ .ref b :: rest) (hW : 2 * g.monitorRoom + (rest.map fun v => v.category).sum ≤ W) (hdg : decode c.code g.pc = .ok (.invokevirtual index, 3))
    (hpre : ∀ vm₁, s.WarmedH vm₁ → Pre ⟨T.setVm vm₁, locs, cells, slots⟩ (Value.ref b :: argsL).toArray) :
    (∃ (v : Option Value) (vm₁ : Vm) (B : Pt), s.WarmedH vm₁ ∧ Stand p l e R s m args below meth c B.U B.locs B.cells B.slots ∧ Post ⟨T.setVm vm₁, locs, cells, slots⟩ (Value.ref b :: argsL).toArray v B ∧
      ∀ target, Steps p.tables e below (B.U.setTop { g with pc := g.pc + 3, stack := v.toList ++ rest }) target → Steps p.tables e below (T.setTop g) target) ∨
    (∃ (q : Addr) (vm₁ : Vm) (B : Pt), s.WarmedH vm₁ ∧ Stand p l e R s m args below meth c B.U B.locs B.cells B.slots ∧ PostX ⟨T.setVm vm₁, locs, cells, slots⟩ (Value.ref b :: argsL).toArray q B ∧
      Steps p.tables e below (T.setTop g) ((B.U.setTop { g with stack := rest }).pushFrame (.throwing q))) := by
  obtain ⟨mk, methM, hnamed, hmethM, hstM, habM⟩ := Cond.instanceMethod_spec hinst
  obtain ⟨methM', cM, hmethM', -, -, -, -, -, -, hsigM⟩ := Cond.code_spec hnamed hcode
  cases hmethM.symm.trans hmethM'
  obtain ⟨c2, r2, m2, q1, q2, q3, q4, kP, hkP, hkPi⟩ := Cond.selects_spec hsel
  cases hcls.symm.trans q1
  cases (State.methodFound?_of_named hnamed hy).symm.trans q2
  cases hnamed.symm.trans q3
  have hselP : selectMethod e.platform s.vm cellB.cls mk = .method mk := by rw [Launch.admits_selectMethod X.admits]; exact q4
  obtain ⟨vm₁, X₁, hstep₁⟩ := X.invokevirtualNest hexec hown hlink hnamed hmethM hstM hkP hkPi hy (a := b) (cell := cellB) hcell
    (fun z h => by rw [h] at hobj; cases hobj) hselP hmethM habM hkP hkPi (g := g) hg (argsL := argsL) (rest := rest) (hlen _ hsigM) hstack hdg
  rcases hK m meth c ⟨T.setVm vm₁, locs, cells, slots⟩ { g with stack := rest } (.invokevirtual index) mk (Value.ref b :: argsL).toArray X₁ hg hsize hdg hW (X₁.named hnamed) (hpre vm₁ X₁.warmed) with ⟨v, B, X', hpost, hsteps⟩ | ⟨q, B, X', hpost, hsteps⟩
  · exact Or.inl ⟨v, vm₁, B, X₁.warmed, X', hpost, fun target h => hstep₁ _ fun acts => by rw [doInvoke_state]; exact hsteps.trans h⟩
  · exact Or.inr ⟨q, vm₁, B, X₁.warmed, X', hpost, hstep₁ _ fun acts => by rw [doInvoke_state]; exact hsteps⟩
theorem vx_callSN (X : Stand p l e R s m args below meth c T locs cells slots) (hexec : p.tables.exec = Jvm.exec) {own : String} {index : Nat} {host : String} {y : MethodName} {bytes : ByteArray} {maxL : Nat} {ret : Option FieldType}
    (hown : s.vm.findClass own = some m.cls) (hlink : (Cond.methodLinkNest own index y host).before args s = true) (hstat : (Cond.static y).before args s = true) (hinit : (Cond.initialized y.cls).before args s = true)
    (hcode : (Cond.code y bytes maxL ret).before args s = true) (hy : y.cls ≠ "java/lang/invoke/MethodHandle" ∧ y.cls ≠ "java/lang/invoke/VarHandle")
    {W : Nat} {Pre : Pt → Array Value → Prop} {Post : Pt → Array Value → Option Value → Pt → Prop} {PostX : Pt → Array Value → Addr → Pt → Prop} (hK : vx_Back l R p e below s args y 3 W Pre Post PostX)
    {g : JFrame} (hg : g.method = m) (hsize : g.locals.size = c.maxLocals) {argsL rest : List Value} (hlen : ∀ sig, parseMethodDescriptor y.desc = some sig → argsL.length = sig.parameters.length)
    (hstack : g.stack = argsL.reverse ++ rest) (hW : 2 * g.monitorRoom + (rest.map fun v => v.category).sum ≤ W) (hdg : decode c.code g.pc = .ok (.invokestatic index, 3))
    (hpre : ∀ vm₁, s.WarmedH vm₁ → Pre ⟨T.setVm vm₁, locs, cells, slots⟩ argsL.toArray) :
    (∃ (v : Option Value) (vm₁ : Vm) (B : Pt), s.WarmedH vm₁ ∧ Stand p l e R s m args below meth c B.U B.locs B.cells B.slots ∧ Post ⟨T.setVm vm₁, locs, cells, slots⟩ argsL.toArray v B ∧
      ∀ target, Steps p.tables e below (B.U.setTop { g with pc := g.pc + 3, stack := v.toList ++ rest }) target → Steps p.tables e below (T.setTop g) target) ∨
    (∃ (q : Addr) (vm₁ : Vm) (B : Pt), s.WarmedH vm₁ ∧ Stand p l e R s m args below meth c B.U B.locs B.cells B.slots ∧ PostX ⟨T.setVm vm₁, locs, cells, slots⟩ argsL.toArray q B ∧
      Steps p.tables e below (T.setTop g) ((B.U.setTop { g with stack := rest }).pushFrame (.throwing q))) := by
  obtain ⟨mk, hnamed⟩ := Cond.code_named hcode
  obtain ⟨methM, cM, hmethM, -, -, -, -, -, -, hsigM⟩ := Cond.code_spec hnamed hcode
  have hstatic : methM.isStatic = true := Cond.static_spec hnamed hmethM hstat
  obtain ⟨kP, hkP, -⟩ := className_of_methodNamed hnamed
  have hinitP : kP.init = .initialized := Cond.initialized_spec (findClass_of_methodNamed hnamed) hkP hinit
  obtain ⟨vm₁, X₁, hstep₁⟩ := X.invokestaticNest hexec hown hlink hnamed hmethM hstatic hkP hinitP hy (g := g) hg (argsL := argsL) (rest := rest) (hlen _ hsigM) hstack hdg
  rcases hK m meth c ⟨T.setVm vm₁, locs, cells, slots⟩ { g with stack := rest } (.invokestatic index) mk argsL.toArray X₁ hg hsize hdg hW (X₁.named hnamed) (hpre vm₁ X₁.warmed) with ⟨v, B, X', hpost, hsteps⟩ | ⟨q, B, X', hpost, hsteps⟩
  · exact Or.inl ⟨v, vm₁, B, X₁.warmed, X', hpost, fun target h => hstep₁ _ fun acts => by rw [doInvoke_state]; exact hsteps.trans h⟩
  · exact Or.inr ⟨q, vm₁, B, X₁.warmed, X', hpost, hstep₁ _ fun acts => by rw [doInvoke_state]; exact hsteps⟩
theorem vx_runVN {y : MethodName} {bytes cc : ByteArray} {maxL nL mc ms n index : Nat} {ret : Option FieldType} {ws : List Cond} {rm : Room} {Pc : Array Value → State → Prop} {Qc : Array Value → State → Outcome → State → Prop} {XC : String → State → State → Prop} {free : Addr → Prop} {Ts : List Cond} {own C host : String} {b : Addr} {As rest : List Value} {g : JFrame}
    (S : CallFix p m c cc nL s args Ts own) (hM : vx_Met l y ws rm Pc Qc XC mc ms free) (cw : va_CN R s args own index y host bytes maxL ret ws rm mc ms n ∧ (Cond.instanceMethod y).before args s = true ∧ (Cond.selects C y y).before args s = true) (hp : PreV s H C b Pc As)
    (hg : g.method = m) (hn : As.length = n) (hsize : g.locals.size = nL) (hstack : g.stack = As.reverse ++ .ref b :: rest) (hW : 2 * g.monitorRoom + (rest.map fun v => v.category).sum ≤ 8) (hdg : decode cc g.pc = .ok (.invokevirtual index, 3)) (hf : cells + mc ≤ R.cells ∧ slots + ms ≤ R.slots) :
    vx_Run p l e R s m args below meth c H locs cells slots mc ms g rest (Qc (Value.ref b :: As).toArray) XC free := by
  obtain ⟨⟨⟨hrc, hrs, hfr, hlo, hws, hcw⟩, hcode, hini, hy, hlen, hl⟩, hx1, hx2⟩ := cw
  have hK : vx_Back l R p e below s args y 3 8 (PreOf R mc ms Pc) (PostOf Qc mc ms free) (vx_Post XC mc ms free) := vx_back (bytes := bytes) (maxL := maxL) (ret := ret) hM hp.1 hrc hrs hfr hlo hws hcw (fun a' U hW => word_at hW (Or.inl (by first | rfl | simp [Cond.onTables, Cond.keeps, Cond.steady])) hini)
  obtain ⟨hx, hb, hml, ho, -⟩ := S
  obtain ⟨-, ⟨cellB, hcB, hoB, hclB⟩, hPc⟩ := hp
  intro T hT X
  rcases vx_callVN X hx (C := C) (bytes := bytes) (maxL := maxL) (ret := ret) ho hl hx1 hx2 hcode hy hK (by rw [hT]; exact hcB) hoB hclB hg (hsize.trans hml.symm) (argsL := As) (rest := rest) (fun sig h => hn.trans (hlen sig h)) hstack hW (by rw [hb]; exact hdg)
    (fun vm₁ hW₁ => ⟨hf.1, hf.2, hPc (T.setVm vm₁) hT hW₁⟩) with ⟨v, vm₁, ⟨U', l2, c2, s2⟩, hW₁, X', ⟨g', mk, t, L, e1, e2, hq, h1, hL, h2, h3⟩, st⟩ | ⟨q, vm₁, ⟨U', l2, c2, s2⟩, hW₁, X', ⟨g', mk, t, L, E, ce, e1, e2, hq, hce, hcv, hcl, h1, hL, h2, h3⟩, st⟩
  · dsimp only [Pt.U, Pt.locs, Pt.cells, Pt.slots] at X' e1 e2 h1 h2 h3 st
    subst h1; subst h2; subst h3
    exact Or.inl ⟨v, (T.setVm vm₁).calling g' mk (Value.ref b :: As).toArray, t, U', L, hT, X', hL, e1, e2, hq, st⟩
  · dsimp only [Pt.U, Pt.locs, Pt.cells, Pt.slots] at X' e1 e2 h1 h2 h3 st hcl
    subst h1; subst h2; subst h3
    exact Or.inr ⟨q, (T.setVm vm₁).calling g' mk (Value.ref b :: As).toArray, t, U', L, E, ce, hT, X', hL, e1, e2, hq, hce, hcv, vx_cls hW₁ hcl, st⟩
theorem vx_runSN {y : MethodName} {bytes cc : ByteArray} {maxL nL mc ms n index : Nat} {ret : Option FieldType} {ws : List Cond} {rm : Room} {Pc : Array Value → State → Prop} {Qc : Array Value → State → Outcome → State → Prop} {XC : String → State → State → Prop} {free : Addr → Prop} {Ts : List Cond} {own host : String} {As rest : List Value} {g : JFrame}
    (S : CallFix p m c cc nL s args Ts own) (hM : vx_Met l y ws rm Pc Qc XC mc ms free) (cw : va_CN R s args own index y host bytes maxL ret ws rm mc ms n ∧ (Cond.static y).before args s = true ∧ True) (hp : PreS s H Pc As)
    (hg : g.method = m) (hn : As.length = n) (hsize : g.locals.size = nL) (hstack : g.stack = As.reverse ++ rest) (hW : 2 * g.monitorRoom + (rest.map fun v => v.category).sum ≤ 8) (hdg : decode cc g.pc = .ok (.invokestatic index, 3)) (hf : cells + mc ≤ R.cells ∧ slots + ms ≤ R.slots) :
    vx_Run p l e R s m args below meth c H locs cells slots mc ms g rest (Qc As.toArray) XC free := by
  obtain ⟨⟨⟨hrc, hrs, hfr, hlo, hws, hcw⟩, hcode, hini, hy, hlen, hl⟩, hx1, hx2⟩ := cw
  have hK : vx_Back l R p e below s args y 3 8 (PreOf R mc ms Pc) (PostOf Qc mc ms free) (vx_Post XC mc ms free) := vx_back (bytes := bytes) (maxL := maxL) (ret := ret) hM hp.1 hrc hrs hfr hlo hws hcw (fun a' U hW => word_at hW (Or.inl (by first | rfl | simp [Cond.onTables, Cond.keeps, Cond.steady])) hini)
  obtain ⟨hx, hb, hml, ho, -⟩ := S
  have hPc := hp.2
  intro T hT X
  rcases vx_callSN X hx (bytes := bytes) (maxL := maxL) (ret := ret) ho hl hx1 hini hcode hy hK hg (hsize.trans hml.symm) (argsL := As) (rest := rest) (fun sig h => hn.trans (hlen sig h)) hstack hW (by rw [hb]; exact hdg)
    (fun vm₁ hW₁ => ⟨hf.1, hf.2, hPc (T.setVm vm₁) hT hW₁⟩) with ⟨v, vm₁, ⟨U', l2, c2, s2⟩, hW₁, X', ⟨g', mk, t, L, e1, e2, hq, h1, hL, h2, h3⟩, st⟩ | ⟨q, vm₁, ⟨U', l2, c2, s2⟩, hW₁, X', ⟨g', mk, t, L, E, ce, e1, e2, hq, hce, hcv, hcl, h1, hL, h2, h3⟩, st⟩
  · dsimp only [Pt.U, Pt.locs, Pt.cells, Pt.slots] at X' e1 e2 h1 h2 h3 st
    subst h1; subst h2; subst h3
    exact Or.inl ⟨v, (T.setVm vm₁).calling g' mk As.toArray, t, U', L, hT, X', hL, e1, e2, hq, st⟩
  · dsimp only [Pt.U, Pt.locs, Pt.cells, Pt.slots] at X' e1 e2 h1 h2 h3 st hcl
    subst h1; subst h2; subst h3
    exact Or.inr ⟨q, (T.setVm vm₁).calling g' mk As.toArray, t, U', L, E, ce, hT, X', hL, e1, e2, hq, hce, hcv, vx_cls hW₁ hcl, st⟩
end
/-! ===== END ===== -/
end
section
def RCur : String := "Cursorlist$Cursor"
def TCur : u_T := fun k => match k with
  | 0 => ("Cursorlist$Cursor", "isThere", "Z", false)
  | 1 => ("Cursorlist$Cursor", "isStale", "Z", false)
  | 2 => ("Cursorlist$Cursor", "list", "I", false)
  | 3 => ("Cursorlist$Cursor", "index", "I", false)
  | _ => ("Cursorlist$Cursor", "last", "I", false)
def tyCur : Nat → FieldType := fun k => match k with
  | 0 => .boolean
  | 1 => .boolean
  | 2 => .int
  | 3 => .int
  | _ => .int
theorem nmCur : ∀ a, a < 5 → ∀ b, b < 5 → a ≠ b → (TCur a).2.1 ≠ (TCur b).2.1 := by decide +kernel
theorem tyCur_ok : ∀ k, k < 5 → parseFieldDescriptor (TCur k).2.2.1 = some (tyCur k) := by decide +kernel
abbrev cCur_init : ByteArray := prog_2_method_1_code
def yCur_init : MethodName := ⟨RCur, "<init>", "()V"⟩
abbrev cCur_begin : ByteArray := prog_2_method_2_code
def yCur_begin : MethodName := ⟨RCur, "begin", "(II)V"⟩
abbrev cCur_stepForth : ByteArray := prog_2_method_3_code
def yCur_stepForth : MethodName := ⟨RCur, "stepForth", "(LCursorlist$Row;)I"⟩
abbrev cCur_stepBack : ByteArray := prog_2_method_4_code
def yCur_stepBack : MethodName := ⟨RCur, "stepBack", "(LCursorlist$Row;)I"⟩
abbrev cCur_putHere : ByteArray := prog_2_method_5_code
def yCur_putHere : MethodName := ⟨RCur, "putHere", "(LCursorlist$Row;I)Z"⟩
abbrev cCur_cutLast : ByteArray := prog_2_method_6_code
def yCur_cutLast : MethodName := ⟨RCur, "cutLast", "(LCursorlist$Row;)V"⟩
def RRec : String := "Cursorlist$Recency"
def TRec : u_T := fun k => match k with
  | 0 => ("Cursorlist$Recency", "keys", "LCursorlist$Row;", true)
  | 1 => ("Cursorlist$Recency", "timesAsked", "[I", true)
  | 2 => ("Cursorlist$Recency", "askings", "I", false)
  | 3 => ("Cursorlist$Recency", "cost", "I", false)
  | _ => ("Cursorlist$Recency", "lastKey", "I", false)
def tyRec : Nat → FieldType := fun k => match k with
  | 0 => .object "Cursorlist$Row"
  | 1 => .array .int
  | 2 => .int
  | 3 => .int
  | _ => .int
theorem nmRec : ∀ a, a < 5 → ∀ b, b < 5 → a ≠ b → (TRec a).2.1 ≠ (TRec b).2.1 := by decide +kernel
theorem tyRec_ok : ∀ k, k < 5 → parseFieldDescriptor (TRec k).2.2.1 = some (tyRec k) := by decide +kernel
abbrev cRec_init : ByteArray := prog_3_method_1_code
def yRec_init : MethodName := ⟨RRec, "<init>", "()V"⟩
abbrev cRec_begin : ByteArray := prog_3_method_2_code
def yRec_begin : MethodName := ⟨RRec, "begin", "()V"⟩
abbrev cRec_bringAhead : ByteArray := prog_3_method_3_code
def yRec_bringAhead : MethodName := ⟨RRec, "bringAhead", "(I)I"⟩
abbrev cRec_costBy : ByteArray := prog_3_method_4_code
def yRec_costBy : MethodName := ⟨RRec, "costBy", "(LCursorlist$Row;)I"⟩
abbrev cRec_boundBy : ByteArray := prog_3_method_5_code
def yRec_boundBy : MethodName := ⟨RRec, "boundBy", "(LCursorlist$Row;)I"⟩
def RRow : String := "Cursorlist$Row"
def TRow : u_T := fun k => match k with
  | 0 => ("Cursorlist$Row", "items", "[I", true)
  | _ => ("Cursorlist$Row", "count", "I", false)
def tyRow : Nat → FieldType := fun k => match k with
  | 0 => .array .int
  | _ => .int
theorem nmRow : ∀ a, a < 2 → ∀ b, b < 2 → a ≠ b → (TRow a).2.1 ≠ (TRow b).2.1 := by decide +kernel
theorem tyRow_ok : ∀ k, k < 2 → parseFieldDescriptor (TRow k).2.2.1 = some (tyRow k) := by decide +kernel
abbrev cRow_init : ByteArray := prog_4_method_1_code
def yRow_init : MethodName := ⟨RRow, "<init>", "()V"⟩
abbrev cRow_hasPlace : ByteArray := prog_4_method_2_code
def yRow_hasPlace : MethodName := ⟨RRow, "hasPlace", "(I)Z"⟩
abbrev cRow_hasGap : ByteArray := prog_4_method_3_code
def yRow_hasGap : MethodName := ⟨RRow, "hasGap", "(I)Z"⟩
abbrev cRow_itemAt : ByteArray := prog_4_method_4_code
def yRow_itemAt : MethodName := ⟨RRow, "itemAt", "(I)I"⟩
abbrev cRow_changeAt : ByteArray := prog_4_method_5_code
def yRow_changeAt : MethodName := ⟨RRow, "changeAt", "(II)V"⟩
abbrev cRow_putIn : ByteArray := prog_4_method_6_code
def yRow_putIn : MethodName := ⟨RRow, "putIn", "(II)Z"⟩
abbrev cRow_takeOut : ByteArray := prog_4_method_7_code
def yRow_takeOut : MethodName := ⟨RRow, "takeOut", "(I)I"⟩
abbrev cRow_takeOutAll : ByteArray := prog_4_method_8_code
def yRow_takeOutAll : MethodName := ⟨RRow, "takeOutAll", "(I)I"⟩
abbrev cRow_placeOf : ByteArray := prog_4_method_9_code
def yRow_placeOf : MethodName := ⟨RRow, "placeOf", "(IZ)I"⟩
abbrev cRow_lastNotZero : ByteArray := prog_4_method_10_code
def yRow_lastNotZero : MethodName := ⟨RRow, "lastNotZero", "()I"⟩
abbrev cRow_isAs : ByteArray := prog_4_method_11_code
def yRow_isAs : MethodName := ⟨RRow, "isAs", "(LCursorlist$Row;)Z"⟩
abbrev cRow_joined : ByteArray := prog_4_method_12_code
def yRow_joined : MethodName := ⟨RRow, "joined", "(Z)Ljava/lang/String;"⟩
abbrev cRow_exchange : ByteArray := prog_4_method_13_code
def yRow_exchange : MethodName := ⟨RRow, "exchange", "(II)V"⟩
abbrev cRow_turnRound : ByteArray := prog_4_method_14_code
def yRow_turnRound : MethodName := ⟨RRow, "turnRound", "()V"⟩
abbrev cRow_turnBy : ByteArray := prog_4_method_15_code
def yRow_turnBy : MethodName := ⟨RRow, "turnBy", "(I)V"⟩
abbrev cRow_become : ByteArray := prog_4_method_16_code
def yRow_become : MethodName := ⟨RRow, "become", "(LCursorlist$Row;)V"⟩
abbrev cRow_becomePlaces : ByteArray := prog_4_method_17_code
def yRow_becomePlaces : MethodName := ⟨RRow, "becomePlaces", "(I)V"⟩
abbrev cRow_addBehind : ByteArray := prog_4_method_18_code
def yRow_addBehind : MethodName := ⟨RRow, "addBehind", "(I)Z"⟩
abbrev cRow_becomeJoined : ByteArray := prog_4_method_19_code
def yRow_becomeJoined : MethodName := ⟨RRow, "becomeJoined", "(LCursorlist$Row;ILCursorlist$Row;)Z"⟩
abbrev cRow_becomeThrough : ByteArray := prog_4_method_20_code
def yRow_becomeThrough : MethodName := ⟨RRow, "becomeThrough", "(LCursorlist$Row;LCursorlist$Row;)Z"⟩
abbrev cRow_becomeSum : ByteArray := prog_4_method_21_code
def yRow_becomeSum : MethodName := ⟨RRow, "becomeSum", "(LCursorlist$Row;LCursorlist$Row;)Z"⟩
abbrev cRow_becomeProduct : ByteArray := prog_4_method_22_code
def yRow_becomeProduct : MethodName := ⟨RRow, "becomeProduct", "(LCursorlist$Row;LCursorlist$Row;)Z"⟩
abbrev cRow_coefficientOfProduct : ByteArray := prog_4_method_23_code
def yRow_coefficientOfProduct : MethodName := ⟨RRow, "coefficientOfProduct", "(LCursorlist$Row;LCursorlist$Row;I)I"⟩
abbrev cRow_becomeDerived : ByteArray := prog_4_method_24_code
def yRow_becomeDerived : MethodName := ⟨RRow, "becomeDerived", "(LCursorlist$Row;)Z"⟩
abbrev cRow_restAt : ByteArray := prog_4_method_25_code
def yRow_restAt : MethodName := ⟨RRow, "restAt", "(I)I"⟩
abbrev cRow_isOrder : ByteArray := prog_4_method_26_code
def yRow_isOrder : MethodName := ⟨RRow, "isOrder", "()Z"⟩
abbrev cRow_inversions : ByteArray := prog_4_method_27_code
def yRow_inversions : MethodName := ⟨RRow, "inversions", "()I"⟩
def RCls : String := "Cursorlist"
def TCls : u_T := fun k => match k with
  | 0 => ("Cursorlist", "lists", "[LCursorlist$Row;", true)
  | 1 => ("Cursorlist", "cursors", "[LCursorlist$Cursor;", true)
  | 2 => ("Cursorlist", "recency", "LCursorlist$Recency;", true)
  | 3 => ("Cursorlist", "result", "LCursorlist$Row;", true)
  | 4 => ("Cursorlist", "refusals", "I", false)
  | _ => ("Cursorlist", "knocks", "I", false)
def tyCls : Nat → FieldType := fun k => match k with
  | 0 => .array (.object "Cursorlist$Row")
  | 1 => .array (.object "Cursorlist$Cursor")
  | 2 => .object "Cursorlist$Recency"
  | 3 => .object "Cursorlist$Row"
  | 4 => .int
  | _ => .int
theorem nmCls : ∀ a, a < 6 → ∀ b, b < 6 → a ≠ b → (TCls a).2.1 ≠ (TCls b).2.1 := by decide +kernel
theorem tyCls_ok : ∀ k, k < 6 → parseFieldDescriptor (TCls k).2.2.1 = some (tyCls k) := by decide +kernel
abbrev cCls_init : ByteArray := prog_1_method_1_code
def yCls_init : MethodName := ⟨RCls, "<init>", "()V"⟩
abbrev cCls_put : ByteArray := prog_1_method_2_code
def yCls_put : MethodName := ⟨RCls, "put", "(III)I"⟩
abbrev cCls_take : ByteArray := prog_1_method_3_code
def yCls_take : MethodName := ⟨RCls, "take", "(II)I"⟩
abbrev cCls_look : ByteArray := prog_1_method_4_code
def yCls_look : MethodName := ⟨RCls, "look", "(II)I"⟩
abbrev cCls_get : ByteArray := prog_1_method_5_code
def yCls_get : MethodName := ⟨RCls, "get", "(II)I"⟩
abbrev cCls_set : ByteArray := prog_1_method_6_code
def yCls_set : MethodName := ⟨RCls, "set", "(III)I"⟩
abbrev cCls_insert : ByteArray := prog_1_method_7_code
def yCls_insert : MethodName := ⟨RCls, "insert", "(III)I"⟩
abbrev cCls_removeAt : ByteArray := prog_1_method_8_code
def yCls_removeAt : MethodName := ⟨RCls, "removeAt", "(II)I"⟩
abbrev cCls_drop : ByteArray := prog_1_method_9_code
def yCls_drop : MethodName := ⟨RCls, "drop", "(IIZ)Z"⟩
abbrev cCls_thin : ByteArray := prog_1_method_10_code
def yCls_thin : MethodName := ⟨RCls, "thin", "(II)I"⟩
abbrev cCls_indexOf : ByteArray := prog_1_method_11_code
def yCls_indexOf : MethodName := ⟨RCls, "indexOf", "(IIZ)I"⟩
abbrev cCls_has : ByteArray := prog_1_method_12_code
def yCls_has : MethodName := ⟨RCls, "has", "(II)Z"⟩
abbrev cCls_size : ByteArray := prog_1_method_13_code
def yCls_size : MethodName := ⟨RCls, "size", "(I)I"⟩
abbrev cCls_text : ByteArray := prog_1_method_14_code
def yCls_text : MethodName := ⟨RCls, "text", "(IZ)Ljava/lang/String;"⟩
abbrev cCls_clear : ByteArray := prog_1_method_15_code
def yCls_clear : MethodName := ⟨RCls, "clear", "(I)I"⟩
abbrev cCls_append : ByteArray := prog_1_method_16_code
def yCls_append : MethodName := ⟨RCls, "append", "(II)I"⟩
abbrev cCls_appendAt : ByteArray := prog_1_method_17_code
def yCls_appendAt : MethodName := ⟨RCls, "appendAt", "(III)I"⟩
abbrev cCls_copy : ByteArray := prog_1_method_18_code
def yCls_copy : MethodName := ⟨RCls, "copy", "(II)I"⟩
abbrev cCls_places : ByteArray := prog_1_method_19_code
def yCls_places : MethodName := ⟨RCls, "places", "(II)I"⟩
abbrev cCls_rotate : ByteArray := prog_1_method_20_code
def yCls_rotate : MethodName := ⟨RCls, "rotate", "(II)I"⟩
abbrev cCls_move : ByteArray := prog_1_method_21_code
def yCls_move : MethodName := ⟨RCls, "move", "(III)I"⟩
abbrev cCls_swap : ByteArray := prog_1_method_22_code
def yCls_swap : MethodName := ⟨RCls, "swap", "(III)I"⟩
abbrev cCls_reverse : ByteArray := prog_1_method_23_code
def yCls_reverse : MethodName := ⟨RCls, "reverse", "(I)I"⟩
abbrev cCls_through : ByteArray := prog_1_method_24_code
def yCls_through : MethodName := ⟨RCls, "through", "(III)I"⟩
abbrev cCls_areSame : ByteArray := prog_1_method_25_code
def yCls_areSame : MethodName := ⟨RCls, "areSame", "(II)Z"⟩
abbrev cCls_isMirror : ByteArray := prog_1_method_26_code
def yCls_isMirror : MethodName := ⟨RCls, "isMirror", "(I)Z"⟩
abbrev cCls_open : ByteArray := prog_1_method_27_code
def yCls_open : MethodName := ⟨RCls, "open", "(III)I"⟩
abbrev cCls_shut : ByteArray := prog_1_method_28_code
def yCls_shut : MethodName := ⟨RCls, "shut", "(I)Z"⟩
abbrev cCls_forth : ByteArray := prog_1_method_29_code
def yCls_forth : MethodName := ⟨RCls, "forth", "(I)I"⟩
abbrev cCls_back : ByteArray := prog_1_method_30_code
def yCls_back : MethodName := ⟨RCls, "back", "(I)I"⟩
abbrev cCls_puts : ByteArray := prog_1_method_31_code
def yCls_puts : MethodName := ⟨RCls, "puts", "(II)I"⟩
abbrev cCls_cuts : ByteArray := prog_1_method_32_code
def yCls_cuts : MethodName := ⟨RCls, "cuts", "(I)I"⟩
abbrev cCls_changes : ByteArray := prog_1_method_33_code
def yCls_changes : MethodName := ⟨RCls, "changes", "(II)I"⟩
abbrev cCls_meet : ByteArray := prog_1_method_34_code
def yCls_meet : MethodName := ⟨RCls, "meet", "(II)I"⟩
abbrev cCls_ofCursor : ByteArray := prog_1_method_35_code
def yCls_ofCursor : MethodName := ⟨RCls, "ofCursor", "(II)I"⟩
abbrev cCls_plus : ByteArray := prog_1_method_36_code
def yCls_plus : MethodName := ⟨RCls, "plus", "(II)I"⟩
abbrev cCls_times : ByteArray := prog_1_method_37_code
def yCls_times : MethodName := ⟨RCls, "times", "(II)I"⟩
abbrev cCls_shift : ByteArray := prog_1_method_38_code
def yCls_shift : MethodName := ⟨RCls, "shift", "(I)I"⟩
abbrev cCls_trim : ByteArray := prog_1_method_39_code
def yCls_trim : MethodName := ⟨RCls, "trim", "(I)I"⟩
abbrev cCls_derive : ByteArray := prog_1_method_40_code
def yCls_derive : MethodName := ⟨RCls, "derive", "(I)I"⟩
abbrev cCls_value : ByteArray := prog_1_method_41_code
def yCls_value : MethodName := ⟨RCls, "value", "(II)I"⟩
abbrev cCls_degree : ByteArray := prog_1_method_42_code
def yCls_degree : MethodName := ⟨RCls, "degree", "(I)I"⟩
abbrev cCls_ask : ByteArray := prog_1_method_43_code
def yCls_ask : MethodName := ⟨RCls, "ask", "(I)I"⟩
abbrev cCls_forget : ByteArray := prog_1_method_44_code
def yCls_forget : MethodName := ⟨RCls, "forget", "()I"⟩
abbrev cCls_asked : ByteArray := prog_1_method_45_code
def yCls_asked : MethodName := ⟨RCls, "asked", "(I)I"⟩
abbrev cCls_recent : ByteArray := prog_1_method_46_code
def yCls_recent : MethodName := ⟨RCls, "recent", "()Ljava/lang/String;"⟩
abbrev cCls_byOrder : ByteArray := prog_1_method_47_code
def yCls_byOrder : MethodName := ⟨RCls, "byOrder", "(II)I"⟩
abbrev cCls_house : ByteArray := prog_1_method_48_code
def yCls_house : MethodName := ⟨RCls, "house", "(I)I"⟩
abbrev cCls_knock : ByteArray := prog_1_method_49_code
def yCls_knock : MethodName := ⟨RCls, "knock", "()I"⟩
abbrev cCls_isSound : ByteArray := prog_1_method_50_code
def yCls_isSound : MethodName := ⟨RCls, "isSound", "()Z"⟩
abbrev cCls_digest : ByteArray := prog_1_method_51_code
def yCls_digest : MethodName := ⟨RCls, "digest", "()J"⟩
abbrev cCls_listAt : ByteArray := prog_1_method_52_code
def yCls_listAt : MethodName := ⟨RCls, "listAt", "(I)LCursorlist$Row;"⟩
abbrev cCls_cursorAt : ByteArray := prog_1_method_53_code
def yCls_cursorAt : MethodName := ⟨RCls, "cursorAt", "(I)LCursorlist$Cursor;"⟩
abbrev cCls_demandPlace : ByteArray := prog_1_method_54_code
def yCls_demandPlace : MethodName := ⟨RCls, "demandPlace", "(LCursorlist$Row;I)V"⟩
abbrev cCls_demandGap : ByteArray := prog_1_method_55_code
def yCls_demandGap : MethodName := ⟨RCls, "demandGap", "(LCursorlist$Row;I)V"⟩
abbrev cCls_demandWithin : ByteArray := prog_1_method_56_code
def yCls_demandWithin : MethodName := ⟨RCls, "demandWithin", "(III)V"⟩
abbrev cCls_demandItem : ByteArray := prog_1_method_57_code
def yCls_demandItem : MethodName := ⟨RCls, "demandItem", "(I)V"⟩
abbrev cCls_demandThere : ByteArray := prog_1_method_58_code
def yCls_demandThere : MethodName := ⟨RCls, "demandThere", "(LCursorlist$Cursor;)V"⟩
abbrev cCls_refuse : ByteArray := prog_1_method_59_code
def yCls_refuse : MethodName := ⟨RCls, "refuse", "()I"⟩
abbrev cCls_makeStale : ByteArray := prog_1_method_60_code
def yCls_makeStale : MethodName := ⟨RCls, "makeStale", "(II)V"⟩
abbrev cCls_putInto : ByteArray := prog_1_method_61_code
def yCls_putInto : MethodName := ⟨RCls, "putInto", "(III)I"⟩
abbrev cCls_takeFrom : ByteArray := prog_1_method_62_code
def yCls_takeFrom : MethodName := ⟨RCls, "takeFrom", "(II)I"⟩
abbrev cCls_becomeResult : ByteArray := prog_1_method_63_code
def yCls_becomeResult : MethodName := ⟨RCls, "becomeResult", "(IZ)I"⟩
abbrev cCls_endOf : ByteArray := prog_1_method_64_code
def yCls_endOf : MethodName := ⟨RCls, "endOf", "(LCursorlist$Row;I)I"⟩
abbrev cCls_firstOf : ByteArray := prog_1_method_65_code
def yCls_firstOf : MethodName := ⟨RCls, "firstOf", "(LCursorlist$Row;)I"⟩
abbrev cCls_numberOf : ByteArray := prog_1_method_66_code
def yCls_numberOf : MethodName := ⟨RCls, "numberOf", "(Z)I"⟩
abbrev cCls_rowUnder : ByteArray := prog_1_method_67_code
def yCls_rowUnder : MethodName := ⟨RCls, "rowUnder", "(LCursorlist$Cursor;)LCursorlist$Row;"⟩
abbrev cCls_sumUntilMet : ByteArray := prog_1_method_68_code
def yCls_sumUntilMet : MethodName := ⟨RCls, "sumUntilMet", "(LCursorlist$Cursor;LCursorlist$Cursor;LCursorlist$Row;)I"⟩
abbrev cCls_whereIs : ByteArray := prog_1_method_69_code
def yCls_whereIs : MethodName := ⟨RCls, "whereIs", "(LCursorlist$Cursor;I)I"⟩
abbrev cCls_itemsOfAll : ByteArray := prog_1_method_70_code
def yCls_itemsOfAll : MethodName := ⟨RCls, "itemsOfAll", "()I"⟩
abbrev cCls_cursorsThere : ByteArray := prog_1_method_71_code
def yCls_cursorsThere : MethodName := ⟨RCls, "cursorsThere", "()I"⟩
abbrev cCls_cursorsStale : ByteArray := prog_1_method_72_code
def yCls_cursorsStale : MethodName := ⟨RCls, "cursorsStale", "()I"⟩
abbrev cCls_turnsBack : ByteArray := prog_1_method_73_code
def yCls_turnsBack : MethodName := ⟨RCls, "turnsBack", "(LCursorlist$Row;)Z"⟩
abbrev cCls_addsUp : ByteArray := prog_1_method_74_code
def yCls_addsUp : MethodName := ⟨RCls, "addsUp", "(LCursorlist$Row;LCursorlist$Row;)Z"⟩
abbrev cCls_agreesWithResult : ByteArray := prog_1_method_75_code
def yCls_agreesWithResult : MethodName := ⟨RCls, "agreesWithResult", "(LCursorlist$Row;LCursorlist$Row;Z)Z"⟩
abbrev cCls_isResultAt : ByteArray := prog_1_method_76_code
def yCls_isResultAt : MethodName := ⟨RCls, "isResultAt", "(LCursorlist$Row;LCursorlist$Row;ZI)Z"⟩
abbrev cCls_isRecencySound : ByteArray := prog_1_method_77_code
def yCls_isRecencySound : MethodName := ⟨RCls, "isRecencySound", "()Z"⟩
abbrev cCls_mixed : ByteArray := prog_1_method_78_code
def yCls_mixed : MethodName := ⟨RCls, "mixed", "(JJ)J"⟩
abbrev cCls_mixedWithItems : ByteArray := prog_1_method_79_code
def yCls_mixedWithItems : MethodName := ⟨RCls, "mixedWithItems", "(JLCursorlist$Row;)J"⟩
abbrev cCls_mixedWithList : ByteArray := prog_1_method_80_code
def yCls_mixedWithList : MethodName := ⟨RCls, "mixedWithList", "(JLCursorlist$Row;)J"⟩
abbrev cCls_mixedWithOrder : ByteArray := prog_1_method_81_code
def yCls_mixedWithOrder : MethodName := ⟨RCls, "mixedWithOrder", "(JLCursorlist$Row;)J"⟩
def ROut : String := "CursorlistLaw$Out"
def TOut : u_T := fun k => match k with
  | 0 => ("CursorlistLaw$Out", "n", "J", false)
  | _ => ("CursorlistLaw$Out", "s", "Ljava/lang/String;", false)
def tyOut : Nat → FieldType := fun k => match k with
  | 0 => .long
  | _ => .object "java/lang/String"
theorem nmOut : ∀ a, a < 2 → ∀ b, b < 2 → a ≠ b → (TOut a).2.1 ≠ (TOut b).2.1 := by decide +kernel
theorem tyOut_ok : ∀ k, k < 2 → parseFieldDescriptor (TOut k).2.2.1 = some (tyOut k) := by decide +kernel
abbrev cOut_init : ByteArray := prog_6_method_1_code
def yOut_init : MethodName := ⟨ROut, "<init>", "()V"⟩
def RMod : String := "CursorlistModel"
def TMod : u_T := fun k => match k with
  | 0 => ("CursorlistModel", "rows", "[[I", true)
  | 1 => ("CursorlistModel", "isThere", "[Z", true)
  | 2 => ("CursorlistModel", "isStale", "[Z", true)
  | 3 => ("CursorlistModel", "over", "[I", true)
  | 4 => ("CursorlistModel", "index", "[I", true)
  | 5 => ("CursorlistModel", "lastAt", "[I", true)
  | 6 => ("CursorlistModel", "recent", "[I", false)
  | 7 => ("CursorlistModel", "askings", "[I", true)
  | 8 => ("CursorlistModel", "asked", "I", false)
  | 9 => ("CursorlistModel", "paid", "I", false)
  | 10 => ("CursorlistModel", "refusals", "I", false)
  | 11 => ("CursorlistModel", "knocks", "I", false)
  | _ => ("CursorlistModel", "thrown", "I", false)
def tyMod : Nat → FieldType := fun k => match k with
  | 0 => .array (.array .int)
  | 1 => .array .boolean
  | 2 => .array .boolean
  | 3 => .array .int
  | 4 => .array .int
  | 5 => .array .int
  | 6 => .array .int
  | 7 => .array .int
  | 8 => .int
  | 9 => .int
  | 10 => .int
  | 11 => .int
  | _ => .int
theorem nmMod : ∀ a, a < 13 → ∀ b, b < 13 → a ≠ b → (TMod a).2.1 ≠ (TMod b).2.1 := by decide +kernel
theorem tyMod_ok : ∀ k, k < 13 → parseFieldDescriptor (TMod k).2.2.1 = some (tyMod k) := by decide +kernel
abbrev cMod_init : ByteArray := prog_7_method_1_code
def yMod_init : MethodName := ⟨RMod, "<init>", "()V"⟩
abbrev cMod_thrown : ByteArray := prog_7_method_2_code
def yMod_thrown : MethodName := ⟨RMod, "thrown", "()I"⟩
abbrev cMod_fails : ByteArray := prog_7_method_3_code
def yMod_fails : MethodName := ⟨RMod, "fails", "(ZZZ)Z"⟩
abbrev cMod_isOut : ByteArray := prog_7_method_4_code
def yMod_isOut : MethodName := ⟨RMod, "isOut", "(III)Z"⟩
abbrev cMod_isNo : ByteArray := prog_7_method_5_code
def yMod_isNo : MethodName := ⟨RMod, "isNo", "(I)Z"⟩
abbrev cMod_isNoCursor : ByteArray := prog_7_method_6_code
def yMod_isNoCursor : MethodName := ⟨RMod, "isNoCursor", "(I)Z"⟩
abbrev cMod_isNoItem : ByteArray := prog_7_method_7_code
def yMod_isNoItem : MethodName := ⟨RMod, "isNoItem", "(I)Z"⟩
abbrev cMod_isNoPlace : ByteArray := prog_7_method_8_code
def yMod_isNoPlace : MethodName := ⟨RMod, "isNoPlace", "(II)Z"⟩
abbrev cMod_refused : ByteArray := prog_7_method_9_code
def yMod_refused : MethodName := ⟨RMod, "refused", "()I"⟩
abbrev cMod_with : ByteArray := prog_7_method_10_code
def yMod_with : MethodName := ⟨RMod, "with", "([III)[I"⟩
abbrev cMod_without : ByteArray := prog_7_method_11_code
def yMod_without : MethodName := ⟨RMod, "without", "([II)[I"⟩
abbrev cMod_joined : ByteArray := prog_7_method_12_code
def yMod_joined : MethodName := ⟨RMod, "joined", "([II[I)[I"⟩
abbrev cMod_turned : ByteArray := prog_7_method_13_code
def yMod_turned : MethodName := ⟨RMod, "turned", "([I)[I"⟩
abbrev cMod_areLike : ByteArray := prog_7_method_14_code
def yMod_areLike : MethodName := ⟨RMod, "areLike", "([I[I)Z"⟩
abbrev cMod_find : ByteArray := prog_7_method_15_code
def yMod_find : MethodName := ⟨RMod, "find", "([IIZ)I"⟩
abbrev cMod_told : ByteArray := prog_7_method_16_code
def yMod_told : MethodName := ⟨RMod, "told", "([I)Ljava/lang/String;"⟩
abbrev cMod_become : ByteArray := prog_7_method_17_code
def yMod_become : MethodName := ⟨RMod, "become", "(I[II)V"⟩
abbrev cMod_becomes : ByteArray := prog_7_method_18_code
def yMod_becomes : MethodName := ⟨RMod, "becomes", "(I[I)I"⟩
abbrev cMod_put : ByteArray := prog_7_method_19_code
def yMod_put : MethodName := ⟨RMod, "put", "(III)I"⟩
abbrev cMod_isAtEnd : ByteArray := prog_7_method_20_code
def yMod_isAtEnd : MethodName := ⟨RMod, "isAtEnd", "(I)Z"⟩
abbrev cMod_take : ByteArray := prog_7_method_21_code
def yMod_take : MethodName := ⟨RMod, "take", "(II)I"⟩
abbrev cMod_look : ByteArray := prog_7_method_22_code
def yMod_look : MethodName := ⟨RMod, "look", "(II)I"⟩
abbrev cMod_get : ByteArray := prog_7_method_23_code
def yMod_get : MethodName := ⟨RMod, "get", "(II)I"⟩
abbrev cMod_set : ByteArray := prog_7_method_24_code
def yMod_set : MethodName := ⟨RMod, "set", "(III)I"⟩
abbrev cMod_insert : ByteArray := prog_7_method_25_code
def yMod_insert : MethodName := ⟨RMod, "insert", "(III)I"⟩
abbrev cMod_removeAt : ByteArray := prog_7_method_26_code
def yMod_removeAt : MethodName := ⟨RMod, "removeAt", "(II)I"⟩
abbrev cMod_drop : ByteArray := prog_7_method_27_code
def yMod_drop : MethodName := ⟨RMod, "drop", "(IIZ)Z"⟩
abbrev cMod_thin : ByteArray := prog_7_method_28_code
def yMod_thin : MethodName := ⟨RMod, "thin", "(II)I"⟩
abbrev cMod_indexOf : ByteArray := prog_7_method_29_code
def yMod_indexOf : MethodName := ⟨RMod, "indexOf", "(IIZ)I"⟩
abbrev cMod_has : ByteArray := prog_7_method_30_code
def yMod_has : MethodName := ⟨RMod, "has", "(II)Z"⟩
abbrev cMod_size : ByteArray := prog_7_method_31_code
def yMod_size : MethodName := ⟨RMod, "size", "(I)I"⟩
abbrev cMod_text : ByteArray := prog_7_method_32_code
def yMod_text : MethodName := ⟨RMod, "text", "(IZ)Ljava/lang/String;"⟩
abbrev cMod_clear : ByteArray := prog_7_method_33_code
def yMod_clear : MethodName := ⟨RMod, "clear", "(I)I"⟩
abbrev cMod_append : ByteArray := prog_7_method_34_code
def yMod_append : MethodName := ⟨RMod, "append", "(II)I"⟩
abbrev cMod_joins : ByteArray := prog_7_method_35_code
def yMod_joins : MethodName := ⟨RMod, "joins", "(III)I"⟩
abbrev cMod_appendAt : ByteArray := prog_7_method_36_code
def yMod_appendAt : MethodName := ⟨RMod, "appendAt", "(III)I"⟩
abbrev cMod_copied : ByteArray := prog_7_method_37_code
def yMod_copied : MethodName := ⟨RMod, "copied", "([I)[I"⟩
abbrev cMod_copy : ByteArray := prog_7_method_38_code
def yMod_copy : MethodName := ⟨RMod, "copy", "(II)I"⟩
abbrev cMod_places : ByteArray := prog_7_method_39_code
def yMod_places : MethodName := ⟨RMod, "places", "(II)I"⟩
abbrev cMod_first : ByteArray := prog_7_method_40_code
def yMod_first : MethodName := ⟨RMod, "first", "(I)I"⟩
abbrev cMod_rotate : ByteArray := prog_7_method_41_code
def yMod_rotate : MethodName := ⟨RMod, "rotate", "(II)I"⟩
abbrev cMod_move : ByteArray := prog_7_method_42_code
def yMod_move : MethodName := ⟨RMod, "move", "(III)I"⟩
abbrev cMod_swap : ByteArray := prog_7_method_43_code
def yMod_swap : MethodName := ⟨RMod, "swap", "(III)I"⟩
abbrev cMod_reverse : ByteArray := prog_7_method_44_code
def yMod_reverse : MethodName := ⟨RMod, "reverse", "(I)I"⟩
abbrev cMod_through : ByteArray := prog_7_method_45_code
def yMod_through : MethodName := ⟨RMod, "through", "(III)I"⟩
abbrev cMod_areSame : ByteArray := prog_7_method_46_code
def yMod_areSame : MethodName := ⟨RMod, "areSame", "(II)Z"⟩
abbrev cMod_isMirror : ByteArray := prog_7_method_47_code
def yMod_isMirror : MethodName := ⟨RMod, "isMirror", "(I)Z"⟩
abbrev cMod_open : ByteArray := prog_7_method_48_code
def yMod_open : MethodName := ⟨RMod, "open", "(III)I"⟩
abbrev cMod_shut : ByteArray := prog_7_method_49_code
def yMod_shut : MethodName := ⟨RMod, "shut", "(I)Z"⟩
abbrev cMod_isNotThere : ByteArray := prog_7_method_50_code
def yMod_isNotThere : MethodName := ⟨RMod, "isNotThere", "(I)Z"⟩
abbrev cMod_goes : ByteArray := prog_7_method_51_code
def yMod_goes : MethodName := ⟨RMod, "goes", "(IZ)I"⟩
abbrev cMod_asksOn : ByteArray := prog_7_method_52_code
def yMod_asksOn : MethodName := ⟨RMod, "asksOn", "(IZ)I"⟩
abbrev cMod_forth : ByteArray := prog_7_method_53_code
def yMod_forth : MethodName := ⟨RMod, "forth", "(I)I"⟩
abbrev cMod_back : ByteArray := prog_7_method_54_code
def yMod_back : MethodName := ⟨RMod, "back", "(I)I"⟩
abbrev cMod_puts : ByteArray := prog_7_method_55_code
def yMod_puts : MethodName := ⟨RMod, "puts", "(II)I"⟩
abbrev cMod_cuts : ByteArray := prog_7_method_56_code
def yMod_cuts : MethodName := ⟨RMod, "cuts", "(I)I"⟩
abbrev cMod_changes : ByteArray := prog_7_method_57_code
def yMod_changes : MethodName := ⟨RMod, "changes", "(II)I"⟩
abbrev cMod_meet : ByteArray := prog_7_method_58_code
def yMod_meet : MethodName := ⟨RMod, "meet", "(II)I"⟩
abbrev cMod_ofCursorNow : ByteArray := prog_7_method_59_code
def yMod_ofCursorNow : MethodName := ⟨RMod, "ofCursorNow", "(II)I"⟩
abbrev cMod_ofCursor : ByteArray := prog_7_method_60_code
def yMod_ofCursor : MethodName := ⟨RMod, "ofCursor", "(II)I"⟩
abbrev cMod_fitting : ByteArray := prog_7_method_61_code
def yMod_fitting : MethodName := ⟨RMod, "fitting", "([J)[I"⟩
abbrev cMod_fits : ByteArray := prog_7_method_62_code
def yMod_fits : MethodName := ⟨RMod, "fits", "(I[J)I"⟩
abbrev cMod_plus : ByteArray := prog_7_method_63_code
def yMod_plus : MethodName := ⟨RMod, "plus", "(II)I"⟩
abbrev cMod_times : ByteArray := prog_7_method_64_code
def yMod_times : MethodName := ⟨RMod, "times", "(II)I"⟩
abbrev cMod_shift : ByteArray := prog_7_method_65_code
def yMod_shift : MethodName := ⟨RMod, "shift", "(I)I"⟩
abbrev cMod_trim : ByteArray := prog_7_method_66_code
def yMod_trim : MethodName := ⟨RMod, "trim", "(I)I"⟩
abbrev cMod_derive : ByteArray := prog_7_method_67_code
def yMod_derive : MethodName := ⟨RMod, "derive", "(I)I"⟩
abbrev cMod_rest : ByteArray := prog_7_method_68_code
def yMod_rest : MethodName := ⟨RMod, "rest", "(J)I"⟩
abbrev cMod_valueOf : ByteArray := prog_7_method_69_code
def yMod_valueOf : MethodName := ⟨RMod, "valueOf", "([II)I"⟩
abbrev cMod_value : ByteArray := prog_7_method_70_code
def yMod_value : MethodName := ⟨RMod, "value", "(II)I"⟩
abbrev cMod_degreeOf : ByteArray := prog_7_method_71_code
def yMod_degreeOf : MethodName := ⟨RMod, "degreeOf", "([I)I"⟩
abbrev cMod_degree : ByteArray := prog_7_method_72_code
def yMod_degree : MethodName := ⟨RMod, "degree", "(I)I"⟩
abbrev cMod_ask : ByteArray := prog_7_method_73_code
def yMod_ask : MethodName := ⟨RMod, "ask", "(I)I"⟩
abbrev cMod_forget : ByteArray := prog_7_method_74_code
def yMod_forget : MethodName := ⟨RMod, "forget", "()I"⟩
abbrev cMod_askedNow : ByteArray := prog_7_method_75_code
def yMod_askedNow : MethodName := ⟨RMod, "askedNow", "(I)I"⟩
abbrev cMod_asked : ByteArray := prog_7_method_76_code
def yMod_asked : MethodName := ⟨RMod, "asked", "(I)I"⟩
abbrev cMod_recent : ByteArray := prog_7_method_77_code
def yMod_recent : MethodName := ⟨RMod, "recent", "()Ljava/lang/String;"⟩
abbrev cMod_isOrder : ByteArray := prog_7_method_78_code
def yMod_isOrder : MethodName := ⟨RMod, "isOrder", "([I)Z"⟩
abbrev cMod_byOrderNow : ByteArray := prog_7_method_79_code
def yMod_byOrderNow : MethodName := ⟨RMod, "byOrderNow", "([II)I"⟩
abbrev cMod_byOrder : ByteArray := prog_7_method_80_code
def yMod_byOrder : MethodName := ⟨RMod, "byOrder", "(II)I"⟩
abbrev cMod_houseNow : ByteArray := prog_7_method_81_code
def yMod_houseNow : MethodName := ⟨RMod, "houseNow", "(I)I"⟩
abbrev cMod_house : ByteArray := prog_7_method_82_code
def yMod_house : MethodName := ⟨RMod, "house", "(I)I"⟩
abbrev cMod_knock : ByteArray := prog_7_method_83_code
def yMod_knock : MethodName := ⟨RMod, "knock", "()I"⟩
abbrev cMod_isSound : ByteArray := prog_7_method_84_code
def yMod_isSound : MethodName := ⟨RMod, "isSound", "()Z"⟩
abbrev cMod_add : ByteArray := prog_7_method_85_code
def yMod_add : MethodName := ⟨RMod, "add", "(JJ)J"⟩
abbrev cMod_digest : ByteArray := prog_7_method_86_code
def yMod_digest : MethodName := ⟨RMod, "digest", "()J"⟩
def RAsb : String := "java/lang/AbstractStringBuilder"
def TAsb : u_T := fun k => match k with
  | _ => ("", "", "", false)
def tyAsb : Nat → FieldType := fun k => match k with
  | _ => .int
theorem nmAsb : ∀ a, a < 0 → ∀ b, b < 0 → a ≠ b → (TAsb a).2.1 ≠ (TAsb b).2.1 := by decide +kernel
theorem tyAsb_ok : ∀ k, k < 0 → parseFieldDescriptor (TAsb k).2.2.1 = some (tyAsb k) := by decide +kernel
abbrev cAsb_init_d00df : ByteArray := prog_8_method_2_code
def yAsb_init_d00df : MethodName := ⟨RAsb, "<init>", "(I)V"⟩
abbrev cAsb_length_8abf5 : ByteArray := prog_8_method_6_code
def yAsb_length_8abf5 : MethodName := ⟨RAsb, "length", "()I"⟩
abbrev cAsb_ensureCapacityInternal_d00df : ByteArray := prog_8_method_9_code
def yAsb_ensureCapacityInternal_d00df : MethodName := ⟨RAsb, "ensureCapacityInternal", "(I)V"⟩
abbrev cAsb_newCapacity_0f7a4 : ByteArray := prog_8_method_10_code
def yAsb_newCapacity_0f7a4 : MethodName := ⟨RAsb, "newCapacity", "(I)I"⟩
abbrev cAsb_inflate_da8c8 : ByteArray := prog_8_method_11_code
def yAsb_inflate_da8c8 : MethodName := ⟨RAsb, "inflate", "()V"⟩
abbrev cAsb_append_cf1ce : ByteArray := prog_8_method_22_code
def yAsb_append_cf1ce : MethodName := ⟨RAsb, "append", "(Ljava/lang/String;)Ljava/lang/AbstractStringBuilder;"⟩
abbrev cAsb_appendNull_278bc : ByteArray := prog_8_method_26_code
def yAsb_appendNull_278bc : MethodName := ⟨RAsb, "appendNull", "()Ljava/lang/AbstractStringBuilder;"⟩
abbrev cAsb_append_3fe6f : ByteArray := prog_8_method_31_code
def yAsb_append_3fe6f : MethodName := ⟨RAsb, "append", "(C)Ljava/lang/AbstractStringBuilder;"⟩
abbrev cAsb_append_c97b9 : ByteArray := prog_8_method_32_code
def yAsb_append_c97b9 : MethodName := ⟨RAsb, "append", "(I)Ljava/lang/AbstractStringBuilder;"⟩
abbrev cAsb_getValue_6d5f1 : ByteArray := prog_8_method_64_code
def yAsb_getValue_6d5f1 : MethodName := ⟨RAsb, "getValue", "()[B"⟩
abbrev cAsb_isLatin1_aae02 : ByteArray := prog_8_method_68_code
def yAsb_isLatin1_aae02 : MethodName := ⟨RAsb, "isLatin1", "()Z"⟩
abbrev cAsb_inflateIfNeededFor_a7421 : ByteArray := prog_8_method_71_code
def yAsb_inflateIfNeededFor_a7421 : MethodName := ⟨RAsb, "inflateIfNeededFor", "(Ljava/lang/String;)V"⟩
abbrev cAsb_putStringAt_47b60 : ByteArray := prog_8_method_73_code
def yAsb_putStringAt_47b60 : MethodName := ⟨RAsb, "putStringAt", "(ILjava/lang/String;)V"⟩
def RClo : String := "java/lang/Cloneable"
def TClo : u_T := fun k => match k with
  | _ => ("", "", "", false)
def tyClo : Nat → FieldType := fun k => match k with
  | _ => .int
theorem nmClo : ∀ a, a < 0 → ∀ b, b < 0 → a ≠ b → (TClo a).2.1 ≠ (TClo b).2.1 := by decide +kernel
theorem tyClo_ok : ∀ k, k < 0 → parseFieldDescriptor (TClo k).2.2.1 = some (tyClo k) := by decide +kernel
def RInt : String := "java/lang/Integer"
def TInt : u_T := fun k => match k with
  | _ => ("", "", "", false)
def tyInt : Nat → FieldType := fun k => match k with
  | _ => .int
theorem nmInt : ∀ a, a < 0 → ∀ b, b < 0 → a ≠ b → (TInt a).2.1 ≠ (TInt b).2.1 := by decide +kernel
theorem tyInt_ok : ∀ k, k < 0 → parseFieldDescriptor (TInt k).2.2.1 = some (tyInt k) := by decide +kernel
abbrev cInt_getChars_ba4f3 : ByteArray := prog_14_method_12_code
def yInt_getChars_ba4f3 : MethodName := ⟨RInt, "getChars", "(II[B)I"⟩
abbrev cInt_stringSize_0f7a4 : ByteArray := prog_14_method_13_code
def yInt_stringSize_0f7a4 : MethodName := ⟨RInt, "stringSize", "(I)I"⟩
def RMth : String := "java/lang/Math"
def TMth : u_T := fun k => match k with
  | _ => ("", "", "", false)
def tyMth : Nat → FieldType := fun k => match k with
  | _ => .int
theorem nmMth : ∀ a, a < 0 → ∀ b, b < 0 → a ≠ b → (TMth a).2.1 ≠ (TMth b).2.1 := by decide +kernel
theorem tyMth_ok : ∀ k, k < 0 → parseFieldDescriptor (TMth k).2.2.1 = some (tyMth k) := by decide +kernel
abbrev cMth_floorMod_7cf53 : ByteArray := prog_15_method_50_code
def yMth_floorMod_7cf53 : MethodName := ⟨RMth, "floorMod", "(II)I"⟩
abbrev cMth_max_7cf53 : ByteArray := prog_15_method_65_code
def yMth_max_7cf53 : MethodName := ⟨RMth, "max", "(II)I"⟩
abbrev cMth_min_7cf53 : ByteArray := prog_15_method_69_code
def yMth_min_7cf53 : MethodName := ⟨RMth, "min", "(II)I"⟩
def RStr : String := "java/lang/String"
def TStr : u_T := fun k => match k with
  | 0 => ("java/lang/String", "value", "[B", true)
  | 1 => ("java/lang/String", "coder", "B", true)
  | 2 => ("java/lang/String", "hash", "I", false)
  | _ => ("java/lang/String", "hashIsZero", "Z", false)
def tyStr : Nat → FieldType := fun k => match k with
  | 0 => .array .byte
  | 1 => .byte
  | 2 => .int
  | _ => .boolean
theorem nmStr : ∀ a, a < 4 → ∀ b, b < 4 → a ≠ b → (TStr a).2.1 ≠ (TStr b).2.1 := by decide +kernel
theorem tyStr_ok : ∀ k, k < 4 → parseFieldDescriptor (TStr k).2.2.1 = some (tyStr k) := by decide +kernel
abbrev cStr_init_81219 : ByteArray := prog_17_method_53_code
def yStr_init_81219 : MethodName := ⟨RStr, "<init>", "(Ljava/lang/StringBuilder;)V"⟩
abbrev cStr_length_8abf5 : ByteArray := prog_17_method_54_code
def yStr_length_8abf5 : MethodName := ⟨RStr, "length", "()I"⟩
abbrev cStr_getBytes_840e7 : ByteArray := prog_17_method_147_code
def yStr_getBytes_840e7 : MethodName := ⟨RStr, "getBytes", "([BIB)V"⟩
abbrev cStr_init_db425 : ByteArray := prog_17_method_150_code
def yStr_init_db425 : MethodName := ⟨RStr, "<init>", "(Ljava/lang/AbstractStringBuilder;Ljava/lang/Void;)V"⟩
abbrev cStr_coder_7d493 : ByteArray := prog_17_method_152_code
def yStr_coder_7d493 : MethodName := ⟨RStr, "coder", "()B"⟩
abbrev cStr_checkIndex_df160 : ByteArray := prog_17_method_155_code
def yStr_checkIndex_df160 : MethodName := ⟨RStr, "checkIndex", "(II)V"⟩
abbrev cStr_checkBoundsOffCount_cabcc : ByteArray := prog_17_method_157_code
def yStr_checkBoundsOffCount_cabcc : MethodName := ⟨RStr, "checkBoundsOffCount", "(III)I"⟩
abbrev cStr_checkBoundsBeginEnd_23922 : ByteArray := prog_17_method_158_code
def yStr_checkBoundsBeginEnd_23922 : MethodName := ⟨RStr, "checkBoundsBeginEnd", "(III)V"⟩
def RSbd : String := "java/lang/StringBuilder"
def TSbd : u_T := fun k => match k with
  | 0 => ("java/lang/AbstractStringBuilder", "value", "[B", false)
  | 1 => ("java/lang/AbstractStringBuilder", "coder", "B", false)
  | 2 => ("java/lang/AbstractStringBuilder", "maybeLatin1", "Z", false)
  | _ => ("java/lang/AbstractStringBuilder", "count", "I", false)
def tySbd : Nat → FieldType := fun k => match k with
  | 0 => .array .byte
  | 1 => .byte
  | 2 => .boolean
  | _ => .int
theorem nmSbd : ∀ a, a < 4 → ∀ b, b < 4 → a ≠ b → (TSbd a).2.1 ≠ (TSbd b).2.1 := by decide +kernel
theorem tySbd_ok : ∀ k, k < 4 → parseFieldDescriptor (TSbd k).2.2.1 = some (tySbd k) := by decide +kernel
abbrev cSbd_init_da8c8 : ByteArray := prog_18_method_1_code
def ySbd_init_da8c8 : MethodName := ⟨RSbd, "<init>", "()V"⟩
abbrev cSbd_append_15ec4 : ByteArray := prog_18_method_7_code
def ySbd_append_15ec4 : MethodName := ⟨RSbd, "append", "(Ljava/lang/String;)Ljava/lang/StringBuilder;"⟩
abbrev cSbd_append_cf468 : ByteArray := prog_18_method_14_code
def ySbd_append_cf468 : MethodName := ⟨RSbd, "append", "(C)Ljava/lang/StringBuilder;"⟩
abbrev cSbd_append_bf812 : ByteArray := prog_18_method_15_code
def ySbd_append_bf812 : MethodName := ⟨RSbd, "append", "(I)Ljava/lang/StringBuilder;"⟩
abbrev cSbd_toString_0e30d : ByteArray := prog_18_method_42_code
def ySbd_toString_0e30d : MethodName := ⟨RSbd, "toString", "()Ljava/lang/String;"⟩
abbrev cSbd_length_8abf5 : ByteArray := prog_18_method_93_code
def ySbd_length_8abf5 : MethodName := ⟨RSbd, "length", "()I"⟩
def RLat : String := "java/lang/StringLatin1"
def TLat : u_T := fun k => match k with
  | _ => ("", "", "", false)
def tyLat : Nat → FieldType := fun k => match k with
  | _ => .int
theorem nmLat : ∀ a, a < 0 → ∀ b, b < 0 → a ≠ b → (TLat a).2.1 ≠ (TLat b).2.1 := by decide +kernel
theorem tyLat_ok : ∀ k, k < 0 → parseFieldDescriptor (TLat k).2.2.1 = some (tyLat k) := by decide +kernel
abbrev cLat_canEncode_fc78d : ByteArray := prog_19_method_3_code
def yLat_canEncode_fc78d : MethodName := ⟨RLat, "canEncode", "(C)Z"⟩
abbrev cLat_inflate_0e8fd : ByteArray := prog_19_method_50_code
def yLat_inflate_0e8fd : MethodName := ⟨RLat, "inflate", "([BI[BII)V"⟩
def RUtf : String := "java/lang/StringUTF16"
def TUtf : u_T := fun k => match k with
  | _ => ("", "", "", false)
def tyUtf : Nat → FieldType := fun k => match k with
  | _ => .int
theorem nmUtf : ∀ a, a < 0 → ∀ b, b < 0 → a ≠ b → (TUtf a).2.1 ≠ (TUtf b).2.1 := by decide +kernel
theorem tyUtf_ok : ∀ k, k < 0 → parseFieldDescriptor (TUtf k).2.2.1 = some (tyUtf k) := by decide +kernel
abbrev cUtf_newBytesFor_77867 : ByteArray := prog_20_method_2_code
def yUtf_newBytesFor_77867 : MethodName := ⟨RUtf, "newBytesFor", "(I)[B"⟩
abbrev cUtf_newBytesLength_0f7a4 : ByteArray := prog_20_method_3_code
def yUtf_newBytesLength_0f7a4 : MethodName := ⟨RUtf, "newBytesLength", "(I)I"⟩
abbrev cUtf_putChar_b72d1 : ByteArray := prog_20_method_4_code
def yUtf_putChar_b72d1 : MethodName := ⟨RUtf, "putChar", "([BII)V"⟩
abbrev cUtf_getChar_3b067 : ByteArray := prog_20_method_5_code
def yUtf_getChar_3b067 : MethodName := ⟨RUtf, "getChar", "([BI)C"⟩
abbrev cUtf_length_9d52b : ByteArray := prog_20_method_6_code
def yUtf_length_9d52b : MethodName := ⟨RUtf, "length", "([B)I"⟩
abbrev cUtf_coderFromArrayLen_85cad : ByteArray := prog_20_method_15_code
def yUtf_coderFromArrayLen_85cad : MethodName := ⟨RUtf, "coderFromArrayLen", "([BI)B"⟩
abbrev cUtf_compress_39247 : ByteArray := prog_20_method_17_code
def yUtf_compress_39247 : MethodName := ⟨RUtf, "compress", "([BII)[B"⟩
abbrev cUtf_compress_5af95 : ByteArray := prog_20_method_22_code
def yUtf_compress_5af95 : MethodName := ⟨RUtf, "compress", "([BI[BII)I"⟩
abbrev cUtf_putCharSB_b72d1 : ByteArray := prog_20_method_71_code
def yUtf_putCharSB_b72d1 : MethodName := ⟨RUtf, "putCharSB", "([BII)V"⟩
abbrev cUtf_getChars_46870 : ByteArray := prog_20_method_77_code
def yUtf_getChars_46870 : MethodName := ⟨RUtf, "getChars", "(III[B)I"⟩
abbrev cUtf_putCharsAt_cd4e5 : ByteArray := prog_20_method_81_code
def yUtf_putCharsAt_cd4e5 : MethodName := ⟨RUtf, "putCharsAt", "([BICCCC)I"⟩
abbrev cUtf_inflate_0e8fd : ByteArray := prog_20_method_86_code
def yUtf_inflate_0e8fd : MethodName := ⟨RUtf, "inflate", "([BI[BII)V"⟩
abbrev cUtf_getChars_ba4f3 : ByteArray := prog_20_method_89_code
def yUtf_getChars_ba4f3 : MethodName := ⟨RUtf, "getChars", "(II[B)I"⟩
abbrev cUtf_checkIndex_2214a : ByteArray := prog_20_method_91_code
def yUtf_checkIndex_2214a : MethodName := ⟨RUtf, "checkIndex", "(I[B)V"⟩
abbrev cUtf_checkBoundsBeginEnd_d044e : ByteArray := prog_20_method_93_code
def yUtf_checkBoundsBeginEnd_d044e : MethodName := ⟨RUtf, "checkBoundsBeginEnd", "(II[B)V"⟩
abbrev cUtf_checkBoundsOffCount_d044e : ByteArray := prog_20_method_94_code
def yUtf_checkBoundsOffCount_d044e : MethodName := ⟨RUtf, "checkBoundsOffCount", "(II[B)V"⟩
def RSys : String := "java/lang/System"
def TSys : u_T := fun k => match k with
  | _ => ("", "", "", false)
def tySys : Nat → FieldType := fun k => match k with
  | _ => .int
theorem nmSys : ∀ a, a < 0 → ∀ b, b < 0 → a ≠ b → (TSys a).2.1 ≠ (TSys b).2.1 := by decide +kernel
theorem tySys_ok : ∀ k, k < 0 → parseFieldDescriptor (TSys k).2.2.1 = some (tySys k) := by decide +kernel
def RArr : String := "java/util/Arrays"
def TArr : u_T := fun k => match k with
  | _ => ("", "", "", false)
def tyArr : Nat → FieldType := fun k => match k with
  | _ => .int
theorem nmArr : ∀ a, a < 0 → ∀ b, b < 0 → a ≠ b → (TArr a).2.1 ≠ (TArr b).2.1 := by decide +kernel
theorem tyArr_ok : ∀ k, k < 0 → parseFieldDescriptor (TArr k).2.2.1 = some (tyArr k) := by decide +kernel
abbrev cArr_copyOf_9075b : ByteArray := prog_23_method_121_code
def yArr_copyOf_9075b : MethodName := ⟨RArr, "copyOf", "([BI)[B"⟩
abbrev cArr_checkLength_df160 : ByteArray := prog_23_method_131_code
def yArr_checkLength_df160 : MethodName := ⟨RArr, "checkLength", "(II)V"⟩
abbrev cArr_copyOfRange_39247 : ByteArray := prog_23_method_132_code
def yArr_copyOfRange_39247 : MethodName := ⟨RArr, "copyOfRange", "([BII)[B"⟩
abbrev cArr_copyOfRangeByte_39247 : ByteArray := prog_23_method_133_code
def yArr_copyOfRangeByte_39247 : MethodName := ⟨RArr, "copyOfRangeByte", "([BII)[B"⟩
def RAsu : String := "jdk/internal/util/ArraysSupport"
def TAsu : u_T := fun k => match k with
  | _ => ("", "", "", false)
def tyAsu : Nat → FieldType := fun k => match k with
  | _ => .int
theorem nmAsu : ∀ a, a < 0 → ∀ b, b < 0 → a ≠ b → (TAsu a).2.1 ≠ (TAsu b).2.1 := by decide +kernel
theorem tyAsu_ok : ∀ k, k < 0 → parseFieldDescriptor (TAsu k).2.2.1 = some (tyAsu k) := by decide +kernel
abbrev cAsu_newLength_cabcc : ByteArray := prog_24_method_27_code
def yAsu_newLength_cabcc : MethodName := ⟨RAsu, "newLength", "(III)I"⟩
abbrev cAsu_hugeLength_7cf53 : ByteArray := prog_24_method_28_code
def yAsu_hugeLength_7cf53 : MethodName := ⟨RAsu, "hugeLength", "(II)I"⟩
def RPrc : String := "jdk/internal/util/Preconditions"
def TPrc : u_T := fun k => match k with
  | _ => ("", "", "", false)
def tyPrc : Nat → FieldType := fun k => match k with
  | _ => .int
theorem nmPrc : ∀ a, a < 0 → ∀ b, b < 0 → a ≠ b → (TPrc a).2.1 ≠ (TPrc b).2.1 := by decide +kernel
theorem tyPrc_ok : ∀ k, k < 0 → parseFieldDescriptor (TPrc k).2.2.1 = some (tyPrc k) := by decide +kernel
abbrev cPrc_checkIndex_8e157 : ByteArray := prog_25_method_11_code
def yPrc_checkIndex_8e157 : MethodName := ⟨RPrc, "checkIndex", "(IILjava/util/function/BiFunction;)I"⟩
abbrev cPrc_checkFromToIndex_8c36e : ByteArray := prog_25_method_12_code
def yPrc_checkFromToIndex_8c36e : MethodName := ⟨RPrc, "checkFromToIndex", "(IIILjava/util/function/BiFunction;)I"⟩
abbrev cPrc_checkFromIndexSize_8c36e : ByteArray := prog_25_method_13_code
def yPrc_checkFromIndexSize_8c36e : MethodName := ⟨RPrc, "checkFromIndexSize", "(IIILjava/util/function/BiFunction;)I"⟩
def RLaw : String := "CursorlistLaw"
abbrev cLaw_put : ByteArray := method_2_code
def yLaw_put : MethodName := ⟨RLaw, "put", "(LCursorlist;IIILCursorlistLaw$Out;)I"⟩
abbrev cLaw_take : ByteArray := method_3_code
def yLaw_take : MethodName := ⟨RLaw, "take", "(LCursorlist;IILCursorlistLaw$Out;)I"⟩
abbrev cLaw_look : ByteArray := method_4_code
def yLaw_look : MethodName := ⟨RLaw, "look", "(LCursorlist;IILCursorlistLaw$Out;)I"⟩
abbrev cLaw_get : ByteArray := method_5_code
def yLaw_get : MethodName := ⟨RLaw, "get", "(LCursorlist;IILCursorlistLaw$Out;)I"⟩
abbrev cLaw_set : ByteArray := method_6_code
def yLaw_set : MethodName := ⟨RLaw, "set", "(LCursorlist;IIILCursorlistLaw$Out;)I"⟩
abbrev cLaw_insert : ByteArray := method_7_code
def yLaw_insert : MethodName := ⟨RLaw, "insert", "(LCursorlist;IIILCursorlistLaw$Out;)I"⟩
abbrev cLaw_removeAt : ByteArray := method_8_code
def yLaw_removeAt : MethodName := ⟨RLaw, "removeAt", "(LCursorlist;IILCursorlistLaw$Out;)I"⟩
abbrev cLaw_drop : ByteArray := method_9_code
def yLaw_drop : MethodName := ⟨RLaw, "drop", "(LCursorlist;IIZLCursorlistLaw$Out;)I"⟩
abbrev cLaw_thin : ByteArray := method_10_code
def yLaw_thin : MethodName := ⟨RLaw, "thin", "(LCursorlist;IILCursorlistLaw$Out;)I"⟩
abbrev cLaw_indexOf : ByteArray := method_11_code
def yLaw_indexOf : MethodName := ⟨RLaw, "indexOf", "(LCursorlist;IIZLCursorlistLaw$Out;)I"⟩
abbrev cLaw_has : ByteArray := method_12_code
def yLaw_has : MethodName := ⟨RLaw, "has", "(LCursorlist;IILCursorlistLaw$Out;)I"⟩
abbrev cLaw_size : ByteArray := method_13_code
def yLaw_size : MethodName := ⟨RLaw, "size", "(LCursorlist;ILCursorlistLaw$Out;)I"⟩
abbrev cLaw_text : ByteArray := method_14_code
def yLaw_text : MethodName := ⟨RLaw, "text", "(LCursorlist;IZLCursorlistLaw$Out;)I"⟩
abbrev cLaw_clear : ByteArray := method_15_code
def yLaw_clear : MethodName := ⟨RLaw, "clear", "(LCursorlist;ILCursorlistLaw$Out;)I"⟩
abbrev cLaw_append : ByteArray := method_16_code
def yLaw_append : MethodName := ⟨RLaw, "append", "(LCursorlist;IILCursorlistLaw$Out;)I"⟩
abbrev cLaw_appendAt : ByteArray := method_17_code
def yLaw_appendAt : MethodName := ⟨RLaw, "appendAt", "(LCursorlist;IIILCursorlistLaw$Out;)I"⟩
abbrev cLaw_copy : ByteArray := method_18_code
def yLaw_copy : MethodName := ⟨RLaw, "copy", "(LCursorlist;IILCursorlistLaw$Out;)I"⟩
abbrev cLaw_places : ByteArray := method_19_code
def yLaw_places : MethodName := ⟨RLaw, "places", "(LCursorlist;IILCursorlistLaw$Out;)I"⟩
abbrev cLaw_rotate : ByteArray := method_20_code
def yLaw_rotate : MethodName := ⟨RLaw, "rotate", "(LCursorlist;IILCursorlistLaw$Out;)I"⟩
abbrev cLaw_move : ByteArray := method_21_code
def yLaw_move : MethodName := ⟨RLaw, "move", "(LCursorlist;IIILCursorlistLaw$Out;)I"⟩
abbrev cLaw_swap : ByteArray := method_22_code
def yLaw_swap : MethodName := ⟨RLaw, "swap", "(LCursorlist;IIILCursorlistLaw$Out;)I"⟩
abbrev cLaw_reverse : ByteArray := method_23_code
def yLaw_reverse : MethodName := ⟨RLaw, "reverse", "(LCursorlist;ILCursorlistLaw$Out;)I"⟩
abbrev cLaw_through : ByteArray := method_24_code
def yLaw_through : MethodName := ⟨RLaw, "through", "(LCursorlist;IIILCursorlistLaw$Out;)I"⟩
abbrev cLaw_areSame : ByteArray := method_25_code
def yLaw_areSame : MethodName := ⟨RLaw, "areSame", "(LCursorlist;IILCursorlistLaw$Out;)I"⟩
abbrev cLaw_isMirror : ByteArray := method_26_code
def yLaw_isMirror : MethodName := ⟨RLaw, "isMirror", "(LCursorlist;ILCursorlistLaw$Out;)I"⟩
abbrev cLaw_open : ByteArray := method_27_code
def yLaw_open : MethodName := ⟨RLaw, "open", "(LCursorlist;IIILCursorlistLaw$Out;)I"⟩
abbrev cLaw_shut : ByteArray := method_28_code
def yLaw_shut : MethodName := ⟨RLaw, "shut", "(LCursorlist;ILCursorlistLaw$Out;)I"⟩
abbrev cLaw_forth : ByteArray := method_29_code
def yLaw_forth : MethodName := ⟨RLaw, "forth", "(LCursorlist;ILCursorlistLaw$Out;)I"⟩
abbrev cLaw_back : ByteArray := method_30_code
def yLaw_back : MethodName := ⟨RLaw, "back", "(LCursorlist;ILCursorlistLaw$Out;)I"⟩
abbrev cLaw_puts : ByteArray := method_31_code
def yLaw_puts : MethodName := ⟨RLaw, "puts", "(LCursorlist;IILCursorlistLaw$Out;)I"⟩
abbrev cLaw_cuts : ByteArray := method_32_code
def yLaw_cuts : MethodName := ⟨RLaw, "cuts", "(LCursorlist;ILCursorlistLaw$Out;)I"⟩
abbrev cLaw_changes : ByteArray := method_33_code
def yLaw_changes : MethodName := ⟨RLaw, "changes", "(LCursorlist;IILCursorlistLaw$Out;)I"⟩
abbrev cLaw_meet : ByteArray := method_34_code
def yLaw_meet : MethodName := ⟨RLaw, "meet", "(LCursorlist;IILCursorlistLaw$Out;)I"⟩
abbrev cLaw_ofCursor : ByteArray := method_35_code
def yLaw_ofCursor : MethodName := ⟨RLaw, "ofCursor", "(LCursorlist;IILCursorlistLaw$Out;)I"⟩
abbrev cLaw_plus : ByteArray := method_36_code
def yLaw_plus : MethodName := ⟨RLaw, "plus", "(LCursorlist;IILCursorlistLaw$Out;)I"⟩
abbrev cLaw_times : ByteArray := method_37_code
def yLaw_times : MethodName := ⟨RLaw, "times", "(LCursorlist;IILCursorlistLaw$Out;)I"⟩
abbrev cLaw_shift : ByteArray := method_38_code
def yLaw_shift : MethodName := ⟨RLaw, "shift", "(LCursorlist;ILCursorlistLaw$Out;)I"⟩
abbrev cLaw_trim : ByteArray := method_39_code
def yLaw_trim : MethodName := ⟨RLaw, "trim", "(LCursorlist;ILCursorlistLaw$Out;)I"⟩
abbrev cLaw_derive : ByteArray := method_40_code
def yLaw_derive : MethodName := ⟨RLaw, "derive", "(LCursorlist;ILCursorlistLaw$Out;)I"⟩
abbrev cLaw_value : ByteArray := method_41_code
def yLaw_value : MethodName := ⟨RLaw, "value", "(LCursorlist;IILCursorlistLaw$Out;)I"⟩
abbrev cLaw_degree : ByteArray := method_42_code
def yLaw_degree : MethodName := ⟨RLaw, "degree", "(LCursorlist;ILCursorlistLaw$Out;)I"⟩
abbrev cLaw_ask : ByteArray := method_43_code
def yLaw_ask : MethodName := ⟨RLaw, "ask", "(LCursorlist;ILCursorlistLaw$Out;)I"⟩
abbrev cLaw_asked : ByteArray := method_44_code
def yLaw_asked : MethodName := ⟨RLaw, "asked", "(LCursorlist;ILCursorlistLaw$Out;)I"⟩
abbrev cLaw_byOrder : ByteArray := method_45_code
def yLaw_byOrder : MethodName := ⟨RLaw, "byOrder", "(LCursorlist;IILCursorlistLaw$Out;)I"⟩
abbrev cLaw_house : ByteArray := method_46_code
def yLaw_house : MethodName := ⟨RLaw, "house", "(LCursorlist;ILCursorlistLaw$Out;)I"⟩
abbrev cLaw_law : ByteArray := code
def yLaw_law : MethodName := ⟨RLaw, "law", "([I)Z"⟩
abbrev vwCl : List vw_C := [(RStr, TStr, 4), (RSbd, TSbd, 4), (RCur, TCur, 5), (RRec, TRec, 5), (RRow, TRow, 2), (RCls, TCls, 6), (ROut, TOut, 2), (RMod, TMod, 13)]
abbrev zkStr : Nat := 0
abbrev zkSbd : Nat := 1
abbrev zkCur : Nat := 2
abbrev zkRec : Nat := 3
abbrev zkRow : Nat := 4
abbrev zkCls : Nat := 5
abbrev zkOut : Nat := 6
abbrev zkMod : Nat := 7
def zTexts : List (String × Nat × String) := [(RCls, 320, "a number out of its range"), (RCls, 307, "no such cursor"), (RCls, 304, "no such list"), (RCls, 313, "no such place"), (RCls, 318, "no such place to stand or to put"), (RCls, 322, "the cursor is not there"), (RCls, 183, "a cursor does not meet itself"), (RCls, 220, "no more askings")]
abbrev zkE : Nat := 53
abbrev zkB : Nat := 68
def zNcs : List (String × String) := [("java/lang/IllegalArgumentException", "java/lang/IndexOutOfBoundsException"), ("java/lang/IllegalStateException", "java/lang/IndexOutOfBoundsException"), ("java/lang/IllegalStateException", "java/lang/IllegalArgumentException")]
end
section
/-! ===== statics of the JDK that the walked members read ===== -/
def va_AOA (t : FieldType) (U : State) : Prop := (Cond.arrayOver (.array t)).before #[] U = true
theorem va_AOA.use {t : FieldType} {A : Array Value} {U : State} (h : va_AOA t U) : (Cond.arrayOver (.array t)).before A U = true := h
theorem va_AOA.spec {t : FieldType} {U : State} (h : va_AOA t U) : ∃ comp c k, U.vm.findClass (FieldType.array t).toString = some comp ∧ (U.vm.classes.findIdx? fun (x : Class) => match x.kind with | .array component _ => component == comp | _ => false) = some c ∧ U.vm.classes[c]? = some k ∧ k.kind = .array comp (.array t) ∧ U.vm.findClass ("[" ++ (FieldType.array t).toString) = some c := by
  unfold va_AOA Cond.before at h
  simp only [Cond.holds, Cond.value, beq_iff_eq] at h
  cases hc : U.vm.findClass (FieldType.array t).toString with
  | none => simp [hc] at h
  | some comp =>
    simp only [hc, Option.bind_some, Option.bind_eq_some_iff, Option.map_eq_some_iff] at h
    obtain ⟨c, hi, k, hk, hb⟩ := h
    obtain ⟨hlt, hp, -⟩ := Array.findIdx?_eq_some_iff_getElem.mp hi
    have hkk : U.vm.classes[c] = k := (Array.getElem?_eq_some_iff.mp hk).2
    rw [hkk] at hp
    cases hkind : k.kind with
    | array component ty =>
      rw [hkind] at hb hp
      simp at hb hp
      exact ⟨comp, c, k, rfl, hi, hk, by rw [hkind, hp, hb.1], hb.2⟩
    | _ => rw [hkind] at hb; simp at hb
theorem zAOA_moved {t : FieldType} {u U : State} (hvm : u.vm.Alike U.vm) (h : va_AOA t u) : va_AOA t U := by
  obtain ⟨comp, c, k, h1, h2, h3, h4, h5⟩ := h.spec
  obtain ⟨k', hk', he⟩ := hvm.2.2 _ _ h3
  have hi : (U.vm.classes.findIdx? fun (x : Class) => match x.kind with | .array component _ => component == comp | _ => false) = some c := by
    have e1 := va_idx_bare U.vm comp
    have e2 := va_idx_bare u.vm comp
    have e3 : u.vm.bare = U.vm.bare := by first | exact hvm.bare_eq | exact hvm.bare_eq.symm
    rw [e3] at e2
    exact (e1.symm.trans e2).trans h2
  have hkind : k'.kind = .array comp (.array t) := by rw [he]; exact h4
  have f1 : U.vm.findClass (FieldType.array t).toString = some comp := by rw [hvm.findClass]; exact h1
  have f2 : U.vm.findClass ("[" ++ (FieldType.array t).toString) = some c := by rw [hvm.findClass]; exact h5
  unfold va_AOA Cond.before Cond.holds
  simp only [Cond.value]
  rw [f1, Option.bind_some]
  refine (congrArg (fun o : Option Nat => (o.bind (fun c => (U.vm.classes[c]?).map fun (k : Class) => match k.kind with | .array _ ty => decide (ty = FieldType.array t) && decide (U.vm.findClass ("[" ++ (FieldType.array t).toString) = some c) | _ => false) == some true)) hi).trans ?_
  simp [hk', hkind, f2]
abbrev zStr (G : (va_G × (Nat → ClassId) × Nat)) (k : Nat) (tx : String) (n : Nat) (U : State) (H : Heap) : Prop := ∃ (ad av : Nat) (f : Nat → Int32), vk_R "CursorlistModel" k tx ad U ∧ va_O "java/lang/String" ad (fun q => G.2.2 ≤ q) U H ∧ va_OF "java/lang/String" "coder" "B" (.int 0) ad (fun q => G.2.2 ≤ q) U H ∧ va_OF "java/lang/String" "value" "[B" (.ref av) ad (fun q => G.2.2 ≤ q) U H ∧ va_T .byte av n (fun j => .int (f j)) (fun q => G.2.2 ≤ q) U H
def zSJ (G : (va_G × (Nat → ClassId) × Nat)) (U : State) (H : Heap) : Prop :=
  va_Z "java/lang/String" "COMPACT_STRINGS" "Z" (.int 1) (fun q => G.2.2 ≤ q) U H ∧
  va_Zq "jdk/internal/util/Preconditions" "SIOOBE_FORMATTER" "Ljava/util/function/BiFunction;" (fun q => G.2.2 ≤ q) U H ∧
  (∃ (t : Nat) (f : Nat → Int32), va_Z "java/lang/Integer" "DigitOnes" "[B" (.ref t) (fun q => G.2.2 ≤ q) U H ∧ va_T .byte t 100 (fun j => .int (f j)) (fun q => G.2.2 ≤ q) U H) ∧
  (∃ (t : Nat) (f : Nat → Int32), va_Z "java/lang/Integer" "DigitTens" "[B" (.ref t) (fun q => G.2.2 ≤ q) U H ∧ va_T .byte t 100 (fun j => .int (f j)) (fun q => G.2.2 ≤ q) U H) ∧
  zStr G zkE "" 0 U H ∧ zStr G zkB " " 1 U H
theorem zStr.go {G : (va_G × (Nat → ClassId) × Nat)} {k n : Nat} {tx : String} {s U : State} {H H1 : Heap} (hW : s.WarmedH U.vm) (hq : ∀ a : Nat, a < H.size → ¬ G.2.2 ≤ a → H1[a]? = H[a]?) (h : zStr G k tx n s H) : zStr G k tx n U H1 := by
  obtain ⟨ad, av, f, h1, h2, h3, h4, h5⟩ := h
  exact ⟨ad, av, f, h1.warm hW, (va_O.moved hW.alike h2).kept hq, (va_OF.moved hW.alike h3).kept hq, (va_OF.moved hW.alike h4).kept hq, (va_T.moved hW.alike h5).kept hq⟩
theorem zSJ.go {G : (va_G × (Nat → ClassId) × Nat)} {s U : State} {H H1 : Heap} (hW : s.WarmedH U.vm) (hq : ∀ a : Nat, a < H.size → ¬ G.2.2 ≤ a → H1[a]? = H[a]?) (h : zSJ G s H) : zSJ G U H1 := by
  obtain ⟨h1, h2, ⟨t1, f1, a1, b1⟩, ⟨t2, f2, a2, b2⟩, h5, h6⟩ := h
  exact ⟨(va_Z.moved hW.alike h1).kept hq, (va_Zq.moved hW.alike h2).kept hq, ⟨t1, f1, (va_Z.moved hW.alike a1).kept hq, (va_T.moved hW.alike b1).kept hq⟩, ⟨t2, f2, (va_Z.moved hW.alike a2).kept hq, (va_T.moved hW.alike b2).kept hq⟩, h5.go hW hq, h6.go hW hq⟩

/-! THE WALK OVER ABSTRACT HEAPS. A heap is a function from addresses to cells (va_E); zR: the machine at pc with these locals and this stack over this heap comes to its end. Each row is a row of the kit. -/
abbrev zG : Type := va_G × (Nat → ClassId) × Nat
abbrev zHp : Type := Nat → Option va_E
/-- the method: its class, its bytes, its locals, what it returns, its table, whether it is a constructor -/
abbrev zHd : Type := String × ByteArray × Nat × Option FieldType × List (Nat × Nat × Nat × Nat) × Bool
abbrev zJ : Type := zHd × Room × (List Frame → Array Value → State → State → Prop) × (Array Value → State → Prop)
def zI (n : Int) : Int32 := Int32.ofInt n
def zL (n : Int) : Int64 := Int64.ofInt n
abbrev zi (n : Int) : Value := .int (zI n)
abbrev zl (n : Int) : Value := .long (zL n)
def zA (G : zG) : Nat → Prop := fun q => G.2.2 ≤ q
def zTys (G : zG) : List (ClassId × FieldType) := [(G.2.1 0, .int), (G.2.1 1, .boolean), (G.2.1 2, .byte), (G.2.1 3, .long), (G.2.1 4, .array .int), (G.2.1 5, .object "Cursorlist$Row"), (G.2.1 6, .object "Cursorlist$Cursor")]
def zInts (G : zG) (n : Nat) (g : Nat → Int) : va_E := .inl (G.2.1 0, n, .inl (fun j => zI (g j)))
def zBools (G : zG) (n : Nat) (g : Nat → Int) : va_E := .inl (G.2.1 1, n, .inl (fun j => zI (g j)))
def zBytes (G : zG) (n : Nat) (g : Nat → Int) : va_E := .inl (G.2.1 2, n, .inl (fun j => zI (g j)))
def zLongs (G : zG) (n : Nat) (g : Nat → Int) : va_E := .inl (G.2.1 3, n, .inr (.inl (fun j => zL (g j))))
def zRefs (G : zG) (t n : Nat) (g : Nat → Option Nat) : va_E := .inl (G.2.1 t, n, .inr (.inr (.inr (.inr g))))
def zup {α : Type} (g : Nat → α) (k : Nat) (x : α) : Nat → α := fun j => if j = k then x else g j
def zRel (G : zG) (h : zHp) (H : Heap) : Prop := G.2.2 ≤ H.size ∧ ∀ (a : Nat) (e : va_E), h a = some e → G.2.2 ≤ a ∧ va_at G.1 vwCl (a, e) H
/-- the good words of the tables -/
def zWS : List Cond := lw_tbl.filter goodWord
/-- words that the tables alone decide, which stay as the machine warms -/
def zIsN : Cond → Bool
  | .fieldLinkNest _ _ _ _ _ _ => true
  | .methodLinkNest _ _ _ _ => true
  | .castable _ _ => true
  | .declares _ => true
  | _ => false
def zNW : List Cond := lw_tbl.filter zIsN
theorem zNw_warm {w : Cond} {s U : State} (hn : zIsN w = true) (hW : s.WarmedH U.vm) (h : va_Nw w s) : va_Nw w U := by
  cases w <;> first | exact va_Nw.warmF hW h | exact va_Nw.warmM hW h | exact va_Nw.warmC hW h | exact va_Nw.warmD hW h | (simp [zIsN] at hn)
/-- what stands below the first free cell, and what the tables say of the arrays' classes -/
def zAA (G : zG) (U : State) : Prop := ∃ (kA kI : Class) (cI : ClassId), U.vm.classes[G.2.1 4]? = some kA ∧ kA.kind = .array (G.2.1 0) (.array .int) ∧ U.vm.classes[G.2.1 0]? = some kI ∧ kI.kind = .array cI .int
theorem zAA.moved {G : zG} {u U : State} (hvm : u.vm.Alike U.vm) (h : zAA G u) : zAA G U := by
  obtain ⟨kA, kI, cI, h1, h2, h3, h4⟩ := h
  obtain ⟨kA', g1, e1⟩ := hvm.2.2 _ _ h1
  obtain ⟨kI', g2, e2⟩ := hvm.2.2 _ _ h3
  exact ⟨kA', kI', cI, g1, by rw [e1]; exact h2, g2, by rw [e2]; exact h4⟩
def zS (G : zG) (U : State) (H : Heap) : Prop :=
  va_K G.1 vwCl (zTys G) U ∧ zAA G U ∧ (∀ w ∈ zNW, va_Nw w U) ∧
  (∀ q ∈ zTexts, ∃ sa, vk_R q.1 q.2.1 q.2.2 sa U) ∧ (∀ q ∈ zNcs, va_Nc q.1 q.2 U) ∧
  vx_Zq Bundle.tN "UNASSIGNED_STACK" Bundle.steD (zA G) U H ∧ vx_Zq Bundle.tN "SUPPRESSED_SENTINEL" Bundle.listD (zA G) U H ∧
  va_AO "Cursorlist$Row" U ∧ va_AO "Cursorlist$Cursor" U ∧ va_AOA .int U ∧ zSJ G U H
theorem zS.go {G : zG} {s U : State} {H H1 : Heap} (hW : s.WarmedH U.vm) (hq : ∀ a : Nat, a < H.size → ¬ zA G a → H1[a]? = H[a]?) (h : zS G s H) : zS G U H1 := by
  obtain ⟨h1, h2, h3, h4, h5, h6, h7, h8, h9, h10, h11⟩ := h
  refine ⟨va_K.moved hW.alike h1, h2.moved hW.alike, fun w hw => zNw_warm (List.mem_filter.mp hw).2 hW (h3 w hw), fun q hq => ?_, fun q hq => va_Nc.moved hW.alike (h5 q hq), (h6.moved hW.alike).kept hq, (h7.moved hW.alike).kept hq, h8.moved hW.alike, h9.moved hW.alike, zAOA_moved hW.alike h10, h11.go hW hq⟩
  obtain ⟨sa, e⟩ := h4 q hq
  exact ⟨sa, e.warm hW⟩
def zPl : Nat → List (Option Value) → List (Nat × Value)
  | _, [] => []
  | k, none :: t => zPl (k + 1) t
  | k, some v :: t => (k, v) :: zPl (k + 1) t
theorem zPl_mem : ∀ (ls : List (Option Value)) (k : Nat) (q : Nat × Value), q ∈ zPl k ls ↔ ∃ j, ls[j]? = some (some q.2) ∧ q.1 = k + j
  | [], k, q => by simp [zPl]
  | none :: t, k, q => by
    rw [zPl, zPl_mem t (k + 1) q]
    constructor
    · rintro ⟨j, h1, h2⟩
      exact ⟨j + 1, by simpa using h1, by omega⟩
    · rintro ⟨j, h1, h2⟩
      cases j with
      | zero => simp at h1
      | succ j => exact ⟨j, by simpa using h1, by omega⟩
  | some v :: t, k, q => by
    rw [zPl, List.mem_cons, zPl_mem t (k + 1) q]
    constructor
    · rintro (rfl | ⟨j, h1, h2⟩)
      · exact ⟨0, by simp, by simp⟩
      · exact ⟨j + 1, by simpa using h1, by omega⟩
    · rintro ⟨j, h1, h2⟩
      cases j with
      | zero =>
        left
        obtain ⟨a, b⟩ := q
        simp at h1 h2
        rw [h1, h2]
      | succ j => exact Or.inr ⟨j, by simpa using h1, by omega⟩
def zLs (ls0 : Array Slot) (nL : Nat) (ls : List (Option Value)) : Prop := lv_has ls0 nL (zPl 0 ls)
theorem zLs.at {ls0 : Array Slot} {nL i : Nat} {ls : List (Option Value)} {v : Value} (h : zLs ls0 nL ls) (hl : ls[i]? = some (some v)) : ls0[i]? = some (.val v) := h.2.2 (i, v) ((zPl_mem ls 0 (i, v)).mpr ⟨i, hl, by simp⟩)
/-- a store: what stood there goes, and a long whose second half it was -/
def zst1 (ls : List (Option Value)) (i : Nat) (v : Value) : List (Option Value) := match i with
  | 0 => ls.set 0 (some v)
  | k + 1 => match ls[k]? with
    | some (some (.long _)) => (ls.set k none).set (k + 1) (some v)
    | some (some (.double _)) => (ls.set k none).set (k + 1) (some v)
    | _ => ls.set (k + 1) (some v)
def zst2 (ls : List (Option Value)) (i : Nat) (v : Value) : List (Option Value) := (zst1 ls i v).set (i + 1) none
theorem zst1_sub {ls : List (Option Value)} {i : Nat} {v : Value} {q : Nat × Value} (h : q ∈ zPl 0 (zst1 ls i v)) : q = (i, v) ∨ (q ∈ zPl 0 ls ∧ q.1 ≠ i ∧ ¬ (q.1 + 1 = i ∧ q.2.category = 2)) := by
  obtain ⟨j, h1, h2⟩ := (zPl_mem _ _ _).mp h
  obtain ⟨a, b⟩ := q
  simp only [Nat.zero_add] at h1 h2
  subst h2
  have key : ∀ (l : List (Option Value)) (w : Option Value) (n : Nat), (l.set n w)[a]? = some (some b) → (a = n ∧ w = some b) ∨ (a ≠ n ∧ l[a]? = some (some b)) := by
    intro l w n hh
    by_cases e : a = n
    · subst e
      rw [List.getElem?_set] at hh
      simp at hh
      exact Or.inl ⟨rfl, hh.2⟩
    · rw [List.getElem?_set_ne (Ne.symm e)] at hh
      exact Or.inr ⟨e, hh⟩
  unfold zst1 at h1
  split at h1
  · rcases key _ _ _ h1 with ⟨e, e2⟩ | ⟨e, e2⟩
    · left; cases e2; rw [e]
    · exact Or.inr ⟨(zPl_mem _ _ _).mpr ⟨a, e2, by simp⟩, e, by omega⟩
  · rename_i k
    have other : ∀ (l : List (Option Value)), (∀ x, l[a]? = some (some x) → a ≠ k + 1 → ls[a]? = some (some x) ∧ ¬ (a = k ∧ x.category = 2)) → (l.set (k + 1) (some v))[a]? = some (some b) → (a, b) = (k + 1, v) ∨ ((a, b) ∈ zPl 0 ls ∧ (a, b).1 ≠ k + 1 ∧ ¬ ((a, b).1 + 1 = k + 1 ∧ (a, b).2.category = 2)) := by
      intro l hl hh
      rcases key _ _ _ hh with ⟨e, e2⟩ | ⟨e, e2⟩
      · left; cases e2; rw [e]
      · obtain ⟨g1, g2⟩ := hl b e2 e
        exact Or.inr ⟨(zPl_mem _ _ _).mpr ⟨a, g1, by simp⟩, e, fun z => g2 ⟨by have := z.1; simp at this; exact this, z.2⟩⟩
    split at h1
    · exact other _ (fun x hx hne => by
        rcases (show a = k ∨ a ≠ k by omega) with e | e
        · subst e
          rw [List.getElem?_set] at hx
          simp at hx
        · rw [List.getElem?_set_ne (Ne.symm e)] at hx
          exact ⟨hx, fun z => e z.1⟩) h1
    · exact other _ (fun x hx hne => by
        rcases (show a = k ∨ a ≠ k by omega) with e | e
        · subst e
          rw [List.getElem?_set] at hx
          simp at hx
        · rw [List.getElem?_set_ne (Ne.symm e)] at hx
          exact ⟨hx, fun z => e z.1⟩) h1
    · rename_i hn1 hn2
      refine other _ (fun x hx hne => ⟨hx, fun z => ?_⟩) h1
      obtain ⟨z1, z2⟩ := z
      subst z1
      cases x with
      | long y => exact hn1 y hx
      | double y => exact hn2 y hx
      | _ => simp [Value.category] at z2
theorem zLs.st1 {ls0 ls' : Array Slot} {nL i : Nat} {ls : List (Option Value)} {v : Value} (h' : lv_has ls' nL ((i, v) :: (zPl 0 ls).filter (fun q => !(q.1 == i) && !(q.1 + 1 == i && q.2.category == 2)))) : zLs ls' nL (zst1 ls i v) := by
  refine ⟨h'.1, h'.2.1, fun q hq => h'.2.2 q ?_⟩
  rcases zst1_sub hq with e | ⟨e1, e2, e3⟩
  · rw [e]; exact List.mem_cons_self
  · refine List.mem_cons_of_mem _ (List.mem_filter.mpr ⟨e1, ?_⟩)
    simp only [Bool.and_eq_true, Bool.not_eq_true', beq_eq_false_iff_ne, ne_eq, Bool.and_eq_false_imp, beq_iff_eq]
    exact ⟨e2, fun z1 z2 => e3 ⟨z1, z2⟩⟩
theorem zLs.st2 {ls0 ls' : Array Slot} {nL i : Nat} {ls : List (Option Value)} {v : Value} (h' : lv_has ls' nL ((i, v) :: (zPl 0 ls).filter (fun q => !(q.1 == i) && (!(q.1 == i + 1) && !(q.1 + 1 == i && q.2.category == 2))))) : zLs ls' nL (zst2 ls i v) := by
  refine ⟨h'.1, h'.2.1, fun q hq => h'.2.2 q ?_⟩
  obtain ⟨j, h1, h2⟩ := (zPl_mem _ _ _).mp hq
  simp only [Nat.zero_add] at h2
  have hne : j ≠ i + 1 := by
    intro e
    subst e
    unfold zst2 at h1
    rw [List.getElem?_set] at h1
    simp at h1
  have h3 : (zst1 ls i v)[j]? = some (some q.2) := by
    unfold zst2 at h1
    rw [List.getElem?_set_ne (Ne.symm hne)] at h1
    exact h1
  rcases zst1_sub ((zPl_mem _ 0 q).mpr ⟨j, h3, by simp [h2]⟩) with e | ⟨e1, e2, e3⟩
  · rw [e]; exact List.mem_cons_self
  · refine List.mem_cons_of_mem _ (List.mem_filter.mpr ⟨e1, ?_⟩)
    simp only [Bool.and_eq_true, Bool.not_eq_true', beq_eq_false_iff_ne, ne_eq, Bool.and_eq_false_imp, beq_iff_eq]
    exact ⟨e2, by omega, fun z1 z2 => e3 ⟨z1, z2⟩⟩
end
section
def zRm (d mc ms : Nat) : Room := { frames := d, cells := mc, slots := ms, locals := d * 64 }
def zCx (G : zG) (l : Launch) (J : zJ) (p : Program) (s : State) (m : MethodId) (args : Array Value) (meth : Method) (c : Code) : Prop :=
  p.tables.exec = Jvm.exec ∧ c.code = J.1.2.1 ∧ c.maxLocals = J.1.2.2.1 ∧ meth.sig.returnType = J.1.2.2.2.1 ∧ c.exceptionTable.toList = tableOf J.1.2.2.2.2.1 ∧ (J.1.2.2.2.2.2 = true → meth.name = "<init>") ∧ s.vm.findClass J.1.1 = some m.cls ∧ (∀ w ∈ zWS, w.before args s = true) ∧ meth.locks = false ∧ zS G s s.heap ∧ l.stackTraces = false ∧ J.2.2.2 args s ∧ G.2.2 ≤ s.heap.size
def zR (G : zG) (l : Launch) (J : zJ) (bc bs : Nat) (h : zHp) (pc : Nat) (ls : List (Option Value)) (st : List Value) : Prop :=
  ∀ (p : Program) (e : Env) (s : State) (m : MethodId) (args : Array Value) (below : List Frame) (meth : Method) (c : Code) (H : Heap) (locs : List Loc) (cells slots : Nat) (ls0 : Array Slot),
    zCx G l J p s m args meth c → zRel G h H → va_S (zA G) s.heap H locs → zLs ls0 J.1.2.2.1 ls → cells + bc ≤ J.2.1.cells → slots + bs ≤ J.2.1.slots →
    W p l e J.2.1 s m args below meth c H locs cells slots (J.2.2.1 below args s) (F0 m pc ls0 st)
/-- an exception of class E, thrown at pc -/
def zT (G : zG) (l : Launch) (J : zJ) (bc bs : Nat) (h : zHp) (E : String) (pc : Nat) (ls : List (Option Value)) : Prop :=
  ∀ (p : Program) (e : Env) (s : State) (m : MethodId) (args : Array Value) (below : List Frame) (meth : Method) (c : Code) (H : Heap) (locs : List Loc) (cells slots : Nat) (ls0 : Array Slot) (q : Addr) (ce : Cell) (rest : List Value),
    zCx G l J p s m args meth c → zRel G h H → va_S (zA G) s.heap H locs → zLs ls0 J.1.2.2.1 ls → cells + bc ≤ J.2.1.cells → slots + bs ≤ J.2.1.slots → H[q]? = some ce → ce.vm = .none → s.vm.findClass E = some ce.cls →
    vx_W p l e J.2.1 s m args below meth c H locs cells slots (J.2.2.1 below args s) (F0 m pc ls0 rest) q
def zQ (G : zG) (Qn : Option Value → zHp → Prop) : Array Value → State → Outcome → State → Prop := fun _ st o t => ∃ (v : Option Value) (h' : zHp), o = .returned v ∧ Qn v h' ∧ zRel G h' t.heap ∧ va_F (zA G) st t
def zX (G : zG) (Qx : String → zHp → Prop) : String → State → State → Prop := fun E st t => ∃ h' : zHp, Qx E h' ∧ zRel G h' t.heap ∧ va_F (zA G) st t
def zE (G : zG) (Qn : Option Value → zHp → Prop) (Qx : String → zHp → Prop) (mc ms : Nat) : List Frame → Array Value → State → State → Prop := fun below args s => vx_MQ below (zQ G Qn) (zX G Qx) args s mc ms (zA G)
abbrev zMJ (G : zG) (hd : zHd) (d : Nat) (Qn : Option Value → zHp → Prop) (Qx : String → zHp → Prop) (mc ms : Nat) : zJ := (hd, zRm d mc ms, zE G Qn Qx mc ms, fun _ _ => True)
def zPc (G : zG) (h : zHp) : State → Prop := fun U => zRel G h U.heap ∧ zS G U U.heap
/-- a method's contract -/
def zM (G : zG) (l : Launch) (hd : zHd) (y : MethodName) (d : Nat) (vs : List Value) (h : zHp) (Qn : Option Value → zHp → Prop) (Qx : String → zHp → Prop) (mc ms : Nat) : Prop :=
  l.stackTraces = false → vx_Met l y (Cond.code y hd.2.1 hd.2.2.1 hd.2.2.2.1 :: zWS) (zRm d mc ms) (va_Pc vs (zPc G h)) (zQ G Qn) (zX G Qx) mc ms (zA G)
/-- of a method with handlers -/
def zMW (G : zG) (l : Launch) (hd : zHd) (y : MethodName) (d : Nat) (vs : List Value) (h : zHp) (Qn : Option Value → zHp → Prop) (Qx : String → zHp → Prop) (mc ms : Nat) : Prop :=
  l.stackTraces = false → vx_Met l y (Cond.codeWith y hd.2.1 hd.2.2.1 hd.2.2.2.1 hd.2.2.2.2.1 :: zWS) (zRm d mc ms) (va_Pc vs (zPc G h)) (zQ G Qn) (zX G Qx) mc ms (zA G)
abbrev zNo : String → zHp → Prop := fun _ _ => False
theorem zin {i : Nat} {w : Cond} (h : lw_tbl[i]? = some w) (hg : goodWord w = true) : w ∈ zWS := List.mem_filter.mpr ⟨List.mem_of_getElem? h, hg⟩
theorem zinN {i : Nat} {w : Cond} (h : lw_tbl[i]? = some w) (hg : zIsN w = true) : w ∈ zNW := List.mem_filter.mpr ⟨List.mem_of_getElem? h, hg⟩
theorem zgood {w : Cond} (h : w ∈ zWS) : goodWord w = true := (List.mem_filter.mp h).2
theorem zgoodIn {Ts : List Cond} {ws : List Cond} (hT : ∀ w ∈ zWS, w ∈ Ts) (h : ∀ w ∈ ws, w ∈ zWS) : GoodIn Ts ws := fun w hw => ⟨hT w (h w hw), good_of_word (zgood (h w hw))⟩
theorem zI_add (a b : Int) : zI (a + b) = zI a + zI b := Int32.ofInt_add ..
theorem zI_sub (a b : Int) : zI (a - b) = zI a - zI b := Int32.ofInt_sub ..
theorem zI_mul (a b : Int) : zI (a * b) = zI a * zI b := Int32.ofInt_mul ..
theorem zI_neg (a : Int) : zI (-a) = -zI a := Int32.ofInt_neg ..
theorem zL_add (a b : Int) : zL (a + b) = zL a + zL b := Int64.ofInt_add ..
theorem zL_mul (a b : Int) : zL (a * b) = zL a * zL b := Int64.ofInt_mul ..
theorem zI_toInt {a : Int} (h : -2147483648 ≤ a ∧ a ≤ 2147483647) : (zI a).toInt = a := Int32.toInt_ofInt_of_le (by omega) (by omega)
theorem zI_of (x : Int32) : zI x.toInt = x := Int32.ofInt_toInt x
theorem zI_lt {a b : Int} (ha : -2147483648 ≤ a ∧ a ≤ 2147483647) (hb : -2147483648 ≤ b ∧ b ≤ 2147483647) : zI a < zI b ↔ a < b := by rw [Int32.lt_iff_toInt_lt, zI_toInt ha, zI_toInt hb]
theorem zI_le {a b : Int} (ha : -2147483648 ≤ a ∧ a ≤ 2147483647) (hb : -2147483648 ≤ b ∧ b ≤ 2147483647) : zI a ≤ zI b ↔ a ≤ b := by rw [Int32.le_iff_toInt_le, zI_toInt ha, zI_toInt hb]
theorem zI_eq {a b : Int} (ha : -2147483648 ≤ a ∧ a ≤ 2147483647) (hb : -2147483648 ≤ b ∧ b ≤ 2147483647) : zI a = zI b ↔ a = b := by
  constructor
  · intro h
    rw [← zI_toInt ha, ← zI_toInt hb, h]
  · intro h
    rw [h]
theorem zI_nat (n : Nat) : Int32.ofNat n = zI (n : Int) := by
  unfold zI
  first | rfl | exact (Int32.ofInt_natCast n).symm | exact (Int32.ofInt_ofNat n).symm | (simp [Int32.ofInt, Int32.ofNat]; done) | (apply Int32.toBitVec_inj.mp; simp; done) | (apply Int32.toInt_inj.mp; rw [Int32.toInt_ofInt, Int32.toInt_ofNat'])
theorem zI_0 : zI 0 = 0 := rfl
theorem zI_clamp {k : Int} (h0 : 0 ≤ k) (h1 : k < 2147483648) : (zI k).toNatClampNeg = k.toNat := by
  show (zI k).toInt.toNat = k.toNat
  rw [zI_toInt (by omega)]
theorem zI_in {k : Int} {n : Nat} (h0 : 0 ≤ k) (h1 : k < n) (h2 : k < 2147483648) : vp_in (zI k) n := by
  rintro (h | h)
  · rw [Int32.lt_iff_toInt_lt, zI_toInt (by omega), Int32.toInt_zero] at h
    omega
  · rw [zI_clamp h0 h2] at h
    omega
theorem zL_toInt {a : Int} (h : -9223372036854775808 ≤ a ∧ a ≤ 9223372036854775807) : (zL a).toInt = a := Int64.toInt_ofInt_of_le (by omega) (by omega)
theorem zL_eq {a b : Int} (ha : -9223372036854775808 ≤ a ∧ a ≤ 9223372036854775807) (hb : -9223372036854775808 ≤ b ∧ b ≤ 9223372036854775807) : zL a = zL b ↔ a = b := by
  constructor
  · intro h
    rw [← zL_toInt ha, ← zL_toInt hb, h]
  · intro h
    rw [h]
theorem zL_lt {a b : Int} (ha : -9223372036854775808 ≤ a ∧ a ≤ 9223372036854775807) (hb : -9223372036854775808 ≤ b ∧ b ≤ 9223372036854775807) : zL a < zL b ↔ a < b := by rw [Int64.lt_iff_toInt_lt, zL_toInt ha, zL_toInt hb]
theorem zI_long {a : Int} (h : -2147483648 ≤ a ∧ a ≤ 2147483647) : (zI a).toInt64 = zL a := by
  have h1 : (zI a).toInt64 = Int64.ofInt (zI a).toInt := by
    apply Int64.toInt_inj.mp
    rw [Int32.toInt_toInt64, Int64.toInt_ofInt_of_le]
    · have := Int32.le_toInt (zI a); omega
    · have := Int32.toInt_lt (zI a); omega
  rw [h1, zI_toInt h]; rfl
theorem zL_int (a : Int) : (zL a).toInt32 = zI a := by
  show (Int64.ofInt a).toInt32 = Int32.ofInt a
  simp
/-- the contract of a method out of its walk -/
theorem zM.of {G : zG} {l : Launch} {hd : zHd} {y : MethodName} {d : Nat} {vs : List Value} {h : zHp} {Qn : Option Value → zHp → Prop} {Qx : String → zHp → Prop} {mc ms : Nat} (ls : List (Option Value)) (hy : plainName y.cls = true) (hown : y.cls = hd.1) (hini : hd.2.2.2.2.2 = true → y.name = "<init>") (ht : hd.2.2.2.2.1 = []) (hln : (lg_sl vs).length ≤ hd.2.2.1) (hls : zPl 0 ls = lv_args 0 vs)
    (k : zR G l (zMJ G hd d Qn Qx mc ms) mc ms h 0 ls []) : zM G l hd y d vs h Qn Qx mc ms := by
  intro hl
  refine vx_ofW (cc := hd.2.1) (maxL := hd.2.2.1) (ret := hd.2.2.2.1) hy rfl ?_
  intro p e s m args below meth c s₁ B hml htb hv
  obtain ⟨rfl, hR, hS9⟩ := hv
  have hts := atoms_spec (ws := Cond.code y hd.2.1 hd.2.2.1 hd.2.2.2.1 :: zWS) B.pre
  have hw : s.vm.findClass y.cls = some m.cls := findClass_of_methodNamed B.named
  have htab : c.exceptionTable.toList = tableOf hd.2.2.2.2.1 := by
    rw [ht]
    cases hc : c.exceptionTable.toList with
    | nil => rfl
    | cons x t => exact (htb x (by rw [hc]; exact List.mem_cons_self)).elim
  have hl0 := lv_entry vs (n := hd.2.2.1) hln
  rw [lg_entry_eq]
  refine k p e s m _ below meth c s.heap [] 0 0 _ ⟨B.exec, B.bytes, hml, B.returns, htab, fun hi => (name_of_methodNamed B.named B.method).1.trans (hini hi), by rw [← hown]; exact hw, fun w hw => hts w (List.mem_cons_of_mem _ hw), B.notSynchronized, hS9, hl, trivial, hR.1⟩ hR va_S.rf ⟨hl0.1, hl0.2.1, fun q hq => hl0.2.2 q (by rw [← hls]; exact hq)⟩ (by show 0 + mc ≤ mc; omega) (by show 0 + ms ≤ ms; omega)
theorem zMW.of {G : zG} {l : Launch} {hd : zHd} {y : MethodName} {d : Nat} {vs : List Value} {h : zHp} {Qn : Option Value → zHp → Prop} {Qx : String → zHp → Prop} {mc ms : Nat} (ls : List (Option Value)) (hy : plainName y.cls = true) (hown : y.cls = hd.1) (hini : hd.2.2.2.2.2 = true → y.name = "<init>") (hln : (lg_sl vs).length ≤ hd.2.2.1) (hls : zPl 0 ls = lv_args 0 vs)
    (k : zR G l (zMJ G hd d Qn Qx mc ms) mc ms h 0 ls []) : zMW G l hd y d vs h Qn Qx mc ms := by
  intro hl
  refine vx_ofWH (cc := hd.2.1) (maxL := hd.2.2.1) (ret := hd.2.2.2.1) (hh := hd.2.2.2.2.1) hy rfl ?_
  intro p e s m args below meth c s₁ B hml hv
  obtain ⟨rfl, hR, hS9⟩ := hv
  have hts := atoms_spec (ws := Cond.codeWith y hd.2.1 hd.2.2.1 hd.2.2.2.1 hd.2.2.2.2.1 :: zWS) B.pre
  have hw : s.vm.findClass y.cls = some m.cls := findClass_of_methodNamed B.named
  have htab : c.exceptionTable.toList = tableOf hd.2.2.2.2.1 := vx_table (x := y) B (hts _ List.mem_cons_self)
  have hl0 := lv_entry vs (n := hd.2.2.1) hln
  rw [lg_entry_eq]
  refine k p e s m _ below meth c s.heap [] 0 0 _ ⟨B.exec, B.bytes, hml, B.returns, htab, fun hi => (name_of_methodNamed B.named B.method).1.trans (hini hi), by rw [← hown]; exact hw, fun w hw => hts w (List.mem_cons_of_mem _ hw), B.notSynchronized, hS9, hl, trivial, hR.1⟩ hR va_S.rf ⟨hl0.1, hl0.2.1, fun q hq => hl0.2.2 q (by rw [← hls]; exact hq)⟩ (by show 0 + mc ≤ mc; omega) (by show 0 + ms ≤ ms; omega)
section ZR
variable {G : zG} {l : Launch} {J : zJ} {bc bs : Nat} {h : zHp} {pc : Nat} {ls : List (Option Value)} {st : List Value}
theorem z_iconst {n : Int} (hd : decode J.1.2.1 pc = .ok (.iconst n, 1)) (k : zR G l J bc bs h (pc + 1) ls (zi n :: st)) : zR G l J bc bs h pc ls st := fun p e s m args below meth c H locs cells slots ls0 C hP hS hL h1 h2 => lv_iconst C.1 C.2.1 hd rfl (k p e s m args below meth c H locs cells slots ls0 C hP hS hL h1 h2)
theorem z_bipush {n : Int} (hd : decode J.1.2.1 pc = .ok (.bipush n, 2)) (hv : (Int8.ofInt n).toInt32 = zI n) (k : zR G l J bc bs h (pc + 2) ls (zi n :: st)) : zR G l J bc bs h pc ls st := fun p e s m args below meth c H locs cells slots ls0 C hP hS hL h1 h2 => lv_bipush C.1 C.2.1 hd hv (k p e s m args below meth c H locs cells slots ls0 C hP hS hL h1 h2)
theorem z_sipush {n : Int} (hd : decode J.1.2.1 pc = .ok (.sipush n, 3)) (hv : (Int16.ofInt n).toInt32 = zI n) (k : zR G l J bc bs h (pc + 3) ls (zi n :: st)) : zR G l J bc bs h pc ls st := fun p e s m args below meth c H locs cells slots ls0 C hP hS hL h1 h2 => lv_sipush C.1 C.2.1 hd hv (k p e s m args below meth c H locs cells slots ls0 C hP hS hL h1 h2)
theorem z_lconst {n : Fin 2} (hd : decode J.1.2.1 pc = .ok (.lconst n, 1)) (x : Int) (hv : Int64.ofNat (n : Nat) = zL x) (k : zR G l J bc bs h (pc + 1) ls (zl x :: st)) : zR G l J bc bs h pc ls st := fun p e s m args below meth c H locs cells slots ls0 C hP hS hL h1 h2 => lv_lconst C.1 C.2.1 hd hv (k p e s m args below meth c H locs cells slots ls0 C hP hS hL h1 h2)
theorem z_iload_n {j : Fin 4} {x : Int32} (hd : decode J.1.2.1 pc = .ok (.iload_n j, 1)) (hl : ls[(j : Nat)]? = some (some (.int x))) (k : zR G l J bc bs h (pc + 1) ls (.int x :: st)) : zR G l J bc bs h pc ls st := fun p e s m args below meth c H locs cells slots ls0 C hP hS hL h1 h2 => lv_iload_n C.1 C.2.1 hd rfl (hL.at hl) (k p e s m args below meth c H locs cells slots ls0 C hP hS hL h1 h2)
theorem z_iload {j : Nat} {x : Int32} (hd : decode J.1.2.1 pc = .ok (.iload j, 2)) (hl : ls[j]? = some (some (.int x))) (k : zR G l J bc bs h (pc + 2) ls (.int x :: st)) : zR G l J bc bs h pc ls st := fun p e s m args below meth c H locs cells slots ls0 C hP hS hL h1 h2 => lv_iload C.1 C.2.1 hd (hL.at hl) (k p e s m args below meth c H locs cells slots ls0 C hP hS hL h1 h2)
theorem z_lload_n {j : Fin 4} {x : Int64} (hd : decode J.1.2.1 pc = .ok (.lload_n j, 1)) (hl : ls[(j : Nat)]? = some (some (.long x))) (k : zR G l J bc bs h (pc + 1) ls (.long x :: st)) : zR G l J bc bs h pc ls st := fun p e s m args below meth c H locs cells slots ls0 C hP hS hL h1 h2 => lv_lload_n C.1 C.2.1 hd rfl (hL.at hl) (k p e s m args below meth c H locs cells slots ls0 C hP hS hL h1 h2)
theorem z_lload {j : Nat} {x : Int64} (hd : decode J.1.2.1 pc = .ok (.lload j, 2)) (hl : ls[j]? = some (some (.long x))) (k : zR G l J bc bs h (pc + 2) ls (.long x :: st)) : zR G l J bc bs h pc ls st := fun p e s m args below meth c H locs cells slots ls0 C hP hS hL h1 h2 => lv_lload C.1 C.2.1 hd (hL.at hl) (k p e s m args below meth c H locs cells slots ls0 C hP hS hL h1 h2)
theorem z_aload_n {j : Fin 4} {x : Nat} (hd : decode J.1.2.1 pc = .ok (.aload_n j, 1)) (hl : ls[(j : Nat)]? = some (some (.ref x))) (k : zR G l J bc bs h (pc + 1) ls (.ref x :: st)) : zR G l J bc bs h pc ls st := fun p e s m args below meth c H locs cells slots ls0 C hP hS hL h1 h2 => lv_aload_n C.1 C.2.1 hd rfl (hL.at hl) (k p e s m args below meth c H locs cells slots ls0 C hP hS hL h1 h2)
theorem z_aload {j : Nat} {x : Nat} (hd : decode J.1.2.1 pc = .ok (.aload j, 2)) (hl : ls[j]? = some (some (.ref x))) (k : zR G l J bc bs h (pc + 2) ls (.ref x :: st)) : zR G l J bc bs h pc ls st := fun p e s m args below meth c H locs cells slots ls0 C hP hS hL h1 h2 => lv_aload C.1 C.2.1 hd (hL.at hl) (k p e s m args below meth c H locs cells slots ls0 C hP hS hL h1 h2)
theorem z_aload_nN {j : Fin 4} (hd : decode J.1.2.1 pc = .ok (.aload_n j, 1)) (hl : ls[(j : Nat)]? = some (some .null)) (k : zR G l J bc bs h (pc + 1) ls (.null :: st)) : zR G l J bc bs h pc ls st := fun p e s m args below meth c H locs cells slots ls0 C hP hS hL h1 h2 => lv_aload_nN C.1 C.2.1 hd rfl (hL.at hl) (k p e s m args below meth c H locs cells slots ls0 C hP hS hL h1 h2)
theorem z_aloadN {j : Nat} (hd : decode J.1.2.1 pc = .ok (.aload j, 2)) (hl : ls[j]? = some (some .null)) (k : zR G l J bc bs h (pc + 2) ls (.null :: st)) : zR G l J bc bs h pc ls st := fun p e s m args below meth c H locs cells slots ls0 C hP hS hL h1 h2 => lv_aloadN C.1 C.2.1 hd (hL.at hl) (k p e s m args below meth c H locs cells slots ls0 C hP hS hL h1 h2)
theorem z_istore_n {j : Fin 4} {x : Int32} (hd : decode J.1.2.1 pc = .ok (.istore_n j, 1)) (hj : (j : Nat) < J.1.2.2.1) (k : zR G l J bc bs h (pc + 1) (zst1 ls j (.int x)) st) : zR G l J bc bs h pc ls (.int x :: st) := fun p e s m args below meth c H locs cells slots ls0 C hP hS hL h1 h2 => lv_istore_n C.1 C.2.1 hd rfl hL hj rfl (fun ls1 hL1 => k p e s m args below meth c H locs cells slots ls1 C hP hS (zLs.st1 (ls0 := ls0) hL1) h1 h2)
theorem z_istore {j : Nat} {x : Int32} (hd : decode J.1.2.1 pc = .ok (.istore j, 2)) (hj : j < J.1.2.2.1) (k : zR G l J bc bs h (pc + 2) (zst1 ls j (.int x)) st) : zR G l J bc bs h pc ls (.int x :: st) := fun p e s m args below meth c H locs cells slots ls0 C hP hS hL h1 h2 => lv_istore C.1 C.2.1 hd hL hj rfl (fun ls1 hL1 => k p e s m args below meth c H locs cells slots ls1 C hP hS (zLs.st1 (ls0 := ls0) hL1) h1 h2)
theorem z_astore_n {j : Fin 4} {x : Nat} (hd : decode J.1.2.1 pc = .ok (.astore_n j, 1)) (hj : (j : Nat) < J.1.2.2.1) (k : zR G l J bc bs h (pc + 1) (zst1 ls j (.ref x)) st) : zR G l J bc bs h pc ls (.ref x :: st) := fun p e s m args below meth c H locs cells slots ls0 C hP hS hL h1 h2 => lv_astore_n C.1 C.2.1 hd rfl hL hj rfl (fun ls1 hL1 => k p e s m args below meth c H locs cells slots ls1 C hP hS (zLs.st1 (ls0 := ls0) hL1) h1 h2)
theorem z_astore {j : Nat} {x : Nat} (hd : decode J.1.2.1 pc = .ok (.astore j, 2)) (hj : j < J.1.2.2.1) (k : zR G l J bc bs h (pc + 2) (zst1 ls j (.ref x)) st) : zR G l J bc bs h pc ls (.ref x :: st) := fun p e s m args below meth c H locs cells slots ls0 C hP hS hL h1 h2 => lv_astore C.1 C.2.1 hd hL hj rfl (fun ls1 hL1 => k p e s m args below meth c H locs cells slots ls1 C hP hS (zLs.st1 (ls0 := ls0) hL1) h1 h2)
theorem z_astore_nN {j : Fin 4} (hd : decode J.1.2.1 pc = .ok (.astore_n j, 1)) (hj : (j : Nat) < J.1.2.2.1) (k : zR G l J bc bs h (pc + 1) (zst1 ls j .null) st) : zR G l J bc bs h pc ls (.null :: st) := fun p e s m args below meth c H locs cells slots ls0 C hP hS hL h1 h2 => lv_astore_nN C.1 C.2.1 hd rfl hL hj rfl (fun ls1 hL1 => k p e s m args below meth c H locs cells slots ls1 C hP hS (zLs.st1 (ls0 := ls0) hL1) h1 h2)
theorem z_astoreN {j : Nat} (hd : decode J.1.2.1 pc = .ok (.astore j, 2)) (hj : j < J.1.2.2.1) (k : zR G l J bc bs h (pc + 2) (zst1 ls j .null) st) : zR G l J bc bs h pc ls (.null :: st) := fun p e s m args below meth c H locs cells slots ls0 C hP hS hL h1 h2 => lv_astoreN C.1 C.2.1 hd hL hj rfl (fun ls1 hL1 => k p e s m args below meth c H locs cells slots ls1 C hP hS (zLs.st1 (ls0 := ls0) hL1) h1 h2)
theorem z_lstore_n {j : Fin 4} {x : Int64} (hd : decode J.1.2.1 pc = .ok (.lstore_n j, 1)) (hj : (j : Nat) + 1 < J.1.2.2.1) (k : zR G l J bc bs h (pc + 1) (zst2 ls j (.long x)) st) : zR G l J bc bs h pc ls (.long x :: st) := fun p e s m args below meth c H locs cells slots ls0 C hP hS hL h1 h2 => lv_lstore_n C.1 C.2.1 hd rfl hL hj rfl (fun ls1 hL1 => k p e s m args below meth c H locs cells slots ls1 C hP hS (zLs.st2 (ls0 := ls0) hL1) h1 h2)
theorem z_lstore {j : Nat} {x : Int64} (hd : decode J.1.2.1 pc = .ok (.lstore j, 2)) (hj : j + 1 < J.1.2.2.1) (k : zR G l J bc bs h (pc + 2) (zst2 ls j (.long x)) st) : zR G l J bc bs h pc ls (.long x :: st) := fun p e s m args below meth c H locs cells slots ls0 C hP hS hL h1 h2 => lv_lstore C.1 C.2.1 hd hL hj rfl (fun ls1 hL1 => k p e s m args below meth c H locs cells slots ls1 C hP hS (zLs.st2 (ls0 := ls0) hL1) h1 h2)
theorem z_iinc {j : Nat} {n x : Int} (hd : decode J.1.2.1 pc = .ok (.iinc j n, 3)) (hl : ls[j]? = some (some (zi x))) (hj : j < J.1.2.2.1) (k : zR G l J bc bs h (pc + 3) (zst1 ls j (zi (x + n))) st) : zR G l J bc bs h pc ls st := by
  intro p e s m args below meth c H locs cells slots ls0 C hP hS hL h1 h2
  have hm : (j, zi x) ∈ zPl 0 ls := (zPl_mem ls 0 _).mpr ⟨j, hl, by simp⟩
  obtain ⟨k9, hk9⟩ := List.getElem?_of_mem hm
  exact lv_iinc C.1 C.2.1 hd hL hk9 (by rw [zI_add]; rfl) hj rfl (fun ls1 hL1 => k p e s m args below meth c H locs cells slots ls1 C hP hS (zLs.st1 (ls0 := ls0) hL1) h1 h2)
theorem z_iadd {a b : Int} (hd : decode J.1.2.1 pc = .ok (.iadd, 1)) (k : zR G l J bc bs h (pc + 1) ls (zi (a + b) :: st)) : zR G l J bc bs h pc ls (zi b :: zi a :: st) := fun p e s m args below meth c H locs cells slots ls0 C hP hS hL h1 h2 => lv_iadd C.1 C.2.1 hd (by rw [← zI_add]; exact k p e s m args below meth c H locs cells slots ls0 C hP hS hL h1 h2)
theorem z_isub {a b : Int} (hd : decode J.1.2.1 pc = .ok (.isub, 1)) (k : zR G l J bc bs h (pc + 1) ls (zi (a - b) :: st)) : zR G l J bc bs h pc ls (zi b :: zi a :: st) := fun p e s m args below meth c H locs cells slots ls0 C hP hS hL h1 h2 => lv_isub C.1 C.2.1 hd (by rw [← zI_sub]; exact k p e s m args below meth c H locs cells slots ls0 C hP hS hL h1 h2)
theorem z_imul {a b : Int} (hd : decode J.1.2.1 pc = .ok (.imul, 1)) (k : zR G l J bc bs h (pc + 1) ls (zi (a * b) :: st)) : zR G l J bc bs h pc ls (zi b :: zi a :: st) := fun p e s m args below meth c H locs cells slots ls0 C hP hS hL h1 h2 => lv_imul C.1 C.2.1 hd (by rw [← zI_mul]; exact k p e s m args below meth c H locs cells slots ls0 C hP hS hL h1 h2)
theorem z_ineg {a : Int} (hd : decode J.1.2.1 pc = .ok (.ineg, 1)) (k : zR G l J bc bs h (pc + 1) ls (zi (-a) :: st)) : zR G l J bc bs h pc ls (zi a :: st) := fun p e s m args below meth c H locs cells slots ls0 C hP hS hL h1 h2 => lv_ineg C.1 C.2.1 hd (by rw [← zI_neg]; exact k p e s m args below meth c H locs cells slots ls0 C hP hS hL h1 h2)
theorem z_ladd {a b : Int} (hd : decode J.1.2.1 pc = .ok (.ladd, 1)) (k : zR G l J bc bs h (pc + 1) ls (zl (a + b) :: st)) : zR G l J bc bs h pc ls (zl b :: zl a :: st) := fun p e s m args below meth c H locs cells slots ls0 C hP hS hL h1 h2 => lv_ladd C.1 C.2.1 hd (by rw [← zL_add]; exact k p e s m args below meth c H locs cells slots ls0 C hP hS hL h1 h2)
theorem z_lmul {a b : Int} (hd : decode J.1.2.1 pc = .ok (.lmul, 1)) (k : zR G l J bc bs h (pc + 1) ls (zl (a * b) :: st)) : zR G l J bc bs h pc ls (zl b :: zl a :: st) := fun p e s m args below meth c H locs cells slots ls0 C hP hS hL h1 h2 => lv_lmul C.1 C.2.1 hd (by rw [← zL_mul]; exact k p e s m args below meth c H locs cells slots ls0 C hP hS hL h1 h2)
theorem z_iand {x y : Int32} (a : Int) (ha : x &&& y = zI a) (hd : decode J.1.2.1 pc = .ok (.iand, 1)) (k : zR G l J bc bs h (pc + 1) ls (zi a :: st)) : zR G l J bc bs h pc ls (.int y :: .int x :: st) := fun p e s m args below meth c H locs cells slots ls0 C hP hS hL h1 h2 => lv_iand C.1 C.2.1 hd (by rw [ha]; exact k p e s m args below meth c H locs cells slots ls0 C hP hS hL h1 h2)
theorem z_ior {x y : Int32} (a : Int) (ha : x ||| y = zI a) (hd : decode J.1.2.1 pc = .ok (.ior, 1)) (k : zR G l J bc bs h (pc + 1) ls (zi a :: st)) : zR G l J bc bs h pc ls (.int y :: .int x :: st) := fun p e s m args below meth c H locs cells slots ls0 C hP hS hL h1 h2 => lv_ior C.1 C.2.1 hd (by rw [ha]; exact k p e s m args below meth c H locs cells slots ls0 C hP hS hL h1 h2)
theorem z_ixor {x y : Int32} (a : Int) (ha : x ^^^ y = zI a) (hd : decode J.1.2.1 pc = .ok (.ixor, 1)) (k : zR G l J bc bs h (pc + 1) ls (zi a :: st)) : zR G l J bc bs h pc ls (.int y :: .int x :: st) := fun p e s m args below meth c H locs cells slots ls0 C hP hS hL h1 h2 => lv_ixor C.1 C.2.1 hd (by rw [ha]; exact k p e s m args below meth c H locs cells slots ls0 C hP hS hL h1 h2)
theorem z_ishl {x y : Int32} (a : Int) (ha : x <<< (y &&& 31) = zI a) (hd : decode J.1.2.1 pc = .ok (.ishl, 1)) (k : zR G l J bc bs h (pc + 1) ls (zi a :: st)) : zR G l J bc bs h pc ls (.int y :: .int x :: st) := fun p e s m args below meth c H locs cells slots ls0 C hP hS hL h1 h2 => lv_ishl C.1 C.2.1 hd (by rw [ha]; exact k p e s m args below meth c H locs cells slots ls0 C hP hS hL h1 h2)
theorem z_ishr {x y : Int32} (a : Int) (ha : x >>> (y &&& 31) = zI a) (hd : decode J.1.2.1 pc = .ok (.ishr, 1)) (k : zR G l J bc bs h (pc + 1) ls (zi a :: st)) : zR G l J bc bs h pc ls (.int y :: .int x :: st) := fun p e s m args below meth c H locs cells slots ls0 C hP hS hL h1 h2 => lv_ishr C.1 C.2.1 hd (by rw [ha]; exact k p e s m args below meth c H locs cells slots ls0 C hP hS hL h1 h2)
theorem z_idiv {x y : Int32} (a : Int) (ha : x / y = zI a) (hy : ¬ y = 0) (hd : decode J.1.2.1 pc = .ok (.idiv, 1)) (k : zR G l J bc bs h (pc + 1) ls (zi a :: st)) : zR G l J bc bs h pc ls (.int y :: .int x :: st) := fun p e s m args below meth c H locs cells slots ls0 C hP hS hL h1 h2 => lv_idiv C.1 C.2.1 hd hy (by rw [ha]; exact k p e s m args below meth c H locs cells slots ls0 C hP hS hL h1 h2)
theorem z_irem {x y : Int32} (a : Int) (ha : x - x / y * y = zI a) (hy : ¬ y = 0) (hd : decode J.1.2.1 pc = .ok (.irem, 1)) (k : zR G l J bc bs h (pc + 1) ls (zi a :: st)) : zR G l J bc bs h pc ls (.int y :: .int x :: st) := fun p e s m args below meth c H locs cells slots ls0 C hP hS hL h1 h2 => lv_irem C.1 C.2.1 hd hy (by rw [ha]; exact k p e s m args below meth c H locs cells slots ls0 C hP hS hL h1 h2)
theorem z_lrem {x y : Int64} (a : Int) (ha : x - x / y * y = zL a) (hy : ¬ y = 0) (hd : decode J.1.2.1 pc = .ok (.lrem, 1)) (k : zR G l J bc bs h (pc + 1) ls (zl a :: st)) : zR G l J bc bs h pc ls (.long y :: .long x :: st) := fun p e s m args below meth c H locs cells slots ls0 C hP hS hL h1 h2 => lv_lrem C.1 C.2.1 hd hy (by rw [ha]; exact k p e s m args below meth c H locs cells slots ls0 C hP hS hL h1 h2)
theorem z_i2l {a : Int} (ha : -2147483648 ≤ a ∧ a ≤ 2147483647) (hd : decode J.1.2.1 pc = .ok (.i2l, 1)) (k : zR G l J bc bs h (pc + 1) ls (zl a :: st)) : zR G l J bc bs h pc ls (zi a :: st) := fun p e s m args below meth c H locs cells slots ls0 C hP hS hL h1 h2 => lv_i2l C.1 C.2.1 hd (zI_long ha) (k p e s m args below meth c H locs cells slots ls0 C hP hS hL h1 h2)
theorem z_l2i {a : Int} (hd : decode J.1.2.1 pc = .ok (.l2i, 1)) (k : zR G l J bc bs h (pc + 1) ls (zi a :: st)) : zR G l J bc bs h pc ls (zl a :: st) := fun p e s m args below meth c H locs cells slots ls0 C hP hS hL h1 h2 => lv_l2i C.1 C.2.1 hd (zL_int a) (k p e s m args below meth c H locs cells slots ls0 C hP hS hL h1 h2)
theorem z_i2b {x : Int32} (a : Int) (ha : x.toInt8.toInt32 = zI a) (hd : decode J.1.2.1 pc = .ok (.i2b, 1)) (k : zR G l J bc bs h (pc + 1) ls (zi a :: st)) : zR G l J bc bs h pc ls (.int x :: st) := fun p e s m args below meth c H locs cells slots ls0 C hP hS hL h1 h2 => lv_i2b C.1 C.2.1 hd ha (k p e s m args below meth c H locs cells slots ls0 C hP hS hL h1 h2)
theorem z_i2c {x : Int32} (a : Int) (ha : (x.toUInt32 % 65536).toInt32 = zI a) (hd : decode J.1.2.1 pc = .ok (.i2c, 1)) (k : zR G l J bc bs h (pc + 1) ls (zi a :: st)) : zR G l J bc bs h pc ls (.int x :: st) := fun p e s m args below meth c H locs cells slots ls0 C hP hS hL h1 h2 => lv_i2c C.1 C.2.1 hd ha (k p e s m args below meth c H locs cells slots ls0 C hP hS hL h1 h2)
theorem z_lcmp {x y : Int64} (hd : decode J.1.2.1 pc = .ok (.lcmp, 1)) (k : zR G l J bc bs h (pc + 1) ls (.int (lg_cmp x y) :: st)) : zR G l J bc bs h pc ls (.long y :: .long x :: st) := fun p e s m args below meth c H locs cells slots ls0 C hP hS hL h1 h2 => W.lcmp C.1 C.2.1 hd (k p e s m args below meth c H locs cells slots ls0 C hP hS hL h1 h2)
theorem z_dup {v : Value} (hv : v.category = 1) (hd : decode J.1.2.1 pc = .ok (.dup, 1)) (k : zR G l J bc bs h (pc + 1) ls (v :: v :: st)) : zR G l J bc bs h pc ls (v :: st) := fun p e s m args below meth c H locs cells slots ls0 C hP hS hL h1 h2 => lv_dup C.1 C.2.1 hd hv (k p e s m args below meth c H locs cells slots ls0 C hP hS hL h1 h2)
theorem z_pop {v : Value} (hv : v.category = 1) (hd : decode J.1.2.1 pc = .ok (.pop, 1)) (k : zR G l J bc bs h (pc + 1) ls st) : zR G l J bc bs h pc ls (v :: st) := fun p e s m args below meth c H locs cells slots ls0 C hP hS hL h1 h2 => lv_pop C.1 C.2.1 hd hv (k p e s m args below meth c H locs cells slots ls0 C hP hS hL h1 h2)
theorem z_pop2_2 {v : Value} (hv : v.category = 2) (hd : decode J.1.2.1 pc = .ok (.pop2, 1)) (k : zR G l J bc bs h (pc + 1) ls st) : zR G l J bc bs h pc ls (v :: st) := fun p e s m args below meth c H locs cells slots ls0 C hP hS hL h1 h2 => lv_pop2_2 C.1 C.2.1 hd hv (k p e s m args below meth c H locs cells slots ls0 C hP hS hL h1 h2)
theorem z_dup_x1 {v u : Value} (hv : v.category = 1) (hu : u.category = 1) (hd : decode J.1.2.1 pc = .ok (.dup_x1, 1)) (k : zR G l J bc bs h (pc + 1) ls (v :: u :: v :: st)) : zR G l J bc bs h pc ls (v :: u :: st) := fun p e s m args below meth c H locs cells slots ls0 C hP hS hL h1 h2 => lv_dup_x1 C.1 C.2.1 hd hv hu (k p e s m args below meth c H locs cells slots ls0 C hP hS hL h1 h2)
theorem z_dup2 {v u : Value} (hv : v.category = 1) (hu : u.category = 1) (hd : decode J.1.2.1 pc = .ok (.dup2, 1)) (k : zR G l J bc bs h (pc + 1) ls (v :: u :: v :: u :: st)) : zR G l J bc bs h pc ls (v :: u :: st) := fun p e s m args below meth c H locs cells slots ls0 C hP hS hL h1 h2 => lv_dup2_11 C.1 C.2.1 hd hv hu (k p e s m args below meth c H locs cells slots ls0 C hP hS hL h1 h2)
theorem z_null (hd : decode J.1.2.1 pc = .ok (.aconst_null, 1)) (k : zR G l J bc bs h (pc + 1) ls (.null :: st)) : zR G l J bc bs h pc ls st := fun p e s m args below meth c H locs cells slots ls0 C hP hS hL h1 h2 => lv_null C.1 C.2.1 hd (k p e s m args below meth c H locs cells slots ls0 C hP hS hL h1 h2)
theorem z_icmp_lt {a b : Int} {off : Int} {tgt : Nat} (hd : decode J.1.2.1 pc = .ok (.if_icmp .lt off, 3)) (ht : (pc : Int) + off = (tgt : Int)) (ha : -2147483648 ≤ a ∧ a ≤ 2147483647) (hb : -2147483648 ≤ b ∧ b ≤ 2147483647) (k1 : a < b → zR G l J bc bs h tgt ls st) (k2 : ¬ (a < b) → zR G l J bc bs h (pc + 3) ls st) : zR G l J bc bs h pc ls (zi b :: zi a :: st) := fun p e s m args below meth c H locs cells slots ls0 C hP hS hL h1 h2 => lv_icmp_lt C.1 C.2.1 hd ht (fun q => k1 ((zI_lt ha hb).mp q) p e s m args below meth c H locs cells slots ls0 C hP hS hL h1 h2) (fun q => k2 (fun z => q ((zI_lt ha hb).mpr z)) p e s m args below meth c H locs cells slots ls0 C hP hS hL h1 h2)
theorem z_if_lt {a : Int} {off : Int} {tgt : Nat} (hd : decode J.1.2.1 pc = .ok (.ifCond .lt off, 3)) (ht : (pc : Int) + off = (tgt : Int)) (ha : -2147483648 ≤ a ∧ a ≤ 2147483647) (k1 : a < 0 → zR G l J bc bs h tgt ls st) (k2 : ¬ (a < 0) → zR G l J bc bs h (pc + 3) ls st) : zR G l J bc bs h pc ls (zi a :: st) := fun p e s m args below meth c H locs cells slots ls0 C hP hS hL h1 h2 => lv_if_lt C.1 C.2.1 hd ht (fun q => k1 ((zI_lt ha (by omega : -2147483648 ≤ (0 : Int) ∧ (0 : Int) ≤ 2147483647)).mp q) p e s m args below meth c H locs cells slots ls0 C hP hS hL h1 h2) (fun q => k2 (fun z => q ((zI_lt ha (by omega : -2147483648 ≤ (0 : Int) ∧ (0 : Int) ≤ 2147483647)).mpr z)) p e s m args below meth c H locs cells slots ls0 C hP hS hL h1 h2)
theorem z_icmp_le {a b : Int} {off : Int} {tgt : Nat} (hd : decode J.1.2.1 pc = .ok (.if_icmp .le off, 3)) (ht : (pc : Int) + off = (tgt : Int)) (ha : -2147483648 ≤ a ∧ a ≤ 2147483647) (hb : -2147483648 ≤ b ∧ b ≤ 2147483647) (k1 : a ≤ b → zR G l J bc bs h tgt ls st) (k2 : ¬ (a ≤ b) → zR G l J bc bs h (pc + 3) ls st) : zR G l J bc bs h pc ls (zi b :: zi a :: st) := fun p e s m args below meth c H locs cells slots ls0 C hP hS hL h1 h2 => lv_icmp_le C.1 C.2.1 hd ht (fun q => k1 ((zI_le ha hb).mp q) p e s m args below meth c H locs cells slots ls0 C hP hS hL h1 h2) (fun q => k2 (fun z => q ((zI_le ha hb).mpr z)) p e s m args below meth c H locs cells slots ls0 C hP hS hL h1 h2)
theorem z_if_le {a : Int} {off : Int} {tgt : Nat} (hd : decode J.1.2.1 pc = .ok (.ifCond .le off, 3)) (ht : (pc : Int) + off = (tgt : Int)) (ha : -2147483648 ≤ a ∧ a ≤ 2147483647) (k1 : a ≤ 0 → zR G l J bc bs h tgt ls st) (k2 : ¬ (a ≤ 0) → zR G l J bc bs h (pc + 3) ls st) : zR G l J bc bs h pc ls (zi a :: st) := fun p e s m args below meth c H locs cells slots ls0 C hP hS hL h1 h2 => lv_if_le C.1 C.2.1 hd ht (fun q => k1 ((zI_le ha (by omega : -2147483648 ≤ (0 : Int) ∧ (0 : Int) ≤ 2147483647)).mp q) p e s m args below meth c H locs cells slots ls0 C hP hS hL h1 h2) (fun q => k2 (fun z => q ((zI_le ha (by omega : -2147483648 ≤ (0 : Int) ∧ (0 : Int) ≤ 2147483647)).mpr z)) p e s m args below meth c H locs cells slots ls0 C hP hS hL h1 h2)
theorem z_icmp_gt {a b : Int} {off : Int} {tgt : Nat} (hd : decode J.1.2.1 pc = .ok (.if_icmp .gt off, 3)) (ht : (pc : Int) + off = (tgt : Int)) (ha : -2147483648 ≤ a ∧ a ≤ 2147483647) (hb : -2147483648 ≤ b ∧ b ≤ 2147483647) (k1 : b < a → zR G l J bc bs h tgt ls st) (k2 : ¬ (b < a) → zR G l J bc bs h (pc + 3) ls st) : zR G l J bc bs h pc ls (zi b :: zi a :: st) := fun p e s m args below meth c H locs cells slots ls0 C hP hS hL h1 h2 => lv_icmp_gt C.1 C.2.1 hd ht (fun q => k1 ((zI_lt hb ha).mp q) p e s m args below meth c H locs cells slots ls0 C hP hS hL h1 h2) (fun q => k2 (fun z => q ((zI_lt hb ha).mpr z)) p e s m args below meth c H locs cells slots ls0 C hP hS hL h1 h2)
theorem z_if_gt {a : Int} {off : Int} {tgt : Nat} (hd : decode J.1.2.1 pc = .ok (.ifCond .gt off, 3)) (ht : (pc : Int) + off = (tgt : Int)) (ha : -2147483648 ≤ a ∧ a ≤ 2147483647) (k1 : 0 < a → zR G l J bc bs h tgt ls st) (k2 : ¬ (0 < a) → zR G l J bc bs h (pc + 3) ls st) : zR G l J bc bs h pc ls (zi a :: st) := fun p e s m args below meth c H locs cells slots ls0 C hP hS hL h1 h2 => lv_if_gt C.1 C.2.1 hd ht (fun q => k1 ((zI_lt (by omega : -2147483648 ≤ (0 : Int) ∧ (0 : Int) ≤ 2147483647) ha).mp q) p e s m args below meth c H locs cells slots ls0 C hP hS hL h1 h2) (fun q => k2 (fun z => q ((zI_lt (by omega : -2147483648 ≤ (0 : Int) ∧ (0 : Int) ≤ 2147483647) ha).mpr z)) p e s m args below meth c H locs cells slots ls0 C hP hS hL h1 h2)
theorem z_icmp_ge {a b : Int} {off : Int} {tgt : Nat} (hd : decode J.1.2.1 pc = .ok (.if_icmp .ge off, 3)) (ht : (pc : Int) + off = (tgt : Int)) (ha : -2147483648 ≤ a ∧ a ≤ 2147483647) (hb : -2147483648 ≤ b ∧ b ≤ 2147483647) (k1 : b ≤ a → zR G l J bc bs h tgt ls st) (k2 : ¬ (b ≤ a) → zR G l J bc bs h (pc + 3) ls st) : zR G l J bc bs h pc ls (zi b :: zi a :: st) := fun p e s m args below meth c H locs cells slots ls0 C hP hS hL h1 h2 => lv_icmp_ge C.1 C.2.1 hd ht (fun q => k1 ((zI_le hb ha).mp q) p e s m args below meth c H locs cells slots ls0 C hP hS hL h1 h2) (fun q => k2 (fun z => q ((zI_le hb ha).mpr z)) p e s m args below meth c H locs cells slots ls0 C hP hS hL h1 h2)
theorem z_if_ge {a : Int} {off : Int} {tgt : Nat} (hd : decode J.1.2.1 pc = .ok (.ifCond .ge off, 3)) (ht : (pc : Int) + off = (tgt : Int)) (ha : -2147483648 ≤ a ∧ a ≤ 2147483647) (k1 : 0 ≤ a → zR G l J bc bs h tgt ls st) (k2 : ¬ (0 ≤ a) → zR G l J bc bs h (pc + 3) ls st) : zR G l J bc bs h pc ls (zi a :: st) := fun p e s m args below meth c H locs cells slots ls0 C hP hS hL h1 h2 => lv_if_ge C.1 C.2.1 hd ht (fun q => k1 ((zI_le (by omega : -2147483648 ≤ (0 : Int) ∧ (0 : Int) ≤ 2147483647) ha).mp q) p e s m args below meth c H locs cells slots ls0 C hP hS hL h1 h2) (fun q => k2 (fun z => q ((zI_le (by omega : -2147483648 ≤ (0 : Int) ∧ (0 : Int) ≤ 2147483647) ha).mpr z)) p e s m args below meth c H locs cells slots ls0 C hP hS hL h1 h2)
theorem z_icmp_eq {a b : Int} {off : Int} {tgt : Nat} (hd : decode J.1.2.1 pc = .ok (.if_icmp .eq off, 3)) (ht : (pc : Int) + off = (tgt : Int)) (ha : -2147483648 ≤ a ∧ a ≤ 2147483647) (hb : -2147483648 ≤ b ∧ b ≤ 2147483647) (k1 : a = b → zR G l J bc bs h tgt ls st) (k2 : ¬ (a = b) → zR G l J bc bs h (pc + 3) ls st) : zR G l J bc bs h pc ls (zi b :: zi a :: st) := fun p e s m args below meth c H locs cells slots ls0 C hP hS hL h1 h2 => lv_icmp_eq C.1 C.2.1 hd ht (fun q => k1 ((zI_eq ha hb).mp q) p e s m args below meth c H locs cells slots ls0 C hP hS hL h1 h2) (fun q => k2 (fun z => q ((zI_eq ha hb).mpr z)) p e s m args below meth c H locs cells slots ls0 C hP hS hL h1 h2)
theorem z_if_eq {a : Int} {off : Int} {tgt : Nat} (hd : decode J.1.2.1 pc = .ok (.ifCond .eq off, 3)) (ht : (pc : Int) + off = (tgt : Int)) (ha : -2147483648 ≤ a ∧ a ≤ 2147483647) (k1 : a = 0 → zR G l J bc bs h tgt ls st) (k2 : ¬ (a = 0) → zR G l J bc bs h (pc + 3) ls st) : zR G l J bc bs h pc ls (zi a :: st) := fun p e s m args below meth c H locs cells slots ls0 C hP hS hL h1 h2 => lv_if_eq C.1 C.2.1 hd ht (fun q => k1 ((zI_eq ha (by omega : -2147483648 ≤ (0 : Int) ∧ (0 : Int) ≤ 2147483647)).mp q) p e s m args below meth c H locs cells slots ls0 C hP hS hL h1 h2) (fun q => k2 (fun z => q ((zI_eq ha (by omega : -2147483648 ≤ (0 : Int) ∧ (0 : Int) ≤ 2147483647)).mpr z)) p e s m args below meth c H locs cells slots ls0 C hP hS hL h1 h2)
theorem z_icmp_ne {a b : Int} {off : Int} {tgt : Nat} (hd : decode J.1.2.1 pc = .ok (.if_icmp .ne off, 3)) (ht : (pc : Int) + off = (tgt : Int)) (ha : -2147483648 ≤ a ∧ a ≤ 2147483647) (hb : -2147483648 ≤ b ∧ b ≤ 2147483647) (k1 : ¬ a = b → zR G l J bc bs h tgt ls st) (k2 : a = b → zR G l J bc bs h (pc + 3) ls st) : zR G l J bc bs h pc ls (zi b :: zi a :: st) := fun p e s m args below meth c H locs cells slots ls0 C hP hS hL h1 h2 => lv_icmp_ne C.1 C.2.1 hd ht (fun q => k1 (fun z => q ((zI_eq ha hb).mpr z)) p e s m args below meth c H locs cells slots ls0 C hP hS hL h1 h2) (fun q => k2 ((zI_eq ha hb).mp q) p e s m args below meth c H locs cells slots ls0 C hP hS hL h1 h2)
theorem z_if_ne {a : Int} {off : Int} {tgt : Nat} (hd : decode J.1.2.1 pc = .ok (.ifCond .ne off, 3)) (ht : (pc : Int) + off = (tgt : Int)) (ha : -2147483648 ≤ a ∧ a ≤ 2147483647) (k1 : ¬ a = 0 → zR G l J bc bs h tgt ls st) (k2 : a = 0 → zR G l J bc bs h (pc + 3) ls st) : zR G l J bc bs h pc ls (zi a :: st) := fun p e s m args below meth c H locs cells slots ls0 C hP hS hL h1 h2 => lv_if_ne C.1 C.2.1 hd ht (fun q => k1 (fun z => q ((zI_eq ha (by omega : -2147483648 ≤ (0 : Int) ∧ (0 : Int) ≤ 2147483647)).mpr z)) p e s m args below meth c H locs cells slots ls0 C hP hS hL h1 h2) (fun q => k2 ((zI_eq ha (by omega : -2147483648 ≤ (0 : Int) ∧ (0 : Int) ≤ 2147483647)).mp q) p e s m args below meth c H locs cells slots ls0 C hP hS hL h1 h2)
theorem z_goto {off : Int} {tgt : Nat} (hd : decode J.1.2.1 pc = .ok (.goto off, 3)) (ht : (pc : Int) + off = (tgt : Int)) (k : zR G l J bc bs h tgt ls st) : zR G l J bc bs h pc ls st := fun p e s m args below meth c H locs cells slots ls0 C hP hS hL h1 h2 => lv_goto C.1 C.2.1 hd ht (k p e s m args below meth c H locs cells slots ls0 C hP hS hL h1 h2)
theorem z_ifnonnull {x : Nat} {off : Int} {tgt : Nat} (hd : decode J.1.2.1 pc = .ok (.ifnonnull off, 3)) (ht : (pc : Int) + off = (tgt : Int)) (k : zR G l J bc bs h tgt ls st) : zR G l J bc bs h pc ls (.ref x :: st) := fun p e s m args below meth c H locs cells slots ls0 C hP hS hL h1 h2 => lv_ifnonnull C.1 C.2.1 hd ht (k p e s m args below meth c H locs cells slots ls0 C hP hS hL h1 h2)
theorem z_ifnonnullN {off : Int} (hd : decode J.1.2.1 pc = .ok (.ifnonnull off, 3)) (k : zR G l J bc bs h (pc + 3) ls st) : zR G l J bc bs h pc ls (.null :: st) := fun p e s m args below meth c H locs cells slots ls0 C hP hS hL h1 h2 => lv_ifnonnullN C.1 C.2.1 hd (k p e s m args below meth c H locs cells slots ls0 C hP hS hL h1 h2)
theorem z_tableIn {a dflt lo hi : Int} {offs : Array Int} {len : Nat} {off : Int} {tgt : Nat} (hd : decode J.1.2.1 pc = .ok (.tableswitch dflt lo hi offs, len)) (ha : -2147483648 ≤ a ∧ a ≤ 2147483647) (h1 : ¬ a < lo) (h2 : ¬ hi < a) (ho : offs[(a - lo).toNat]? = some off) (ht : (pc : Int) + off = (tgt : Int)) (k : zR G l J bc bs h tgt ls st) : zR G l J bc bs h pc ls (zi a :: st) := fun p e s m args below meth c H locs cells slots ls0 C hP hS hL g1 g2 => lv_tableIn C.1 C.2.1 hd (by rw [zI_toInt ha]; exact h1) (by rw [zI_toInt ha]; exact h2) (by rw [zI_toInt ha]; exact ho) ht (k p e s m args below meth c H locs cells slots ls0 C hP hS hL g1 g2)
theorem z_tableOut {a dflt lo hi : Int} {offs : Array Int} {len : Nat} {tgt : Nat} (hd : decode J.1.2.1 pc = .ok (.tableswitch dflt lo hi offs, len)) (ha : -2147483648 ≤ a ∧ a ≤ 2147483647) (h1 : a < lo ∨ hi < a) (ht : (pc : Int) + dflt = (tgt : Int)) (k : zR G l J bc bs h tgt ls st) : zR G l J bc bs h pc ls (zi a :: st) := fun p e s m args below meth c H locs cells slots ls0 C hP hS hL g1 g2 => lv_tableOut C.1 C.2.1 hd (by rw [zI_toInt ha]; exact h1) ht (k p e s m args below meth c H locs cells slots ls0 C hP hS hL g1 g2)
theorem z_lookup {a dflt : Int} {ps : Array (Int × Int)} {len : Nat} {off : Int} {tgt : Nat} (hd : decode J.1.2.1 pc = .ok (.lookupswitch dflt ps, len)) (ha : -2147483648 ≤ a ∧ a ≤ 2147483647) (hp : (ps.toList.zip (ps.toList.drop 1)).all (fun (a, next) => a.1 < next.1) = true) (ho : Op.lookupswitch.offset ps.toList dflt a = off) (ht : (pc : Int) + off = (tgt : Int)) (k : zR G l J bc bs h tgt ls st) : zR G l J bc bs h pc ls (zi a :: st) := fun p e s m args below meth c H locs cells slots ls0 C hP hS hL h1 h2 => lv_lookup C.1 C.2.1 hd hp (by rw [zI_toInt ha]; exact ho) ht (k p e s m args below meth c H locs cells slots ls0 C hP hS hL h1 h2)
theorem z_ldc {i : Nat} {v : Int32} (hd : decode J.1.2.1 pc = .ok (.ldc i, 2)) (x : Int) (hx : v = zI x) (hw : Cond.constant J.1.1 i v ∈ zWS) (k : zR G l J bc bs h (pc + 2) ls (zi x :: st)) : zR G l J bc bs h pc ls st := by
  intro p e s m args below meth c H locs cells slots ls0 C hP hS hL h1 h2
  refine lv_ldc C.1 C.2.1 C.2.2.2.2.2.2.1 (C.2.2.2.2.2.2.2.1 _ hw) hd ?_
  rw [hx]
  exact k p e s m args below meth c H locs cells slots ls0 C hP hS hL h1 h2
theorem z_ldcw {i : Nat} {v : Int32} (hd : decode J.1.2.1 pc = .ok (.ldc_w i, 3)) (x : Int) (hx : v = zI x) (hw : Cond.constant J.1.1 i v ∈ zWS) (k : zR G l J bc bs h (pc + 3) ls (zi x :: st)) : zR G l J bc bs h pc ls st := by
  intro p e s m args below meth c H locs cells slots ls0 C hP hS hL h1 h2
  refine lv_ldcw C.1 C.2.1 C.2.2.2.2.2.2.1 (C.2.2.2.2.2.2.2.1 _ hw) hd ?_
  rw [hx]
  exact k p e s m args below meth c H locs cells slots ls0 C hP hS hL h1 h2
theorem z_ldc2 {i : Nat} {v : Int64} (hd : decode J.1.2.1 pc = .ok (.ldc2_w i, 3)) (x : Int) (hx : v = zL x) (hw : Cond.constantLong J.1.1 i v ∈ zWS) (k : zR G l J bc bs h (pc + 3) ls (zl x :: st)) : zR G l J bc bs h pc ls st := by
  intro p e s m args below meth c H locs cells slots ls0 C hP hS hL h1 h2
  refine lv_ldc2 C.1 C.2.1 C.2.2.2.2.2.2.1 (C.2.2.2.2.2.2.2.1 _ hw) hd ?_
  rw [hx]
  exact k p e s m args below meth c H locs cells slots ls0 C hP hS hL h1 h2
end ZR
end
section
/-! ===== fields, arrays, new cells, calls, ends ===== -/
theorem zRel.mono {G : zG} {h h' : zHp} {H : Heap} (hP : zRel G h H) (hs : ∀ a e, h' a = some e → h a = some e) : zRel G h' H := ⟨hP.1, fun a e q => hP.2 a e (hs a e q)⟩
theorem zRel.lt {G : zG} {h : zHp} {H : Heap} {a : Nat} {e : va_E} (hP : zRel G h H) (ha : h a = some e) : a < H.size := (hP.2 a e ha).2.lt
theorem zRel.ok {G : zG} {h : zHp} {H : Heap} {a : Nat} {e : va_E} (hP : zRel G h H) (ha : h a = some e) : va_P G.1 vwCl [(a, e)] H := by
  intro k q hk
  match k, hk with
  | 0, hk => cases hk; exact (hP.2 a e ha).2
theorem zRel.set {G : zG} {h : zHp} {H H1 : Heap} {a : Nat} {e0 e : va_E} (hP : zRel G h H) (ha : h a = some e0) (he : va_at G.1 vwCl (a, e) H1) (hz : H1.size = H.size) (oq : ∀ q : Nat, q ≠ a → H1[q]? = H[q]?) : zRel G (zup h a (some e)) H1 := by
  refine ⟨by rw [hz]; exact hP.1, fun b x hb => ?_⟩
  unfold zup at hb
  by_cases hab : b = a
  · subst hab
    rw [if_pos rfl] at hb
    cases hb
    exact ⟨(hP.2 _ _ ha).1, he⟩
  · rw [if_neg hab] at hb
    exact ⟨(hP.2 _ _ hb).1, (hP.2 _ _ hb).2.kept (oq b hab)⟩
theorem zRel.push {G : zG} {h : zHp} {H H1 : Heap} {e : va_E} (hP : zRel G h H) (he : va_at G.1 vwCl (H.size, e) H1) (hz : H1.size = H.size + 1) (oq : ∀ q : Nat, q < H.size → H1[q]? = H[q]?) : zRel G (zup h H.size (some e)) H1 := by
  refine ⟨by rw [hz]; exact Nat.le_succ_of_le hP.1, fun b x hb => ?_⟩
  unfold zup at hb
  by_cases hab : b = H.size
  · subst hab
    rw [if_pos rfl] at hb
    cases hb
    exact ⟨hP.1, he⟩
  · rw [if_neg hab] at hb
    exact ⟨(hP.2 _ _ hb).1, (hP.2 _ _ hb).2.kept (oq b (hP.lt hb))⟩
theorem zRel.keep {G : zG} {h : zHp} {H H1 : Heap} (hP : zRel G h H) (hz : H.size ≤ H1.size) (oq : ∀ q : Nat, q < H.size → H1[q]? = H[q]?) : zRel G h H1 :=
  ⟨Nat.le_trans hP.1 hz, fun b x hb => ⟨(hP.2 _ _ hb).1, (hP.2 _ _ hb).2.kept (oq b (hP.lt hb))⟩⟩
theorem va_S.push {G : zG} {H0 H H1 : Heap} {locs : List Loc} (hS : va_S (zA G) H0 H locs) (hz : H1.size = H.size + 1) (oq : ∀ q : Nat, q < H.size → H1[q]? = H[q]?) : va_S (zA G) H0 H1 locs :=
  ⟨Nat.le_trans hS.1 (by omega), fun q h1 h2 => (oq q (Nat.lt_of_lt_of_le h1 hS.1)).trans (hS.2.1 q h1 h2), hS.2.2⟩
/-- all that a class's field rows ask, decided by a program -/
def zFd (ci : Nat) (C : String) (T : u_T) (N : Nat) (ty : Nat → FieldType) : Prop := vwCl[ci]? = some (C, T, N) ∧ (∀ w ∈ u_ws C T N, w ∈ zWS) ∧ (∀ k, k < N → parseFieldDescriptor (T k).2.2.1 = some (ty k)) ∧ (∀ a, a < N → ∀ b, b < N → a ≠ b → (T a).2.1 ≠ (T b).2.1)
section ZC
variable {G : zG} {l : Launch} {J : zJ} {bc bs : Nat} {h : zHp} {pc : Nat} {ls : List (Option Value)} {st : List Value}
theorem z_get {ci : Nat} {C : String} {T : u_T} {N : Nat} {ty : Nat → FieldType} {i a : Nat} {fs : List Value} {v : Value} (k : Nat) (F : zFd ci C T N ty) (hk : k < N) (hw : Cond.fieldLink J.1.1 i (T k).1 (T k).2.1 (T k).2.2.1 ∈ zWS) (hd : decode J.1.2.1 pc = .ok (.getfield i, 3)) (hh : h a = some (.inr (ci, fs))) (hv : fs[k]? = some v)
    (kk : zR G l J bc bs h (pc + 3) ls (v :: st)) : zR G l J bc bs h pc ls (.ref a :: st) := by
  intro p e s m args below meth c H locs cells slots ls0 C0 hP hS hL h1 h2
  obtain ⟨f1, f2, f3, f4⟩ := F
  exact va_get (D := G.1) (ci := ci) (v := v) (C := C) (T := T) (N := N) C0.1 C0.2.1 C0.2.2.2.2.2.2.2.1 f2 C0.2.2.2.2.2.2.1 C0.2.2.2.2.2.2.2.2.2.1.1 (hP.ok hh) 0 rfl f1 k hk (C0.2.2.2.2.2.2.2.1 _ hw) (fun _ h9 => h9) hv hd (kk p e s m args below meth c H locs cells slots ls0 C0 hP hS hL h1 h2)
/-- of a nest mate -/
theorem z_getN {ci : Nat} {C host : String} {T : u_T} {N : Nat} {ty : Nat → FieldType} {i a : Nat} {fs : List Value} {v : Value} (k : Nat) (F : zFd ci C T N ty) (hk : k < N) (hw : Cond.fieldLinkNest J.1.1 i (T k).1 (T k).2.1 (T k).2.2.1 host ∈ zNW) (hd : decode J.1.2.1 pc = .ok (.getfield i, 3)) (hh : h a = some (.inr (ci, fs))) (hv : fs[k]? = some v)
    (kk : zR G l J bc bs h (pc + 3) ls (v :: st)) : zR G l J bc bs h pc ls (.ref a :: st) := by
  intro p e s m args below meth c H locs cells slots ls0 C0 hP hS hL h1 h2
  obtain ⟨f1, f2, f3, f4⟩ := F
  exact va_getN (D := G.1) (ci := ci) (v := v) (C := C) (T := T) (N := N) C0.1 C0.2.1 C0.2.2.2.2.2.2.2.1 f2 C0.2.2.2.2.2.2.1 C0.2.2.2.2.2.2.2.2.2.1.1 (hP.ok hh) 0 rfl f1 k hk (va_Nw.use rfl (C0.2.2.2.2.2.2.2.2.2.1.2.2.1 _ hw)) (fun _ h9 => h9) hv hd (kk p e s m args below meth c H locs cells slots ls0 C0 hP hS hL h1 h2)
/-- an inherited field, spelled by the subclass -/
theorem z_getS {ci : Nat} {C ref : String} {T : u_T} {N : Nat} {ty : Nat → FieldType} {i a : Nat} {fs : List Value} {v : Value} (k : Nat) (F : zFd ci C T N ty) (hk : k < N) (hw : Cond.fieldLink J.1.1 i ref (T k).2.1 (T k).2.2.1 ∈ zWS) (hsm : ref = (T k).1) (hd : decode J.1.2.1 pc = .ok (.getfield i, 3)) (hh : h a = some (.inr (ci, fs))) (hv : fs[k]? = some v)
    (kk : zR G l J bc bs h (pc + 3) ls (v :: st)) : zR G l J bc bs h pc ls (.ref a :: st) := z_get k F hk (by rw [← hsm]; exact hw) hd hh hv kk
theorem zcell_put {G : zG} {s : State} {args : Array Value} {ci : Nat} {C : String} {T : u_T} {N : Nat} {ty : Nat → FieldType} {a k : Nat} {fs : List Value} {v : Value} {H1 : Heap} {cell : Cell} (F : zFd ci C T N ty) (hts : ∀ w ∈ zWS, w.before args s = true) (hK : va_K G.1 vwCl (zTys G) s) (q2 : cell.cls = G.1.1 ci) (q3 : cell.vm = .none) (q4 : ∀ j, j < N → cell.slots[G.1.2 ci j]? = some (vp_V fs j)) (hk : k < N) (hl : k < fs.length) (e1 : H1[a]? = some (cell.setSlot (G.1.2 ci k) v)) (own : String) : va_at G.1 vwCl (a, .inr (ci, fs.set k v)) H1 :=
  ⟨_, F.1, t_OB.to (V := updV (vp_V fs) k v) ⟨_, e1, q2, q3, t_set q4 (va_apart (own := own) hts F.2.1 ty F.2.2.1 F.2.2.2 hK F.1) hk v⟩ (fun j _ => vp_updV_set hl v j)⟩
theorem z_put {ci : Nat} {C : String} {T : u_T} {N : Nat} {ty : Nat → FieldType} {i a : Nat} {fs : List Value} {v : Value} (k : Nat) (F : zFd ci C T N ty) (hk : k < N) (hw : Cond.fieldLink J.1.1 i (T k).1 (T k).2.1 (T k).2.2.1 ∈ zWS) (hfin : (T k).2.2.2 = false) (hd : decode J.1.2.1 pc = .ok (.putfield i, 3)) (hh : h a = some (.inr (ci, fs))) (hl : k < fs.length) (hn : narrow (ty k) v = v) (hf : fits (ty k) v = true)
    (kk : zR G l J bc bs (zup h a (some (.inr (ci, fs.set k v)))) (pc + 3) ls st) : zR G l J bc bs h pc ls (v :: .ref a :: st) := by
  intro p e s m args below meth c H locs cells slots ls0 C0 hP hS hL h1 h2
  have hts := C0.2.2.2.2.2.2.2.1
  have hK := C0.2.2.2.2.2.2.2.2.2.1.1
  have hown := C0.2.2.2.2.2.2.1
  obtain ⟨hba, r, hr1, cell, q1, q2, q3, q4⟩ := hP.2 a _ hh
  have hr : r = (C, T, N) := Option.some.inj (hr1.symm.trans F.1)
  subst hr
  obtain ⟨hS9, hfc, kC, hkC, hkind⟩ := hK.1 ci _ F.1
  obtain ⟨cf, kf, fi, f, hi, hsl⟩ := hS9 k hk
  have hlay := hts _ (F.2.1 _ (u_in_lay hk))
  unfold u_lay at hlay
  rw [if_neg (by rw [hfin]; decide)] at hlay
  have hst := (u_facts hfc hkC (u_lays hts F.2.1 hk) hi).1
  have h6 := u_store hfc hkC hkind hlay hi (F.2.2.1 k hk) hn hf
  refine W.putK C0.1 C0.2.1 (f := f) ⟨hown, hts _ hw, ⟨_, _, _, hi⟩, hst⟩ (by rw [q2]; exact h6) q1 q3 (by rw [hsl]; exact k2_hasslot (q4 k hk)) rfl rfl hd fun H' e1 e2 e3 => ?_
  rw [hsl] at e1 ⊢
  exact kk p e s m args below meth c H' _ cells slots ls0 C0 (hP.set hh (zcell_put F hts hK q2 q3 q4 hk hl e1 J.1.1) e2 e3) (hS.put e2 e3 hba) hL h1 h2
theorem z_putN {ci : Nat} {C host : String} {T : u_T} {N : Nat} {ty : Nat → FieldType} {i a : Nat} {fs : List Value} {v : Value} (k : Nat) (F : zFd ci C T N ty) (hk : k < N) (hw : Cond.fieldLinkNest J.1.1 i (T k).1 (T k).2.1 (T k).2.2.1 host ∈ zNW) (hfin : (T k).2.2.2 = false) (hd : decode J.1.2.1 pc = .ok (.putfield i, 3)) (hh : h a = some (.inr (ci, fs))) (hl : k < fs.length) (hn : narrow (ty k) v = v) (hf : fits (ty k) v = true)
    (kk : zR G l J bc bs (zup h a (some (.inr (ci, fs.set k v)))) (pc + 3) ls st) : zR G l J bc bs h pc ls (v :: .ref a :: st) := by
  intro p e s m args below meth c H locs cells slots ls0 C0 hP hS hL h1 h2
  have hts := C0.2.2.2.2.2.2.2.1
  have hK := C0.2.2.2.2.2.2.2.2.2.1.1
  have hown := C0.2.2.2.2.2.2.1
  obtain ⟨hba, r, hr1, cell, q1, q2, q3, q4⟩ := hP.2 a _ hh
  have hr : r = (C, T, N) := Option.some.inj (hr1.symm.trans F.1)
  subst hr
  obtain ⟨hS9, hfc, kC, hkC, hkind⟩ := hK.1 ci _ F.1
  obtain ⟨cf, kf, fi, f, hi, hsl⟩ := hS9 k hk
  have hlay := hts _ (F.2.1 _ (u_in_lay hk))
  unfold u_lay at hlay
  rw [if_neg (by rw [hfin]; decide)] at hlay
  have hst := (u_facts hfc hkC (u_lays hts F.2.1 hk) hi).1
  have h6 := u_store hfc hkC hkind hlay hi (F.2.2.1 k hk) hn hf
  refine va_WputK C0.1 C0.2.1 (f := f) hown (va_Nw.use rfl (C0.2.2.2.2.2.2.2.2.2.1.2.2.1 _ hw)) hi hst (by rw [q2]; exact h6) q1 q3 (by rw [hsl]; exact k2_hasslot (q4 k hk)) rfl rfl hd fun H' e1 e2 e3 => ?_
  rw [hsl] at e1 ⊢
  exact kk p e s m args below meth c H' _ cells slots ls0 C0 (hP.set hh (zcell_put F hts hK q2 q3 q4 hk hl e1 J.1.1) e2 e3) (hS.put e2 e3 hba) hL h1 h2
/-- a final field, in a constructor -/
theorem z_putF {ci : Nat} {C : String} {T : u_T} {N : Nat} {ty : Nat → FieldType} {i a : Nat} {fs : List Value} {v : Value} (k : Nat) (F : zFd ci C T N ty) (hk : k < N) (hw : Cond.fieldLink J.1.1 i (T k).1 (T k).2.1 (T k).2.2.1 ∈ zWS) (hfin : (T k).2.2.2 = true) (hini : J.1.2.2.2.2.2 = true) (hdecl : (T k).1 = J.1.1) (hd : decode J.1.2.1 pc = .ok (.putfield i, 3)) (hh : h a = some (.inr (ci, fs))) (hl : k < fs.length) (hn : narrow (ty k) v = v) (hf : fits (ty k) v = true)
    (kk : zR G l J bc bs (zup h a (some (.inr (ci, fs.set k v)))) (pc + 3) ls st) : zR G l J bc bs h pc ls (v :: .ref a :: st) := by
  intro p e s m args below meth c H locs cells slots ls0 C0 hP hS hL h1 h2
  have hts := C0.2.2.2.2.2.2.2.1
  have hK := C0.2.2.2.2.2.2.2.2.2.1.1
  have hown := C0.2.2.2.2.2.2.1
  obtain ⟨hba, r, hr1, cell, q1, q2, q3, q4⟩ := hP.2 a _ hh
  have hr : r = (C, T, N) := Option.some.inj (hr1.symm.trans F.1)
  subst hr
  obtain ⟨hS9, hfc, kC, hkC, hkind⟩ := hK.1 ci _ F.1
  obtain ⟨cf, kf, fi, f, hi, hsl⟩ := hS9 k hk
  have hlay := hts _ (F.2.1 _ (u_in_lay hk))
  unfold u_lay at hlay
  rw [if_pos hfin] at hlay
  have hst := (u_facts hfc hkC (u_lays hts F.2.1 hk) hi).1
  have hcf : m.cls = cf := by
    obtain ⟨_, _, c', _, _, _, -, -, hf', -, -, -, hown2, -⟩ := Cond.laysFinal_spec hlay
    have e1 : c' = cf := by have := hi.symm.trans hf'; simp at this; exact this.1.symm
    rw [hdecl] at hown2
    rw [← e1]; exact Option.some.inj (hown.symm.trans hown2)
  have h6 := u_fits hfc hkC hkind (Or.inr hlay) hi (F.2.2.1 k hk) hn hf
  refine W.putFinK C0.1 C0.2.1 hown (hts _ hw) hi hst hcf (C0.2.2.2.2.2.1 hini) (by rw [q2]; exact h6) q1 q3 (by rw [hsl]; exact k2_hasslot (q4 k hk)) rfl rfl hd fun H' e1 e2 e3 => ?_
  rw [hsl] at e1 ⊢
  exact kk p e s m args below meth c H' _ cells slots ls0 C0 (hP.set hh (zcell_put F hts hK q2 q3 q4 hk hl e1 J.1.1) e2 e3) (hS.put e2 e3 hba) hL h1 h2
theorem z_new {ci : Nat} {C : String} {T : u_T} {N : Nat} {ty : Nat → FieldType} {i : Nat} {fs : List Value} (F : zFd ci C T N ty) (hw : Cond.classLink J.1.1 i C ∈ zWS) (hins : Cond.instantiable C N ∈ zWS) (hini : Cond.initialized C ∈ zWS) (hfs : ∀ j, j < N → defaultValue (ty j) = vp_V fs j) (hd : decode J.1.2.1 pc = .ok (.new i, 3)) {bc' bs' : Nat} (hb1 : bc' + 1 ≤ bc) (hb2 : bs' + N ≤ bs)
    (kk : ∀ q : Nat, (∀ a e, h a = some e → a < q) → G.2.2 ≤ q → zR G l J bc' bs' (zup h q (some (.inr (ci, fs)))) (pc + 3) ls (.ref q :: st)) : zR G l J bc bs h pc ls st := by
  intro p e s m args below meth c H locs cells slots ls0 C0 hP hS hL h1 h2
  have hts := C0.2.2.2.2.2.2.2.1
  have hK := C0.2.2.2.2.2.2.2.2.2.1.1
  have hown := C0.2.2.2.2.2.2.1
  have hKn := hK.1 ci _ F.1
  refine W.newcK C0.1 C0.2.1 hown (hts _ hw) (hts _ hins) (hts _ hini) rfl hd (by omega) (by omega) hKn.2.1 rfl fun H1 kC hkC e1 z1 o1 => ?_
  exact kk H.size (fun a e ha => hP.lt ha) hP.1 p e s m args below meth c H1 locs (cells + 1) (slots + N) ls0 C0 (hP.push ⟨_, F.1, (u_born ty hts F.2.1 hKn hkC e1 F.2.2.1).to hfs⟩ z1 o1) (hS.push z1 o1) hL (by omega) (by omega)
theorem z_alen {i : Nat} {ty : FieldType} {n a : Nat} {x : ((Nat → Int32) ⊕ (Nat → Int64) ⊕ (Nat → UInt32) ⊕ (Nat → UInt64) ⊕ (Nat → Option Nat))} (ht : (zTys G)[i]? = some (G.2.1 i, ty)) (hd : decode J.1.2.1 pc = .ok (.arraylength, 1)) (hh : h a = some (.inl (G.2.1 i, n, x)))
    (kk : zR G l J bc bs h (pc + 1) ls (zi (n : Int) :: st)) : zR G l J bc bs h pc ls (.ref a :: st) := by
  intro p e s m args below meth c H locs cells slots ls0 C0 hP hS hL h1 h2
  exact va_alen (D := G.1) C0.1 C0.2.1 C0.2.2.2.2.2.2.2.2.2.1.1 (hP.ok hh) 0 i rfl ht (zI_nat n) hd (kk p e s m args below meth c H locs cells slots ls0 C0 hP hS hL h1 h2)
theorem z_iald {n a : Nat} {g : Nat → Int} {i : Int} (hd : decode J.1.2.1 pc = .ok (.iaload, 1)) (hh : h a = some (zInts G n g)) (hi : 0 ≤ i ∧ i < n ∧ i < 2147483648)
    (kk : zR G l J bc bs h (pc + 1) ls (zi (g i.toNat) :: st)) : zR G l J bc bs h pc ls (zi i :: .ref a :: st) := by
  intro p e s m args below meth c H locs cells slots ls0 C0 hP hS hL h1 h2
  refine va_iald (D := G.1) C0.1 C0.2.1 C0.2.2.2.2.2.2.2.2.2.1.1 (hP.ok hh) 0 0 rfl rfl (zI_in hi.1 hi.2.1 hi.2.2) hd ?_
  rw [zI_clamp hi.1 hi.2.2]
  exact kk p e s m args below meth c H locs cells slots ls0 C0 hP hS hL h1 h2
theorem z_zald {n a : Nat} {g : Nat → Int} {i : Int} (hd : decode J.1.2.1 pc = .ok (.baload, 1)) (hh : h a = some (zBools G n g)) (hi : 0 ≤ i ∧ i < n ∧ i < 2147483648)
    (kk : zR G l J bc bs h (pc + 1) ls (zi (g i.toNat) :: st)) : zR G l J bc bs h pc ls (zi i :: .ref a :: st) := by
  intro p e s m args below meth c H locs cells slots ls0 C0 hP hS hL h1 h2
  refine va_zald (D := G.1) C0.1 C0.2.1 C0.2.2.2.2.2.2.2.2.2.1.1 (hP.ok hh) 0 1 rfl rfl (zI_in hi.1 hi.2.1 hi.2.2) hd ?_
  rw [zI_clamp hi.1 hi.2.2]
  exact kk p e s m args below meth c H locs cells slots ls0 C0 hP hS hL h1 h2
theorem z_bald {n a : Nat} {g : Nat → Int} {i : Int} (hd : decode J.1.2.1 pc = .ok (.baload, 1)) (hh : h a = some (zBytes G n g)) (hi : 0 ≤ i ∧ i < n ∧ i < 2147483648)
    (kk : zR G l J bc bs h (pc + 1) ls (zi (g i.toNat) :: st)) : zR G l J bc bs h pc ls (zi i :: .ref a :: st) := by
  intro p e s m args below meth c H locs cells slots ls0 C0 hP hS hL h1 h2
  refine va_bald (D := G.1) C0.1 C0.2.1 C0.2.2.2.2.2.2.2.2.2.1.1 (hP.ok hh) 0 2 rfl rfl (zI_in hi.1 hi.2.1 hi.2.2) hd ?_
  rw [zI_clamp hi.1 hi.2.2]
  exact kk p e s m args below meth c H locs cells slots ls0 C0 hP hS hL h1 h2
theorem z_lald {n a : Nat} {g : Nat → Int} {i : Int} (hd : decode J.1.2.1 pc = .ok (.laload, 1)) (hh : h a = some (zLongs G n g)) (hi : 0 ≤ i ∧ i < n ∧ i < 2147483648)
    (kk : zR G l J bc bs h (pc + 1) ls (zl (g i.toNat) :: st)) : zR G l J bc bs h pc ls (zi i :: .ref a :: st) := by
  intro p e s m args below meth c H locs cells slots ls0 C0 hP hS hL h1 h2
  refine va_lald (D := G.1) C0.1 C0.2.1 C0.2.2.2.2.2.2.2.2.2.1.1 (hP.ok hh) 0 3 rfl rfl (zI_in hi.1 hi.2.1 hi.2.2) hd ?_
  rw [zI_clamp hi.1 hi.2.2]
  exact kk p e s m args below meth c H locs cells slots ls0 C0 hP hS hL h1 h2
/-- a reference out of an array of references -/
theorem z_aald {t n a : Nat} {ty : FieldType} {g : Nat → Option Nat} {i : Int} (ht : (zTys G)[t]? = some (G.2.1 t, ty)) (hty : ty.isReference = true) (hd : decode J.1.2.1 pc = .ok (.aaload, 1)) (hh : h a = some (zRefs G t n g)) (hi : 0 ≤ i ∧ i < n ∧ i < 2147483648)
    (kk : zR G l J bc bs h (pc + 1) ls (va_rf (g i.toNat) :: st)) : zR G l J bc bs h pc ls (zi i :: .ref a :: st) := by
  intro p e s m args below meth c H locs cells slots ls0 C0 hP hS hL h1 h2
  have hin := zI_in hi.1 hi.2.1 hi.2.2
  have hlt : (zI i).toNatClampNeg < n := Nat.not_le.mp fun q => hin (Or.inr q)
  have ha := (hP.2 a _ hh).2
  have hA := (C0.2.2.2.2.2.2.2.2.2.1.1.2 t _ ht).1
  refine W.aald (v := va_rf (g i.toNat)) (ty := ty) C0.1 C0.2.1 ha (hA n (fun j => va_rf (g j))) hty (fun q => by cases q) (by show ¬ (zI i < 0 ∨ (arrV _ _ _).slots.size ≤ _); rw [arrV_size]; exact hin) (by show (arrV _ _ _).slots[_]? = _; rw [arrV_read _ _ hlt, zI_clamp hi.1 hi.2.2]) rfl rfl hd ?_
  exact kk p e s m args below meth c H locs cells slots ls0 C0 hP hS hL h1 h2
theorem z_iast {n a : Nat} {g : Nat → Int} {i x : Int} (hd : decode J.1.2.1 pc = .ok (.iastore, 1)) (hh : h a = some (zInts G n g)) (hi : 0 ≤ i ∧ i < n ∧ i < 2147483648)
    (kk : zR G l J bc bs (zup h a (some (zInts G n (zup g i.toNat x)))) (pc + 1) ls st) : zR G l J bc bs h pc ls (zi x :: zi i :: .ref a :: st) := by
  intro p e s m args below meth c H locs cells slots ls0 C0 hP hS hL h1 h2
  have hin := zI_in hi.1 hi.2.1 hi.2.2
  obtain ⟨hba, ha⟩ := hP.2 a _ hh
  refine W.iast C0.1 C0.2.1 ha ((C0.2.2.2.2.2.2.2.2.2.1.1.2 0 _ rfl).1 n (fun j => .int (zI (g j)))) (fun q => by cases q) (by show ¬ (zI i < 0 ∨ (arrV _ _ _).slots.size ≤ _); rw [arrV_size]; exact hin) rfl rfl hd fun H1 e9 z oq => ?_
  refine kk p e s m args below meth c H1 _ cells slots ls0 C0 (hP.set hh ?_ z oq) (hS.put z oq hba) hL h1 h2
  show H1[a]? = some (vp_cell _ _)
  rw [e9]
  show some ((vp_cell _ _).setSlot _ _) = _
  rw [vp_cell_i, vp_cell_i, arrV_store, zI_clamp hi.1 hi.2.2]
  congr 2
  funext q
  by_cases hq : q = i.toNat
  · simp [updV, zup, hq]
  · simp [updV, zup, hq]
theorem z_zast {n a : Nat} {g : Nat → Int} {i x : Int} (hx : vp_nar .boolean (zI x) = zI x) (hd : decode J.1.2.1 pc = .ok (.bastore, 1)) (hh : h a = some (zBools G n g)) (hi : 0 ≤ i ∧ i < n ∧ i < 2147483648)
    (kk : zR G l J bc bs (zup h a (some (zBools G n (zup g i.toNat x)))) (pc + 1) ls st) : zR G l J bc bs h pc ls (zi x :: zi i :: .ref a :: st) := by
  intro p e s m args below meth c H locs cells slots ls0 C0 hP hS hL h1 h2
  have hin := zI_in hi.1 hi.2.1 hi.2.2
  obtain ⟨hba, ha⟩ := hP.2 a _ hh
  refine W.zast C0.1 C0.2.1 ha ((C0.2.2.2.2.2.2.2.2.2.1.1.2 1 _ rfl).1 n (fun j => .int (zI (g j)))) (fun q => by cases q) (by show ¬ (zI i < 0 ∨ (arrV _ _ _).slots.size ≤ _); rw [arrV_size]; exact hin) rfl rfl hd fun H1 e9 z oq => ?_
  refine kk p e s m args below meth c H1 _ cells slots ls0 C0 (hP.set hh ?_ z oq) (hS.put z oq hba) hL h1 h2
  show H1[a]? = some (vp_cell _ _)
  rw [e9]
  have hx2 : narrow .boolean (.int (zI x)) = .int (zI x) := by
    have h9 : narrow .boolean (.int (zI x)) = .int (vp_nar .boolean (zI x)) := rfl
    rw [h9, hx]
  show some ((vp_cell _ _).setSlot _ _) = _
  rw [hx2, vp_cell_i, vp_cell_i, arrV_store, zI_clamp hi.1 hi.2.2]
  congr 2
  funext q
  by_cases hq : q = i.toNat
  · simp [updV, zup, hq]
  · simp [updV, zup, hq]
theorem z_bast {n a : Nat} {g : Nat → Int} {i x : Int} (y : Int) (hx : (zI x).toInt8.toInt32 = zI y) (hd : decode J.1.2.1 pc = .ok (.bastore, 1)) (hh : h a = some (zBytes G n g)) (hi : 0 ≤ i ∧ i < n ∧ i < 2147483648)
    (kk : zR G l J bc bs (zup h a (some (zBytes G n (zup g i.toNat y)))) (pc + 1) ls st) : zR G l J bc bs h pc ls (zi x :: zi i :: .ref a :: st) := by
  intro p e s m args below meth c H locs cells slots ls0 C0 hP hS hL h1 h2
  have hin := zI_in hi.1 hi.2.1 hi.2.2
  obtain ⟨hba, ha⟩ := hP.2 a _ hh
  refine W.bast C0.1 C0.2.1 ha ((C0.2.2.2.2.2.2.2.2.2.1.1.2 2 _ rfl).1 n (fun j => .int (zI (g j)))) (fun q => by cases q) (by show ¬ (zI i < 0 ∨ (arrV _ _ _).slots.size ≤ _); rw [arrV_size]; exact hin) rfl rfl hd fun H1 e9 z oq => ?_
  refine kk p e s m args below meth c H1 _ cells slots ls0 C0 (hP.set hh ?_ z oq) (hS.put z oq hba) hL h1 h2
  show H1[a]? = some (vp_cell _ _)
  rw [e9]
  have hx2 : narrow .byte (.int (zI x)) = .int (zI y) := by rw [narrow_byte, hx]
  show some ((vp_cell _ _).setSlot _ _) = _
  rw [hx2, vp_cell_i, vp_cell_i, arrV_store, zI_clamp hi.1 hi.2.2]
  congr 2
  funext q
  by_cases hq : q = i.toNat
  · simp [updV, zup, hq]
  · simp [updV, zup, hq]
theorem z_last {n a : Nat} {g : Nat → Int} {i x : Int} (hd : decode J.1.2.1 pc = .ok (.lastore, 1)) (hh : h a = some (zLongs G n g)) (hi : 0 ≤ i ∧ i < n ∧ i < 2147483648)
    (kk : zR G l J bc bs (zup h a (some (zLongs G n (zup g i.toNat x)))) (pc + 1) ls st) : zR G l J bc bs h pc ls (zl x :: zi i :: .ref a :: st) := by
  intro p e s m args below meth c H locs cells slots ls0 C0 hP hS hL h1 h2
  have hin := zI_in hi.1 hi.2.1 hi.2.2
  obtain ⟨hba, ha⟩ := hP.2 a _ hh
  refine W.last C0.1 C0.2.1 ha ((C0.2.2.2.2.2.2.2.2.2.1.1.2 3 _ rfl).1 n (fun j => .long (zL (g j)))) (fun q => by cases q) (by show ¬ (zI i < 0 ∨ (arrV _ _ _).slots.size ≤ _); rw [arrV_size]; exact hin) rfl rfl hd fun H1 e9 z oq => ?_
  refine kk p e s m args below meth c H1 _ cells slots ls0 C0 (hP.set hh ?_ z oq) (hS.put z oq hba) hL h1 h2
  show H1[a]? = some (vp_cell _ _)
  rw [e9]
  show some ((vp_cell _ _).setSlot _ _) = _
  rw [vp_cell_l, vp_cell_l, arrV_store, zI_clamp hi.1 hi.2.2]
  congr 2
  funext q
  by_cases hq : q = i.toNat
  · simp [updV, zup, hq]
  · simp [updV, zup, hq]
/-- an array of ints into an array of such -/
theorem z_aastI {n a v n2 : Nat} {g : Nat → Option Nat} {g2 : Nat → Int} {i : Int} (hd : decode J.1.2.1 pc = .ok (.aastore, 1)) (hh : h a = some (zRefs G 4 n g)) (hv : h v = some (zInts G n2 g2)) (hi : 0 ≤ i ∧ i < n ∧ i < 2147483648)
    (kk : zR G l J bc bs (zup h a (some (zRefs G 4 n (zup g i.toNat (some v))))) (pc + 1) ls st) : zR G l J bc bs h pc ls (.ref v :: zi i :: .ref a :: st) := by
  intro p e s m args below meth c H locs cells slots ls0 C0 hP hS hL h1 h2
  have hin := zI_in hi.1 hi.2.1 hi.2.2
  have hlt : (zI i).toNatClampNeg < n := Nat.not_le.mp fun q => hin (Or.inr q)
  have h0 : ¬ zI i < 0 := fun q => hin (Or.inl q)
  obtain ⟨hba, ha⟩ := hP.2 a _ hh
  obtain ⟨-, hv9⟩ := hP.2 v _ hv
  obtain ⟨kA, kI, cI, k1, k2, k3, k4⟩ := C0.2.2.2.2.2.2.2.2.2.1.2.1
  refine W.aast C0.1 C0.2.1 ha (fun q h => by cases h) (fun h => by cases h) k1 k2 rfl k3 ⟨h0, by show _ < (arrV _ _ _).slots.size; rw [arrV_size]; exact hlt⟩ hv9 (fun q h => by cases h) k3 (va_asg _ _) rfl rfl hd fun H1 e9 z oq => ?_
  refine kk p e s m args below meth c H1 _ cells slots ls0 C0 (hP.set hh ?_ z oq) (hS.put z oq hba) hL h1 h2
  show H1[a]? = some (vp_cell _ _)
  rw [e9]
  show some ((vp_cell _ _).setSlot _ _) = _
  rw [vp_cell_q, vp_cell_q, arrV_store, zI_clamp hi.1 hi.2.2]
  congr 2
  funext q
  by_cases hq : q = i.toNat
  · simp [updV, zup, hq, va_rf]
  · simp [updV, zup, hq]
/-- an object into an array of its class -/
theorem z_aastO {t n a v ci : Nat} {C : String} {T : u_T} {N : Nat} {g : Nat → Option Nat} {vs : List Value} {i : Int} (ht : (zTys G)[t]? = some (G.2.1 t, .object C)) (hc : vwCl[ci]? = some (C, T, N)) (hd : decode J.1.2.1 pc = .ok (.aastore, 1)) (hh : h a = some (zRefs G t n g)) (hv : h v = some (.inr (ci, vs))) (hi : 0 ≤ i ∧ i < n ∧ i < 2147483648)
    (kk : zR G l J bc bs (zup h a (some (zRefs G t n (zup g i.toNat (some v))))) (pc + 1) ls st) : zR G l J bc bs h pc ls (.ref v :: zi i :: .ref a :: st) := by
  intro p e s m args below meth c H locs cells slots ls0 C0 hP hS hL h1 h2
  have hin := zI_in hi.1 hi.2.1 hi.2.2
  have hlt : (zI i).toNatClampNeg < n := Nat.not_le.mp fun q => hin (Or.inr q)
  have h0 : ¬ zI i < 0 := fun q => hin (Or.inl q)
  obtain ⟨hba, ha⟩ := hP.2 a _ hh
  obtain ⟨-, r', hr', cellV, g1, g2, g3, -⟩ := hP.2 v _ hv
  have hK := C0.2.2.2.2.2.2.2.2.2.1.1
  have hcls := (hK.1 ci _ hc).2
  obtain ⟨kA, comp, k1, k2, k3, -⟩ := (hK.2 t _ ht).2
  have hcomp : comp = G.1.1 ci := Option.some.inj (k3.symm.trans hcls.1)
  subst hcomp
  obtain ⟨kC, hkC, -⟩ := hcls.2
  refine W.aast C0.1 C0.2.1 ha (fun q h => by cases h) (fun h => by cases h) k1 k2 rfl hkC ⟨h0, by show _ < (arrV _ _ _).slots.size; rw [arrV_size]; exact hlt⟩ g1 (fun q h => by rw [g3] at h; cases h) (by rw [g2]; exact hkC) (by rw [g2]; exact va_asg _ _) rfl rfl hd fun H1 e9 z oq => ?_
  refine kk p e s m args below meth c H1 _ cells slots ls0 C0 (hP.set hh ?_ z oq) (hS.put z oq hba) hL h1 h2
  show H1[a]? = some (vp_cell _ _)
  rw [e9]
  show some ((vp_cell _ _).setSlot _ _) = _
  rw [vp_cell_q, vp_cell_q, arrV_store, zI_clamp hi.1 hi.2.2]
  congr 2
  funext q
  by_cases hq : q = i.toNat
  · simp [updV, zup, hq, va_rf]
  · simp [updV, zup, hq]
/-- a new array of numbers -/
theorem z_newa {at9 : ArrayType} {t : Nat} {ty : FieldType} {n : Int} {x : ((Nat → Int32) ⊕ (Nat → Int64) ⊕ (Nat → UInt32) ⊕ (Nat → UInt64) ⊕ (Nat → Option Nat))} (hty : newarray.typeOf at9 = ty) (hnr : match ty with | .object _ => False | _ => True) (ht : (zTys G)[t]? = some (G.2.1 t, ty)) (hw : Cond.arrayClass ty ∈ zWS) (hx : ∀ cA : ClassId, vp_cell cA (n.toNat, x) = arrV cA n.toNat (fun _ => defaultValue ty)) (hn : 0 ≤ n ∧ n.toNat * componentBytes ty ≤ 536870912 ∧ n < 2147483648) (hd : decode J.1.2.1 pc = .ok (.newarray at9, 2)) {bc' bs' : Nat} (hb1 : bc' + 1 ≤ bc) (hb2 : bs' + n.toNat ≤ bs)
    (kk : ∀ q : Nat, (∀ a e, h a = some e → a < q) → G.2.2 ≤ q → zR G l J bc' bs' (zup h q (some (.inl (G.2.1 t, n.toNat, x)))) (pc + 2) ls (.ref q :: st)) : zR G l J bc bs h pc ls (zi n :: st) := by
  subst hty
  intro p e s m args below meth c H locs cells slots ls0 C0 hP hS hL h1 h2
  have hn0 : ¬ zI n < 0 := by
    rw [Int32.lt_iff_toInt_lt, zI_toInt (by omega), Int32.toInt_zero]
    omega
  refine va_newaK C0.1 C0.2.1 (C0.2.2.2.2.2.2.2.1 _ hw) rfl hd rfl hn0 (zI_clamp hn.1 hn.2.2) hn.2.1 (by omega) (by omega) rfl fun H1 cA e1 z1 o1 hAr hNm => ?_
  have hR := (C0.2.2.2.2.2.2.2.2.2.1.1.2 t _ ht).2
  have hcA : cA = G.2.1 t := by
    have h9 : s.vm.findClass ("[" ++ (newarray.typeOf at9).toString) = some (G.2.1 t) := by
      cases at9 <;> exact hR
    exact Option.some.inj (hNm.symm.trans h9)
  subst hcA
  refine kk H.size (fun a e ha => hP.lt ha) hP.1 p e s m args below meth c H1 locs (cells + 1) (slots + n.toNat) ls0 C0 (hP.push ?_ z1 o1) (hS.push z1 o1) hL (by omega) (by omega)
  show H1[H.size]? = some (vp_cell _ _)
  rw [hx]
  exact e1
/-- a new array of references to objects -/
theorem z_newq {t i : Nat} {C : String} {n : Int} (ht : (zTys G)[t]? = some (G.2.1 t, .object C)) (hAO : ∀ U H, zS G U H → va_AO C U) (hw : Cond.classLink J.1.1 i C ∈ zWS) (hn : 0 ≤ n ∧ n.toNat * 4 ≤ 536870912 ∧ n < 2147483648) (hd : decode J.1.2.1 pc = .ok (.anewarray i, 3)) {bc' bs' : Nat} (hb1 : bc' + 1 ≤ bc) (hb2 : bs' + n.toNat ≤ bs)
    (kk : ∀ q : Nat, (∀ a e, h a = some e → a < q) → G.2.2 ≤ q → zR G l J bc' bs' (zup h q (some (zRefs G t n.toNat (fun _ => none)))) (pc + 3) ls (.ref q :: st)) : zR G l J bc bs h pc ls (zi n :: st) := by
  intro p e s m args below meth c H locs cells slots ls0 C0 hP hS hL h1 h2
  have hn0 : ¬ zI n < 0 := by
    rw [Int32.lt_iff_toInt_lt, zI_toInt (by omega), Int32.toInt_zero]
    omega
  have hc9 := zI_clamp hn.1 hn.2.2
  refine W.anew C0.1 C0.2.1 C0.2.2.2.2.2.2.1 (C0.2.2.2.2.2.2.2.1 _ hw) (va_AO.use (hAO _ _ C0.2.2.2.2.2.2.2.2.2.1)) rfl hd rfl hn0 (by rw [hc9]; exact hn.2.1) (by omega) (by rw [hc9]; omega) fun cA kA comp f1 f2 f3 f4 => ?_
  rw [hc9]
  generalize hH1 : H.push ({ cls := cA, slots := Array.replicate n.toNat .null, vm := .none } : Cell) = H1
  have z1 : H1.size = H.size + 1 := by rw [← hH1, Array.size_push]
  have e1 : H1[H.size]? = some (arrV cA n.toNat (fun _ => .null)) := by rw [← hH1, Array.getElem?_push_size, ← arrV_new]
  have o1 : ∀ q : Nat, q < H.size → H1[q]? = H[q]? := fun q hq => by rw [← hH1, Array.getElem?_push, if_neg (Nat.ne_of_lt hq)]
  obtain ⟨kA2, comp2, -, -, -, hR⟩ := (C0.2.2.2.2.2.2.2.2.2.1.1.2 t _ ht).2
  have hcA : cA = G.2.1 t := by first | exact Option.some.inj (f1.symm.trans hR) | exact Option.some.inj (f4.symm.trans hR)
  subst hcA
  refine kk H.size (fun a e ha => hP.lt ha) hP.1 p e s m args below meth c H1 locs (cells + 1) (slots + n.toNat) ls0 C0 (hP.push ?_ z1 o1) (hS.push z1 o1) hL (by omega) (by omega)
  show H1[H.size]? = some (vp_cell _ _)
  rw [vp_cell_q]
  exact e1
end ZC
end
section
/-! ===== calls ===== -/
def zMe (y : MethodName) (hd : zHd) (n : Nat) : Prop := Cond.initialized y.cls ∈ zWS ∧ Cond.code y hd.2.1 hd.2.2.1 hd.2.2.2.1 ∈ zWS ∧ (y.cls ≠ "java/lang/invoke/MethodHandle" ∧ y.cls ≠ "java/lang/invoke/VarHandle" ∧ (parseMethodDescriptor y.desc).map (fun d => d.parameters.length) = some n) ∧ hd.2.2.1 ≤ 40
/-- a method of an object, found by its class -/
def zMV (y : MethodName) (hd : zHd) (n : Nat) : Prop := zMe y hd n ∧ Cond.instanceMethod y ∈ zWS ∧ Cond.selects y.cls y y ∈ zWS
def zMS (y : MethodName) (hd : zHd) (n : Nat) : Prop := zMe y hd n ∧ Cond.static y ∈ zWS
def zMI (y : MethodName) (hd : zHd) (n : Nat) : Prop := zMe y hd n ∧ Cond.instanceMethod y ∈ zWS ∧ y.name = "<init>" ∧ hd.2.2.2.1 = none
def zMSW (y : MethodName) (hd : zHd) (n : Nat) : Prop := Cond.initialized y.cls ∈ zWS ∧ Cond.codeWith y hd.2.1 hd.2.2.1 hd.2.2.2.1 hd.2.2.2.2.1 ∈ zWS ∧ (y.cls ≠ "java/lang/invoke/MethodHandle" ∧ y.cls ≠ "java/lang/invoke/VarHandle" ∧ (parseMethodDescriptor y.desc).map (fun d => d.parameters.length) = some n) ∧ hd.2.2.1 ≤ 40 ∧ Cond.static y ∈ zWS
theorem zPc_blind {G : zG} {vs : List Value} {h : zHp} : FrameBlind (va_Pc vs (zPc G h)) := fun a U g mk q => ⟨q.1, q.2.1, zS.go (s := U) (U := U.calling g mk a) (State.WarmedH.refl U) (fun _ _ _ => rfl) q.2.2⟩
theorem zPc_pre {G : zG} {s : State} {H : Heap} {locs : List Loc} {vs : List Value} {h : zHp} (hZ : zS G s s.heap) (hP : zRel G h H) (hS : va_S (zA G) s.heap H locs) : ∀ U : State, U.heap = H → s.WarmedH U.vm → va_Pc vs (zPc G h) vs.toArray U := fun U hU hW =>
  ⟨rfl, by rw [hU]; exact hP, by rw [hU]; exact hZ.go hW (fun a h1 h2 => hS.2.1 a h1 h2)⟩
section ZD
variable {G : zG} {l : Launch} {J : zJ} {bc bs : Nat} {h : zHp} {pc : Nat} {ls : List (Option Value)} {st : List Value}
/-- behind any call: the callee has returned or thrown -/
theorem z_after {p : Program} {e : Env} {s : State} {m : MethodId} {args : Array Value} {below : List Frame} {meth : Method} {c : Code} {H : Heap} {locs : List Loc} {cells slots mc ms bc' bs' : Nat} {ls0 : Array Slot} {st0 rest : List Value} {a : Array Value} {Qn : Option Value → zHp → Prop} {Qx : String → zHp → Prop}
    (C0 : zCx G l J p s m args meth c) (hP : zRel G h H) (hS : va_S (zA G) s.heap H locs) (hL : zLs ls0 J.1.2.2.1 ls) (h1 : cells + bc ≤ J.2.1.cells) (h2 : slots + bs ≤ J.2.1.slots) (hb1 : mc + bc' ≤ bc) (hb2 : ms + bs' ≤ bs)
    (hr : vx_Run p l e J.2.1 s m args below meth c H locs cells slots mc ms (F0 m pc ls0 st0) rest (zQ G Qn a) (zX G Qx) (zA G))
    (kx : ∀ E h', Qx E h' → zT G l J bc' bs' h' E pc ls) (kk : ∀ v h', Qn v h' → zR G l J bc' bs' h' (pc + 3) ls (v.toList ++ rest)) : W p l e J.2.1 s m args below meth c H locs cells slots (J.2.2.1 below args s) (F0 m pc ls0 st0) := by
  intro T hT X
  have hA : ∀ q : Nat, H.size ≤ q → zA G q := fun q hq => Nat.le_trans hP.1 hq
  rcases hr T hT X with ⟨v, st₀, t, T', L, h0, X', hL9, e1, e2, ⟨v', h', hv, hq, hR, hF⟩, sst⟩ | ⟨q, st₀, t, T', L, E, ce, h0, X', hL9, e1, e2, ⟨h', hq, hR, hF⟩, hce, hcv, hcl, sst⟩
  · cases hv
    obtain ⟨k1, k2, k3⟩ := vx_keep h0 e1 hS (fun q _ hq => hq) (fun q hq => hq) hL9 hF
    obtain ⟨t2, a1, b1⟩ := kk v h' hq p e s m args below meth c T'.heap (locs ++ L) (cells + mc) (slots + ms) ls0 C0 (by rw [e1]; exact hR) k3 hL (by omega) (by omega) T' rfl X'
    exact ⟨t2, sst t2 a1, b1⟩
  · obtain ⟨k1, k2, k3⟩ := vx_keep h0 e1 hS (fun q _ hq => hq) (fun q hq => hq) hL9 hF
    obtain ⟨t2, a1, b1⟩ := kx E h' hq p e s m args below meth c T'.heap (locs ++ L) (cells + mc) (slots + ms) ls0 q ce rest C0 (by rw [e1]; exact hR) k3 hL (by omega) (by omega) (by rw [e1]; exact hce) hcv hcl T' rfl X'
    exact ⟨t2, sst.trans a1, b1⟩
theorem zw {ws : List Cond} {y : MethodName} {hd : zHd} {n : Nat} (M : zMe y hd n) (h : ∀ w ∈ ws, w ∈ zWS) : ∀ w ∈ ws ++ (Cond.code y hd.2.1 hd.2.2.1 hd.2.2.2.1 :: zWS), w ∈ zWS := by
  intro w hw
  rcases List.mem_append.mp hw with q | q
  · exact h w q
  · rcases List.mem_cons.mp q with q | q
    · rw [q]; exact M.2.1
    · exact q
theorem z_callV {d mc ms i b n : Nat} {y : MethodName} {hd' : zHd} {As rest : List Value} {Qn : Option Value → zHp → Prop} {Qx : String → zHp → Prop} {ci N : Nat} {T : u_T} {fs : List Value} {bc' bs' : Nat} (M : zMV y hd' n) (hw : Cond.methodLink J.1.1 i y ∈ zWS) (hd : decode J.1.2.1 pc = .ok (.invokevirtual i, 3)) (hM : zM G l hd' y d (.ref b :: As) h Qn Qx mc ms) (hst : st = As.reverse ++ .ref b :: rest)
    (hn : As.length = n) (hcat : (rest.map fun v => v.category).sum ≤ 8) (hc : vwCl[ci]? = some (y.cls, T, N)) (hb : h b = some (.inr (ci, fs))) (hfr : d + 1 ≤ J.2.1.frames) (hlo : d * 64 + 64 ≤ J.2.1.locals) (hb1 : mc + bc' ≤ bc) (hb2 : ms + bs' ≤ bs)
    (kx : ∀ E h', Qx E h' → zT G l J bc' bs' h' E pc ls) (kk : ∀ v h', Qn v h' → zR G l J bc' bs' h' (pc + 3) ls (v.toList ++ rest)) : zR G l J bc bs h pc ls st := by
  intro p e s m args below meth c H locs cells slots ls0 C0 hP hS hL h1 h2
  have hts := C0.2.2.2.2.2.2.2.1
  have hK := C0.2.2.2.2.2.2.2.2.2.1.1
  refine z_after C0 hP hS hL h1 h2 hb1 hb2 (vx_runV (As := As) (rest := rest) (Ts := zWS) ⟨C0.1, C0.2.1, rfl, C0.2.2.2.2.2.2.1, hts⟩ (hM C0.2.2.2.2.2.2.2.2.2.2.1) (cwV n hts (zgoodIn (fun _ h => h) (zw M.1 (by
    intro w hw9
    simp only [List.mem_cons, List.not_mem_nil, or_false] at hw9
    rcases hw9 with q | q | q | q <;> rw [q]
    · exact hw
    · exact M.2.1
    · exact M.2.2
    · exact M.1.1))) rfl rfl rfl ⟨rfl, M.1.2.2.1⟩ ⟨hfr, by have := M.1.2.2.2; show 8 + (_ + 11) + d * 64 ≤ _; omega⟩) ⟨zPc_blind, va_recv hK (hP.ok hb) hc (q0 := 0) rfl, fun U hU hW => zPc_pre C0.2.2.2.2.2.2.2.2.2.1 hP hS U hU hW⟩ rfl hn (hL.1.trans C0.2.2.1.symm) hst (lv_room hcat) hd ⟨by show cells + mc ≤ _; omega, by show slots + ms ≤ _; omega⟩) kx kk
/-- a private method of a nest mate -/
theorem z_callVN {d mc ms i b n : Nat} {host : String} {y : MethodName} {hd' : zHd} {As rest : List Value} {Qn : Option Value → zHp → Prop} {Qx : String → zHp → Prop} {ci N : Nat} {T : u_T} {fs : List Value} {bc' bs' : Nat} (M : zMV y hd' n) (hw : Cond.methodLinkNest J.1.1 i y host ∈ zNW) (hd : decode J.1.2.1 pc = .ok (.invokevirtual i, 3)) (hM : zM G l hd' y d (.ref b :: As) h Qn Qx mc ms) (hst : st = As.reverse ++ .ref b :: rest)
    (hn : As.length = n) (hcat : (rest.map fun v => v.category).sum ≤ 8) (hc : vwCl[ci]? = some (y.cls, T, N)) (hb : h b = some (.inr (ci, fs))) (hfr : d + 1 ≤ J.2.1.frames) (hlo : d * 64 + 64 ≤ J.2.1.locals) (hb1 : mc + bc' ≤ bc) (hb2 : ms + bs' ≤ bs)
    (kx : ∀ E h', Qx E h' → zT G l J bc' bs' h' E pc ls) (kk : ∀ v h', Qn v h' → zR G l J bc' bs' h' (pc + 3) ls (v.toList ++ rest)) : zR G l J bc bs h pc ls st := by
  intro p e s m args below meth c H locs cells slots ls0 C0 hP hS hL h1 h2
  have hts := C0.2.2.2.2.2.2.2.1
  have hK := C0.2.2.2.2.2.2.2.2.2.1.1
  refine z_after C0 hP hS hL h1 h2 hb1 hb2 (vx_runVN (C := y.cls) (As := As) (rest := rest) (Ts := zWS) ⟨C0.1, C0.2.1, rfl, C0.2.2.2.2.2.2.1, hts⟩ (hM C0.2.2.2.2.2.2.2.2.2.2.1) ⟨va_cnB n hts (zgoodIn (ws := [] ++ _) (fun _ h => h) (zw M.1 (fun w hw9 => nomatch hw9))) rfl rfl rfl (C0.2.2.2.2.2.2.2.2.2.1.2.2.1 _ hw) (hts _ M.1.1) M.1.2.2.1 ⟨hfr, by have := M.1.2.2.2; show 8 + (_ + 11) + d * 64 ≤ _; omega⟩, hts _ M.2.1, hts _ M.2.2⟩ ⟨zPc_blind, va_recv hK (hP.ok hb) hc (q0 := 0) rfl, fun U hU hW => zPc_pre C0.2.2.2.2.2.2.2.2.2.1 hP hS U hU hW⟩ rfl hn (hL.1.trans C0.2.2.1.symm) hst (lv_room hcat) hd ⟨by show cells + mc ≤ _; omega, by show slots + ms ≤ _; omega⟩) kx kk
theorem z_callS {d mc ms i n : Nat} {y : MethodName} {hd' : zHd} {As rest : List Value} {Qn : Option Value → zHp → Prop} {Qx : String → zHp → Prop} {bc' bs' : Nat} (M : zMS y hd' n) (hw : Cond.methodLink J.1.1 i y ∈ zWS) (hd : decode J.1.2.1 pc = .ok (.invokestatic i, 3)) (hM : zM G l hd' y d As h Qn Qx mc ms) (hst : st = As.reverse ++ rest)
    (hn : As.length = n) (hcat : (rest.map fun v => v.category).sum ≤ 8) (hfr : d + 1 ≤ J.2.1.frames) (hlo : d * 64 + 64 ≤ J.2.1.locals) (hb1 : mc + bc' ≤ bc) (hb2 : ms + bs' ≤ bs)
    (kx : ∀ E h', Qx E h' → zT G l J bc' bs' h' E pc ls) (kk : ∀ v h', Qn v h' → zR G l J bc' bs' h' (pc + 3) ls (v.toList ++ rest)) : zR G l J bc bs h pc ls st := by
  intro p e s m args below meth c H locs cells slots ls0 C0 hP hS hL h1 h2
  have hts := C0.2.2.2.2.2.2.2.1
  refine z_after C0 hP hS hL h1 h2 hb1 hb2 (vx_runS (As := As) (rest := rest) (Ts := zWS) ⟨C0.1, C0.2.1, rfl, C0.2.2.2.2.2.2.1, hts⟩ (hM C0.2.2.2.2.2.2.2.2.2.2.1) (va_cwS n hts (zgoodIn (fun _ h => h) (zw M.1 (by
    intro w hw9
    simp only [List.mem_cons, List.not_mem_nil, or_false] at hw9
    rcases hw9 with q | q | q <;> rw [q]
    · exact hw
    · exact M.2
    · exact M.1.1))) rfl rfl rfl M.1.2.2.1 ⟨hfr, by have := M.1.2.2.2; show 8 + (_ + 11) + d * 64 ≤ _; omega⟩) ⟨zPc_blind, fun U hU hW => zPc_pre C0.2.2.2.2.2.2.2.2.2.1 hP hS U hU hW⟩ rfl hn (hL.1.trans C0.2.2.1.symm) hst (lv_room hcat) hd ⟨by show cells + mc ≤ _; omega, by show slots + ms ≤ _; omega⟩) kx kk
theorem z_callSN {d mc ms i n : Nat} {host : String} {y : MethodName} {hd' : zHd} {As rest : List Value} {Qn : Option Value → zHp → Prop} {Qx : String → zHp → Prop} {bc' bs' : Nat} (M : zMS y hd' n) (hw : Cond.methodLinkNest J.1.1 i y host ∈ zNW) (hd : decode J.1.2.1 pc = .ok (.invokestatic i, 3)) (hM : zM G l hd' y d As h Qn Qx mc ms) (hst : st = As.reverse ++ rest)
    (hn : As.length = n) (hcat : (rest.map fun v => v.category).sum ≤ 8) (hfr : d + 1 ≤ J.2.1.frames) (hlo : d * 64 + 64 ≤ J.2.1.locals) (hb1 : mc + bc' ≤ bc) (hb2 : ms + bs' ≤ bs)
    (kx : ∀ E h', Qx E h' → zT G l J bc' bs' h' E pc ls) (kk : ∀ v h', Qn v h' → zR G l J bc' bs' h' (pc + 3) ls (v.toList ++ rest)) : zR G l J bc bs h pc ls st := by
  intro p e s m args below meth c H locs cells slots ls0 C0 hP hS hL h1 h2
  have hts := C0.2.2.2.2.2.2.2.1
  refine z_after C0 hP hS hL h1 h2 hb1 hb2 (vx_runSN (As := As) (rest := rest) (Ts := zWS) ⟨C0.1, C0.2.1, rfl, C0.2.2.2.2.2.2.1, hts⟩ (hM C0.2.2.2.2.2.2.2.2.2.2.1) ⟨va_cnB n hts (zgoodIn (ws := [] ++ _) (fun _ h => h) (zw M.1 (fun w hw9 => nomatch hw9))) rfl rfl rfl (C0.2.2.2.2.2.2.2.2.2.1.2.2.1 _ hw) (hts _ M.1.1) M.1.2.2.1 ⟨hfr, by have := M.1.2.2.2; show 8 + (_ + 11) + d * 64 ≤ _; omega⟩, hts _ M.2, trivial⟩ ⟨zPc_blind, fun U hU hW => zPc_pre C0.2.2.2.2.2.2.2.2.2.1 hP hS U hU hW⟩ rfl hn (hL.1.trans C0.2.2.1.symm) hst (lv_room hcat) hd ⟨by show cells + mc ≤ _; omega, by show slots + ms ≤ _; omega⟩) kx kk
theorem z_callI {d mc ms i b n : Nat} {y : MethodName} {hd' : zHd} {As rest : List Value} {Qn : Option Value → zHp → Prop} {Qx : String → zHp → Prop} {bc' bs' : Nat} (M : zMI y hd' n) (hw : Cond.methodLink J.1.1 i y ∈ zWS) (hd : decode J.1.2.1 pc = .ok (.invokespecial i, 3)) (hM : zM G l hd' y d (.ref b :: As) h Qn Qx mc ms) (hst : st = As.reverse ++ .ref b :: rest)
    (hn : As.length = n) (hcat : (rest.map fun v => v.category).sum ≤ 8) (hfr : d + 1 ≤ J.2.1.frames) (hlo : d * 64 + 64 ≤ J.2.1.locals) (hb1 : mc + bc' ≤ bc) (hb2 : ms + bs' ≤ bs)
    (kx : ∀ E h', Qx E h' → zT G l J bc' bs' h' E pc ls) (kk : ∀ v h', Qn v h' → zR G l J bc' bs' h' (pc + 3) ls (v.toList ++ rest)) : zR G l J bc bs h pc ls st := by
  intro p e s m args below meth c H locs cells slots ls0 C0 hP hS hL h1 h2
  have hts := C0.2.2.2.2.2.2.2.1
  have hM1 := hM C0.2.2.2.2.2.2.2.2.2.2.1
  rw [M.2.2.2] at hM1
  have hc9 : Cond.code y hd'.2.1 hd'.2.2.1 none ∈ zWS := by rw [← M.2.2.2]; exact M.1.2.1
  refine z_after C0 hP hS hL h1 h2 hb1 hb2 (vx_runI (As := As) (rest := rest) (Ts := zWS) ⟨C0.1, C0.2.1, rfl, C0.2.2.2.2.2.2.1, hts⟩ hM1 (cwI n hts (zgoodIn (fun _ h => h) (by
    intro w hw9
    rcases List.mem_cons.mp hw9 with q | q
    · rw [q]; exact hc9
    · exact q)) rfl rfl rfl (hts _ M.1.1) (hts _ hw) (hts _ M.2.1) M.2.2.1 M.1.2.2.1 ⟨hfr, by have := M.1.2.2.2; show 8 + (_ + 11) + d * 64 ≤ _; omega⟩) ⟨zPc_blind, fun U hU hW => zPc_pre C0.2.2.2.2.2.2.2.2.2.1 hP hS U hU hW⟩ rfl hn (hL.1.trans C0.2.2.1.symm) hst (lv_room hcat) hd ⟨by show cells + mc ≤ _; omega, by show slots + ms ≤ _; omega⟩) kx kk
theorem z_callIN {d mc ms i b n : Nat} {host : String} {y : MethodName} {hd' : zHd} {As rest : List Value} {Qn : Option Value → zHp → Prop} {Qx : String → zHp → Prop} {bc' bs' : Nat} (M : zMI y hd' n) (hw : Cond.methodLinkNest J.1.1 i y host ∈ zNW) (hd : decode J.1.2.1 pc = .ok (.invokespecial i, 3)) (hM : zM G l hd' y d (.ref b :: As) h Qn Qx mc ms) (hst : st = As.reverse ++ .ref b :: rest)
    (hn : As.length = n) (hcat : (rest.map fun v => v.category).sum ≤ 8) (hfr : d + 1 ≤ J.2.1.frames) (hlo : d * 64 + 64 ≤ J.2.1.locals) (hb1 : mc + bc' ≤ bc) (hb2 : ms + bs' ≤ bs)
    (kx : ∀ E h', Qx E h' → zT G l J bc' bs' h' E pc ls) (kk : ∀ v h', Qn v h' → zR G l J bc' bs' h' (pc + 3) ls (v.toList ++ rest)) : zR G l J bc bs h pc ls st := by
  intro p e s m args below meth c H locs cells slots ls0 C0 hP hS hL h1 h2
  have hts := C0.2.2.2.2.2.2.2.1
  have hM1 := hM C0.2.2.2.2.2.2.2.2.2.2.1
  rw [M.2.2.2] at hM1
  have hc9 : Cond.code y hd'.2.1 hd'.2.2.1 none ∈ zWS := by rw [← M.2.2.2]; exact M.1.2.1
  refine z_after C0 hP hS hL h1 h2 hb1 hb2 (vx_runIN (As := As) (rest := rest) (Ts := zWS) ⟨C0.1, C0.2.1, rfl, C0.2.2.2.2.2.2.1, hts⟩ hM1 ⟨va_cnB n hts (zgoodIn (fun _ h => h) (by
    intro w hw9
    rcases List.mem_cons.mp hw9 with q | q
    · rw [q]; exact hc9
    · exact q)) rfl rfl rfl (C0.2.2.2.2.2.2.2.2.2.1.2.2.1 _ hw) (hts _ M.1.1) M.1.2.2.1 ⟨hfr, by have := M.1.2.2.2; show 8 + (_ + 11) + d * 64 ≤ _; omega⟩, M.2.2.1, hts _ M.2.1⟩ ⟨zPc_blind, fun U hU hW => zPc_pre C0.2.2.2.2.2.2.2.2.2.1 hP hS U hU hW⟩ rfl hn (hL.1.trans C0.2.2.1.symm) hst (lv_room hcat) hd ⟨by show cells + mc ≤ _; omega, by show slots + ms ≤ _; omega⟩) kx kk
/-- Object.<init> -/
theorem z_obj {i b : Nat} {rest : List Value} (hw : Cond.methodLink J.1.1 i objectInit ∈ zWS) (hi : Cond.instanceMethod objectInit ∈ zWS) (hc : Cond.code objectInit ⟨#[0xb1]⟩ 1 none ∈ zWS) (hd : decode J.1.2.1 pc = .ok (.invokespecial i, 3)) (hcat : (rest.map fun v => v.category).sum ≤ 8) (hfr : 1 ≤ J.2.1.frames) (hlo : 64 ≤ J.2.1.locals)
    (kk : zR G l J bc bs h (pc + 3) ls rest) : zR G l J bc bs h pc ls (.ref b :: rest) := by
  intro p e s m args below meth c H locs cells slots ls0 C0 hP hS hL h1 h2
  have hts := C0.2.2.2.2.2.2.2.1
  have hr := lv_room (m := m) (pc := pc) (ls := ls0) (rest := .ref b :: rest) hcat
  refine W.objInit C0.1 C0.2.1 C0.2.2.2.2.2.2.1 (hts _ hw) (hts _ hi) (hts _ hc) rfl (hL.1.trans C0.2.2.1.symm) rfl hd hfr (by omega) ?_
  exact kk p e s m args below meth c H locs cells slots ls0 C0 hP hS hL h1 h2
/-! ===== ends ===== -/
variable {hd9 : zHd} {d mc ms : Nat} {Qn : Option Value → zHp → Prop} {Qx : String → zHp → Prop}
theorem z_iret {ty : FieldType} {x : Int32} (hrt : hd9.2.2.2.1 = some ty) (hn : narrow ty (.int x) = .int x) (hd : decode hd9.2.1 pc = .ok (.ireturn, 1)) (hq : Qn (some (.int x)) h) : zR G l (zMJ G hd9 d Qn Qx mc ms) bc bs h pc ls [.int x] := by
  intro p e s m args below meth c H locs cells slots ls0 C0 hP hS hL h1 h2
  have e1 : cells ≤ mc := by have : cells + bc ≤ mc := h1; omega
  have e2 : slots ≤ ms := by have : slots + bs ≤ ms := h2; omega
  refine vx_ret (W.widen (k := mc) (n := ms) e1 e2 ?_)
  exact W.zret (v := x) C0.1 C0.2.1 (C0.2.2.2.1.trans hrt) hn (fun t ht hW => ⟨_, h, rfl, hq, by rw [ht]; exact hP, hS.F ht⟩) hS.2.2 hd C0.2.2.2.2.2.2.2.2.1
theorem z_lret {x : Int64} (hrt : hd9.2.2.2.1 = some .long) (hd : decode hd9.2.1 pc = .ok (.lreturn, 1)) (hq : Qn (some (.long x)) h) : zR G l (zMJ G hd9 d Qn Qx mc ms) bc bs h pc ls [.long x] := by
  intro p e s m args below meth c H locs cells slots ls0 C0 hP hS hL h1 h2
  have e1 : cells ≤ mc := by have : cells + bc ≤ mc := h1; omega
  have e2 : slots ≤ ms := by have : slots + bs ≤ ms := h2; omega
  refine vx_ret (W.widen (k := mc) (n := ms) e1 e2 ?_)
  exact W.lret (v := x) C0.1 C0.2.1 (C0.2.2.2.1.trans hrt) (fun t ht hW => ⟨_, h, rfl, hq, by rw [ht]; exact hP, hS.F ht⟩) hS.2.2 hd C0.2.2.2.2.2.2.2.2.1
theorem z_vret (hrt : hd9.2.2.2.1 = none) (hd : decode hd9.2.1 pc = .ok (.return_, 1)) (hq : Qn none h) : zR G l (zMJ G hd9 d Qn Qx mc ms) bc bs h pc ls [] := by
  intro p e s m args below meth c H locs cells slots ls0 C0 hP hS hL h1 h2
  have e1 : cells ≤ mc := by have : cells + bc ≤ mc := h1; omega
  have e2 : slots ≤ ms := by have : slots + bs ≤ ms := h2; omega
  refine vx_ret (W.widen (k := mc) (n := ms) e1 e2 ?_)
  exact W.vret C0.1 C0.2.1 (C0.2.2.2.1.trans hrt) (fun t ht hW => ⟨_, h, rfl, hq, by rw [ht]; exact hP, hS.F ht⟩) hS.2.2 hd C0.2.2.2.2.2.2.2.2.1
theorem z_aret {rt : FieldType} {v : Value} (hrt : hd9.2.2.2.1 = some rt) (hk : (∃ n, rt = .object n) ∨ ∃ t, rt = .array t) (hv : v = .null ∨ ∃ a, v = .ref a) (hd : decode hd9.2.1 pc = .ok (.areturn, 1)) (hq : Qn (some v) h) : zR G l (zMJ G hd9 d Qn Qx mc ms) bc bs h pc ls [v] := by
  intro p e s m args below meth c H locs cells slots ls0 C0 hP hS hL h1 h2
  have e1 : cells ≤ mc := by have : cells + bc ≤ mc := h1; omega
  have e2 : slots ≤ ms := by have : slots + bs ≤ ms := h2; omega
  refine vx_ret (W.widen (k := mc) (n := ms) e1 e2 ?_)
  exact W.aret (v := v) C0.1 C0.2.1 (C0.2.2.2.1.trans hrt) hk hv (fun t ht hW => ⟨_, h, rfl, hq, by rw [ht]; exact hP, hS.F ht⟩) hS.2.2 hd C0.2.2.2.2.2.2.2.2.1
/-- it goes on to the caller -/
theorem z_out {E : String} (ht : hd9.2.2.2.2.1 = []) (hq : Qx E h) : zT G l (zMJ G hd9 d Qn Qx mc ms) bc bs h E pc ls := by
  intro p e s m args below meth c H locs cells slots ls0 q ce rest C0 hP hS hL h1 h2 hq9 hv hcl
  refine vx_out (fun x hx => ?_) C0.2.2.2.2.2.2.2.2.1 hq9 hv hcl (fun t ht9 hA => ⟨h, hq, by rw [ht9]; exact hP, hS.F ht9⟩) hS.2.2 (by have : cells + bc ≤ mc := h1; omega) (by have : slots + bs ≤ ms := h2; omega)
  rw [C0.2.2.2.2.1] at hx
  have h9 : tableOf hd9.2.2.2.2.1 = [] := by rw [ht]; rfl
  exact absurd (h9 ▸ hx) (by simp)
/-- throw new E("text") -/
theorem z_throw {ik is ic : Nat} {E text : String} {names : List String} (hE : Bundle.fit E = true) (hnm : ∀ n ∈ names, Bundle.fit n = true) (hw : Cond.classLink hd9.1 ik E ∈ zWS) (hini : Cond.initialized E ∈ zWS) (htx : (hd9.1, is, text) ∈ zTexts) (hat : ∀ w ∈ vx_atS hd9.1 ic E names, w ∈ lw_tbl) (hgd : ∀ w ∈ vx_atS hd9.1 ic E names, goodWord w = true ∨ zIsN w = true)
    (hot : ∀ w ∈ Cond.classLink hd9.1 ik E :: Cond.initialized E :: vx_atS hd9.1 ic E names, vx_ot w = true) (ht : hd9.2.2.2.2.1 = [])
    (d0 : decode hd9.2.1 pc = .ok (.new ik, 3)) (d3 : decode hd9.2.1 (pc + 3) = .ok (.dup, 1)) (d4 : decode hd9.2.1 (pc + 4) = .ok (.ldc is, 2)) (d6 : decode hd9.2.1 (pc + 6) = .ok (.invokespecial ic, 3)) (d9 : decode hd9.2.1 (pc + 9) = .ok (.athrow, 1))
    (hfr : names.length + 3 < d) (hlo : (st.map fun v => v.category).sum + (13 * (names.length + 1) + 43) ≤ d * 64) (hb1 : 1 ≤ bc) (hb2 : 6 ≤ bs) (hq : Qx E h) : zR G l (zMJ G hd9 d Qn Qx mc ms) bc bs h pc ls st := by
  intro p e s m args below meth c H locs cells slots ls0 C0 hP hS hL h1 h2
  have hts := C0.2.2.2.2.2.2.2.1
  have hZ := C0.2.2.2.2.2.2.2.2.2.1
  have g1 : cells + bc ≤ mc := h1
  have g2 : slots + bs ≤ ms := h2
  obtain ⟨sa, hsa⟩ := hZ.2.2.2.1 _ htx
  refine vx_throwS (sa := sa) (names := names) (text := text) C0.1 C0.2.1 C0.2.2.2.2.2.2.2.2.2.2.1 C0.2.2.2.2.2.2.1 hE hnm (hts _ hw) (hts _ hini) hsa (fun w hw9 => ?_) hot hZ.2.2.2.2.2.1 hZ.2.2.2.2.2.2.1 hS (hL.1.trans C0.2.2.1.symm) d0 d3 d4 d6 d9 (fun x hx => ?_) hfr hlo (by show cells + 1 ≤ mc; omega) (by show slots + 6 ≤ ms; omega) C0.2.2.2.2.2.2.2.2.1 (fun t hA hz hk => ⟨h, hq, hP.keep hz hk, ?_⟩) hS.2.2 (by omega) (by omega)
  · rcases hgd w hw9 with q | q
    · exact hts _ (List.mem_filter.mpr ⟨hat w hw9, q⟩)
    · have h9 := hZ.2.2.1 w (List.mem_filter.mpr ⟨hat w hw9, q⟩)
      cases w <;> first | exact va_Nw.use rfl h9 | (simp [zIsN] at q)
  · rw [C0.2.2.2.2.1] at hx
    have h9 : tableOf hd9.2.2.2.2.1 = [] := by rw [ht]; rfl
    exact absurd (h9 ▸ hx) (by simp)
  · exact ⟨Nat.le_trans hS.1 hz, fun q q1 q2 => (hk q (Nat.lt_of_lt_of_le q1 hS.1)).trans (hS.2.1 q q1 q2)⟩
end ZD
end
