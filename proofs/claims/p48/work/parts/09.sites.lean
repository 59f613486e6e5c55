section
theorem zin_of {L : List Cond} (hL : ∀ w ∈ L, w ∈ lw_tbl) {i : Nat} {w : Cond} (h : L[i]? = some w) (hg : goodWord w = true) : w ∈ zWS := List.mem_filter.mpr ⟨hL w (List.mem_of_getElem? h), hg⟩
theorem zinN_of {L : List Cond} (hL : ∀ w ∈ L, w ∈ lw_tbl) {i : Nat} {w : Cond} (h : L[i]? = some w) (hg : zIsN w = true) : w ∈ zNW := List.mem_filter.mpr ⟨hL w (List.mem_of_getElem? h), hg⟩
theorem zc0 : ∀ w ∈ k2_sels lw_privs, w ∈ lw_tbl := fun _ h => List.mem_append_left _ h
theorem zc1 : ∀ w ∈ tables_1_1, w ∈ lw_tbl := fun _ h => List.mem_append_right _ (List.mem_append_left _ h)
theorem zc2 : ∀ w ∈ tables_1_2, w ∈ lw_tbl := fun _ h => List.mem_append_right _ (List.mem_append_right _ (List.mem_append_left _ h))
theorem zc3 : ∀ w ∈ tables_1_3, w ∈ lw_tbl := fun _ h => List.mem_append_right _ (List.mem_append_right _ (List.mem_append_right _ (List.mem_append_left _ h)))
theorem zc4 : ∀ w ∈ tables_1_4, w ∈ lw_tbl := fun _ h => List.mem_append_right _ (List.mem_append_right _ (List.mem_append_right _ (List.mem_append_right _ (List.mem_append_left _ h))))
theorem zc5 : ∀ w ∈ tables_1_5, w ∈ lw_tbl := fun _ h => List.mem_append_right _ (List.mem_append_right _ (List.mem_append_right _ (List.mem_append_right _ (List.mem_append_right _ (List.mem_append_left _ h)))))
theorem zc6 : ∀ w ∈ tables_1_6, w ∈ lw_tbl := fun _ h => List.mem_append_right _ (List.mem_append_right _ (List.mem_append_right _ (List.mem_append_right _ (List.mem_append_right _ (List.mem_append_right _ (List.mem_append_left _ h))))))
theorem zc7 : ∀ w ∈ tables_1_7, w ∈ lw_tbl := fun _ h => List.mem_append_right _ (List.mem_append_right _ (List.mem_append_right _ (List.mem_append_right _ (List.mem_append_right _ (List.mem_append_right _ (List.mem_append_right _ (h)))))))
def hCur_init : zHd := (RCur, cCur_init, 1, (Option.none : Option FieldType), [], true)
def hCur_begin : zHd := (RCur, cCur_begin, 3, (Option.none : Option FieldType), [], false)
def hCur_stepForth : zHd := (RCur, cCur_stepForth, 2, (Option.some FieldType.int), [], false)
def hCur_stepBack : zHd := (RCur, cCur_stepBack, 2, (Option.some FieldType.int), [], false)
def hCur_putHere : zHd := (RCur, cCur_putHere, 3, (Option.some FieldType.boolean), [], false)
def hCur_cutLast : zHd := (RCur, cCur_cutLast, 2, (Option.none : Option FieldType), [], false)
def hRec_init : zHd := (RRec, cRec_init, 1, (Option.none : Option FieldType), [], true)
def hRec_begin : zHd := (RRec, cRec_begin, 2, (Option.none : Option FieldType), [], false)
def hRec_bringAhead : zHd := (RRec, cRec_bringAhead, 3, (Option.some FieldType.int), [], false)
def hRec_costBy : zHd := (RRec, cRec_costBy, 4, (Option.some FieldType.int), [], false)
def hRec_boundBy : zHd := (RRec, cRec_boundBy, 2, (Option.some FieldType.int), [], false)
def hRow_init : zHd := (RRow, cRow_init, 1, (Option.none : Option FieldType), [], true)
def hRow_hasPlace : zHd := (RRow, cRow_hasPlace, 2, (Option.some FieldType.boolean), [], false)
def hRow_hasGap : zHd := (RRow, cRow_hasGap, 2, (Option.some FieldType.boolean), [], false)
def hRow_itemAt : zHd := (RRow, cRow_itemAt, 2, (Option.some FieldType.int), [], false)
def hRow_changeAt : zHd := (RRow, cRow_changeAt, 3, (Option.none : Option FieldType), [], false)
def hRow_putIn : zHd := (RRow, cRow_putIn, 4, (Option.some FieldType.boolean), [], false)
def hRow_takeOut : zHd := (RRow, cRow_takeOut, 4, (Option.some FieldType.int), [], false)
def hRow_takeOutAll : zHd := (RRow, cRow_takeOutAll, 5, (Option.some FieldType.int), [], false)
def hRow_placeOf : zHd := (RRow, cRow_placeOf, 5, (Option.some FieldType.int), [], false)
def hRow_lastNotZero : zHd := (RRow, cRow_lastNotZero, 3, (Option.some FieldType.int), [], false)
def hRow_isAs : zHd := (RRow, cRow_isAs, 3, (Option.some FieldType.boolean), [], false)
def hRow_joined : zHd := (RRow, cRow_joined, 4, (Option.some (FieldType.object "java/lang/String")), [], false)
def hRow_exchange : zHd := (RRow, cRow_exchange, 4, (Option.none : Option FieldType), [], false)
def hRow_turnRound : zHd := (RRow, cRow_turnRound, 2, (Option.none : Option FieldType), [], false)
def hRow_turnBy : zHd := (RRow, cRow_turnBy, 4, (Option.none : Option FieldType), [], false)
def hRow_become : zHd := (RRow, cRow_become, 3, (Option.none : Option FieldType), [], false)
def hRow_becomePlaces : zHd := (RRow, cRow_becomePlaces, 3, (Option.none : Option FieldType), [], false)
def hRow_addBehind : zHd := (RRow, cRow_addBehind, 2, (Option.some FieldType.boolean), [], false)
def hRow_becomeJoined : zHd := (RRow, cRow_becomeJoined, 5, (Option.some FieldType.boolean), [], false)
def hRow_becomeThrough : zHd := (RRow, cRow_becomeThrough, 5, (Option.some FieldType.boolean), [], false)
def hRow_becomeSum : zHd := (RRow, cRow_becomeSum, 5, (Option.some FieldType.boolean), [], false)
def hRow_becomeProduct : zHd := (RRow, cRow_becomeProduct, 5, (Option.some FieldType.boolean), [], false)
def hRow_coefficientOfProduct : zHd := (RRow, cRow_coefficientOfProduct, 5, (Option.some FieldType.int), [], false)
def hRow_becomeDerived : zHd := (RRow, cRow_becomeDerived, 3, (Option.some FieldType.boolean), [], false)
def hRow_restAt : zHd := (RRow, cRow_restAt, 4, (Option.some FieldType.int), [], false)
def hRow_isOrder : zHd := (RRow, cRow_isOrder, 2, (Option.some FieldType.boolean), [], false)
def hRow_inversions : zHd := (RRow, cRow_inversions, 4, (Option.some FieldType.int), [], false)
def hCls_init : zHd := (RCls, cCls_init, 2, (Option.none : Option FieldType), [], true)
def hCls_put : zHd := (RCls, cCls_put, 6, (Option.some FieldType.int), [], false)
def hCls_take : zHd := (RCls, cCls_take, 4, (Option.some FieldType.int), [], false)
def hCls_look : zHd := (RCls, cCls_look, 4, (Option.some FieldType.int), [], false)
def hCls_get : zHd := (RCls, cCls_get, 4, (Option.some FieldType.int), [], false)
def hCls_set : zHd := (RCls, cCls_set, 6, (Option.some FieldType.int), [], false)
def hCls_insert : zHd := (RCls, cCls_insert, 4, (Option.some FieldType.int), [], false)
def hCls_removeAt : zHd := (RCls, cCls_removeAt, 3, (Option.some FieldType.int), [], false)
def hCls_drop : zHd := (RCls, cCls_drop, 6, (Option.some FieldType.boolean), [], false)
def hCls_thin : zHd := (RCls, cCls_thin, 4, (Option.some FieldType.int), [], false)
def hCls_indexOf : zHd := (RCls, cCls_indexOf, 4, (Option.some FieldType.int), [], false)
def hCls_has : zHd := (RCls, cCls_has, 3, (Option.some FieldType.boolean), [], false)
def hCls_size : zHd := (RCls, cCls_size, 2, (Option.some FieldType.int), [], false)
def hCls_text : zHd := (RCls, cCls_text, 3, (Option.some (FieldType.object "java/lang/String")), [], false)
def hCls_clear : zHd := (RCls, cCls_clear, 4, (Option.some FieldType.int), [], false)
def hCls_append : zHd := (RCls, cCls_append, 5, (Option.some FieldType.int), [], false)
def hCls_appendAt : zHd := (RCls, cCls_appendAt, 6, (Option.some FieldType.int), [], false)
def hCls_copy : zHd := (RCls, cCls_copy, 5, (Option.some FieldType.int), [], false)
def hCls_places : zHd := (RCls, cCls_places, 4, (Option.some FieldType.int), [], false)
def hCls_rotate : zHd := (RCls, cCls_rotate, 4, (Option.some FieldType.int), [], false)
def hCls_move : zHd := (RCls, cCls_move, 6, (Option.some FieldType.int), [], false)
def hCls_swap : zHd := (RCls, cCls_swap, 5, (Option.some FieldType.int), [], false)
def hCls_reverse : zHd := (RCls, cCls_reverse, 3, (Option.some FieldType.int), [], false)
def hCls_through : zHd := (RCls, cCls_through, 6, (Option.some FieldType.int), [], false)
def hCls_areSame : zHd := (RCls, cCls_areSame, 3, (Option.some FieldType.boolean), [], false)
def hCls_isMirror : zHd := (RCls, cCls_isMirror, 3, (Option.some FieldType.boolean), [], false)
def hCls_open : zHd := (RCls, cCls_open, 6, (Option.some FieldType.int), [], false)
def hCls_shut : zHd := (RCls, cCls_shut, 4, (Option.some FieldType.boolean), [], false)
def hCls_forth : zHd := (RCls, cCls_forth, 3, (Option.some FieldType.int), [], false)
def hCls_back : zHd := (RCls, cCls_back, 3, (Option.some FieldType.int), [], false)
def hCls_puts : zHd := (RCls, cCls_puts, 4, (Option.some FieldType.int), [], false)
def hCls_cuts : zHd := (RCls, cCls_cuts, 3, (Option.some FieldType.int), [], false)
def hCls_changes : zHd := (RCls, cCls_changes, 4, (Option.some FieldType.int), [], false)
def hCls_meet : zHd := (RCls, cCls_meet, 5, (Option.some FieldType.int), [], false)
def hCls_ofCursor : zHd := (RCls, cCls_ofCursor, 4, (Option.some FieldType.int), [], false)
def hCls_plus : zHd := (RCls, cCls_plus, 3, (Option.some FieldType.int), [], false)
def hCls_times : zHd := (RCls, cCls_times, 3, (Option.some FieldType.int), [], false)
def hCls_shift : zHd := (RCls, cCls_shift, 3, (Option.some FieldType.int), [], false)
def hCls_trim : zHd := (RCls, cCls_trim, 4, (Option.some FieldType.int), [], false)
def hCls_derive : zHd := (RCls, cCls_derive, 2, (Option.some FieldType.int), [], false)
def hCls_value : zHd := (RCls, cCls_value, 4, (Option.some FieldType.int), [], false)
def hCls_degree : zHd := (RCls, cCls_degree, 2, (Option.some FieldType.int), [], false)
def hCls_ask : zHd := (RCls, cCls_ask, 2, (Option.some FieldType.int), [], false)
def hCls_forget : zHd := (RCls, cCls_forget, 2, (Option.some FieldType.int), [], false)
def hCls_asked : zHd := (RCls, cCls_asked, 2, (Option.some FieldType.int), [], false)
def hCls_recent : zHd := (RCls, cCls_recent, 1, (Option.some (FieldType.object "java/lang/String")), [], false)
def hCls_byOrder : zHd := (RCls, cCls_byOrder, 4, (Option.some FieldType.int), [], false)
def hCls_house : zHd := (RCls, cCls_house, 2, (Option.some FieldType.int), [], false)
def hCls_knock : zHd := (RCls, cCls_knock, 1, (Option.some FieldType.int), [], false)
def hCls_isSound : zHd := (RCls, cCls_isSound, 3, (Option.some FieldType.boolean), [], false)
def hCls_digest : zHd := (RCls, cCls_digest, 5, (Option.some FieldType.long), [], false)
def hCls_listAt : zHd := (RCls, cCls_listAt, 2, (Option.some (FieldType.object "Cursorlist$Row")), [], false)
def hCls_cursorAt : zHd := (RCls, cCls_cursorAt, 2, (Option.some (FieldType.object "Cursorlist$Cursor")), [], false)
def hCls_demandPlace : zHd := (RCls, cCls_demandPlace, 2, (Option.none : Option FieldType), [], false)
def hCls_demandGap : zHd := (RCls, cCls_demandGap, 2, (Option.none : Option FieldType), [], false)
def hCls_demandWithin : zHd := (RCls, cCls_demandWithin, 3, (Option.none : Option FieldType), [], false)
def hCls_demandItem : zHd := (RCls, cCls_demandItem, 1, (Option.none : Option FieldType), [], false)
def hCls_demandThere : zHd := (RCls, cCls_demandThere, 1, (Option.none : Option FieldType), [], false)
def hCls_refuse : zHd := (RCls, cCls_refuse, 1, (Option.some FieldType.int), [], false)
def hCls_makeStale : zHd := (RCls, cCls_makeStale, 4, (Option.none : Option FieldType), [], false)
def hCls_putInto : zHd := (RCls, cCls_putInto, 5, (Option.some FieldType.int), [], false)
def hCls_takeFrom : zHd := (RCls, cCls_takeFrom, 4, (Option.some FieldType.int), [], false)
def hCls_becomeResult : zHd := (RCls, cCls_becomeResult, 3, (Option.some FieldType.int), [], false)
def hCls_endOf : zHd := (RCls, cCls_endOf, 2, (Option.some FieldType.int), [], false)
def hCls_firstOf : zHd := (RCls, cCls_firstOf, 1, (Option.some FieldType.int), [], false)
def hCls_numberOf : zHd := (RCls, cCls_numberOf, 1, (Option.some FieldType.int), [], false)
def hCls_rowUnder : zHd := (RCls, cCls_rowUnder, 2, (Option.some (FieldType.object "Cursorlist$Row")), [], false)
def hCls_sumUntilMet : zHd := (RCls, cCls_sumUntilMet, 5, (Option.some FieldType.int), [], false)
def hCls_whereIs : zHd := (RCls, cCls_whereIs, 3, (Option.some FieldType.int), [], false)
def hCls_itemsOfAll : zHd := (RCls, cCls_itemsOfAll, 3, (Option.some FieldType.int), [], false)
def hCls_cursorsThere : zHd := (RCls, cCls_cursorsThere, 3, (Option.some FieldType.int), [], false)
def hCls_cursorsStale : zHd := (RCls, cCls_cursorsStale, 3, (Option.some FieldType.int), [], false)
def hCls_turnsBack : zHd := (RCls, cCls_turnsBack, 2, (Option.some FieldType.boolean), [], false)
def hCls_addsUp : zHd := (RCls, cCls_addsUp, 3, (Option.some FieldType.boolean), [], false)
def hCls_agreesWithResult : zHd := (RCls, cCls_agreesWithResult, 4, (Option.some FieldType.boolean), [], false)
def hCls_isResultAt : zHd := (RCls, cCls_isResultAt, 7, (Option.some FieldType.boolean), [], false)
def hCls_isRecencySound : zHd := (RCls, cCls_isRecencySound, 2, (Option.some FieldType.boolean), [], false)
def hCls_mixed : zHd := (RCls, cCls_mixed, 4, (Option.some FieldType.long), [], false)
def hCls_mixedWithItems : zHd := (RCls, cCls_mixedWithItems, 6, (Option.some FieldType.long), [], false)
def hCls_mixedWithList : zHd := (RCls, cCls_mixedWithList, 5, (Option.some FieldType.long), [], false)
def hCls_mixedWithOrder : zHd := (RCls, cCls_mixedWithOrder, 6, (Option.some FieldType.long), [], false)
def hOut_init : zHd := (ROut, cOut_init, 1, (Option.none : Option FieldType), [], true)
def hMod_init : zHd := (RMod, cMod_init, 1, (Option.none : Option FieldType), [], true)
def hMod_thrown : zHd := (RMod, cMod_thrown, 1, (Option.some FieldType.int), [], false)
def hMod_fails : zHd := (RMod, cMod_fails, 4, (Option.some FieldType.boolean), [], false)
def hMod_isOut : zHd := (RMod, cMod_isOut, 3, (Option.some FieldType.boolean), [], false)
def hMod_isNo : zHd := (RMod, cMod_isNo, 1, (Option.some FieldType.boolean), [], false)
def hMod_isNoCursor : zHd := (RMod, cMod_isNoCursor, 1, (Option.some FieldType.boolean), [], false)
def hMod_isNoItem : zHd := (RMod, cMod_isNoItem, 1, (Option.some FieldType.boolean), [], false)
def hMod_isNoPlace : zHd := (RMod, cMod_isNoPlace, 3, (Option.some FieldType.boolean), [], false)
def hMod_refused : zHd := (RMod, cMod_refused, 1, (Option.some FieldType.int), [], false)
def hMod_with : zHd := (RMod, cMod_with, 5, (Option.some (FieldType.array FieldType.int)), [], false)
def hMod_without : zHd := (RMod, cMod_without, 4, (Option.some (FieldType.array FieldType.int)), [], false)
def hMod_joined : zHd := (RMod, cMod_joined, 5, (Option.some (FieldType.array FieldType.int)), [], false)
def hMod_turned : zHd := (RMod, cMod_turned, 3, (Option.some (FieldType.array FieldType.int)), [], false)
def hMod_areLike : zHd := (RMod, cMod_areLike, 4, (Option.some FieldType.boolean), [], false)
def hMod_find : zHd := (RMod, cMod_find, 5, (Option.some FieldType.int), [], false)
def hMod_told : zHd := (RMod, cMod_told, 6, (Option.some (FieldType.object "java/lang/String")), [], false)
def hMod_become : zHd := (RMod, cMod_become, 5, (Option.none : Option FieldType), [], false)
def hMod_becomes : zHd := (RMod, cMod_becomes, 3, (Option.some FieldType.int), [], false)
def hMod_put : zHd := (RMod, cMod_put, 4, (Option.some FieldType.int), [], false)
def hMod_isAtEnd : zHd := (RMod, cMod_isAtEnd, 1, (Option.some FieldType.boolean), [], false)
def hMod_take : zHd := (RMod, cMod_take, 5, (Option.some FieldType.int), [], false)
def hMod_look : zHd := (RMod, cMod_look, 4, (Option.some FieldType.int), [], false)
def hMod_get : zHd := (RMod, cMod_get, 3, (Option.some FieldType.int), [], false)
def hMod_set : zHd := (RMod, cMod_set, 5, (Option.some FieldType.int), [], false)
def hMod_insert : zHd := (RMod, cMod_insert, 4, (Option.some FieldType.int), [], false)
def hMod_removeAt : zHd := (RMod, cMod_removeAt, 4, (Option.some FieldType.int), [], false)
def hMod_drop : zHd := (RMod, cMod_drop, 5, (Option.some FieldType.boolean), [], false)
def hMod_thin : zHd := (RMod, cMod_thin, 5, (Option.some FieldType.int), [], false)
def hMod_indexOf : zHd := (RMod, cMod_indexOf, 4, (Option.some FieldType.int), [], false)
def hMod_has : zHd := (RMod, cMod_has, 3, (Option.some FieldType.boolean), [], false)
def hMod_size : zHd := (RMod, cMod_size, 2, (Option.some FieldType.int), [], false)
def hMod_text : zHd := (RMod, cMod_text, 3, (Option.some (FieldType.object "java/lang/String")), [], false)
def hMod_clear : zHd := (RMod, cMod_clear, 3, (Option.some FieldType.int), [], false)
def hMod_append : zHd := (RMod, cMod_append, 3, (Option.some FieldType.int), [], false)
def hMod_joins : zHd := (RMod, cMod_joins, 4, (Option.some FieldType.int), [], false)
def hMod_appendAt : zHd := (RMod, cMod_appendAt, 4, (Option.some FieldType.int), [], false)
def hMod_copied : zHd := (RMod, cMod_copied, 1, (Option.some (FieldType.array FieldType.int)), [], false)
def hMod_copy : zHd := (RMod, cMod_copy, 3, (Option.some FieldType.int), [], false)
def hMod_places : zHd := (RMod, cMod_places, 5, (Option.some FieldType.int), [], false)
def hMod_first : zHd := (RMod, cMod_first, 2, (Option.some FieldType.int), [], false)
def hMod_rotate : zHd := (RMod, cMod_rotate, 8, (Option.some FieldType.int), [], false)
def hMod_move : zHd := (RMod, cMod_move, 5, (Option.some FieldType.int), [], false)
def hMod_swap : zHd := (RMod, cMod_swap, 5, (Option.some FieldType.int), [], false)
def hMod_reverse : zHd := (RMod, cMod_reverse, 2, (Option.some FieldType.int), [], false)
def hMod_through : zHd := (RMod, cMod_through, 6, (Option.some FieldType.int), [], false)
def hMod_areSame : zHd := (RMod, cMod_areSame, 3, (Option.some FieldType.boolean), [], false)
def hMod_isMirror : zHd := (RMod, cMod_isMirror, 2, (Option.some FieldType.boolean), [], false)
def hMod_open : zHd := (RMod, cMod_open, 4, (Option.some FieldType.int), [], false)
def hMod_shut : zHd := (RMod, cMod_shut, 3, (Option.some FieldType.boolean), [], false)
def hMod_isNotThere : zHd := (RMod, cMod_isNotThere, 2, (Option.some FieldType.boolean), [], false)
def hMod_goes : zHd := (RMod, cMod_goes, 5, (Option.some FieldType.int), [], false)
def hMod_asksOn : zHd := (RMod, cMod_asksOn, 3, (Option.some FieldType.int), [], false)
def hMod_forth : zHd := (RMod, cMod_forth, 2, (Option.some FieldType.int), [], false)
def hMod_back : zHd := (RMod, cMod_back, 2, (Option.some FieldType.int), [], false)
def hMod_puts : zHd := (RMod, cMod_puts, 3, (Option.some FieldType.int), [], false)
def hMod_cuts : zHd := (RMod, cMod_cuts, 2, (Option.some FieldType.int), [], false)
def hMod_changes : zHd := (RMod, cMod_changes, 3, (Option.some FieldType.int), [], false)
def hMod_meet : zHd := (RMod, cMod_meet, 6, (Option.some FieldType.int), [], false)
def hMod_ofCursorNow : zHd := (RMod, cMod_ofCursorNow, 5, (Option.some FieldType.int), [], false)
def hMod_ofCursor : zHd := (RMod, cMod_ofCursor, 3, (Option.some FieldType.int), [], false)
def hMod_fitting : zHd := (RMod, cMod_fitting, 3, (Option.some (FieldType.array FieldType.int)), [], false)
def hMod_fits : zHd := (RMod, cMod_fits, 4, (Option.some FieldType.int), [], false)
def hMod_plus : zHd := (RMod, cMod_plus, 7, (Option.some FieldType.int), [], false)
def hMod_times : zHd := (RMod, cMod_times, 8, (Option.some FieldType.int), [], false)
def hMod_shift : zHd := (RMod, cMod_shift, 2, (Option.some FieldType.int), [], false)
def hMod_trim : zHd := (RMod, cMod_trim, 3, (Option.some FieldType.int), [], false)
def hMod_derive : zHd := (RMod, cMod_derive, 4, (Option.some FieldType.int), [], false)
def hMod_rest : zHd := (RMod, cMod_rest, 2, (Option.some FieldType.int), [], false)
def hMod_valueOf : zHd := (RMod, cMod_valueOf, 10, (Option.some FieldType.int), [], false)
def hMod_value : zHd := (RMod, cMod_value, 3, (Option.some FieldType.int), [], false)
def hMod_degreeOf : zHd := (RMod, cMod_degreeOf, 3, (Option.some FieldType.int), [], false)
def hMod_degree : zHd := (RMod, cMod_degree, 2, (Option.some FieldType.int), [], false)
def hMod_ask : zHd := (RMod, cMod_ask, 3, (Option.some FieldType.int), [], false)
def hMod_forget : zHd := (RMod, cMod_forget, 3, (Option.some FieldType.int), [], false)
def hMod_askedNow : zHd := (RMod, cMod_askedNow, 2, (Option.some FieldType.int), [], false)
def hMod_asked : zHd := (RMod, cMod_asked, 2, (Option.some FieldType.int), [], false)
def hMod_recent : zHd := (RMod, cMod_recent, 1, (Option.some (FieldType.object "java/lang/String")), [], false)
def hMod_isOrder : zHd := (RMod, cMod_isOrder, 3, (Option.some FieldType.boolean), [], false)
def hMod_byOrderNow : zHd := (RMod, cMod_byOrderNow, 7, (Option.some FieldType.int), [], false)
def hMod_byOrder : zHd := (RMod, cMod_byOrder, 3, (Option.some FieldType.int), [], false)
def hMod_houseNow : zHd := (RMod, cMod_houseNow, 9, (Option.some FieldType.int), [], false)
def hMod_house : zHd := (RMod, cMod_house, 2, (Option.some FieldType.int), [], false)
def hMod_knock : zHd := (RMod, cMod_knock, 1, (Option.some FieldType.int), [], false)
def hMod_isSound : zHd := (RMod, cMod_isSound, 1, (Option.some FieldType.boolean), [], false)
def hMod_add : zHd := (RMod, cMod_add, 4, (Option.some FieldType.long), [], false)
def hMod_digest : zHd := (RMod, cMod_digest, 11, (Option.some FieldType.long), [], false)
def hAsb_init_d00df : zHd := (RAsb, cAsb_init_d00df, 2, (Option.none : Option FieldType), [], true)
def hAsb_length_8abf5 : zHd := (RAsb, cAsb_length_8abf5, 1, (Option.some FieldType.int), [], false)
def hAsb_ensureCapacityInternal_d00df : zHd := (RAsb, cAsb_ensureCapacityInternal_d00df, 3, (Option.none : Option FieldType), [], false)
def hAsb_newCapacity_0f7a4 : zHd := (RAsb, cAsb_newCapacity_0f7a4, 6, (Option.some FieldType.int), [], false)
def hAsb_inflate_da8c8 : zHd := (RAsb, cAsb_inflate_da8c8, 2, (Option.none : Option FieldType), [], false)
def hAsb_append_cf1ce : zHd := (RAsb, cAsb_append_cf1ce, 3, (Option.some (FieldType.object "java/lang/AbstractStringBuilder")), [], false)
def hAsb_appendNull_278bc : zHd := (RAsb, cAsb_appendNull_278bc, 3, (Option.some (FieldType.object "java/lang/AbstractStringBuilder")), [], false)
def hAsb_append_3fe6f : zHd := (RAsb, cAsb_append_3fe6f, 2, (Option.some (FieldType.object "java/lang/AbstractStringBuilder")), [], false)
def hAsb_append_c97b9 : zHd := (RAsb, cAsb_append_c97b9, 4, (Option.some (FieldType.object "java/lang/AbstractStringBuilder")), [], false)
def hAsb_getValue_6d5f1 : zHd := (RAsb, cAsb_getValue_6d5f1, 1, (Option.some (FieldType.array FieldType.byte)), [], false)
def hAsb_isLatin1_aae02 : zHd := (RAsb, cAsb_isLatin1_aae02, 1, (Option.some FieldType.boolean), [], false)
def hAsb_inflateIfNeededFor_a7421 : zHd := (RAsb, cAsb_inflateIfNeededFor_a7421, 2, (Option.none : Option FieldType), [], false)
def hAsb_putStringAt_47b60 : zHd := (RAsb, cAsb_putStringAt_47b60, 3, (Option.none : Option FieldType), [], false)
def hInt_getChars_ba4f3 : zHd := (RInt, cInt_getChars_ba4f3, 7, (Option.some FieldType.int), [], false)
def hInt_stringSize_0f7a4 : zHd := (RInt, cInt_stringSize_0f7a4, 4, (Option.some FieldType.int), [], false)
def hMth_floorMod_7cf53 : zHd := (RMth, cMth_floorMod_7cf53, 3, (Option.some FieldType.int), [], false)
def hMth_max_7cf53 : zHd := (RMth, cMth_max_7cf53, 2, (Option.some FieldType.int), [], false)
def hMth_min_7cf53 : zHd := (RMth, cMth_min_7cf53, 2, (Option.some FieldType.int), [], false)
def hStr_init_81219 : zHd := (RStr, cStr_init_81219, 2, (Option.none : Option FieldType), [], true)
def hStr_length_8abf5 : zHd := (RStr, cStr_length_8abf5, 1, (Option.some FieldType.int), [], false)
def hStr_getBytes_840e7 : zHd := (RStr, cStr_getBytes_840e7, 4, (Option.none : Option FieldType), [], false)
def hStr_init_db425 : zHd := (RStr, cStr_init_db425, 5, (Option.none : Option FieldType), [], true)
def hStr_coder_7d493 : zHd := (RStr, cStr_coder_7d493, 1, (Option.some FieldType.byte), [], false)
def hStr_checkIndex_df160 : zHd := (RStr, cStr_checkIndex_df160, 2, (Option.none : Option FieldType), [], false)
def hStr_checkBoundsOffCount_cabcc : zHd := (RStr, cStr_checkBoundsOffCount_cabcc, 3, (Option.some FieldType.int), [], false)
def hStr_checkBoundsBeginEnd_23922 : zHd := (RStr, cStr_checkBoundsBeginEnd_23922, 3, (Option.none : Option FieldType), [], false)
def hSbd_init_da8c8 : zHd := (RSbd, cSbd_init_da8c8, 1, (Option.none : Option FieldType), [], true)
def hSbd_append_15ec4 : zHd := (RSbd, cSbd_append_15ec4, 2, (Option.some (FieldType.object "java/lang/StringBuilder")), [], false)
def hSbd_append_cf468 : zHd := (RSbd, cSbd_append_cf468, 2, (Option.some (FieldType.object "java/lang/StringBuilder")), [], false)
def hSbd_append_bf812 : zHd := (RSbd, cSbd_append_bf812, 2, (Option.some (FieldType.object "java/lang/StringBuilder")), [], false)
def hSbd_toString_0e30d : zHd := (RSbd, cSbd_toString_0e30d, 1, (Option.some (FieldType.object "java/lang/String")), [], false)
def hSbd_length_8abf5 : zHd := (RSbd, cSbd_length_8abf5, 1, (Option.some FieldType.int), [], false)
def hLat_canEncode_fc78d : zHd := (RLat, cLat_canEncode_fc78d, 1, (Option.some FieldType.boolean), [], false)
def hLat_inflate_0e8fd : zHd := (RLat, cLat_inflate_0e8fd, 5, (Option.none : Option FieldType), [], false)
def hUtf_newBytesFor_77867 : zHd := (RUtf, cUtf_newBytesFor_77867, 1, (Option.some (FieldType.array FieldType.byte)), [], false)
def hUtf_newBytesLength_0f7a4 : zHd := (RUtf, cUtf_newBytesLength_0f7a4, 1, (Option.some FieldType.int), [], false)
def hUtf_putChar_b72d1 : zHd := (RUtf, cUtf_putChar_b72d1, 3, (Option.none : Option FieldType), [], false)
def hUtf_getChar_3b067 : zHd := (RUtf, cUtf_getChar_3b067, 2, (Option.some FieldType.char), [], false)
def hUtf_length_9d52b : zHd := (RUtf, cUtf_length_9d52b, 1, (Option.some FieldType.int), [], false)
def hUtf_coderFromArrayLen_85cad : zHd := (RUtf, cUtf_coderFromArrayLen_85cad, 2, (Option.some FieldType.byte), [], false)
def hUtf_compress_39247 : zHd := (RUtf, cUtf_compress_39247, 6, (Option.some (FieldType.array FieldType.byte)), [], false)
def hUtf_compress_5af95 : zHd := (RUtf, cUtf_compress_5af95, 7, (Option.some FieldType.int), [], false)
def hUtf_putCharSB_b72d1 : zHd := (RUtf, cUtf_putCharSB_b72d1, 3, (Option.none : Option FieldType), [], false)
def hUtf_getChars_46870 : zHd := (RUtf, cUtf_getChars_46870, 5, (Option.some FieldType.int), [], false)
def hUtf_putCharsAt_cd4e5 : zHd := (RUtf, cUtf_putCharsAt_cd4e5, 7, (Option.some FieldType.int), [], false)
def hUtf_inflate_0e8fd : zHd := (RUtf, cUtf_inflate_0e8fd, 6, (Option.none : Option FieldType), [], false)
def hUtf_getChars_ba4f3 : zHd := (RUtf, cUtf_getChars_ba4f3, 7, (Option.some FieldType.int), [], false)
def hUtf_checkIndex_2214a : zHd := (RUtf, cUtf_checkIndex_2214a, 2, (Option.none : Option FieldType), [], false)
def hUtf_checkBoundsBeginEnd_d044e : zHd := (RUtf, cUtf_checkBoundsBeginEnd_d044e, 3, (Option.none : Option FieldType), [], false)
def hUtf_checkBoundsOffCount_d044e : zHd := (RUtf, cUtf_checkBoundsOffCount_d044e, 3, (Option.none : Option FieldType), [], false)
def hArr_copyOf_9075b : zHd := (RArr, cArr_copyOf_9075b, 3, (Option.some (FieldType.array FieldType.byte)), [], false)
def hArr_checkLength_df160 : zHd := (RArr, cArr_checkLength_df160, 2, (Option.none : Option FieldType), [], false)
def hArr_copyOfRange_39247 : zHd := (RArr, cArr_copyOfRange_39247, 3, (Option.some (FieldType.array FieldType.byte)), [], false)
def hArr_copyOfRangeByte_39247 : zHd := (RArr, cArr_copyOfRangeByte_39247, 5, (Option.some (FieldType.array FieldType.byte)), [], false)
def hAsu_newLength_cabcc : zHd := (RAsu, cAsu_newLength_cabcc, 4, (Option.some FieldType.int), [], false)
def hAsu_hugeLength_7cf53 : zHd := (RAsu, cAsu_hugeLength_7cf53, 3, (Option.some FieldType.int), [], false)
def hPrc_checkIndex_8e157 : zHd := (RPrc, cPrc_checkIndex_8e157, 3, (Option.some FieldType.int), [], false)
def hPrc_checkFromToIndex_8c36e : zHd := (RPrc, cPrc_checkFromToIndex_8c36e, 4, (Option.some FieldType.int), [], false)
def hPrc_checkFromIndexSize_8c36e : zHd := (RPrc, cPrc_checkFromIndexSize_8c36e, 4, (Option.some FieldType.int), [], false)
def hLaw_put : zHd := (RLaw, cLaw_put, 6, (Option.some FieldType.int), [((0 : Nat), (13 : Nat), (16 : Nat), (19 : Nat)), ((0 : Nat), (13 : Nat), (20 : Nat), (21 : Nat))], false)
def hLaw_take : zHd := (RLaw, cLaw_take, 5, (Option.some FieldType.int), [((0 : Nat), (11 : Nat), (14 : Nat), (19 : Nat)), ((0 : Nat), (11 : Nat), (18 : Nat), (21 : Nat))], false)
def hLaw_look : zHd := (RLaw, cLaw_look, 5, (Option.some FieldType.int), [((0 : Nat), (11 : Nat), (14 : Nat), (19 : Nat)), ((0 : Nat), (11 : Nat), (18 : Nat), (21 : Nat))], false)
def hLaw_get : zHd := (RLaw, cLaw_get, 5, (Option.some FieldType.int), [((0 : Nat), (11 : Nat), (14 : Nat), (19 : Nat))], false)
def hLaw_set : zHd := (RLaw, cLaw_set, 6, (Option.some FieldType.int), [((0 : Nat), (13 : Nat), (16 : Nat), (19 : Nat)), ((0 : Nat), (13 : Nat), (20 : Nat), (21 : Nat))], false)
def hLaw_insert : zHd := (RLaw, cLaw_insert, 6, (Option.some FieldType.int), [((0 : Nat), (13 : Nat), (16 : Nat), (19 : Nat)), ((0 : Nat), (13 : Nat), (20 : Nat), (21 : Nat))], false)
def hLaw_removeAt : zHd := (RLaw, cLaw_removeAt, 5, (Option.some FieldType.int), [((0 : Nat), (11 : Nat), (14 : Nat), (19 : Nat))], false)
def hLaw_drop : zHd := (RLaw, cLaw_drop, 6, (Option.some FieldType.int), [((0 : Nat), (20 : Nat), (23 : Nat), (19 : Nat))], false)
def hLaw_thin : zHd := (RLaw, cLaw_thin, 5, (Option.some FieldType.int), [((0 : Nat), (11 : Nat), (14 : Nat), (19 : Nat))], false)
def hLaw_indexOf : zHd := (RLaw, cLaw_indexOf, 6, (Option.some FieldType.int), [((0 : Nat), (13 : Nat), (16 : Nat), (19 : Nat))], false)
def hLaw_has : zHd := (RLaw, cLaw_has, 5, (Option.some FieldType.int), [((0 : Nat), (18 : Nat), (21 : Nat), (19 : Nat))], false)
def hLaw_size : zHd := (RLaw, cLaw_size, 4, (Option.some FieldType.int), [((0 : Nat), (10 : Nat), (13 : Nat), (19 : Nat))], false)
def hLaw_text : zHd := (RLaw, cLaw_text, 5, (Option.some FieldType.int), [((0 : Nat), (10 : Nat), (13 : Nat), (19 : Nat))], false)
def hLaw_clear : zHd := (RLaw, cLaw_clear, 4, (Option.some FieldType.int), [((0 : Nat), (10 : Nat), (13 : Nat), (19 : Nat))], false)
def hLaw_append : zHd := (RLaw, cLaw_append, 5, (Option.some FieldType.int), [((0 : Nat), (11 : Nat), (14 : Nat), (19 : Nat))], false)
def hLaw_appendAt : zHd := (RLaw, cLaw_appendAt, 6, (Option.some FieldType.int), [((0 : Nat), (13 : Nat), (16 : Nat), (19 : Nat))], false)
def hLaw_copy : zHd := (RLaw, cLaw_copy, 5, (Option.some FieldType.int), [((0 : Nat), (11 : Nat), (14 : Nat), (19 : Nat))], false)
def hLaw_places : zHd := (RLaw, cLaw_places, 5, (Option.some FieldType.int), [((0 : Nat), (11 : Nat), (14 : Nat), (19 : Nat)), ((0 : Nat), (11 : Nat), (18 : Nat), (21 : Nat))], false)
def hLaw_rotate : zHd := (RLaw, cLaw_rotate, 5, (Option.some FieldType.int), [((0 : Nat), (11 : Nat), (14 : Nat), (19 : Nat)), ((0 : Nat), (11 : Nat), (18 : Nat), (21 : Nat))], false)
def hLaw_move : zHd := (RLaw, cLaw_move, 6, (Option.some FieldType.int), [((0 : Nat), (13 : Nat), (16 : Nat), (19 : Nat))], false)
def hLaw_swap : zHd := (RLaw, cLaw_swap, 6, (Option.some FieldType.int), [((0 : Nat), (13 : Nat), (16 : Nat), (19 : Nat))], false)
def hLaw_reverse : zHd := (RLaw, cLaw_reverse, 4, (Option.some FieldType.int), [((0 : Nat), (10 : Nat), (13 : Nat), (19 : Nat))], false)
def hLaw_through : zHd := (RLaw, cLaw_through, 6, (Option.some FieldType.int), [((0 : Nat), (13 : Nat), (16 : Nat), (19 : Nat))], false)
def hLaw_areSame : zHd := (RLaw, cLaw_areSame, 5, (Option.some FieldType.int), [((0 : Nat), (18 : Nat), (21 : Nat), (19 : Nat))], false)
def hLaw_isMirror : zHd := (RLaw, cLaw_isMirror, 4, (Option.some FieldType.int), [((0 : Nat), (17 : Nat), (20 : Nat), (19 : Nat))], false)
def hLaw_open : zHd := (RLaw, cLaw_open, 6, (Option.some FieldType.int), [((0 : Nat), (13 : Nat), (16 : Nat), (19 : Nat))], false)
def hLaw_shut : zHd := (RLaw, cLaw_shut, 4, (Option.some FieldType.int), [((0 : Nat), (17 : Nat), (20 : Nat), (19 : Nat))], false)
def hLaw_forth : zHd := (RLaw, cLaw_forth, 4, (Option.some FieldType.int), [((0 : Nat), (10 : Nat), (13 : Nat), (19 : Nat)), ((0 : Nat), (10 : Nat), (16 : Nat), (115 : Nat))], false)
def hLaw_back : zHd := (RLaw, cLaw_back, 4, (Option.some FieldType.int), [((0 : Nat), (10 : Nat), (13 : Nat), (19 : Nat)), ((0 : Nat), (10 : Nat), (16 : Nat), (115 : Nat))], false)
def hLaw_puts : zHd := (RLaw, cLaw_puts, 5, (Option.some FieldType.int), [((0 : Nat), (11 : Nat), (14 : Nat), (19 : Nat)), ((0 : Nat), (11 : Nat), (18 : Nat), (21 : Nat)), ((0 : Nat), (11 : Nat), (22 : Nat), (115 : Nat))], false)
def hLaw_cuts : zHd := (RLaw, cLaw_cuts, 4, (Option.some FieldType.int), [((0 : Nat), (10 : Nat), (13 : Nat), (19 : Nat)), ((0 : Nat), (10 : Nat), (16 : Nat), (115 : Nat))], false)
def hLaw_changes : zHd := (RLaw, cLaw_changes, 5, (Option.some FieldType.int), [((0 : Nat), (11 : Nat), (14 : Nat), (19 : Nat)), ((0 : Nat), (11 : Nat), (18 : Nat), (21 : Nat)), ((0 : Nat), (11 : Nat), (22 : Nat), (115 : Nat))], false)
def hLaw_meet : zHd := (RLaw, cLaw_meet, 5, (Option.some FieldType.int), [((0 : Nat), (11 : Nat), (14 : Nat), (19 : Nat)), ((0 : Nat), (11 : Nat), (18 : Nat), (21 : Nat)), ((0 : Nat), (11 : Nat), (22 : Nat), (115 : Nat))], false)
def hLaw_ofCursor : zHd := (RLaw, cLaw_ofCursor, 5, (Option.some FieldType.int), [((0 : Nat), (11 : Nat), (14 : Nat), (19 : Nat)), ((0 : Nat), (11 : Nat), (18 : Nat), (21 : Nat))], false)
def hLaw_plus : zHd := (RLaw, cLaw_plus, 5, (Option.some FieldType.int), [((0 : Nat), (11 : Nat), (14 : Nat), (19 : Nat))], false)
def hLaw_times : zHd := (RLaw, cLaw_times, 5, (Option.some FieldType.int), [((0 : Nat), (11 : Nat), (14 : Nat), (19 : Nat))], false)
def hLaw_shift : zHd := (RLaw, cLaw_shift, 4, (Option.some FieldType.int), [((0 : Nat), (10 : Nat), (13 : Nat), (19 : Nat))], false)
def hLaw_trim : zHd := (RLaw, cLaw_trim, 4, (Option.some FieldType.int), [((0 : Nat), (10 : Nat), (13 : Nat), (19 : Nat))], false)
def hLaw_derive : zHd := (RLaw, cLaw_derive, 4, (Option.some FieldType.int), [((0 : Nat), (10 : Nat), (13 : Nat), (19 : Nat))], false)
def hLaw_value : zHd := (RLaw, cLaw_value, 5, (Option.some FieldType.int), [((0 : Nat), (11 : Nat), (14 : Nat), (19 : Nat)), ((0 : Nat), (11 : Nat), (18 : Nat), (21 : Nat))], false)
def hLaw_degree : zHd := (RLaw, cLaw_degree, 4, (Option.some FieldType.int), [((0 : Nat), (10 : Nat), (13 : Nat), (19 : Nat))], false)
def hLaw_ask : zHd := (RLaw, cLaw_ask, 4, (Option.some FieldType.int), [((0 : Nat), (10 : Nat), (13 : Nat), (21 : Nat)), ((0 : Nat), (10 : Nat), (16 : Nat), (115 : Nat))], false)
def hLaw_asked : zHd := (RLaw, cLaw_asked, 4, (Option.some FieldType.int), [((0 : Nat), (10 : Nat), (13 : Nat), (21 : Nat))], false)
def hLaw_byOrder : zHd := (RLaw, cLaw_byOrder, 5, (Option.some FieldType.int), [((0 : Nat), (11 : Nat), (14 : Nat), (19 : Nat)), ((0 : Nat), (11 : Nat), (18 : Nat), (21 : Nat))], false)
def hLaw_house : zHd := (RLaw, cLaw_house, 4, (Option.some FieldType.int), [((0 : Nat), (10 : Nat), (13 : Nat), (21 : Nat))], false)
set_option maxRecDepth 40000 in
theorem MI_Cur_init : zMI yCur_init hCur_init 0 := ⟨⟨(zin_of zc1 (i := 4) rfl rfl), (zin_of zc1 (i := 101) rfl rfl), by decide +kernel, by decide +kernel⟩, (zin_of zc1 (i := 100) rfl rfl), rfl, rfl⟩
set_option maxRecDepth 40000 in
theorem MV_Cur_begin : zMV yCur_begin hCur_begin 2 := ⟨⟨(zin_of zc1 (i := 4) rfl rfl), (zin_of zc4 (i := 223) rfl rfl), by decide +kernel, by decide +kernel⟩, (zin_of zc4 (i := 222) rfl rfl), (zin_of zc0 (i := 46) rfl rfl)⟩
set_option maxRecDepth 40000 in
theorem MV_Cur_stepForth : zMV yCur_stepForth hCur_stepForth 1 := ⟨⟨(zin_of zc1 (i := 4) rfl rfl), (zin_of zc5 (i := 21) rfl rfl), by decide +kernel, by decide +kernel⟩, (zin_of zc5 (i := 20) rfl rfl), (zin_of zc0 (i := 47) rfl rfl)⟩
set_option maxRecDepth 40000 in
theorem MV_Cur_stepBack : zMV yCur_stepBack hCur_stepBack 1 := ⟨⟨(zin_of zc1 (i := 4) rfl rfl), (zin_of zc5 (i := 34) rfl rfl), by decide +kernel, by decide +kernel⟩, (zin_of zc5 (i := 33) rfl rfl), (zin_of zc0 (i := 48) rfl rfl)⟩
set_option maxRecDepth 40000 in
theorem MV_Cur_putHere : zMV yCur_putHere hCur_putHere 2 := ⟨⟨(zin_of zc1 (i := 4) rfl rfl), (zin_of zc5 (i := 45) rfl rfl), by decide +kernel, by decide +kernel⟩, (zin_of zc5 (i := 44) rfl rfl), (zin_of zc0 (i := 49) rfl rfl)⟩
set_option maxRecDepth 40000 in
theorem MV_Cur_cutLast : zMV yCur_cutLast hCur_cutLast 1 := ⟨⟨(zin_of zc1 (i := 4) rfl rfl), (zin_of zc5 (i := 57) rfl rfl), by decide +kernel, by decide +kernel⟩, (zin_of zc5 (i := 56) rfl rfl), (zin_of zc0 (i := 50) rfl rfl)⟩
set_option maxRecDepth 40000 in
theorem MI_Rec_init : zMI yRec_init hRec_init 0 := ⟨⟨(zin_of zc1 (i := 2) rfl rfl), (zin_of zc1 (i := 40) rfl rfl), by decide +kernel, by decide +kernel⟩, (zin_of zc1 (i := 39) rfl rfl), rfl, rfl⟩
set_option maxRecDepth 40000 in
theorem MV_Rec_begin : zMV yRec_begin hRec_begin 0 := ⟨⟨(zin_of zc1 (i := 2) rfl rfl), (zin_of zc1 (i := 60) rfl rfl), by decide +kernel, by decide +kernel⟩, (zin_of zc1 (i := 59) rfl rfl), (zin_of zc0 (i := 0) rfl rfl)⟩
set_option maxRecDepth 40000 in
theorem MV_Rec_bringAhead : zMV yRec_bringAhead hRec_bringAhead 1 := ⟨⟨(zin_of zc1 (i := 2) rfl rfl), (zin_of zc5 (i := 145) rfl rfl), by decide +kernel, by decide +kernel⟩, (zin_of zc5 (i := 144) rfl rfl), (zin_of zc0 (i := 52) rfl rfl)⟩
set_option maxRecDepth 40000 in
theorem MV_Rec_costBy : zMV yRec_costBy hRec_costBy 1 := ⟨⟨(zin_of zc1 (i := 2) rfl rfl), (zin_of zc3 (i := 105) rfl rfl), by decide +kernel, by decide +kernel⟩, (zin_of zc3 (i := 104) rfl rfl), (zin_of zc0 (i := 27) rfl rfl)⟩
set_option maxRecDepth 40000 in
theorem MV_Rec_boundBy : zMV yRec_boundBy hRec_boundBy 1 := ⟨⟨(zin_of zc1 (i := 2) rfl rfl), (zin_of zc3 (i := 101) rfl rfl), by decide +kernel, by decide +kernel⟩, (zin_of zc3 (i := 100) rfl rfl), (zin_of zc0 (i := 26) rfl rfl)⟩
set_option maxRecDepth 40000 in
theorem MI_Row_init : zMI yRow_init hRow_init 0 := ⟨⟨(zin_of zc1 (i := 3) rfl rfl), (zin_of zc1 (i := 46) rfl rfl), by decide +kernel, by decide +kernel⟩, (zin_of zc1 (i := 45) rfl rfl), rfl, rfl⟩
set_option maxRecDepth 40000 in
theorem MV_Row_hasPlace : zMV yRow_hasPlace hRow_hasPlace 1 := ⟨⟨(zin_of zc1 (i := 3) rfl rfl), (zin_of zc3 (i := 37) rfl rfl), by decide +kernel, by decide +kernel⟩, (zin_of zc3 (i := 36) rfl rfl), (zin_of zc0 (i := 12) rfl rfl)⟩
set_option maxRecDepth 40000 in
theorem MV_Row_hasGap : zMV yRow_hasGap hRow_hasGap 1 := ⟨⟨(zin_of zc1 (i := 3) rfl rfl), (zin_of zc1 (i := 76) rfl rfl), by decide +kernel, by decide +kernel⟩, (zin_of zc1 (i := 75) rfl rfl), (zin_of zc0 (i := 4) rfl rfl)⟩
set_option maxRecDepth 40000 in
theorem MV_Row_itemAt : zMV yRow_itemAt hRow_itemAt 1 := ⟨⟨(zin_of zc1 (i := 3) rfl rfl), (zin_of zc3 (i := 33) rfl rfl), by decide +kernel, by decide +kernel⟩, (zin_of zc3 (i := 32) rfl rfl), (zin_of zc0 (i := 11) rfl rfl)⟩
set_option maxRecDepth 40000 in
theorem MV_Row_changeAt : zMV yRow_changeAt hRow_changeAt 2 := ⟨⟨(zin_of zc1 (i := 3) rfl rfl), (zin_of zc3 (i := 41) rfl rfl), by decide +kernel, by decide +kernel⟩, (zin_of zc3 (i := 40) rfl rfl), (zin_of zc0 (i := 13) rfl rfl)⟩
set_option maxRecDepth 40000 in
theorem MV_Row_putIn : zMV yRow_putIn hRow_putIn 2 := ⟨⟨(zin_of zc1 (i := 3) rfl rfl), (zin_of zc1 (i := 72) rfl rfl), by decide +kernel, by decide +kernel⟩, (zin_of zc1 (i := 71) rfl rfl), (zin_of zc0 (i := 3) rfl rfl)⟩
set_option maxRecDepth 40000 in
theorem MV_Row_takeOut : zMV yRow_takeOut hRow_takeOut 1 := ⟨⟨(zin_of zc1 (i := 3) rfl rfl), (zin_of zc3 (i := 56) rfl rfl), by decide +kernel, by decide +kernel⟩, (zin_of zc3 (i := 55) rfl rfl), (zin_of zc0 (i := 16) rfl rfl)⟩
set_option maxRecDepth 40000 in
theorem MV_Row_takeOutAll : zMV yRow_takeOutAll hRow_takeOutAll 1 := ⟨⟨(zin_of zc1 (i := 3) rfl rfl), (zin_of zc4 (i := 82) rfl rfl), by decide +kernel, by decide +kernel⟩, (zin_of zc4 (i := 81) rfl rfl), (zin_of zc0 (i := 42) rfl rfl)⟩
set_option maxRecDepth 40000 in
theorem MV_Row_placeOf : zMV yRow_placeOf hRow_placeOf 2 := ⟨⟨(zin_of zc1 (i := 3) rfl rfl), (zin_of zc3 (i := 97) rfl rfl), by decide +kernel, by decide +kernel⟩, (zin_of zc3 (i := 96) rfl rfl), (zin_of zc0 (i := 25) rfl rfl)⟩
set_option maxRecDepth 40000 in
theorem MV_Row_lastNotZero : zMV yRow_lastNotZero hRow_lastNotZero 0 := ⟨⟨(zin_of zc1 (i := 3) rfl rfl), (zin_of zc3 (i := 155) rfl rfl), by decide +kernel, by decide +kernel⟩, (zin_of zc3 (i := 154) rfl rfl), (zin_of zc0 (i := 32) rfl rfl)⟩
set_option maxRecDepth 40000 in
theorem MV_Row_isAs : zMV yRow_isAs hRow_isAs 1 := ⟨⟨(zin_of zc1 (i := 3) rfl rfl), (zin_of zc3 (i := 45) rfl rfl), by decide +kernel, by decide +kernel⟩, (zin_of zc3 (i := 44) rfl rfl), (zin_of zc0 (i := 14) rfl rfl)⟩
set_option maxRecDepth 40000 in
theorem MV_Row_joined : zMV yRow_joined hRow_joined 1 := ⟨⟨(zin_of zc1 (i := 3) rfl rfl), (zin_of zc1 (i := 155) rfl rfl), by decide +kernel, by decide +kernel⟩, (zin_of zc1 (i := 154) rfl rfl), (zin_of zc0 (i := 5) rfl rfl)⟩
set_option maxRecDepth 40000 in
theorem MV_Row_exchange : zMV yRow_exchange hRow_exchange 2 := ⟨⟨(zin_of zc1 (i := 3) rfl rfl), (zin_of zc3 (i := 29) rfl rfl), by decide +kernel, by decide +kernel⟩, (zin_of zc3 (i := 28) rfl rfl), (zin_of zc0 (i := 10) rfl rfl)⟩
set_option maxRecDepth 40000 in
theorem MV_Row_turnRound : zMV yRow_turnRound hRow_turnRound 0 := ⟨⟨(zin_of zc1 (i := 3) rfl rfl), (zin_of zc3 (i := 25) rfl rfl), by decide +kernel, by decide +kernel⟩, (zin_of zc3 (i := 24) rfl rfl), (zin_of zc0 (i := 9) rfl rfl)⟩
set_option maxRecDepth 40000 in
theorem MV_Row_turnBy : zMV yRow_turnBy hRow_turnBy 1 := ⟨⟨(zin_of zc1 (i := 3) rfl rfl), (zin_of zc3 (i := 49) rfl rfl), by decide +kernel, by decide +kernel⟩, (zin_of zc3 (i := 48) rfl rfl), (zin_of zc0 (i := 15) rfl rfl)⟩
set_option maxRecDepth 40000 in
theorem MV_Row_become : zMV yRow_become hRow_become 1 := ⟨⟨(zin_of zc1 (i := 3) rfl rfl), (zin_of zc3 (i := 21) rfl rfl), by decide +kernel, by decide +kernel⟩, (zin_of zc3 (i := 20) rfl rfl), (zin_of zc0 (i := 8) rfl rfl)⟩
set_option maxRecDepth 40000 in
theorem MV_Row_becomePlaces : zMV yRow_becomePlaces hRow_becomePlaces 1 := ⟨⟨(zin_of zc1 (i := 3) rfl rfl), (zin_of zc1 (i := 64) rfl rfl), by decide +kernel, by decide +kernel⟩, (zin_of zc1 (i := 63) rfl rfl), (zin_of zc0 (i := 1) rfl rfl)⟩
set_option maxRecDepth 40000 in
theorem MV_Row_addBehind : zMV yRow_addBehind hRow_addBehind 1 := ⟨⟨(zin_of zc1 (i := 3) rfl rfl), (zin_of zc1 (i := 68) rfl rfl), by decide +kernel, by decide +kernel⟩, (zin_of zc1 (i := 67) rfl rfl), (zin_of zc0 (i := 2) rfl rfl)⟩
set_option maxRecDepth 40000 in
theorem MV_Row_becomeJoined : zMV yRow_becomeJoined hRow_becomeJoined 3 := ⟨⟨(zin_of zc1 (i := 3) rfl rfl), (zin_of zc4 (i := 128) rfl rfl), by decide +kernel, by decide +kernel⟩, (zin_of zc4 (i := 127) rfl rfl), (zin_of zc0 (i := 43) rfl rfl)⟩
set_option maxRecDepth 40000 in
theorem MV_Row_becomeThrough : zMV yRow_becomeThrough hRow_becomeThrough 2 := ⟨⟨(zin_of zc1 (i := 3) rfl rfl), (zin_of zc4 (i := 198) rfl rfl), by decide +kernel, by decide +kernel⟩, (zin_of zc4 (i := 197) rfl rfl), (zin_of zc0 (i := 45) rfl rfl)⟩
set_option maxRecDepth 40000 in
theorem MV_Row_becomeSum : zMV yRow_becomeSum hRow_becomeSum 2 := ⟨⟨(zin_of zc1 (i := 3) rfl rfl), (zin_of zc3 (i := 64) rfl rfl), by decide +kernel, by decide +kernel⟩, (zin_of zc3 (i := 63) rfl rfl), (zin_of zc0 (i := 18) rfl rfl)⟩
set_option maxRecDepth 40000 in
theorem MV_Row_becomeProduct : zMV yRow_becomeProduct hRow_becomeProduct 2 := ⟨⟨(zin_of zc1 (i := 3) rfl rfl), (zin_of zc3 (i := 82) rfl rfl), by decide +kernel, by decide +kernel⟩, (zin_of zc3 (i := 81) rfl rfl), (zin_of zc0 (i := 22) rfl rfl)⟩
set_option maxRecDepth 40000 in
theorem MS_Row_coefficientOfProduct : zMS yRow_coefficientOfProduct hRow_coefficientOfProduct 3 := ⟨⟨(zin_of zc1 (i := 3) rfl rfl), (zin_of zc3 (i := 85) rfl rfl), by decide +kernel, by decide +kernel⟩, (zin_of zc3 (i := 84) rfl rfl)⟩
set_option maxRecDepth 40000 in
theorem MV_Row_becomeDerived : zMV yRow_becomeDerived hRow_becomeDerived 1 := ⟨⟨(zin_of zc1 (i := 3) rfl rfl), (zin_of zc5 (i := 119) rfl rfl), by decide +kernel, by decide +kernel⟩, (zin_of zc5 (i := 118) rfl rfl), (zin_of zc0 (i := 51) rfl rfl)⟩
set_option maxRecDepth 40000 in
theorem MV_Row_restAt : zMV yRow_restAt hRow_restAt 1 := ⟨⟨(zin_of zc1 (i := 3) rfl rfl), (zin_of zc3 (i := 77) rfl rfl), by decide +kernel, by decide +kernel⟩, (zin_of zc3 (i := 76) rfl rfl), (zin_of zc0 (i := 21) rfl rfl)⟩
set_option maxRecDepth 40000 in
theorem MV_Row_isOrder : zMV yRow_isOrder hRow_isOrder 0 := ⟨⟨(zin_of zc1 (i := 3) rfl rfl), (zin_of zc3 (i := 93) rfl rfl), by decide +kernel, by decide +kernel⟩, (zin_of zc3 (i := 92) rfl rfl), (zin_of zc0 (i := 24) rfl rfl)⟩
set_option maxRecDepth 40000 in
theorem MV_Row_inversions : zMV yRow_inversions hRow_inversions 0 := ⟨⟨(zin_of zc1 (i := 3) rfl rfl), (zin_of zc3 (i := 110) rfl rfl), by decide +kernel, by decide +kernel⟩, (zin_of zc3 (i := 109) rfl rfl), (zin_of zc0 (i := 28) rfl rfl)⟩
set_option maxRecDepth 40000 in
theorem MI_Cls_init : zMI yCls_init hCls_init 0 := ⟨⟨(zin_of zc1 (i := 1) rfl rfl), (zin_of zc1 (i := 28) rfl rfl), by decide +kernel, by decide +kernel⟩, (zin_of zc1 (i := 27) rfl rfl), rfl, rfl⟩
set_option maxRecDepth 40000 in
theorem MV_Cls_put : zMV yCls_put hCls_put 3 := ⟨⟨(zin_of zc1 (i := 1) rfl rfl), (zin_of zc3 (i := 225) rfl rfl), by decide +kernel, by decide +kernel⟩, (zin_of zc3 (i := 223) rfl rfl), (zin_of zc3 (i := 224) rfl rfl)⟩
set_option maxRecDepth 40000 in
theorem MV_Cls_take : zMV yCls_take hCls_take 2 := ⟨⟨(zin_of zc1 (i := 1) rfl rfl), (zin_of zc4 (i := 9) rfl rfl), by decide +kernel, by decide +kernel⟩, (zin_of zc4 (i := 7) rfl rfl), (zin_of zc4 (i := 8) rfl rfl)⟩
set_option maxRecDepth 40000 in
theorem MV_Cls_look : zMV yCls_look hCls_look 2 := ⟨⟨(zin_of zc1 (i := 1) rfl rfl), (zin_of zc4 (i := 24) rfl rfl), by decide +kernel, by decide +kernel⟩, (zin_of zc4 (i := 22) rfl rfl), (zin_of zc4 (i := 23) rfl rfl)⟩
set_option maxRecDepth 40000 in
theorem MV_Cls_get : zMV yCls_get hCls_get 2 := ⟨⟨(zin_of zc1 (i := 1) rfl rfl), (zin_of zc4 (i := 31) rfl rfl), by decide +kernel, by decide +kernel⟩, (zin_of zc4 (i := 29) rfl rfl), (zin_of zc4 (i := 30) rfl rfl)⟩
set_option maxRecDepth 40000 in
theorem MV_Cls_set : zMV yCls_set hCls_set 3 := ⟨⟨(zin_of zc1 (i := 1) rfl rfl), (zin_of zc4 (i := 43) rfl rfl), by decide +kernel, by decide +kernel⟩, (zin_of zc4 (i := 41) rfl rfl), (zin_of zc4 (i := 42) rfl rfl)⟩
set_option maxRecDepth 40000 in
theorem MV_Cls_insert : zMV yCls_insert hCls_insert 3 := ⟨⟨(zin_of zc1 (i := 1) rfl rfl), (zin_of zc4 (i := 51) rfl rfl), by decide +kernel, by decide +kernel⟩, (zin_of zc4 (i := 49) rfl rfl), (zin_of zc4 (i := 50) rfl rfl)⟩
set_option maxRecDepth 40000 in
theorem MV_Cls_removeAt : zMV yCls_removeAt hCls_removeAt 2 := ⟨⟨(zin_of zc1 (i := 1) rfl rfl), (zin_of zc4 (i := 63) rfl rfl), by decide +kernel, by decide +kernel⟩, (zin_of zc4 (i := 61) rfl rfl), (zin_of zc4 (i := 62) rfl rfl)⟩
set_option maxRecDepth 40000 in
theorem MV_Cls_drop : zMV yCls_drop hCls_drop 3 := ⟨⟨(zin_of zc1 (i := 1) rfl rfl), (zin_of zc4 (i := 70) rfl rfl), by decide +kernel, by decide +kernel⟩, (zin_of zc4 (i := 68) rfl rfl), (zin_of zc4 (i := 69) rfl rfl)⟩
set_option maxRecDepth 40000 in
theorem MV_Cls_thin : zMV yCls_thin hCls_thin 2 := ⟨⟨(zin_of zc1 (i := 1) rfl rfl), (zin_of zc4 (i := 78) rfl rfl), by decide +kernel, by decide +kernel⟩, (zin_of zc4 (i := 76) rfl rfl), (zin_of zc4 (i := 77) rfl rfl)⟩
set_option maxRecDepth 40000 in
theorem MV_Cls_indexOf : zMV yCls_indexOf hCls_indexOf 3 := ⟨⟨(zin_of zc1 (i := 1) rfl rfl), (zin_of zc4 (i := 89) rfl rfl), by decide +kernel, by decide +kernel⟩, (zin_of zc4 (i := 87) rfl rfl), (zin_of zc4 (i := 88) rfl rfl)⟩
set_option maxRecDepth 40000 in
theorem MV_Cls_has : zMV yCls_has hCls_has 2 := ⟨⟨(zin_of zc1 (i := 1) rfl rfl), (zin_of zc4 (i := 96) rfl rfl), by decide +kernel, by decide +kernel⟩, (zin_of zc4 (i := 94) rfl rfl), (zin_of zc4 (i := 95) rfl rfl)⟩
set_option maxRecDepth 40000 in
theorem MV_Cls_size : zMV yCls_size hCls_size 1 := ⟨⟨(zin_of zc1 (i := 1) rfl rfl), (zin_of zc4 (i := 103) rfl rfl), by decide +kernel, by decide +kernel⟩, (zin_of zc4 (i := 101) rfl rfl), (zin_of zc4 (i := 102) rfl rfl)⟩
set_option maxRecDepth 40000 in
theorem MV_Cls_text : zMV yCls_text hCls_text 2 := ⟨⟨(zin_of zc1 (i := 1) rfl rfl), (zin_of zc4 (i := 110) rfl rfl), by decide +kernel, by decide +kernel⟩, (zin_of zc4 (i := 108) rfl rfl), (zin_of zc4 (i := 109) rfl rfl)⟩
set_option maxRecDepth 40000 in
theorem MV_Cls_clear : zMV yCls_clear hCls_clear 1 := ⟨⟨(zin_of zc1 (i := 1) rfl rfl), (zin_of zc4 (i := 117) rfl rfl), by decide +kernel, by decide +kernel⟩, (zin_of zc4 (i := 115) rfl rfl), (zin_of zc4 (i := 116) rfl rfl)⟩
set_option maxRecDepth 40000 in
theorem MV_Cls_append : zMV yCls_append hCls_append 2 := ⟨⟨(zin_of zc1 (i := 1) rfl rfl), (zin_of zc4 (i := 124) rfl rfl), by decide +kernel, by decide +kernel⟩, (zin_of zc4 (i := 122) rfl rfl), (zin_of zc4 (i := 123) rfl rfl)⟩
set_option maxRecDepth 40000 in
theorem MV_Cls_appendAt : zMV yCls_appendAt hCls_appendAt 3 := ⟨⟨(zin_of zc1 (i := 1) rfl rfl), (zin_of zc4 (i := 140) rfl rfl), by decide +kernel, by decide +kernel⟩, (zin_of zc4 (i := 138) rfl rfl), (zin_of zc4 (i := 139) rfl rfl)⟩
set_option maxRecDepth 40000 in
theorem MV_Cls_copy : zMV yCls_copy hCls_copy 2 := ⟨⟨(zin_of zc1 (i := 1) rfl rfl), (zin_of zc4 (i := 147) rfl rfl), by decide +kernel, by decide +kernel⟩, (zin_of zc4 (i := 145) rfl rfl), (zin_of zc4 (i := 146) rfl rfl)⟩
set_option maxRecDepth 40000 in
theorem MV_Cls_places : zMV yCls_places hCls_places 2 := ⟨⟨(zin_of zc1 (i := 1) rfl rfl), (zin_of zc4 (i := 154) rfl rfl), by decide +kernel, by decide +kernel⟩, (zin_of zc4 (i := 152) rfl rfl), (zin_of zc4 (i := 153) rfl rfl)⟩
set_option maxRecDepth 40000 in
theorem MV_Cls_rotate : zMV yCls_rotate hCls_rotate 2 := ⟨⟨(zin_of zc1 (i := 1) rfl rfl), (zin_of zc4 (i := 162) rfl rfl), by decide +kernel, by decide +kernel⟩, (zin_of zc4 (i := 160) rfl rfl), (zin_of zc4 (i := 161) rfl rfl)⟩
set_option maxRecDepth 40000 in
theorem MV_Cls_move : zMV yCls_move hCls_move 3 := ⟨⟨(zin_of zc1 (i := 1) rfl rfl), (zin_of zc4 (i := 172) rfl rfl), by decide +kernel, by decide +kernel⟩, (zin_of zc4 (i := 170) rfl rfl), (zin_of zc4 (i := 171) rfl rfl)⟩
set_option maxRecDepth 40000 in
theorem MV_Cls_swap : zMV yCls_swap hCls_swap 3 := ⟨⟨(zin_of zc1 (i := 1) rfl rfl), (zin_of zc4 (i := 179) rfl rfl), by decide +kernel, by decide +kernel⟩, (zin_of zc4 (i := 177) rfl rfl), (zin_of zc4 (i := 178) rfl rfl)⟩
set_option maxRecDepth 40000 in
theorem MV_Cls_reverse : zMV yCls_reverse hCls_reverse 1 := ⟨⟨(zin_of zc1 (i := 1) rfl rfl), (zin_of zc4 (i := 187) rfl rfl), by decide +kernel, by decide +kernel⟩, (zin_of zc4 (i := 185) rfl rfl), (zin_of zc4 (i := 186) rfl rfl)⟩
set_option maxRecDepth 40000 in
theorem MV_Cls_through : zMV yCls_through hCls_through 3 := ⟨⟨(zin_of zc1 (i := 1) rfl rfl), (zin_of zc4 (i := 194) rfl rfl), by decide +kernel, by decide +kernel⟩, (zin_of zc4 (i := 192) rfl rfl), (zin_of zc4 (i := 193) rfl rfl)⟩
set_option maxRecDepth 40000 in
theorem MV_Cls_areSame : zMV yCls_areSame hCls_areSame 2 := ⟨⟨(zin_of zc1 (i := 1) rfl rfl), (zin_of zc4 (i := 205) rfl rfl), by decide +kernel, by decide +kernel⟩, (zin_of zc4 (i := 203) rfl rfl), (zin_of zc4 (i := 204) rfl rfl)⟩
set_option maxRecDepth 40000 in
theorem MV_Cls_isMirror : zMV yCls_isMirror hCls_isMirror 1 := ⟨⟨(zin_of zc1 (i := 1) rfl rfl), (zin_of zc4 (i := 212) rfl rfl), by decide +kernel, by decide +kernel⟩, (zin_of zc4 (i := 210) rfl rfl), (zin_of zc4 (i := 211) rfl rfl)⟩
set_option maxRecDepth 40000 in
theorem MV_Cls_open : zMV yCls_open hCls_open 3 := ⟨⟨(zin_of zc1 (i := 1) rfl rfl), (zin_of zc4 (i := 219) rfl rfl), by decide +kernel, by decide +kernel⟩, (zin_of zc4 (i := 217) rfl rfl), (zin_of zc4 (i := 218) rfl rfl)⟩
set_option maxRecDepth 40000 in
theorem MV_Cls_shut : zMV yCls_shut hCls_shut 1 := ⟨⟨(zin_of zc1 (i := 1) rfl rfl), (zin_of zc4 (i := 230) rfl rfl), by decide +kernel, by decide +kernel⟩, (zin_of zc4 (i := 228) rfl rfl), (zin_of zc4 (i := 229) rfl rfl)⟩
set_option maxRecDepth 40000 in
theorem MV_Cls_forth : zMV yCls_forth hCls_forth 1 := ⟨⟨(zin_of zc1 (i := 1) rfl rfl), (zin_of zc4 (i := 238) rfl rfl), by decide +kernel, by decide +kernel⟩, (zin_of zc4 (i := 236) rfl rfl), (zin_of zc4 (i := 237) rfl rfl)⟩
set_option maxRecDepth 40000 in
theorem MV_Cls_back : zMV yCls_back hCls_back 1 := ⟨⟨(zin_of zc1 (i := 1) rfl rfl), (zin_of zc5 (i := 30) rfl rfl), by decide +kernel, by decide +kernel⟩, (zin_of zc5 (i := 28) rfl rfl), (zin_of zc5 (i := 29) rfl rfl)⟩
set_option maxRecDepth 40000 in
theorem MV_Cls_puts : zMV yCls_puts hCls_puts 2 := ⟨⟨(zin_of zc1 (i := 1) rfl rfl), (zin_of zc5 (i := 41) rfl rfl), by decide +kernel, by decide +kernel⟩, (zin_of zc5 (i := 39) rfl rfl), (zin_of zc5 (i := 40) rfl rfl)⟩
set_option maxRecDepth 40000 in
theorem MV_Cls_cuts : zMV yCls_cuts hCls_cuts 1 := ⟨⟨(zin_of zc1 (i := 1) rfl rfl), (zin_of zc5 (i := 53) rfl rfl), by decide +kernel, by decide +kernel⟩, (zin_of zc5 (i := 51) rfl rfl), (zin_of zc5 (i := 52) rfl rfl)⟩
set_option maxRecDepth 40000 in
theorem MV_Cls_changes : zMV yCls_changes hCls_changes 2 := ⟨⟨(zin_of zc1 (i := 1) rfl rfl), (zin_of zc5 (i := 65) rfl rfl), by decide +kernel, by decide +kernel⟩, (zin_of zc5 (i := 63) rfl rfl), (zin_of zc5 (i := 64) rfl rfl)⟩
set_option maxRecDepth 40000 in
theorem MV_Cls_meet : zMV yCls_meet hCls_meet 2 := ⟨⟨(zin_of zc1 (i := 1) rfl rfl), (zin_of zc5 (i := 72) rfl rfl), by decide +kernel, by decide +kernel⟩, (zin_of zc5 (i := 70) rfl rfl), (zin_of zc5 (i := 71) rfl rfl)⟩
set_option maxRecDepth 40000 in
theorem MV_Cls_ofCursor : zMV yCls_ofCursor hCls_ofCursor 2 := ⟨⟨(zin_of zc1 (i := 1) rfl rfl), (zin_of zc3 (i := 159) rfl rfl), by decide +kernel, by decide +kernel⟩, (zin_of zc3 (i := 157) rfl rfl), (zin_of zc3 (i := 158) rfl rfl)⟩
set_option maxRecDepth 40000 in
theorem MV_Cls_plus : zMV yCls_plus hCls_plus 2 := ⟨⟨(zin_of zc1 (i := 1) rfl rfl), (zin_of zc5 (i := 87) rfl rfl), by decide +kernel, by decide +kernel⟩, (zin_of zc5 (i := 85) rfl rfl), (zin_of zc5 (i := 86) rfl rfl)⟩
set_option maxRecDepth 40000 in
theorem MV_Cls_times : zMV yCls_times hCls_times 2 := ⟨⟨(zin_of zc1 (i := 1) rfl rfl), (zin_of zc5 (i := 94) rfl rfl), by decide +kernel, by decide +kernel⟩, (zin_of zc5 (i := 92) rfl rfl), (zin_of zc5 (i := 93) rfl rfl)⟩
set_option maxRecDepth 40000 in
theorem MV_Cls_shift : zMV yCls_shift hCls_shift 1 := ⟨⟨(zin_of zc1 (i := 1) rfl rfl), (zin_of zc5 (i := 101) rfl rfl), by decide +kernel, by decide +kernel⟩, (zin_of zc5 (i := 99) rfl rfl), (zin_of zc5 (i := 100) rfl rfl)⟩
set_option maxRecDepth 40000 in
theorem MV_Cls_trim : zMV yCls_trim hCls_trim 1 := ⟨⟨(zin_of zc1 (i := 1) rfl rfl), (zin_of zc5 (i := 108) rfl rfl), by decide +kernel, by decide +kernel⟩, (zin_of zc5 (i := 106) rfl rfl), (zin_of zc5 (i := 107) rfl rfl)⟩
set_option maxRecDepth 40000 in
theorem MV_Cls_derive : zMV yCls_derive hCls_derive 1 := ⟨⟨(zin_of zc1 (i := 1) rfl rfl), (zin_of zc5 (i := 115) rfl rfl), by decide +kernel, by decide +kernel⟩, (zin_of zc5 (i := 113) rfl rfl), (zin_of zc5 (i := 114) rfl rfl)⟩
set_option maxRecDepth 40000 in
theorem MV_Cls_value : zMV yCls_value hCls_value 2 := ⟨⟨(zin_of zc1 (i := 1) rfl rfl), (zin_of zc5 (i := 126) rfl rfl), by decide +kernel, by decide +kernel⟩, (zin_of zc5 (i := 124) rfl rfl), (zin_of zc5 (i := 125) rfl rfl)⟩
set_option maxRecDepth 40000 in
theorem MV_Cls_degree : zMV yCls_degree hCls_degree 1 := ⟨⟨(zin_of zc1 (i := 1) rfl rfl), (zin_of zc5 (i := 133) rfl rfl), by decide +kernel, by decide +kernel⟩, (zin_of zc5 (i := 131) rfl rfl), (zin_of zc5 (i := 132) rfl rfl)⟩
set_option maxRecDepth 40000 in
theorem MV_Cls_ask : zMV yCls_ask hCls_ask 1 := ⟨⟨(zin_of zc1 (i := 1) rfl rfl), (zin_of zc5 (i := 140) rfl rfl), by decide +kernel, by decide +kernel⟩, (zin_of zc5 (i := 138) rfl rfl), (zin_of zc5 (i := 139) rfl rfl)⟩
set_option maxRecDepth 40000 in
theorem MV_Cls_forget : zMV yCls_forget hCls_forget 0 := ⟨⟨(zin_of zc1 (i := 1) rfl rfl), (zin_of zc1 (i := 146) rfl rfl), by decide +kernel, by decide +kernel⟩, (zin_of zc1 (i := 144) rfl rfl), (zin_of zc1 (i := 145) rfl rfl)⟩
set_option maxRecDepth 40000 in
theorem MV_Cls_asked : zMV yCls_asked hCls_asked 1 := ⟨⟨(zin_of zc1 (i := 1) rfl rfl), (zin_of zc3 (i := 196) rfl rfl), by decide +kernel, by decide +kernel⟩, (zin_of zc3 (i := 194) rfl rfl), (zin_of zc3 (i := 195) rfl rfl)⟩
set_option maxRecDepth 40000 in
theorem MV_Cls_recent : zMV yCls_recent hCls_recent 0 := ⟨⟨(zin_of zc1 (i := 1) rfl rfl), (zin_of zc1 (i := 151) rfl rfl), by decide +kernel, by decide +kernel⟩, (zin_of zc1 (i := 149) rfl rfl), (zin_of zc1 (i := 150) rfl rfl)⟩
set_option maxRecDepth 40000 in
theorem MV_Cls_byOrder : zMV yCls_byOrder hCls_byOrder 2 := ⟨⟨(zin_of zc1 (i := 1) rfl rfl), (zin_of zc5 (i := 158) rfl rfl), by decide +kernel, by decide +kernel⟩, (zin_of zc5 (i := 156) rfl rfl), (zin_of zc5 (i := 157) rfl rfl)⟩
set_option maxRecDepth 40000 in
theorem MV_Cls_house : zMV yCls_house hCls_house 1 := ⟨⟨(zin_of zc1 (i := 1) rfl rfl), (zin_of zc3 (i := 119) rfl rfl), by decide +kernel, by decide +kernel⟩, (zin_of zc3 (i := 117) rfl rfl), (zin_of zc3 (i := 118) rfl rfl)⟩
set_option maxRecDepth 40000 in
theorem MV_Cls_knock : zMV yCls_knock hCls_knock 0 := ⟨⟨(zin_of zc1 (i := 1) rfl rfl), (zin_of zc3 (i := 9) rfl rfl), by decide +kernel, by decide +kernel⟩, (zin_of zc3 (i := 7) rfl rfl), (zin_of zc3 (i := 8) rfl rfl)⟩
set_option maxRecDepth 40000 in
theorem MV_Cls_isSound : zMV yCls_isSound hCls_isSound 0 := ⟨⟨(zin_of zc1 (i := 1) rfl rfl), (zin_of zc3 (i := 13) rfl rfl), by decide +kernel, by decide +kernel⟩, (zin_of zc3 (i := 11) rfl rfl), (zin_of zc3 (i := 12) rfl rfl)⟩
set_option maxRecDepth 40000 in
theorem MV_Cls_digest : zMV yCls_digest hCls_digest 0 := ⟨⟨(zin_of zc1 (i := 1) rfl rfl), (zin_of zc3 (i := 114) rfl rfl), by decide +kernel, by decide +kernel⟩, (zin_of zc3 (i := 112) rfl rfl), (zin_of zc3 (i := 113) rfl rfl)⟩
set_option maxRecDepth 40000 in
theorem MV_Cls_listAt : zMV yCls_listAt hCls_listAt 1 := ⟨⟨(zin_of zc1 (i := 1) rfl rfl), (zin_of zc3 (i := 191) rfl rfl), by decide +kernel, by decide +kernel⟩, (zin_of zc3 (i := 190) rfl rfl), (zin_of zc0 (i := 36) rfl rfl)⟩
set_option maxRecDepth 40000 in
theorem MV_Cls_cursorAt : zMV yCls_cursorAt hCls_cursorAt 1 := ⟨⟨(zin_of zc1 (i := 1) rfl rfl), (zin_of zc3 (i := 163) rfl rfl), by decide +kernel, by decide +kernel⟩, (zin_of zc3 (i := 162) rfl rfl), (zin_of zc0 (i := 33) rfl rfl)⟩
set_option maxRecDepth 40000 in
theorem MS_Cls_demandPlace : zMS yCls_demandPlace hCls_demandPlace 2 := ⟨⟨(zin_of zc1 (i := 1) rfl rfl), (zin_of zc4 (i := 34) rfl rfl), by decide +kernel, by decide +kernel⟩, (zin_of zc4 (i := 33) rfl rfl)⟩
set_option maxRecDepth 40000 in
theorem MS_Cls_demandGap : zMS yCls_demandGap hCls_demandGap 2 := ⟨⟨(zin_of zc1 (i := 1) rfl rfl), (zin_of zc4 (i := 54) rfl rfl), by decide +kernel, by decide +kernel⟩, (zin_of zc4 (i := 53) rfl rfl)⟩
set_option maxRecDepth 40000 in
theorem MS_Cls_demandWithin : zMS yCls_demandWithin hCls_demandWithin 3 := ⟨⟨(zin_of zc1 (i := 1) rfl rfl), (zin_of zc3 (i := 122) rfl rfl), by decide +kernel, by decide +kernel⟩, (zin_of zc3 (i := 121) rfl rfl)⟩
set_option maxRecDepth 40000 in
theorem MS_Cls_demandItem : zMS yCls_demandItem hCls_demandItem 1 := ⟨⟨(zin_of zc1 (i := 1) rfl rfl), (zin_of zc3 (i := 228) rfl rfl), by decide +kernel, by decide +kernel⟩, (zin_of zc3 (i := 227) rfl rfl)⟩
set_option maxRecDepth 40000 in
theorem MS_Cls_demandThere : zMS yCls_demandThere hCls_demandThere 1 := ⟨⟨(zin_of zc1 (i := 1) rfl rfl), (zin_of zc5 (i := 1) rfl rfl), by decide +kernel, by decide +kernel⟩, (zin_of zc5 (i := 0) rfl rfl)⟩
set_option maxRecDepth 40000 in
theorem MV_Cls_refuse : zMV yCls_refuse hCls_refuse 0 := ⟨⟨(zin_of zc1 (i := 1) rfl rfl), (zin_of zc3 (i := 237) rfl rfl), by decide +kernel, by decide +kernel⟩, (zin_of zc3 (i := 236) rfl rfl), (zin_of zc0 (i := 39) rfl rfl)⟩
set_option maxRecDepth 40000 in
theorem MV_Cls_makeStale : zMV yCls_makeStale hCls_makeStale 2 := ⟨⟨(zin_of zc1 (i := 1) rfl rfl), (zin_of zc4 (i := 2) rfl rfl), by decide +kernel, by decide +kernel⟩, (zin_of zc4 (i := 1) rfl rfl), (zin_of zc0 (i := 40) rfl rfl)⟩
set_option maxRecDepth 40000 in
theorem MV_Cls_putInto : zMV yCls_putInto hCls_putInto 3 := ⟨⟨(zin_of zc1 (i := 1) rfl rfl), (zin_of zc3 (i := 232) rfl rfl), by decide +kernel, by decide +kernel⟩, (zin_of zc3 (i := 231) rfl rfl), (zin_of zc0 (i := 38) rfl rfl)⟩
set_option maxRecDepth 40000 in
theorem MV_Cls_takeFrom : zMV yCls_takeFrom hCls_takeFrom 2 := ⟨⟨(zin_of zc1 (i := 1) rfl rfl), (zin_of zc4 (i := 16) rfl rfl), by decide +kernel, by decide +kernel⟩, (zin_of zc4 (i := 15) rfl rfl), (zin_of zc0 (i := 41) rfl rfl)⟩
set_option maxRecDepth 40000 in
theorem MV_Cls_becomeResult : zMV yCls_becomeResult hCls_becomeResult 2 := ⟨⟨(zin_of zc1 (i := 1) rfl rfl), (zin_of zc4 (i := 133) rfl rfl), by decide +kernel, by decide +kernel⟩, (zin_of zc4 (i := 132) rfl rfl), (zin_of zc0 (i := 44) rfl rfl)⟩
set_option maxRecDepth 40000 in
theorem MS_Cls_endOf : zMS yCls_endOf hCls_endOf 2 := ⟨⟨(zin_of zc1 (i := 1) rfl rfl), (zin_of zc4 (i := 12) rfl rfl), by decide +kernel, by decide +kernel⟩, (zin_of zc4 (i := 11) rfl rfl)⟩
set_option maxRecDepth 40000 in
theorem MS_Cls_firstOf : zMS yCls_firstOf hCls_firstOf 1 := ⟨⟨(zin_of zc1 (i := 1) rfl rfl), (zin_of zc4 (i := 165) rfl rfl), by decide +kernel, by decide +kernel⟩, (zin_of zc4 (i := 164) rfl rfl)⟩
set_option maxRecDepth 40000 in
theorem MS_Cls_numberOf : zMS yCls_numberOf hCls_numberOf 1 := ⟨⟨(zin_of zc1 (i := 1) rfl rfl), (zin_of zc3 (i := 136) rfl rfl), by decide +kernel, by decide +kernel⟩, (zin_of zc3 (i := 135) rfl rfl)⟩
set_option maxRecDepth 40000 in
theorem MV_Cls_rowUnder : zMV yCls_rowUnder hCls_rowUnder 1 := ⟨⟨(zin_of zc1 (i := 1) rfl rfl), (zin_of zc3 (i := 187) rfl rfl), by decide +kernel, by decide +kernel⟩, (zin_of zc3 (i := 186) rfl rfl), (zin_of zc0 (i := 35) rfl rfl)⟩
set_option maxRecDepth 40000 in
theorem MS_Cls_sumUntilMet : zMS yCls_sumUntilMet hCls_sumUntilMet 3 := ⟨⟨(zin_of zc1 (i := 1) rfl rfl), (zin_of zc5 (i := 76) rfl rfl), by decide +kernel, by decide +kernel⟩, (zin_of zc5 (i := 75) rfl rfl)⟩
set_option maxRecDepth 40000 in
theorem MV_Cls_whereIs : zMV yCls_whereIs hCls_whereIs 2 := ⟨⟨(zin_of zc1 (i := 1) rfl rfl), (zin_of zc3 (i := 183) rfl rfl), by decide +kernel, by decide +kernel⟩, (zin_of zc3 (i := 182) rfl rfl), (zin_of zc0 (i := 34) rfl rfl)⟩
set_option maxRecDepth 40000 in
theorem MV_Cls_itemsOfAll : zMV yCls_itemsOfAll hCls_itemsOfAll 0 := ⟨⟨(zin_of zc1 (i := 1) rfl rfl), (zin_of zc3 (i := 129) rfl rfl), by decide +kernel, by decide +kernel⟩, (zin_of zc3 (i := 128) rfl rfl), (zin_of zc0 (i := 29) rfl rfl)⟩
set_option maxRecDepth 40000 in
theorem MV_Cls_cursorsThere : zMV yCls_cursorsThere hCls_cursorsThere 0 := ⟨⟨(zin_of zc1 (i := 1) rfl rfl), (zin_of zc3 (i := 133) rfl rfl), by decide +kernel, by decide +kernel⟩, (zin_of zc3 (i := 132) rfl rfl), (zin_of zc0 (i := 30) rfl rfl)⟩
set_option maxRecDepth 40000 in
theorem MV_Cls_cursorsStale : zMV yCls_cursorsStale hCls_cursorsStale 0 := ⟨⟨(zin_of zc1 (i := 1) rfl rfl), (zin_of zc3 (i := 140) rfl rfl), by decide +kernel, by decide +kernel⟩, (zin_of zc3 (i := 139) rfl rfl), (zin_of zc0 (i := 31) rfl rfl)⟩
set_option maxRecDepth 40000 in
theorem MV_Cls_turnsBack : zMV yCls_turnsBack hCls_turnsBack 1 := ⟨⟨(zin_of zc1 (i := 1) rfl rfl), (zin_of zc3 (i := 17) rfl rfl), by decide +kernel, by decide +kernel⟩, (zin_of zc3 (i := 16) rfl rfl), (zin_of zc0 (i := 7) rfl rfl)⟩
set_option maxRecDepth 40000 in
theorem MV_Cls_addsUp : zMV yCls_addsUp hCls_addsUp 2 := ⟨⟨(zin_of zc1 (i := 1) rfl rfl), (zin_of zc3 (i := 60) rfl rfl), by decide +kernel, by decide +kernel⟩, (zin_of zc3 (i := 59) rfl rfl), (zin_of zc0 (i := 17) rfl rfl)⟩
set_option maxRecDepth 40000 in
theorem MV_Cls_agreesWithResult : zMV yCls_agreesWithResult hCls_agreesWithResult 3 := ⟨⟨(zin_of zc1 (i := 1) rfl rfl), (zin_of zc3 (i := 69) rfl rfl), by decide +kernel, by decide +kernel⟩, (zin_of zc3 (i := 68) rfl rfl), (zin_of zc0 (i := 19) rfl rfl)⟩
set_option maxRecDepth 40000 in
theorem MV_Cls_isResultAt : zMV yCls_isResultAt hCls_isResultAt 4 := ⟨⟨(zin_of zc1 (i := 1) rfl rfl), (zin_of zc3 (i := 73) rfl rfl), by decide +kernel, by decide +kernel⟩, (zin_of zc3 (i := 72) rfl rfl), (zin_of zc0 (i := 20) rfl rfl)⟩
set_option maxRecDepth 40000 in
theorem MV_Cls_isRecencySound : zMV yCls_isRecencySound hCls_isRecencySound 0 := ⟨⟨(zin_of zc1 (i := 1) rfl rfl), (zin_of zc3 (i := 89) rfl rfl), by decide +kernel, by decide +kernel⟩, (zin_of zc3 (i := 88) rfl rfl), (zin_of zc0 (i := 23) rfl rfl)⟩
set_option maxRecDepth 40000 in
theorem MS_Cls_mixed : zMS yCls_mixed hCls_mixed 2 := ⟨⟨(zin_of zc1 (i := 1) rfl rfl), (zin_of zc3 (i := 143) rfl rfl), by decide +kernel, by decide +kernel⟩, (zin_of zc3 (i := 142) rfl rfl)⟩
set_option maxRecDepth 40000 in
theorem MS_Cls_mixedWithItems : zMS yCls_mixedWithItems hCls_mixedWithItems 2 := ⟨⟨(zin_of zc1 (i := 1) rfl rfl), (zin_of zc3 (i := 150) rfl rfl), by decide +kernel, by decide +kernel⟩, (zin_of zc3 (i := 149) rfl rfl)⟩
set_option maxRecDepth 40000 in
theorem MS_Cls_mixedWithList : zMS yCls_mixedWithList hCls_mixedWithList 2 := ⟨⟨(zin_of zc1 (i := 1) rfl rfl), (zin_of zc3 (i := 147) rfl rfl), by decide +kernel, by decide +kernel⟩, (zin_of zc3 (i := 146) rfl rfl)⟩
set_option maxRecDepth 40000 in
theorem MV_Cls_mixedWithOrder : zMV yCls_mixedWithOrder hCls_mixedWithOrder 2 := ⟨⟨(zin_of zc1 (i := 1) rfl rfl), (zin_of zc3 (i := 200) rfl rfl), by decide +kernel, by decide +kernel⟩, (zin_of zc3 (i := 199) rfl rfl), (zin_of zc0 (i := 37) rfl rfl)⟩
set_option maxRecDepth 40000 in
theorem MI_Out_init : zMI yOut_init hOut_init 0 := ⟨⟨(zin_of zc1 (i := 6) rfl rfl), (zin_of zc3 (i := 208) rfl rfl), by decide +kernel, by decide +kernel⟩, (zin_of zc3 (i := 207) rfl rfl), rfl, rfl⟩
set_option maxRecDepth 40000 in
theorem MI_Mod_init : zMI yMod_init hMod_init 0 := ⟨⟨(zin_of zc1 (i := 5) rfl rfl), (zin_of zc5 (i := 167) rfl rfl), by decide +kernel, by decide +kernel⟩, (zin_of zc5 (i := 166) rfl rfl), rfl, rfl⟩
set_option maxRecDepth 40000 in
theorem MV_Mod_thrown : zMV yMod_thrown hMod_thrown 0 := ⟨⟨(zin_of zc1 (i := 5) rfl rfl), (zin_of zc5 (i := 215) rfl rfl), by decide +kernel, by decide +kernel⟩, (zin_of zc5 (i := 213) rfl rfl), (zin_of zc5 (i := 214) rfl rfl)⟩
set_option maxRecDepth 40000 in
theorem MV_Mod_fails : zMV yMod_fails hMod_fails 3 := ⟨⟨(zin_of zc1 (i := 5) rfl rfl), (zin_of zc5 (i := 232) rfl rfl), by decide +kernel, by decide +kernel⟩, (zin_of zc5 (i := 231) rfl rfl), (zin_of zc0 (i := 53) rfl rfl)⟩
set_option maxRecDepth 40000 in
theorem MS_Mod_isOut : zMS yMod_isOut hMod_isOut 3 := ⟨⟨(zin_of zc1 (i := 5) rfl rfl), (zin_of zc5 (i := 225) rfl rfl), by decide +kernel, by decide +kernel⟩, (zin_of zc5 (i := 224) rfl rfl)⟩
set_option maxRecDepth 40000 in
theorem MS_Mod_isNo : zMS yMod_isNo hMod_isNo 1 := ⟨⟨(zin_of zc1 (i := 5) rfl rfl), (zin_of zc5 (i := 222) rfl rfl), by decide +kernel, by decide +kernel⟩, (zin_of zc5 (i := 221) rfl rfl)⟩
set_option maxRecDepth 40000 in
theorem MS_Mod_isNoCursor : zMS yMod_isNoCursor hMod_isNoCursor 1 := ⟨⟨(zin_of zc1 (i := 5) rfl rfl), (zin_of zc6 (i := 155) rfl rfl), by decide +kernel, by decide +kernel⟩, (zin_of zc6 (i := 154) rfl rfl)⟩
set_option maxRecDepth 40000 in
theorem MS_Mod_isNoItem : zMS yMod_isNoItem hMod_isNoItem 1 := ⟨⟨(zin_of zc1 (i := 5) rfl rfl), (zin_of zc5 (i := 228) rfl rfl), by decide +kernel, by decide +kernel⟩, (zin_of zc5 (i := 227) rfl rfl)⟩
set_option maxRecDepth 40000 in
theorem MV_Mod_isNoPlace : zMV yMod_isNoPlace hMod_isNoPlace 2 := ⟨⟨(zin_of zc1 (i := 5) rfl rfl), (zin_of zc6 (i := 30) rfl rfl), by decide +kernel, by decide +kernel⟩, (zin_of zc6 (i := 29) rfl rfl), (zin_of zc0 (i := 57) rfl rfl)⟩
set_option maxRecDepth 40000 in
theorem MV_Mod_refused : zMV yMod_refused hMod_refused 0 := ⟨⟨(zin_of zc1 (i := 5) rfl rfl), (zin_of zc5 (i := 236) rfl rfl), by decide +kernel, by decide +kernel⟩, (zin_of zc5 (i := 235) rfl rfl), (zin_of zc0 (i := 54) rfl rfl)⟩
set_option maxRecDepth 40000 in
theorem MS_Mod_with : zMS yMod_with hMod_with 3 := ⟨⟨(zin_of zc1 (i := 5) rfl rfl), (zin_of zc6 (i := 0) rfl rfl), by decide +kernel, by decide +kernel⟩, (zin_of zc5 (i := 239) rfl rfl)⟩
set_option maxRecDepth 40000 in
theorem MS_Mod_without : zMS yMod_without hMod_without 2 := ⟨⟨(zin_of zc1 (i := 5) rfl rfl), (zin_of zc6 (i := 18) rfl rfl), by decide +kernel, by decide +kernel⟩, (zin_of zc6 (i := 17) rfl rfl)⟩
set_option maxRecDepth 40000 in
theorem MS_Mod_joined : zMS yMod_joined hMod_joined 3 := ⟨⟨(zin_of zc1 (i := 5) rfl rfl), (zin_of zc6 (i := 98) rfl rfl), by decide +kernel, by decide +kernel⟩, (zin_of zc6 (i := 97) rfl rfl)⟩
set_option maxRecDepth 40000 in
theorem MS_Mod_turned : zMS yMod_turned hMod_turned 1 := ⟨⟨(zin_of zc1 (i := 5) rfl rfl), (zin_of zc6 (i := 73) rfl rfl), by decide +kernel, by decide +kernel⟩, (zin_of zc6 (i := 72) rfl rfl)⟩
set_option maxRecDepth 40000 in
theorem MS_Mod_areLike : zMS yMod_areLike hMod_areLike 2 := ⟨⟨(zin_of zc1 (i := 5) rfl rfl), (zin_of zc6 (i := 144) rfl rfl), by decide +kernel, by decide +kernel⟩, (zin_of zc6 (i := 143) rfl rfl)⟩
set_option maxRecDepth 40000 in
theorem MS_Mod_find : zMS yMod_find hMod_find 3 := ⟨⟨(zin_of zc1 (i := 5) rfl rfl), (zin_of zc6 (i := 49) rfl rfl), by decide +kernel, by decide +kernel⟩, (zin_of zc6 (i := 48) rfl rfl)⟩
set_option maxRecDepth 40000 in
theorem MS_Mod_told : zMS yMod_told hMod_told 1 := ⟨⟨(zin_of zc1 (i := 5) rfl rfl), (zin_of zc6 (i := 76) rfl rfl), by decide +kernel, by decide +kernel⟩, (zin_of zc6 (i := 75) rfl rfl)⟩
set_option maxRecDepth 40000 in
theorem MV_Mod_become : zMV yMod_become hMod_become 3 := ⟨⟨(zin_of zc1 (i := 5) rfl rfl), (zin_of zc6 (i := 8) rfl rfl), by decide +kernel, by decide +kernel⟩, (zin_of zc6 (i := 7) rfl rfl), (zin_of zc0 (i := 56) rfl rfl)⟩
set_option maxRecDepth 40000 in
theorem MV_Mod_becomes : zMV yMod_becomes hMod_becomes 2 := ⟨⟨(zin_of zc1 (i := 5) rfl rfl), (zin_of zc6 (i := 4) rfl rfl), by decide +kernel, by decide +kernel⟩, (zin_of zc6 (i := 3) rfl rfl), (zin_of zc0 (i := 55) rfl rfl)⟩
set_option maxRecDepth 40000 in
theorem MV_Mod_put : zMV yMod_put hMod_put 3 := ⟨⟨(zin_of zc1 (i := 5) rfl rfl), (zin_of zc5 (i := 219) rfl rfl), by decide +kernel, by decide +kernel⟩, (zin_of zc5 (i := 217) rfl rfl), (zin_of zc5 (i := 218) rfl rfl)⟩
set_option maxRecDepth 40000 in
theorem MS_Mod_isAtEnd : zMS yMod_isAtEnd hMod_isAtEnd 1 := ⟨⟨(zin_of zc1 (i := 5) rfl rfl), (zin_of zc6 (i := 15) rfl rfl), by decide +kernel, by decide +kernel⟩, (zin_of zc6 (i := 14) rfl rfl)⟩
set_option maxRecDepth 40000 in
theorem MV_Mod_take : zMV yMod_take hMod_take 2 := ⟨⟨(zin_of zc1 (i := 5) rfl rfl), (zin_of zc6 (i := 12) rfl rfl), by decide +kernel, by decide +kernel⟩, (zin_of zc6 (i := 10) rfl rfl), (zin_of zc6 (i := 11) rfl rfl)⟩
set_option maxRecDepth 40000 in
theorem MV_Mod_look : zMV yMod_look hMod_look 2 := ⟨⟨(zin_of zc1 (i := 5) rfl rfl), (zin_of zc6 (i := 22) rfl rfl), by decide +kernel, by decide +kernel⟩, (zin_of zc6 (i := 20) rfl rfl), (zin_of zc6 (i := 21) rfl rfl)⟩
set_option maxRecDepth 40000 in
theorem MV_Mod_get : zMV yMod_get hMod_get 2 := ⟨⟨(zin_of zc1 (i := 5) rfl rfl), (zin_of zc6 (i := 26) rfl rfl), by decide +kernel, by decide +kernel⟩, (zin_of zc6 (i := 24) rfl rfl), (zin_of zc6 (i := 25) rfl rfl)⟩
set_option maxRecDepth 40000 in
theorem MV_Mod_set : zMV yMod_set hMod_set 3 := ⟨⟨(zin_of zc1 (i := 5) rfl rfl), (zin_of zc6 (i := 34) rfl rfl), by decide +kernel, by decide +kernel⟩, (zin_of zc6 (i := 32) rfl rfl), (zin_of zc6 (i := 33) rfl rfl)⟩
set_option maxRecDepth 40000 in
theorem MV_Mod_insert : zMV yMod_insert hMod_insert 3 := ⟨⟨(zin_of zc1 (i := 5) rfl rfl), (zin_of zc6 (i := 38) rfl rfl), by decide +kernel, by decide +kernel⟩, (zin_of zc6 (i := 36) rfl rfl), (zin_of zc6 (i := 37) rfl rfl)⟩
set_option maxRecDepth 40000 in
theorem MV_Mod_removeAt : zMV yMod_removeAt hMod_removeAt 2 := ⟨⟨(zin_of zc1 (i := 5) rfl rfl), (zin_of zc6 (i := 42) rfl rfl), by decide +kernel, by decide +kernel⟩, (zin_of zc6 (i := 40) rfl rfl), (zin_of zc6 (i := 41) rfl rfl)⟩
set_option maxRecDepth 40000 in
theorem MV_Mod_drop : zMV yMod_drop hMod_drop 3 := ⟨⟨(zin_of zc1 (i := 5) rfl rfl), (zin_of zc6 (i := 46) rfl rfl), by decide +kernel, by decide +kernel⟩, (zin_of zc6 (i := 44) rfl rfl), (zin_of zc6 (i := 45) rfl rfl)⟩
set_option maxRecDepth 40000 in
theorem MV_Mod_thin : zMV yMod_thin hMod_thin 2 := ⟨⟨(zin_of zc1 (i := 5) rfl rfl), (zin_of zc6 (i := 53) rfl rfl), by decide +kernel, by decide +kernel⟩, (zin_of zc6 (i := 51) rfl rfl), (zin_of zc6 (i := 52) rfl rfl)⟩
set_option maxRecDepth 40000 in
theorem MV_Mod_indexOf : zMV yMod_indexOf hMod_indexOf 3 := ⟨⟨(zin_of zc1 (i := 5) rfl rfl), (zin_of zc6 (i := 57) rfl rfl), by decide +kernel, by decide +kernel⟩, (zin_of zc6 (i := 55) rfl rfl), (zin_of zc6 (i := 56) rfl rfl)⟩
set_option maxRecDepth 40000 in
theorem MV_Mod_has : zMV yMod_has hMod_has 2 := ⟨⟨(zin_of zc1 (i := 5) rfl rfl), (zin_of zc6 (i := 61) rfl rfl), by decide +kernel, by decide +kernel⟩, (zin_of zc6 (i := 59) rfl rfl), (zin_of zc6 (i := 60) rfl rfl)⟩
set_option maxRecDepth 40000 in
theorem MV_Mod_size : zMV yMod_size hMod_size 1 := ⟨⟨(zin_of zc1 (i := 5) rfl rfl), (zin_of zc6 (i := 65) rfl rfl), by decide +kernel, by decide +kernel⟩, (zin_of zc6 (i := 63) rfl rfl), (zin_of zc6 (i := 64) rfl rfl)⟩
set_option maxRecDepth 40000 in
theorem MV_Mod_text : zMV yMod_text hMod_text 2 := ⟨⟨(zin_of zc1 (i := 5) rfl rfl), (zin_of zc6 (i := 69) rfl rfl), by decide +kernel, by decide +kernel⟩, (zin_of zc6 (i := 67) rfl rfl), (zin_of zc6 (i := 68) rfl rfl)⟩
set_option maxRecDepth 40000 in
theorem MV_Mod_clear : zMV yMod_clear hMod_clear 1 := ⟨⟨(zin_of zc1 (i := 5) rfl rfl), (zin_of zc6 (i := 87) rfl rfl), by decide +kernel, by decide +kernel⟩, (zin_of zc6 (i := 85) rfl rfl), (zin_of zc6 (i := 86) rfl rfl)⟩
set_option maxRecDepth 40000 in
theorem MV_Mod_append : zMV yMod_append hMod_append 2 := ⟨⟨(zin_of zc1 (i := 5) rfl rfl), (zin_of zc6 (i := 91) rfl rfl), by decide +kernel, by decide +kernel⟩, (zin_of zc6 (i := 89) rfl rfl), (zin_of zc6 (i := 90) rfl rfl)⟩
set_option maxRecDepth 40000 in
theorem MV_Mod_joins : zMV yMod_joins hMod_joins 3 := ⟨⟨(zin_of zc1 (i := 5) rfl rfl), (zin_of zc6 (i := 95) rfl rfl), by decide +kernel, by decide +kernel⟩, (zin_of zc6 (i := 94) rfl rfl), (zin_of zc0 (i := 58) rfl rfl)⟩
set_option maxRecDepth 40000 in
theorem MV_Mod_appendAt : zMV yMod_appendAt hMod_appendAt 3 := ⟨⟨(zin_of zc1 (i := 5) rfl rfl), (zin_of zc6 (i := 102) rfl rfl), by decide +kernel, by decide +kernel⟩, (zin_of zc6 (i := 100) rfl rfl), (zin_of zc6 (i := 101) rfl rfl)⟩
set_option maxRecDepth 40000 in
theorem MS_Mod_copied : zMS yMod_copied hMod_copied 1 := ⟨⟨(zin_of zc1 (i := 5) rfl rfl), (zin_of zc6 (i := 109) rfl rfl), by decide +kernel, by decide +kernel⟩, (zin_of zc6 (i := 108) rfl rfl)⟩
set_option maxRecDepth 40000 in
theorem MV_Mod_copy : zMV yMod_copy hMod_copy 2 := ⟨⟨(zin_of zc1 (i := 5) rfl rfl), (zin_of zc6 (i := 106) rfl rfl), by decide +kernel, by decide +kernel⟩, (zin_of zc6 (i := 104) rfl rfl), (zin_of zc6 (i := 105) rfl rfl)⟩
set_option maxRecDepth 40000 in
theorem MV_Mod_places : zMV yMod_places hMod_places 2 := ⟨⟨(zin_of zc1 (i := 5) rfl rfl), (zin_of zc6 (i := 113) rfl rfl), by decide +kernel, by decide +kernel⟩, (zin_of zc6 (i := 111) rfl rfl), (zin_of zc6 (i := 112) rfl rfl)⟩
set_option maxRecDepth 40000 in
theorem MV_Mod_first : zMV yMod_first hMod_first 1 := ⟨⟨(zin_of zc1 (i := 5) rfl rfl), (zin_of zc6 (i := 121) rfl rfl), by decide +kernel, by decide +kernel⟩, (zin_of zc6 (i := 120) rfl rfl), (zin_of zc0 (i := 59) rfl rfl)⟩
set_option maxRecDepth 40000 in
theorem MV_Mod_rotate : zMV yMod_rotate hMod_rotate 2 := ⟨⟨(zin_of zc1 (i := 5) rfl rfl), (zin_of zc6 (i := 117) rfl rfl), by decide +kernel, by decide +kernel⟩, (zin_of zc6 (i := 115) rfl rfl), (zin_of zc6 (i := 116) rfl rfl)⟩
set_option maxRecDepth 40000 in
theorem MV_Mod_move : zMV yMod_move hMod_move 3 := ⟨⟨(zin_of zc1 (i := 5) rfl rfl), (zin_of zc6 (i := 125) rfl rfl), by decide +kernel, by decide +kernel⟩, (zin_of zc6 (i := 123) rfl rfl), (zin_of zc6 (i := 124) rfl rfl)⟩
set_option maxRecDepth 40000 in
theorem MV_Mod_swap : zMV yMod_swap hMod_swap 3 := ⟨⟨(zin_of zc1 (i := 5) rfl rfl), (zin_of zc6 (i := 129) rfl rfl), by decide +kernel, by decide +kernel⟩, (zin_of zc6 (i := 127) rfl rfl), (zin_of zc6 (i := 128) rfl rfl)⟩
set_option maxRecDepth 40000 in
theorem MV_Mod_reverse : zMV yMod_reverse hMod_reverse 1 := ⟨⟨(zin_of zc1 (i := 5) rfl rfl), (zin_of zc6 (i := 133) rfl rfl), by decide +kernel, by decide +kernel⟩, (zin_of zc6 (i := 131) rfl rfl), (zin_of zc6 (i := 132) rfl rfl)⟩
set_option maxRecDepth 40000 in
theorem MV_Mod_through : zMV yMod_through hMod_through 3 := ⟨⟨(zin_of zc1 (i := 5) rfl rfl), (zin_of zc6 (i := 137) rfl rfl), by decide +kernel, by decide +kernel⟩, (zin_of zc6 (i := 135) rfl rfl), (zin_of zc6 (i := 136) rfl rfl)⟩
set_option maxRecDepth 40000 in
theorem MV_Mod_areSame : zMV yMod_areSame hMod_areSame 2 := ⟨⟨(zin_of zc1 (i := 5) rfl rfl), (zin_of zc6 (i := 141) rfl rfl), by decide +kernel, by decide +kernel⟩, (zin_of zc6 (i := 139) rfl rfl), (zin_of zc6 (i := 140) rfl rfl)⟩
set_option maxRecDepth 40000 in
theorem MV_Mod_isMirror : zMV yMod_isMirror hMod_isMirror 1 := ⟨⟨(zin_of zc1 (i := 5) rfl rfl), (zin_of zc6 (i := 148) rfl rfl), by decide +kernel, by decide +kernel⟩, (zin_of zc6 (i := 146) rfl rfl), (zin_of zc6 (i := 147) rfl rfl)⟩
set_option maxRecDepth 40000 in
theorem MV_Mod_open : zMV yMod_open hMod_open 3 := ⟨⟨(zin_of zc1 (i := 5) rfl rfl), (zin_of zc6 (i := 152) rfl rfl), by decide +kernel, by decide +kernel⟩, (zin_of zc6 (i := 150) rfl rfl), (zin_of zc6 (i := 151) rfl rfl)⟩
set_option maxRecDepth 40000 in
theorem MV_Mod_shut : zMV yMod_shut hMod_shut 1 := ⟨⟨(zin_of zc1 (i := 5) rfl rfl), (zin_of zc6 (i := 159) rfl rfl), by decide +kernel, by decide +kernel⟩, (zin_of zc6 (i := 157) rfl rfl), (zin_of zc6 (i := 158) rfl rfl)⟩
set_option maxRecDepth 40000 in
theorem MV_Mod_isNotThere : zMV yMod_isNotThere hMod_isNotThere 1 := ⟨⟨(zin_of zc1 (i := 5) rfl rfl), (zin_of zc6 (i := 171) rfl rfl), by decide +kernel, by decide +kernel⟩, (zin_of zc6 (i := 170) rfl rfl), (zin_of zc0 (i := 61) rfl rfl)⟩
set_option maxRecDepth 40000 in
theorem MV_Mod_goes : zMV yMod_goes hMod_goes 2 := ⟨⟨(zin_of zc1 (i := 5) rfl rfl), (zin_of zc6 (i := 175) rfl rfl), by decide +kernel, by decide +kernel⟩, (zin_of zc6 (i := 174) rfl rfl), (zin_of zc0 (i := 62) rfl rfl)⟩
set_option maxRecDepth 40000 in
theorem MV_Mod_asksOn : zMV yMod_asksOn hMod_asksOn 2 := ⟨⟨(zin_of zc1 (i := 5) rfl rfl), (zin_of zc6 (i := 167) rfl rfl), by decide +kernel, by decide +kernel⟩, (zin_of zc6 (i := 166) rfl rfl), (zin_of zc0 (i := 60) rfl rfl)⟩
set_option maxRecDepth 40000 in
theorem MV_Mod_forth : zMV yMod_forth hMod_forth 1 := ⟨⟨(zin_of zc1 (i := 5) rfl rfl), (zin_of zc6 (i := 163) rfl rfl), by decide +kernel, by decide +kernel⟩, (zin_of zc6 (i := 161) rfl rfl), (zin_of zc6 (i := 162) rfl rfl)⟩
set_option maxRecDepth 40000 in
theorem MV_Mod_back : zMV yMod_back hMod_back 1 := ⟨⟨(zin_of zc1 (i := 5) rfl rfl), (zin_of zc6 (i := 179) rfl rfl), by decide +kernel, by decide +kernel⟩, (zin_of zc6 (i := 177) rfl rfl), (zin_of zc6 (i := 178) rfl rfl)⟩
set_option maxRecDepth 40000 in
theorem MV_Mod_puts : zMV yMod_puts hMod_puts 2 := ⟨⟨(zin_of zc1 (i := 5) rfl rfl), (zin_of zc6 (i := 183) rfl rfl), by decide +kernel, by decide +kernel⟩, (zin_of zc6 (i := 181) rfl rfl), (zin_of zc6 (i := 182) rfl rfl)⟩
set_option maxRecDepth 40000 in
theorem MV_Mod_cuts : zMV yMod_cuts hMod_cuts 1 := ⟨⟨(zin_of zc1 (i := 5) rfl rfl), (zin_of zc6 (i := 187) rfl rfl), by decide +kernel, by decide +kernel⟩, (zin_of zc6 (i := 185) rfl rfl), (zin_of zc6 (i := 186) rfl rfl)⟩
set_option maxRecDepth 40000 in
theorem MV_Mod_changes : zMV yMod_changes hMod_changes 2 := ⟨⟨(zin_of zc1 (i := 5) rfl rfl), (zin_of zc6 (i := 191) rfl rfl), by decide +kernel, by decide +kernel⟩, (zin_of zc6 (i := 189) rfl rfl), (zin_of zc6 (i := 190) rfl rfl)⟩
set_option maxRecDepth 40000 in
theorem MV_Mod_meet : zMV yMod_meet hMod_meet 2 := ⟨⟨(zin_of zc1 (i := 5) rfl rfl), (zin_of zc6 (i := 195) rfl rfl), by decide +kernel, by decide +kernel⟩, (zin_of zc6 (i := 193) rfl rfl), (zin_of zc6 (i := 194) rfl rfl)⟩
set_option maxRecDepth 40000 in
theorem MV_Mod_ofCursorNow : zMV yMod_ofCursorNow hMod_ofCursorNow 2 := ⟨⟨(zin_of zc1 (i := 5) rfl rfl), (zin_of zc6 (i := 203) rfl rfl), by decide +kernel, by decide +kernel⟩, (zin_of zc6 (i := 202) rfl rfl), (zin_of zc0 (i := 63) rfl rfl)⟩
set_option maxRecDepth 40000 in
theorem MV_Mod_ofCursor : zMV yMod_ofCursor hMod_ofCursor 2 := ⟨⟨(zin_of zc1 (i := 5) rfl rfl), (zin_of zc6 (i := 199) rfl rfl), by decide +kernel, by decide +kernel⟩, (zin_of zc6 (i := 197) rfl rfl), (zin_of zc6 (i := 198) rfl rfl)⟩
set_option maxRecDepth 40000 in
theorem MS_Mod_fitting : zMS yMod_fitting hMod_fitting 1 := ⟨⟨(zin_of zc1 (i := 5) rfl rfl), (zin_of zc6 (i := 214) rfl rfl), by decide +kernel, by decide +kernel⟩, (zin_of zc6 (i := 213) rfl rfl)⟩
set_option maxRecDepth 40000 in
theorem MV_Mod_fits : zMV yMod_fits hMod_fits 2 := ⟨⟨(zin_of zc1 (i := 5) rfl rfl), (zin_of zc6 (i := 211) rfl rfl), by decide +kernel, by decide +kernel⟩, (zin_of zc6 (i := 210) rfl rfl), (zin_of zc0 (i := 64) rfl rfl)⟩
set_option maxRecDepth 40000 in
theorem MV_Mod_plus : zMV yMod_plus hMod_plus 2 := ⟨⟨(zin_of zc1 (i := 5) rfl rfl), (zin_of zc6 (i := 207) rfl rfl), by decide +kernel, by decide +kernel⟩, (zin_of zc6 (i := 205) rfl rfl), (zin_of zc6 (i := 206) rfl rfl)⟩
set_option maxRecDepth 40000 in
theorem MV_Mod_times : zMV yMod_times hMod_times 2 := ⟨⟨(zin_of zc1 (i := 5) rfl rfl), (zin_of zc6 (i := 221) rfl rfl), by decide +kernel, by decide +kernel⟩, (zin_of zc6 (i := 219) rfl rfl), (zin_of zc6 (i := 220) rfl rfl)⟩
set_option maxRecDepth 40000 in
theorem MV_Mod_shift : zMV yMod_shift hMod_shift 1 := ⟨⟨(zin_of zc1 (i := 5) rfl rfl), (zin_of zc6 (i := 225) rfl rfl), by decide +kernel, by decide +kernel⟩, (zin_of zc6 (i := 223) rfl rfl), (zin_of zc6 (i := 224) rfl rfl)⟩
set_option maxRecDepth 40000 in
theorem MV_Mod_trim : zMV yMod_trim hMod_trim 1 := ⟨⟨(zin_of zc1 (i := 5) rfl rfl), (zin_of zc6 (i := 229) rfl rfl), by decide +kernel, by decide +kernel⟩, (zin_of zc6 (i := 227) rfl rfl), (zin_of zc6 (i := 228) rfl rfl)⟩
set_option maxRecDepth 40000 in
theorem MV_Mod_derive : zMV yMod_derive hMod_derive 1 := ⟨⟨(zin_of zc1 (i := 5) rfl rfl), (zin_of zc6 (i := 233) rfl rfl), by decide +kernel, by decide +kernel⟩, (zin_of zc6 (i := 231) rfl rfl), (zin_of zc6 (i := 232) rfl rfl)⟩
set_option maxRecDepth 40000 in
theorem MS_Mod_rest : zMS yMod_rest hMod_rest 1 := ⟨⟨(zin_of zc1 (i := 5) rfl rfl), (zin_of zc7 (i := 3) rfl rfl), by decide +kernel, by decide +kernel⟩, (zin_of zc7 (i := 2) rfl rfl)⟩
set_option maxRecDepth 40000 in
theorem MS_Mod_valueOf : zMS yMod_valueOf hMod_valueOf 2 := ⟨⟨(zin_of zc1 (i := 5) rfl rfl), (zin_of zc7 (i := 0) rfl rfl), by decide +kernel, by decide +kernel⟩, (zin_of zc6 (i := 239) rfl rfl)⟩
set_option maxRecDepth 40000 in
theorem MV_Mod_value : zMV yMod_value hMod_value 2 := ⟨⟨(zin_of zc1 (i := 5) rfl rfl), (zin_of zc6 (i := 237) rfl rfl), by decide +kernel, by decide +kernel⟩, (zin_of zc6 (i := 235) rfl rfl), (zin_of zc6 (i := 236) rfl rfl)⟩
set_option maxRecDepth 40000 in
theorem MS_Mod_degreeOf : zMS yMod_degreeOf hMod_degreeOf 1 := ⟨⟨(zin_of zc1 (i := 5) rfl rfl), (zin_of zc7 (i := 11) rfl rfl), by decide +kernel, by decide +kernel⟩, (zin_of zc7 (i := 10) rfl rfl)⟩
set_option maxRecDepth 40000 in
theorem MV_Mod_degree : zMV yMod_degree hMod_degree 1 := ⟨⟨(zin_of zc1 (i := 5) rfl rfl), (zin_of zc7 (i := 8) rfl rfl), by decide +kernel, by decide +kernel⟩, (zin_of zc7 (i := 6) rfl rfl), (zin_of zc7 (i := 7) rfl rfl)⟩
set_option maxRecDepth 40000 in
theorem MV_Mod_ask : zMV yMod_ask hMod_ask 1 := ⟨⟨(zin_of zc1 (i := 5) rfl rfl), (zin_of zc7 (i := 15) rfl rfl), by decide +kernel, by decide +kernel⟩, (zin_of zc7 (i := 13) rfl rfl), (zin_of zc7 (i := 14) rfl rfl)⟩
set_option maxRecDepth 40000 in
theorem MV_Mod_forget : zMV yMod_forget hMod_forget 0 := ⟨⟨(zin_of zc1 (i := 5) rfl rfl), (zin_of zc7 (i := 19) rfl rfl), by decide +kernel, by decide +kernel⟩, (zin_of zc7 (i := 17) rfl rfl), (zin_of zc7 (i := 18) rfl rfl)⟩
set_option maxRecDepth 40000 in
theorem MV_Mod_askedNow : zMV yMod_askedNow hMod_askedNow 1 := ⟨⟨(zin_of zc1 (i := 5) rfl rfl), (zin_of zc7 (i := 27) rfl rfl), by decide +kernel, by decide +kernel⟩, (zin_of zc7 (i := 26) rfl rfl), (zin_of zc0 (i := 65) rfl rfl)⟩
set_option maxRecDepth 40000 in
theorem MV_Mod_asked : zMV yMod_asked hMod_asked 1 := ⟨⟨(zin_of zc1 (i := 5) rfl rfl), (zin_of zc7 (i := 23) rfl rfl), by decide +kernel, by decide +kernel⟩, (zin_of zc7 (i := 21) rfl rfl), (zin_of zc7 (i := 22) rfl rfl)⟩
set_option maxRecDepth 40000 in
theorem MV_Mod_recent : zMV yMod_recent hMod_recent 0 := ⟨⟨(zin_of zc1 (i := 5) rfl rfl), (zin_of zc7 (i := 31) rfl rfl), by decide +kernel, by decide +kernel⟩, (zin_of zc7 (i := 29) rfl rfl), (zin_of zc7 (i := 30) rfl rfl)⟩
set_option maxRecDepth 40000 in
theorem MS_Mod_isOrder : zMS yMod_isOrder hMod_isOrder 1 := ⟨⟨(zin_of zc1 (i := 5) rfl rfl), (zin_of zc7 (i := 38) rfl rfl), by decide +kernel, by decide +kernel⟩, (zin_of zc7 (i := 37) rfl rfl)⟩
set_option maxRecDepth 40000 in
theorem MV_Mod_byOrderNow : zMV yMod_byOrderNow hMod_byOrderNow 2 := ⟨⟨(zin_of zc1 (i := 5) rfl rfl), (zin_of zc7 (i := 42) rfl rfl), by decide +kernel, by decide +kernel⟩, (zin_of zc7 (i := 41) rfl rfl), (zin_of zc0 (i := 66) rfl rfl)⟩
set_option maxRecDepth 40000 in
theorem MV_Mod_byOrder : zMV yMod_byOrder hMod_byOrder 2 := ⟨⟨(zin_of zc1 (i := 5) rfl rfl), (zin_of zc7 (i := 35) rfl rfl), by decide +kernel, by decide +kernel⟩, (zin_of zc7 (i := 33) rfl rfl), (zin_of zc7 (i := 34) rfl rfl)⟩
set_option maxRecDepth 40000 in
theorem MV_Mod_houseNow : zMV yMod_houseNow hMod_houseNow 1 := ⟨⟨(zin_of zc1 (i := 5) rfl rfl), (zin_of zc7 (i := 50) rfl rfl), by decide +kernel, by decide +kernel⟩, (zin_of zc7 (i := 49) rfl rfl), (zin_of zc0 (i := 67) rfl rfl)⟩
set_option maxRecDepth 40000 in
theorem MV_Mod_house : zMV yMod_house hMod_house 1 := ⟨⟨(zin_of zc1 (i := 5) rfl rfl), (zin_of zc7 (i := 46) rfl rfl), by decide +kernel, by decide +kernel⟩, (zin_of zc7 (i := 44) rfl rfl), (zin_of zc7 (i := 45) rfl rfl)⟩
set_option maxRecDepth 40000 in
theorem MV_Mod_knock : zMV yMod_knock hMod_knock 0 := ⟨⟨(zin_of zc1 (i := 5) rfl rfl), (zin_of zc7 (i := 54) rfl rfl), by decide +kernel, by decide +kernel⟩, (zin_of zc7 (i := 52) rfl rfl), (zin_of zc7 (i := 53) rfl rfl)⟩
set_option maxRecDepth 40000 in
theorem MV_Mod_isSound : zMV yMod_isSound hMod_isSound 0 := ⟨⟨(zin_of zc1 (i := 5) rfl rfl), (zin_of zc7 (i := 58) rfl rfl), by decide +kernel, by decide +kernel⟩, (zin_of zc7 (i := 56) rfl rfl), (zin_of zc7 (i := 57) rfl rfl)⟩
set_option maxRecDepth 40000 in
theorem MS_Mod_add : zMS yMod_add hMod_add 2 := ⟨⟨(zin_of zc1 (i := 5) rfl rfl), (zin_of zc7 (i := 66) rfl rfl), by decide +kernel, by decide +kernel⟩, (zin_of zc7 (i := 65) rfl rfl)⟩
set_option maxRecDepth 40000 in
theorem MV_Mod_digest : zMV yMod_digest hMod_digest 0 := ⟨⟨(zin_of zc1 (i := 5) rfl rfl), (zin_of zc7 (i := 62) rfl rfl), by decide +kernel, by decide +kernel⟩, (zin_of zc7 (i := 60) rfl rfl), (zin_of zc7 (i := 61) rfl rfl)⟩
set_option maxRecDepth 40000 in
theorem MI_Asb_init_d00df : zMI yAsb_init_d00df hAsb_init_d00df 1 := ⟨⟨(zin_of zc1 (i := 12) rfl rfl), (zin_of zc1 (i := 163) rfl rfl), by decide +kernel, by decide +kernel⟩, (zin_of zc1 (i := 162) rfl rfl), rfl, rfl⟩
set_option maxRecDepth 40000 in
theorem MS_Int_getChars_ba4f3 : zMS yInt_getChars_ba4f3 hInt_getChars_ba4f3 3 := ⟨⟨(zin_of zc1 (i := 22) rfl rfl), (zin_of zc2 (i := 55) rfl rfl), by decide +kernel, by decide +kernel⟩, (zin_of zc2 (i := 54) rfl rfl)⟩
set_option maxRecDepth 40000 in
theorem MS_Int_stringSize_0f7a4 : zMS yInt_stringSize_0f7a4 hInt_stringSize_0f7a4 1 := ⟨⟨(zin_of zc1 (i := 22) rfl rfl), (zin_of zc2 (i := 52) rfl rfl), by decide +kernel, by decide +kernel⟩, (zin_of zc2 (i := 51) rfl rfl)⟩
set_option maxRecDepth 40000 in
theorem MS_Mth_floorMod_7cf53 : zMS yMth_floorMod_7cf53 hMth_floorMod_7cf53 2 := ⟨⟨(zin_of zc1 (i := 17) rfl rfl), (zin_of zc3 (i := 52) rfl rfl), by decide +kernel, by decide +kernel⟩, (zin_of zc3 (i := 51) rfl rfl)⟩
set_option maxRecDepth 40000 in
theorem MS_Mth_max_7cf53 : zMS yMth_max_7cf53 hMth_max_7cf53 2 := ⟨⟨(zin_of zc1 (i := 17) rfl rfl), (zin_of zc1 (i := 208) rfl rfl), by decide +kernel, by decide +kernel⟩, (zin_of zc1 (i := 207) rfl rfl)⟩
set_option maxRecDepth 40000 in
theorem MS_Mth_min_7cf53 : zMS yMth_min_7cf53 hMth_min_7cf53 2 := ⟨⟨(zin_of zc1 (i := 17) rfl rfl), (zin_of zc1 (i := 226) rfl rfl), by decide +kernel, by decide +kernel⟩, (zin_of zc1 (i := 225) rfl rfl)⟩
set_option maxRecDepth 40000 in
theorem MI_Str_init_81219 : zMI yStr_init_81219 hStr_init_81219 1 := ⟨⟨(zin_of zc1 (i := 14) rfl rfl), (zin_of zc2 (i := 85) rfl rfl), by decide +kernel, by decide +kernel⟩, (zin_of zc2 (i := 84) rfl rfl), rfl, rfl⟩
set_option maxRecDepth 40000 in
theorem MV_Str_length_8abf5 : zMV yStr_length_8abf5 hStr_length_8abf5 0 := ⟨⟨(zin_of zc1 (i := 14) rfl rfl), (zin_of zc2 (i := 175) rfl rfl), by decide +kernel, by decide +kernel⟩, (zin_of zc2 (i := 173) rfl rfl), (zin_of zc2 (i := 174) rfl rfl)⟩
set_option maxRecDepth 40000 in
theorem MV_Str_getBytes_840e7 : zMV yStr_getBytes_840e7 hStr_getBytes_840e7 3 := ⟨⟨(zin_of zc1 (i := 14) rfl rfl), (zin_of zc2 (i := 193) rfl rfl), by decide +kernel, by decide +kernel⟩, (zin_of zc2 (i := 191) rfl rfl), (zin_of zc2 (i := 192) rfl rfl)⟩
set_option maxRecDepth 40000 in
theorem MI_Str_init_db425 : zMI yStr_init_db425 hStr_init_db425 2 := ⟨⟨(zin_of zc1 (i := 14) rfl rfl), (zin_of zc2 (i := 88) rfl rfl), by decide +kernel, by decide +kernel⟩, (zin_of zc2 (i := 87) rfl rfl), rfl, rfl⟩
set_option maxRecDepth 40000 in
theorem MV_Str_coder_7d493 : zMV yStr_coder_7d493 hStr_coder_7d493 0 := ⟨⟨(zin_of zc1 (i := 14) rfl rfl), (zin_of zc2 (i := 179) rfl rfl), by decide +kernel, by decide +kernel⟩, (zin_of zc2 (i := 177) rfl rfl), (zin_of zc2 (i := 178) rfl rfl)⟩
set_option maxRecDepth 40000 in
theorem MS_Str_checkIndex_df160 : zMS yStr_checkIndex_df160 hStr_checkIndex_df160 2 := ⟨⟨(zin_of zc1 (i := 14) rfl rfl), (zin_of zc2 (i := 39) rfl rfl), by decide +kernel, by decide +kernel⟩, (zin_of zc2 (i := 38) rfl rfl)⟩
set_option maxRecDepth 40000 in
theorem MS_Str_checkBoundsOffCount_cabcc : zMS yStr_checkBoundsOffCount_cabcc hStr_checkBoundsOffCount_cabcc 3 := ⟨⟨(zin_of zc1 (i := 14) rfl rfl), (zin_of zc2 (i := 16) rfl rfl), by decide +kernel, by decide +kernel⟩, (zin_of zc2 (i := 15) rfl rfl)⟩
set_option maxRecDepth 40000 in
theorem MS_Str_checkBoundsBeginEnd_23922 : zMS yStr_checkBoundsBeginEnd_23922 hStr_checkBoundsBeginEnd_23922 3 := ⟨⟨(zin_of zc1 (i := 14) rfl rfl), (zin_of zc2 (i := 68) rfl rfl), by decide +kernel, by decide +kernel⟩, (zin_of zc2 (i := 67) rfl rfl)⟩
set_option maxRecDepth 40000 in
theorem MI_Sbd_init_da8c8 : zMI ySbd_init_da8c8 hSbd_init_da8c8 0 := ⟨⟨(zin_of zc1 (i := 13) rfl rfl), (zin_of zc1 (i := 160) rfl rfl), by decide +kernel, by decide +kernel⟩, (zin_of zc1 (i := 159) rfl rfl), rfl, rfl⟩
set_option maxRecDepth 40000 in
theorem MV_Sbd_append_15ec4 : zMV ySbd_append_15ec4 hSbd_append_15ec4 1 := ⟨⟨(zin_of zc1 (i := 13) rfl rfl), (zin_of zc2 (i := 161) rfl rfl), by decide +kernel, by decide +kernel⟩, (zin_of zc2 (i := 159) rfl rfl), (zin_of zc2 (i := 160) rfl rfl)⟩
set_option maxRecDepth 40000 in
theorem MV_Sbd_append_cf468 : zMV ySbd_append_cf468 hSbd_append_cf468 1 := ⟨⟨(zin_of zc1 (i := 13) rfl rfl), (zin_of zc1 (i := 191) rfl rfl), by decide +kernel, by decide +kernel⟩, (zin_of zc1 (i := 189) rfl rfl), (zin_of zc1 (i := 190) rfl rfl)⟩
set_option maxRecDepth 40000 in
theorem MV_Sbd_append_bf812 : zMV ySbd_append_bf812 hSbd_append_bf812 1 := ⟨⟨(zin_of zc1 (i := 13) rfl rfl), (zin_of zc2 (i := 46) rfl rfl), by decide +kernel, by decide +kernel⟩, (zin_of zc2 (i := 44) rfl rfl), (zin_of zc2 (i := 45) rfl rfl)⟩
set_option maxRecDepth 40000 in
theorem MV_Sbd_toString_0e30d : zMV ySbd_toString_0e30d hSbd_toString_0e30d 0 := ⟨⟨(zin_of zc1 (i := 13) rfl rfl), (zin_of zc2 (i := 80) rfl rfl), by decide +kernel, by decide +kernel⟩, (zin_of zc2 (i := 78) rfl rfl), (zin_of zc2 (i := 79) rfl rfl)⟩
set_option maxRecDepth 40000 in
theorem MS_Lat_canEncode_fc78d : zMS yLat_canEncode_fc78d hLat_canEncode_fc78d 1 := ⟨⟨(zin_of zc1 (i := 20) rfl rfl), (zin_of zc1 (i := 237) rfl rfl), by decide +kernel, by decide +kernel⟩, (zin_of zc1 (i := 236) rfl rfl)⟩
set_option maxRecDepth 40000 in
theorem MS_Lat_inflate_0e8fd : zMS yLat_inflate_0e8fd hLat_inflate_0e8fd 5 := ⟨⟨(zin_of zc1 (i := 20) rfl rfl), (zin_of zc2 (i := 4) rfl rfl), by decide +kernel, by decide +kernel⟩, (zin_of zc2 (i := 3) rfl rfl)⟩
set_option maxRecDepth 40000 in
theorem MS_Utf_newBytesFor_77867 : zMS yUtf_newBytesFor_77867 hUtf_newBytesFor_77867 1 := ⟨⟨(zin_of zc1 (i := 15) rfl rfl), (zin_of zc1 (i := 169) rfl rfl), by decide +kernel, by decide +kernel⟩, (zin_of zc1 (i := 168) rfl rfl)⟩
set_option maxRecDepth 40000 in
theorem MS_Utf_newBytesLength_0f7a4 : zMS yUtf_newBytesLength_0f7a4 hUtf_newBytesLength_0f7a4 1 := ⟨⟨(zin_of zc1 (i := 15) rfl rfl), (zin_of zc1 (i := 172) rfl rfl), by decide +kernel, by decide +kernel⟩, (zin_of zc1 (i := 171) rfl rfl)⟩
set_option maxRecDepth 40000 in
theorem MS_Utf_putChar_b72d1 : zMS yUtf_putChar_b72d1 hUtf_putChar_b72d1 3 := ⟨⟨(zin_of zc1 (i := 15) rfl rfl), (zin_of zc2 (i := 24) rfl rfl), by decide +kernel, by decide +kernel⟩, (zin_of zc2 (i := 23) rfl rfl)⟩
set_option maxRecDepth 40000 in
theorem MS_Utf_getChar_3b067 : zMS yUtf_getChar_3b067 hUtf_getChar_3b067 2 := ⟨⟨(zin_of zc1 (i := 15) rfl rfl), (zin_of zc2 (i := 230) rfl rfl), by decide +kernel, by decide +kernel⟩, (zin_of zc2 (i := 229) rfl rfl)⟩
set_option maxRecDepth 40000 in
theorem MS_Utf_length_9d52b : zMS yUtf_length_9d52b hUtf_length_9d52b 1 := ⟨⟨(zin_of zc1 (i := 15) rfl rfl), (zin_of zc2 (i := 13) rfl rfl), by decide +kernel, by decide +kernel⟩, (zin_of zc2 (i := 12) rfl rfl)⟩
set_option maxRecDepth 40000 in
theorem MS_Utf_coderFromArrayLen_85cad : zMS yUtf_coderFromArrayLen_85cad hUtf_coderFromArrayLen_85cad 2 := ⟨⟨(zin_of zc1 (i := 15) rfl rfl), (zin_of zc2 (i := 234) rfl rfl), by decide +kernel, by decide +kernel⟩, (zin_of zc2 (i := 233) rfl rfl)⟩
set_option maxRecDepth 40000 in
theorem MS_Utf_compress_39247 : zMS yUtf_compress_39247 hUtf_compress_39247 3 := ⟨⟨(zin_of zc1 (i := 15) rfl rfl), (zin_of zc2 (i := 224) rfl rfl), by decide +kernel, by decide +kernel⟩, (zin_of zc2 (i := 223) rfl rfl)⟩
set_option maxRecDepth 40000 in
theorem MS_Utf_compress_5af95 : zMS yUtf_compress_5af95 hUtf_compress_5af95 5 := ⟨⟨(zin_of zc1 (i := 15) rfl rfl), (zin_of zc2 (i := 227) rfl rfl), by decide +kernel, by decide +kernel⟩, (zin_of zc2 (i := 226) rfl rfl)⟩
set_option maxRecDepth 40000 in
theorem MS_Utf_putCharSB_b72d1 : zMS yUtf_putCharSB_b72d1 hUtf_putCharSB_b72d1 3 := ⟨⟨(zin_of zc1 (i := 15) rfl rfl), (zin_of zc2 (i := 33) rfl rfl), by decide +kernel, by decide +kernel⟩, (zin_of zc2 (i := 32) rfl rfl)⟩
set_option maxRecDepth 40000 in
theorem MS_Utf_getChars_46870 : zMS yUtf_getChars_46870 hUtf_getChars_46870 4 := ⟨⟨(zin_of zc1 (i := 15) rfl rfl), (zin_of zc2 (i := 62) rfl rfl), by decide +kernel, by decide +kernel⟩, (zin_of zc2 (i := 61) rfl rfl)⟩
set_option maxRecDepth 40000 in
theorem MS_Utf_putCharsAt_cd4e5 : zMS yUtf_putCharsAt_cd4e5 hUtf_putCharsAt_cd4e5 6 := ⟨⟨(zin_of zc1 (i := 15) rfl rfl), (zin_of zc2 (i := 171) rfl rfl), by decide +kernel, by decide +kernel⟩, (zin_of zc2 (i := 170) rfl rfl)⟩
set_option maxRecDepth 40000 in
theorem MS_Utf_inflate_0e8fd : zMS yUtf_inflate_0e8fd hUtf_inflate_0e8fd 5 := ⟨⟨(zin_of zc1 (i := 15) rfl rfl), (zin_of zc2 (i := 7) rfl rfl), by decide +kernel, by decide +kernel⟩, (zin_of zc2 (i := 6) rfl rfl)⟩
set_option maxRecDepth 40000 in
theorem MS_Utf_getChars_ba4f3 : zMS yUtf_getChars_ba4f3 hUtf_getChars_ba4f3 3 := ⟨⟨(zin_of zc1 (i := 15) rfl rfl), (zin_of zc2 (i := 74) rfl rfl), by decide +kernel, by decide +kernel⟩, (zin_of zc2 (i := 73) rfl rfl)⟩
set_option maxRecDepth 40000 in
theorem MS_Utf_checkIndex_2214a : zMS yUtf_checkIndex_2214a hUtf_checkIndex_2214a 2 := ⟨⟨(zin_of zc1 (i := 15) rfl rfl), (zin_of zc2 (i := 36) rfl rfl), by decide +kernel, by decide +kernel⟩, (zin_of zc2 (i := 35) rfl rfl)⟩
set_option maxRecDepth 40000 in
theorem MS_Utf_checkBoundsBeginEnd_d044e : zMS yUtf_checkBoundsBeginEnd_d044e hUtf_checkBoundsBeginEnd_d044e 3 := ⟨⟨(zin_of zc1 (i := 15) rfl rfl), (zin_of zc2 (i := 65) rfl rfl), by decide +kernel, by decide +kernel⟩, (zin_of zc2 (i := 64) rfl rfl)⟩
set_option maxRecDepth 40000 in
theorem MS_Utf_checkBoundsOffCount_d044e : zMS yUtf_checkBoundsOffCount_d044e hUtf_checkBoundsOffCount_d044e 3 := ⟨⟨(zin_of zc1 (i := 15) rfl rfl), (zin_of zc2 (i := 10) rfl rfl), by decide +kernel, by decide +kernel⟩, (zin_of zc2 (i := 9) rfl rfl)⟩
set_option maxRecDepth 40000 in
theorem MS_Arr_copyOf_9075b : zMS yArr_copyOf_9075b hArr_copyOf_9075b 2 := ⟨⟨(zin_of zc1 (i := 18) rfl rfl), (zin_of zc1 (i := 216) rfl rfl), by decide +kernel, by decide +kernel⟩, (zin_of zc1 (i := 215) rfl rfl)⟩
set_option maxRecDepth 40000 in
theorem MS_Arr_checkLength_df160 : zMS yArr_checkLength_df160 hArr_checkLength_df160 2 := ⟨⟨(zin_of zc1 (i := 18) rfl rfl), (zin_of zc2 (i := 112) rfl rfl), by decide +kernel, by decide +kernel⟩, (zin_of zc2 (i := 111) rfl rfl)⟩
set_option maxRecDepth 40000 in
theorem MS_Arr_copyOfRange_39247 : zMS yArr_copyOfRange_39247 hArr_copyOfRange_39247 3 := ⟨⟨(zin_of zc1 (i := 18) rfl rfl), (zin_of zc2 (i := 106) rfl rfl), by decide +kernel, by decide +kernel⟩, (zin_of zc2 (i := 105) rfl rfl)⟩
set_option maxRecDepth 40000 in
theorem MS_Arr_copyOfRangeByte_39247 : zMS yArr_copyOfRangeByte_39247 hArr_copyOfRangeByte_39247 3 := ⟨⟨(zin_of zc1 (i := 18) rfl rfl), (zin_of zc2 (i := 109) rfl rfl), by decide +kernel, by decide +kernel⟩, (zin_of zc2 (i := 108) rfl rfl)⟩
set_option maxRecDepth 40000 in
theorem MS_Asu_newLength_cabcc : zMS yAsu_newLength_cabcc hAsu_newLength_cabcc 3 := ⟨⟨(zin_of zc1 (i := 16) rfl rfl), (zin_of zc1 (i := 205) rfl rfl), by decide +kernel, by decide +kernel⟩, (zin_of zc1 (i := 204) rfl rfl)⟩
set_option maxRecDepth 40000 in
theorem MS_Asu_hugeLength_7cf53 : zMS yAsu_hugeLength_7cf53 hAsu_hugeLength_7cf53 2 := ⟨⟨(zin_of zc1 (i := 16) rfl rfl), (zin_of zc1 (i := 212) rfl rfl), by decide +kernel, by decide +kernel⟩, (zin_of zc1 (i := 211) rfl rfl)⟩
set_option maxRecDepth 40000 in
theorem MS_Prc_checkIndex_8e157 : zMS yPrc_checkIndex_8e157 hPrc_checkIndex_8e157 3 := ⟨⟨(zin_of zc1 (i := 21) rfl rfl), (zin_of zc2 (i := 42) rfl rfl), by decide +kernel, by decide +kernel⟩, (zin_of zc2 (i := 41) rfl rfl)⟩
set_option maxRecDepth 40000 in
theorem MS_Prc_checkFromToIndex_8c36e : zMS yPrc_checkFromToIndex_8c36e hPrc_checkFromToIndex_8c36e 4 := ⟨⟨(zin_of zc1 (i := 21) rfl rfl), (zin_of zc2 (i := 71) rfl rfl), by decide +kernel, by decide +kernel⟩, (zin_of zc2 (i := 70) rfl rfl)⟩
set_option maxRecDepth 40000 in
theorem MS_Prc_checkFromIndexSize_8c36e : zMS yPrc_checkFromIndexSize_8c36e hPrc_checkFromIndexSize_8c36e 4 := ⟨⟨(zin_of zc1 (i := 21) rfl rfl), (zin_of zc2 (i := 21) rfl rfl), by decide +kernel, by decide +kernel⟩, (zin_of zc2 (i := 20) rfl rfl)⟩
set_option maxRecDepth 40000 in
theorem MW_Law_put : zMSW yLaw_put hLaw_put 5 := ⟨(zin_of zc1 (i := 0) rfl rfl), (zin_of zc3 (i := 219) rfl rfl), by decide +kernel, by decide +kernel, (zin_of zc3 (i := 218) rfl rfl)⟩
set_option maxRecDepth 40000 in
theorem MW_Law_take : zMSW yLaw_take hLaw_take 4 := ⟨(zin_of zc1 (i := 0) rfl rfl), (zin_of zc4 (i := 5) rfl rfl), by decide +kernel, by decide +kernel, (zin_of zc4 (i := 4) rfl rfl)⟩
set_option maxRecDepth 40000 in
theorem MW_Law_look : zMSW yLaw_look hLaw_look 4 := ⟨(zin_of zc1 (i := 0) rfl rfl), (zin_of zc4 (i := 20) rfl rfl), by decide +kernel, by decide +kernel, (zin_of zc4 (i := 19) rfl rfl)⟩
set_option maxRecDepth 40000 in
theorem MW_Law_get : zMSW yLaw_get hLaw_get 4 := ⟨(zin_of zc1 (i := 0) rfl rfl), (zin_of zc4 (i := 27) rfl rfl), by decide +kernel, by decide +kernel, (zin_of zc4 (i := 26) rfl rfl)⟩
set_option maxRecDepth 40000 in
theorem MW_Law_set : zMSW yLaw_set hLaw_set 5 := ⟨(zin_of zc1 (i := 0) rfl rfl), (zin_of zc4 (i := 39) rfl rfl), by decide +kernel, by decide +kernel, (zin_of zc4 (i := 38) rfl rfl)⟩
set_option maxRecDepth 40000 in
theorem MW_Law_insert : zMSW yLaw_insert hLaw_insert 5 := ⟨(zin_of zc1 (i := 0) rfl rfl), (zin_of zc4 (i := 47) rfl rfl), by decide +kernel, by decide +kernel, (zin_of zc4 (i := 46) rfl rfl)⟩
set_option maxRecDepth 40000 in
theorem MW_Law_removeAt : zMSW yLaw_removeAt hLaw_removeAt 4 := ⟨(zin_of zc1 (i := 0) rfl rfl), (zin_of zc4 (i := 59) rfl rfl), by decide +kernel, by decide +kernel, (zin_of zc4 (i := 58) rfl rfl)⟩
set_option maxRecDepth 40000 in
theorem MW_Law_drop : zMSW yLaw_drop hLaw_drop 5 := ⟨(zin_of zc1 (i := 0) rfl rfl), (zin_of zc4 (i := 66) rfl rfl), by decide +kernel, by decide +kernel, (zin_of zc4 (i := 65) rfl rfl)⟩
set_option maxRecDepth 40000 in
theorem MW_Law_thin : zMSW yLaw_thin hLaw_thin 4 := ⟨(zin_of zc1 (i := 0) rfl rfl), (zin_of zc4 (i := 74) rfl rfl), by decide +kernel, by decide +kernel, (zin_of zc4 (i := 73) rfl rfl)⟩
set_option maxRecDepth 40000 in
theorem MW_Law_indexOf : zMSW yLaw_indexOf hLaw_indexOf 5 := ⟨(zin_of zc1 (i := 0) rfl rfl), (zin_of zc4 (i := 85) rfl rfl), by decide +kernel, by decide +kernel, (zin_of zc4 (i := 84) rfl rfl)⟩
set_option maxRecDepth 40000 in
theorem MW_Law_has : zMSW yLaw_has hLaw_has 4 := ⟨(zin_of zc1 (i := 0) rfl rfl), (zin_of zc4 (i := 92) rfl rfl), by decide +kernel, by decide +kernel, (zin_of zc4 (i := 91) rfl rfl)⟩
set_option maxRecDepth 40000 in
theorem MW_Law_size : zMSW yLaw_size hLaw_size 3 := ⟨(zin_of zc1 (i := 0) rfl rfl), (zin_of zc4 (i := 99) rfl rfl), by decide +kernel, by decide +kernel, (zin_of zc4 (i := 98) rfl rfl)⟩
set_option maxRecDepth 40000 in
theorem MW_Law_text : zMSW yLaw_text hLaw_text 4 := ⟨(zin_of zc1 (i := 0) rfl rfl), (zin_of zc4 (i := 106) rfl rfl), by decide +kernel, by decide +kernel, (zin_of zc4 (i := 105) rfl rfl)⟩
set_option maxRecDepth 40000 in
theorem MW_Law_clear : zMSW yLaw_clear hLaw_clear 3 := ⟨(zin_of zc1 (i := 0) rfl rfl), (zin_of zc4 (i := 113) rfl rfl), by decide +kernel, by decide +kernel, (zin_of zc4 (i := 112) rfl rfl)⟩
set_option maxRecDepth 40000 in
theorem MW_Law_append : zMSW yLaw_append hLaw_append 4 := ⟨(zin_of zc1 (i := 0) rfl rfl), (zin_of zc4 (i := 120) rfl rfl), by decide +kernel, by decide +kernel, (zin_of zc4 (i := 119) rfl rfl)⟩
set_option maxRecDepth 40000 in
theorem MW_Law_appendAt : zMSW yLaw_appendAt hLaw_appendAt 5 := ⟨(zin_of zc1 (i := 0) rfl rfl), (zin_of zc4 (i := 136) rfl rfl), by decide +kernel, by decide +kernel, (zin_of zc4 (i := 135) rfl rfl)⟩
set_option maxRecDepth 40000 in
theorem MW_Law_copy : zMSW yLaw_copy hLaw_copy 4 := ⟨(zin_of zc1 (i := 0) rfl rfl), (zin_of zc4 (i := 143) rfl rfl), by decide +kernel, by decide +kernel, (zin_of zc4 (i := 142) rfl rfl)⟩
set_option maxRecDepth 40000 in
theorem MW_Law_places : zMSW yLaw_places hLaw_places 4 := ⟨(zin_of zc1 (i := 0) rfl rfl), (zin_of zc4 (i := 150) rfl rfl), by decide +kernel, by decide +kernel, (zin_of zc4 (i := 149) rfl rfl)⟩
set_option maxRecDepth 40000 in
theorem MW_Law_rotate : zMSW yLaw_rotate hLaw_rotate 4 := ⟨(zin_of zc1 (i := 0) rfl rfl), (zin_of zc4 (i := 158) rfl rfl), by decide +kernel, by decide +kernel, (zin_of zc4 (i := 157) rfl rfl)⟩
set_option maxRecDepth 40000 in
theorem MW_Law_move : zMSW yLaw_move hLaw_move 5 := ⟨(zin_of zc1 (i := 0) rfl rfl), (zin_of zc4 (i := 168) rfl rfl), by decide +kernel, by decide +kernel, (zin_of zc4 (i := 167) rfl rfl)⟩
set_option maxRecDepth 40000 in
theorem MW_Law_swap : zMSW yLaw_swap hLaw_swap 5 := ⟨(zin_of zc1 (i := 0) rfl rfl), (zin_of zc4 (i := 175) rfl rfl), by decide +kernel, by decide +kernel, (zin_of zc4 (i := 174) rfl rfl)⟩
set_option maxRecDepth 40000 in
theorem MW_Law_reverse : zMSW yLaw_reverse hLaw_reverse 3 := ⟨(zin_of zc1 (i := 0) rfl rfl), (zin_of zc4 (i := 183) rfl rfl), by decide +kernel, by decide +kernel, (zin_of zc4 (i := 182) rfl rfl)⟩
set_option maxRecDepth 40000 in
theorem MW_Law_through : zMSW yLaw_through hLaw_through 5 := ⟨(zin_of zc1 (i := 0) rfl rfl), (zin_of zc4 (i := 190) rfl rfl), by decide +kernel, by decide +kernel, (zin_of zc4 (i := 189) rfl rfl)⟩
set_option maxRecDepth 40000 in
theorem MW_Law_areSame : zMSW yLaw_areSame hLaw_areSame 4 := ⟨(zin_of zc1 (i := 0) rfl rfl), (zin_of zc4 (i := 201) rfl rfl), by decide +kernel, by decide +kernel, (zin_of zc4 (i := 200) rfl rfl)⟩
set_option maxRecDepth 40000 in
theorem MW_Law_isMirror : zMSW yLaw_isMirror hLaw_isMirror 3 := ⟨(zin_of zc1 (i := 0) rfl rfl), (zin_of zc4 (i := 208) rfl rfl), by decide +kernel, by decide +kernel, (zin_of zc4 (i := 207) rfl rfl)⟩
set_option maxRecDepth 40000 in
theorem MW_Law_open : zMSW yLaw_open hLaw_open 5 := ⟨(zin_of zc1 (i := 0) rfl rfl), (zin_of zc4 (i := 215) rfl rfl), by decide +kernel, by decide +kernel, (zin_of zc4 (i := 214) rfl rfl)⟩
set_option maxRecDepth 40000 in
theorem MW_Law_shut : zMSW yLaw_shut hLaw_shut 3 := ⟨(zin_of zc1 (i := 0) rfl rfl), (zin_of zc4 (i := 226) rfl rfl), by decide +kernel, by decide +kernel, (zin_of zc4 (i := 225) rfl rfl)⟩
set_option maxRecDepth 40000 in
theorem MW_Law_forth : zMSW yLaw_forth hLaw_forth 3 := ⟨(zin_of zc1 (i := 0) rfl rfl), (zin_of zc4 (i := 233) rfl rfl), by decide +kernel, by decide +kernel, (zin_of zc4 (i := 232) rfl rfl)⟩
set_option maxRecDepth 40000 in
theorem MW_Law_back : zMSW yLaw_back hLaw_back 3 := ⟨(zin_of zc1 (i := 0) rfl rfl), (zin_of zc5 (i := 26) rfl rfl), by decide +kernel, by decide +kernel, (zin_of zc5 (i := 25) rfl rfl)⟩
set_option maxRecDepth 40000 in
theorem MW_Law_puts : zMSW yLaw_puts hLaw_puts 4 := ⟨(zin_of zc1 (i := 0) rfl rfl), (zin_of zc5 (i := 37) rfl rfl), by decide +kernel, by decide +kernel, (zin_of zc5 (i := 36) rfl rfl)⟩
set_option maxRecDepth 40000 in
theorem MW_Law_cuts : zMSW yLaw_cuts hLaw_cuts 3 := ⟨(zin_of zc1 (i := 0) rfl rfl), (zin_of zc5 (i := 49) rfl rfl), by decide +kernel, by decide +kernel, (zin_of zc5 (i := 48) rfl rfl)⟩
set_option maxRecDepth 40000 in
theorem MW_Law_changes : zMSW yLaw_changes hLaw_changes 4 := ⟨(zin_of zc1 (i := 0) rfl rfl), (zin_of zc5 (i := 61) rfl rfl), by decide +kernel, by decide +kernel, (zin_of zc5 (i := 60) rfl rfl)⟩
set_option maxRecDepth 40000 in
theorem MW_Law_meet : zMSW yLaw_meet hLaw_meet 4 := ⟨(zin_of zc1 (i := 0) rfl rfl), (zin_of zc5 (i := 68) rfl rfl), by decide +kernel, by decide +kernel, (zin_of zc5 (i := 67) rfl rfl)⟩
set_option maxRecDepth 40000 in
theorem MW_Law_ofCursor : zMSW yLaw_ofCursor hLaw_ofCursor 4 := ⟨(zin_of zc1 (i := 0) rfl rfl), (zin_of zc5 (i := 79) rfl rfl), by decide +kernel, by decide +kernel, (zin_of zc5 (i := 78) rfl rfl)⟩
set_option maxRecDepth 40000 in
theorem MW_Law_plus : zMSW yLaw_plus hLaw_plus 4 := ⟨(zin_of zc1 (i := 0) rfl rfl), (zin_of zc5 (i := 83) rfl rfl), by decide +kernel, by decide +kernel, (zin_of zc5 (i := 82) rfl rfl)⟩
set_option maxRecDepth 40000 in
theorem MW_Law_times : zMSW yLaw_times hLaw_times 4 := ⟨(zin_of zc1 (i := 0) rfl rfl), (zin_of zc5 (i := 90) rfl rfl), by decide +kernel, by decide +kernel, (zin_of zc5 (i := 89) rfl rfl)⟩
set_option maxRecDepth 40000 in
theorem MW_Law_shift : zMSW yLaw_shift hLaw_shift 3 := ⟨(zin_of zc1 (i := 0) rfl rfl), (zin_of zc5 (i := 97) rfl rfl), by decide +kernel, by decide +kernel, (zin_of zc5 (i := 96) rfl rfl)⟩
set_option maxRecDepth 40000 in
theorem MW_Law_trim : zMSW yLaw_trim hLaw_trim 3 := ⟨(zin_of zc1 (i := 0) rfl rfl), (zin_of zc5 (i := 104) rfl rfl), by decide +kernel, by decide +kernel, (zin_of zc5 (i := 103) rfl rfl)⟩
set_option maxRecDepth 40000 in
theorem MW_Law_derive : zMSW yLaw_derive hLaw_derive 3 := ⟨(zin_of zc1 (i := 0) rfl rfl), (zin_of zc5 (i := 111) rfl rfl), by decide +kernel, by decide +kernel, (zin_of zc5 (i := 110) rfl rfl)⟩
set_option maxRecDepth 40000 in
theorem MW_Law_value : zMSW yLaw_value hLaw_value 4 := ⟨(zin_of zc1 (i := 0) rfl rfl), (zin_of zc5 (i := 122) rfl rfl), by decide +kernel, by decide +kernel, (zin_of zc5 (i := 121) rfl rfl)⟩
set_option maxRecDepth 40000 in
theorem MW_Law_degree : zMSW yLaw_degree hLaw_degree 3 := ⟨(zin_of zc1 (i := 0) rfl rfl), (zin_of zc5 (i := 129) rfl rfl), by decide +kernel, by decide +kernel, (zin_of zc5 (i := 128) rfl rfl)⟩
set_option maxRecDepth 40000 in
theorem MW_Law_ask : zMSW yLaw_ask hLaw_ask 3 := ⟨(zin_of zc1 (i := 0) rfl rfl), (zin_of zc5 (i := 136) rfl rfl), by decide +kernel, by decide +kernel, (zin_of zc5 (i := 135) rfl rfl)⟩
set_option maxRecDepth 40000 in
theorem MW_Law_asked : zMSW yLaw_asked hLaw_asked 3 := ⟨(zin_of zc1 (i := 0) rfl rfl), (zin_of zc5 (i := 150) rfl rfl), by decide +kernel, by decide +kernel, (zin_of zc5 (i := 149) rfl rfl)⟩
set_option maxRecDepth 40000 in
theorem MW_Law_byOrder : zMSW yLaw_byOrder hLaw_byOrder 4 := ⟨(zin_of zc1 (i := 0) rfl rfl), (zin_of zc5 (i := 154) rfl rfl), by decide +kernel, by decide +kernel, (zin_of zc5 (i := 153) rfl rfl)⟩
set_option maxRecDepth 40000 in
theorem MW_Law_house : zMSW yLaw_house hLaw_house 3 := ⟨(zin_of zc1 (i := 0) rfl rfl), (zin_of zc5 (i := 161) rfl rfl), by decide +kernel, by decide +kernel, (zin_of zc5 (i := 160) rfl rfl)⟩
set_option maxRecDepth 40000 in
theorem in_Law : Cond.initialized RLaw ∈ zWS := (zin_of zc1 (i := 0) rfl rfl)
set_option maxRecDepth 40000 in
theorem in_Cls : Cond.initialized RCls ∈ zWS := (zin_of zc1 (i := 1) rfl rfl)
set_option maxRecDepth 40000 in
theorem in_Rec : Cond.initialized RRec ∈ zWS := (zin_of zc1 (i := 2) rfl rfl)
set_option maxRecDepth 40000 in
theorem in_Row : Cond.initialized RRow ∈ zWS := (zin_of zc1 (i := 3) rfl rfl)
set_option maxRecDepth 40000 in
theorem in_Cur : Cond.initialized RCur ∈ zWS := (zin_of zc1 (i := 4) rfl rfl)
set_option maxRecDepth 40000 in
theorem in_Mod : Cond.initialized RMod ∈ zWS := (zin_of zc1 (i := 5) rfl rfl)
set_option maxRecDepth 40000 in
theorem in_Out : Cond.initialized ROut ∈ zWS := (zin_of zc1 (i := 6) rfl rfl)
set_option maxRecDepth 40000 in
theorem in_Throwable : Cond.initialized "java/lang/Throwable" ∈ zWS := (zin_of zc1 (i := 7) rfl rfl)
set_option maxRecDepth 40000 in
theorem in_Exception : Cond.initialized "java/lang/Exception" ∈ zWS := (zin_of zc1 (i := 8) rfl rfl)
set_option maxRecDepth 40000 in
theorem in_RuntimeException : Cond.initialized "java/lang/RuntimeException" ∈ zWS := (zin_of zc1 (i := 9) rfl rfl)
set_option maxRecDepth 40000 in
theorem in_IndexOutOfBoundsException : Cond.initialized "java/lang/IndexOutOfBoundsException" ∈ zWS := (zin_of zc1 (i := 10) rfl rfl)
set_option maxRecDepth 40000 in
theorem in_IllegalArgumentException : Cond.initialized "java/lang/IllegalArgumentException" ∈ zWS := (zin_of zc1 (i := 11) rfl rfl)
set_option maxRecDepth 40000 in
theorem in_Asb : Cond.initialized RAsb ∈ zWS := (zin_of zc1 (i := 12) rfl rfl)
set_option maxRecDepth 40000 in
theorem in_Sbd : Cond.initialized RSbd ∈ zWS := (zin_of zc1 (i := 13) rfl rfl)
set_option maxRecDepth 40000 in
theorem in_Str : Cond.initialized RStr ∈ zWS := (zin_of zc1 (i := 14) rfl rfl)
set_option maxRecDepth 40000 in
theorem in_Utf : Cond.initialized RUtf ∈ zWS := (zin_of zc1 (i := 15) rfl rfl)
set_option maxRecDepth 40000 in
theorem in_Asu : Cond.initialized RAsu ∈ zWS := (zin_of zc1 (i := 16) rfl rfl)
set_option maxRecDepth 40000 in
theorem in_Mth : Cond.initialized RMth ∈ zWS := (zin_of zc1 (i := 17) rfl rfl)
set_option maxRecDepth 40000 in
theorem in_Arr : Cond.initialized RArr ∈ zWS := (zin_of zc1 (i := 18) rfl rfl)
set_option maxRecDepth 40000 in
theorem in_Sys : Cond.initialized RSys ∈ zWS := (zin_of zc1 (i := 19) rfl rfl)
set_option maxRecDepth 40000 in
theorem in_Lat : Cond.initialized RLat ∈ zWS := (zin_of zc1 (i := 20) rfl rfl)
set_option maxRecDepth 40000 in
theorem in_Prc : Cond.initialized RPrc ∈ zWS := (zin_of zc1 (i := 21) rfl rfl)
set_option maxRecDepth 40000 in
theorem in_Int : Cond.initialized RInt ∈ zWS := (zin_of zc1 (i := 22) rfl rfl)
set_option maxRecDepth 40000 in
theorem in_IllegalStateException : Cond.initialized "java/lang/IllegalStateException" ∈ zWS := (zin_of zc1 (i := 23) rfl rfl)
set_option maxRecDepth 40000 in
theorem cl_Law_8 : Cond.classLink RLaw 8 RCls ∈ zWS := (zin_of zc1 (i := 24) rfl rfl)
set_option maxRecDepth 40000 in
theorem im_Cls : Cond.instantiable RCls 6 ∈ zWS := (zin_of zc1 (i := 25) rfl rfl)
set_option maxRecDepth 40000 in
theorem lk_Law_168 : Cond.methodLink RLaw 168 yCls_init ∈ zWS := (zin_of zc1 (i := 26) rfl rfl)
set_option maxRecDepth 40000 in
theorem lk_Cls_1 : Cond.methodLink RCls 1 objectInit ∈ zWS := (zin_of zc1 (i := 29) rfl rfl)
set_option maxRecDepth 40000 in
theorem cl_Cls_9 : Cond.classLink RCls 9 RRow ∈ zWS := (zin_of zc1 (i := 32) rfl rfl)
set_option maxRecDepth 40000 in
theorem cl_Cls_15 : Cond.classLink RCls 15 RCur ∈ zWS := (zin_of zc1 (i := 34) rfl rfl)
set_option maxRecDepth 40000 in
theorem cl_Cls_21 : Cond.classLink RCls 21 RRec ∈ zWS := (zin_of zc1 (i := 36) rfl rfl)
set_option maxRecDepth 40000 in
theorem im_Rec : Cond.instantiable RRec 5 ∈ zWS := (zin_of zc1 (i := 37) rfl rfl)
set_option maxRecDepth 40000 in
theorem lk_Cls_23 : Cond.methodLinkNest RCls 23 yRec_init "Cursorlist" ∈ zNW := (zinN_of zc1 (i := 38) rfl rfl)
set_option maxRecDepth 40000 in
theorem lk_Rec_3 : Cond.methodLink RRec 3 objectInit ∈ zWS := (zin_of zc1 (i := 41) rfl rfl)
set_option maxRecDepth 40000 in
theorem cl_Rec_9 : Cond.classLink RRec 9 RRow ∈ zWS := (zin_of zc1 (i := 42) rfl rfl)
set_option maxRecDepth 40000 in
theorem im_Row : Cond.instantiable RRow 2 ∈ zWS := (zin_of zc1 (i := 43) rfl rfl)
set_option maxRecDepth 40000 in
theorem lk_Rec_11 : Cond.methodLinkNest RRec 11 yRow_init "Cursorlist" ∈ zNW := (zinN_of zc1 (i := 44) rfl rfl)
set_option maxRecDepth 40000 in
theorem lk_Row_3 : Cond.methodLink RRow 3 objectInit ∈ zWS := (zin_of zc1 (i := 47) rfl rfl)
set_option maxRecDepth 40000 in
theorem fl_Row_9 : Cond.fieldLink RRow 9 "Cursorlist$Row" "items" "[I" ∈ zWS := (zin_of zc1 (i := 48) rfl rfl)
set_option maxRecDepth 40000 in
theorem fl_Row_15 : Cond.fieldLink RRow 15 "Cursorlist$Row" "count" "I" ∈ zWS := (zin_of zc1 (i := 49) rfl rfl)
set_option maxRecDepth 40000 in
theorem fl_Cls_46 : Cond.fieldLinkNest RCls 46 "Cursorlist$Row" "count" "I" "Cursorlist" ∈ zNW := (zinN_of zc1 (i := 50) rfl rfl)
set_option maxRecDepth 40000 in
theorem ac_int : Cond.arrayClass FieldType.int ∈ zWS := (zin_of zc1 (i := 56) rfl rfl)
set_option maxRecDepth 40000 in
theorem lk_Rec_22 : Cond.methodLink RRec 22 yRec_begin ∈ zWS := (zin_of zc1 (i := 57) rfl rfl)
set_option maxRecDepth 40000 in
theorem lk_Rec_25 : Cond.methodLinkNest RRec 25 yRow_becomePlaces "Cursorlist" ∈ zNW := (zinN_of zc1 (i := 61) rfl rfl)
set_option maxRecDepth 40000 in
theorem lk_Row_64 : Cond.methodLink RRow 64 yRow_addBehind ∈ zWS := (zin_of zc1 (i := 65) rfl rfl)
set_option maxRecDepth 40000 in
theorem lk_Row_60 : Cond.methodLink RRow 60 yRow_putIn ∈ zWS := (zin_of zc1 (i := 69) rfl rfl)
set_option maxRecDepth 40000 in
theorem lk_Row_23 : Cond.methodLink RRow 23 yRow_hasGap ∈ zWS := (zin_of zc1 (i := 73) rfl rfl)
set_option maxRecDepth 40000 in
theorem fl_Rec_12 : Cond.fieldLink RRec 12 "Cursorlist$Recency" "keys" "LCursorlist$Row;" ∈ zWS := (zin_of zc1 (i := 77) rfl rfl)
set_option maxRecDepth 40000 in
theorem fl_Cls_234 : Cond.fieldLinkNest RCls 234 "Cursorlist$Recency" "keys" "LCursorlist$Row;" "Cursorlist" ∈ zNW := (zinN_of zc1 (i := 78) rfl rfl)
set_option maxRecDepth 40000 in
theorem fl_Rec_18 : Cond.fieldLink RRec 18 "Cursorlist$Recency" "timesAsked" "[I" ∈ zWS := (zin_of zc1 (i := 79) rfl rfl)
set_option maxRecDepth 40000 in
theorem fl_Rec_29 : Cond.fieldLink RRec 29 "Cursorlist$Recency" "askings" "I" ∈ zWS := (zin_of zc1 (i := 80) rfl rfl)
set_option maxRecDepth 40000 in
theorem fl_Cls_215 : Cond.fieldLinkNest RCls 215 "Cursorlist$Recency" "askings" "I" "Cursorlist" ∈ zNW := (zinN_of zc1 (i := 81) rfl rfl)
set_option maxRecDepth 40000 in
theorem fl_Rec_33 : Cond.fieldLink RRec 33 "Cursorlist$Recency" "cost" "I" ∈ zWS := (zin_of zc1 (i := 82) rfl rfl)
set_option maxRecDepth 40000 in
theorem fl_Cls_228 : Cond.fieldLinkNest RCls 228 "Cursorlist$Recency" "cost" "I" "Cursorlist" ∈ zNW := (zinN_of zc1 (i := 83) rfl rfl)
set_option maxRecDepth 40000 in
theorem fl_Rec_36 : Cond.fieldLink RRec 36 "Cursorlist$Recency" "lastKey" "I" ∈ zWS := (zin_of zc1 (i := 84) rfl rfl)
set_option maxRecDepth 40000 in
theorem fl_Cls_231 : Cond.fieldLinkNest RCls 231 "Cursorlist$Recency" "lastKey" "I" "Cursorlist" ∈ zNW := (zinN_of zc1 (i := 85) rfl rfl)
set_option maxRecDepth 40000 in
theorem lk_Cls_28 : Cond.methodLinkNest RCls 28 yRow_init "Cursorlist" ∈ zNW := (zinN_of zc1 (i := 97) rfl rfl)
set_option maxRecDepth 40000 in
theorem im_Cur : Cond.instantiable RCur 5 ∈ zWS := (zin_of zc1 (i := 98) rfl rfl)
set_option maxRecDepth 40000 in
theorem lk_Cls_33 : Cond.methodLinkNest RCls 33 yCur_init "Cursorlist" ∈ zNW := (zinN_of zc1 (i := 99) rfl rfl)
set_option maxRecDepth 40000 in
theorem lk_Cur_3 : Cond.methodLink RCur 3 objectInit ∈ zWS := (zin_of zc1 (i := 102) rfl rfl)
set_option maxRecDepth 40000 in
theorem fl_Cur_15 : Cond.fieldLink RCur 15 "Cursorlist$Cursor" "isThere" "Z" ∈ zWS := (zin_of zc1 (i := 103) rfl rfl)
set_option maxRecDepth 40000 in
theorem fl_Cls_144 : Cond.fieldLinkNest RCls 144 "Cursorlist$Cursor" "isThere" "Z" "Cursorlist" ∈ zNW := (zinN_of zc1 (i := 104) rfl rfl)
set_option maxRecDepth 40000 in
theorem fl_Cur_19 : Cond.fieldLink RCur 19 "Cursorlist$Cursor" "isStale" "Z" ∈ zWS := (zin_of zc1 (i := 105) rfl rfl)
set_option maxRecDepth 40000 in
theorem fl_Cls_152 : Cond.fieldLinkNest RCls 152 "Cursorlist$Cursor" "isStale" "Z" "Cursorlist" ∈ zNW := (zinN_of zc1 (i := 106) rfl rfl)
set_option maxRecDepth 40000 in
theorem fl_Cur_22 : Cond.fieldLink RCur 22 "Cursorlist$Cursor" "list" "I" ∈ zWS := (zin_of zc1 (i := 107) rfl rfl)
set_option maxRecDepth 40000 in
theorem fl_Cls_169 : Cond.fieldLinkNest RCls 169 "Cursorlist$Cursor" "list" "I" "Cursorlist" ∈ zNW := (zinN_of zc1 (i := 108) rfl rfl)
set_option maxRecDepth 40000 in
theorem fl_Cur_25 : Cond.fieldLink RCur 25 "Cursorlist$Cursor" "index" "I" ∈ zWS := (zin_of zc1 (i := 109) rfl rfl)
set_option maxRecDepth 40000 in
theorem fl_Cls_172 : Cond.fieldLinkNest RCls 172 "Cursorlist$Cursor" "index" "I" "Cursorlist" ∈ zNW := (zinN_of zc1 (i := 110) rfl rfl)
set_option maxRecDepth 40000 in
theorem fl_Cur_9 : Cond.fieldLink RCur 9 "Cursorlist$Cursor" "last" "I" ∈ zWS := (zin_of zc1 (i := 111) rfl rfl)
set_option maxRecDepth 40000 in
theorem fl_Cls_175 : Cond.fieldLinkNest RCls 175 "Cursorlist$Cursor" "last" "I" "Cursorlist" ∈ zNW := (zinN_of zc1 (i := 112) rfl rfl)
set_option maxRecDepth 40000 in
theorem fl_Cls_11 : Cond.fieldLink RCls 11 "Cursorlist" "lists" "[LCursorlist$Row;" ∈ zWS := (zin_of zc1 (i := 124) rfl rfl)
set_option maxRecDepth 40000 in
theorem fl_Cls_17 : Cond.fieldLink RCls 17 "Cursorlist" "cursors" "[LCursorlist$Cursor;" ∈ zWS := (zin_of zc1 (i := 125) rfl rfl)
set_option maxRecDepth 40000 in
theorem fl_Cls_24 : Cond.fieldLink RCls 24 "Cursorlist" "recency" "LCursorlist$Recency;" ∈ zWS := (zin_of zc1 (i := 126) rfl rfl)
set_option maxRecDepth 40000 in
theorem fl_Cls_29 : Cond.fieldLink RCls 29 "Cursorlist" "result" "LCursorlist$Row;" ∈ zWS := (zin_of zc1 (i := 127) rfl rfl)
set_option maxRecDepth 40000 in
theorem fl_Cls_259 : Cond.fieldLink RCls 259 "Cursorlist" "refusals" "I" ∈ zWS := (zin_of zc1 (i := 128) rfl rfl)
set_option maxRecDepth 40000 in
theorem fl_Cls_262 : Cond.fieldLink RCls 262 "Cursorlist" "knocks" "I" ∈ zWS := (zin_of zc1 (i := 129) rfl rfl)
set_option maxRecDepth 40000 in
theorem lk_Law_306 : Cond.methodLink RLaw 306 yCls_forget ∈ zWS := (zin_of zc1 (i := 143) rfl rfl)
set_option maxRecDepth 40000 in
theorem lk_Cls_226 : Cond.methodLinkNest RCls 226 yRec_begin "Cursorlist" ∈ zNW := (zinN_of zc1 (i := 147) rfl rfl)
set_option maxRecDepth 40000 in
theorem lk_Law_314 : Cond.methodLink RLaw 314 yCls_recent ∈ zWS := (zin_of zc1 (i := 148) rfl rfl)
set_option maxRecDepth 40000 in
theorem lk_Cls_94 : Cond.methodLinkNest RCls 94 yRow_joined "Cursorlist" ∈ zNW := (zinN_of zc1 (i := 152) rfl rfl)
set_option maxRecDepth 40000 in
theorem cl_Row_26 : Cond.classLink RRow 26 RSbd ∈ zWS := (zin_of zc1 (i := 156) rfl rfl)
set_option maxRecDepth 40000 in
theorem im_Sbd : Cond.instantiable RSbd 4 ∈ zWS := (zin_of zc1 (i := 157) rfl rfl)
set_option maxRecDepth 40000 in
theorem lk_Row_28 : Cond.methodLink RRow 28 ySbd_init_da8c8 ∈ zWS := (zin_of zc1 (i := 158) rfl rfl)
set_option maxRecDepth 40000 in
theorem lk_Sbd_1 : Cond.methodLink RSbd 1 yAsb_init_d00df ∈ zWS := (zin_of zc1 (i := 161) rfl rfl)
set_option maxRecDepth 40000 in
theorem lk_Asb_3 : Cond.methodLink RAsb 3 objectInit ∈ zWS := (zin_of zc1 (i := 164) rfl rfl)
set_option maxRecDepth 40000 in
theorem fl_Asb_18 : Cond.fieldLink RAsb 18 "java/lang/String" "COMPACT_STRINGS" "Z" ∈ zWS := (zin_of zc1 (i := 165) rfl rfl)
set_option maxRecDepth 40000 in
theorem lk_Asb_26 : Cond.methodLink RAsb 26 yUtf_newBytesFor_77867 ∈ zWS := (zin_of zc1 (i := 167) rfl rfl)
set_option maxRecDepth 40000 in
theorem lk_Utf_11 : Cond.methodLink RUtf 11 yUtf_newBytesLength_0f7a4 ∈ zWS := (zin_of zc1 (i := 170) rfl rfl)
set_option maxRecDepth 40000 in
theorem ct_Utf_20 : Cond.constant RUtf 20 (1073741823) ∈ zWS := (zin_of zc1 (i := 173) rfl rfl)
set_option maxRecDepth 40000 in
theorem fl_Asb_15 : Cond.fieldLink RAsb 15 "java/lang/AbstractStringBuilder" "value" "[B" ∈ zWS := (zin_of zc1 (i := 174) rfl rfl)
set_option maxRecDepth 40000 in
theorem fl_Asb_22 : Cond.fieldLink RAsb 22 "java/lang/AbstractStringBuilder" "coder" "B" ∈ zWS := (zin_of zc1 (i := 175) rfl rfl)
set_option maxRecDepth 40000 in
theorem fl_Str_1048 : Cond.fieldLink RStr 1048 "java/lang/AbstractStringBuilder" "maybeLatin1" "Z" ∈ zWS := (zin_of zc1 (i := 176) rfl rfl)
set_option maxRecDepth 40000 in
theorem fl_Asb_79 : Cond.fieldLink RAsb 79 "java/lang/AbstractStringBuilder" "count" "I" ∈ zWS := (zin_of zc1 (i := 177) rfl rfl)
set_option maxRecDepth 40000 in
theorem ac_byte : Cond.arrayClass FieldType.byte ∈ zWS := (zin_of zc1 (i := 187) rfl rfl)
set_option maxRecDepth 40000 in
theorem lk_Row_29 : Cond.methodLink RRow 29 ySbd_append_cf468 ∈ zWS := (zin_of zc1 (i := 188) rfl rfl)
set_option maxRecDepth 40000 in
theorem lk_Sbd_50 : Cond.methodLink RSbd 50 yAsb_append_3fe6f ∈ zWS := (zin_of zc1 (i := 192) rfl rfl)
set_option maxRecDepth 40000 in
theorem lk_Asb_100 : Cond.methodLink RAsb 100 yAsb_ensureCapacityInternal_d00df ∈ zWS := (zin_of zc1 (i := 195) rfl rfl)
set_option maxRecDepth 40000 in
theorem lk_Asb_104 : Cond.methodLink RAsb 104 yAsb_newCapacity_0f7a4 ∈ zWS := (zin_of zc1 (i := 199) rfl rfl)
set_option maxRecDepth 40000 in
theorem lk_Asb_114 : Cond.methodLink RAsb 114 yAsu_newLength_cabcc ∈ zWS := (zin_of zc1 (i := 203) rfl rfl)
set_option maxRecDepth 40000 in
theorem lk_Asu_194 : Cond.methodLink RAsu 194 yMth_max_7cf53 ∈ zWS := (zin_of zc1 (i := 206) rfl rfl)
set_option maxRecDepth 40000 in
theorem ct_Asu_200 : Cond.constant RAsu 200 (2147483639) ∈ zWS := (zin_of zc1 (i := 209) rfl rfl)
set_option maxRecDepth 40000 in
theorem lk_Asu_201 : Cond.methodLink RAsu 201 yAsu_hugeLength_7cf53 ∈ zWS := (zin_of zc1 (i := 210) rfl rfl)
set_option maxRecDepth 40000 in
theorem ct_Asb_39 : Cond.constant RAsb 39 (2147483647) ∈ zWS := (zin_of zc1 (i := 213) rfl rfl)
set_option maxRecDepth 40000 in
theorem lk_Asb_108 : Cond.methodLink RAsb 108 yArr_copyOf_9075b ∈ zWS := (zin_of zc1 (i := 214) rfl rfl)
set_option maxRecDepth 40000 in
theorem lk_Arr_310 : Cond.methodLink RArr 310 ⟨"[B", "clone", "()Ljava/lang/Object;"⟩ ∈ zWS := (zin_of zc1 (i := 217) rfl rfl)
set_option maxRecDepth 40000 in
theorem cl_Arr_311 : Cond.classLink RArr 311 "[B" ∈ zWS := (zin_of zc1 (i := 223) rfl rfl)
set_option maxRecDepth 40000 in
theorem lk_Arr_304 : Cond.methodLink RArr 304 yMth_min_7cf53 ∈ zWS := (zin_of zc1 (i := 224) rfl rfl)
set_option maxRecDepth 40000 in
theorem lk_Arr_150 : Cond.methodLink RArr 150 ⟨"java/lang/System", "arraycopy", "(Ljava/lang/Object;ILjava/lang/Object;II)V"⟩ ∈ zWS := (zin_of zc1 (i := 227) rfl rfl)
set_option maxRecDepth 40000 in
theorem lk_Asb_83 : Cond.methodLink RAsb 83 yAsb_isLatin1_aae02 ∈ zWS := (zin_of zc1 (i := 230) rfl rfl)
set_option maxRecDepth 40000 in
theorem lk_Asb_191 : Cond.methodLink RAsb 191 yLat_canEncode_fc78d ∈ zWS := (zin_of zc1 (i := 235) rfl rfl)
set_option maxRecDepth 40000 in
theorem lk_Asb_195 : Cond.methodLink RAsb 195 yAsb_inflate_da8c8 ∈ zWS := (zin_of zc1 (i := 238) rfl rfl)
set_option maxRecDepth 40000 in
theorem lk_Asb_125 : Cond.methodLink RAsb 125 yLat_inflate_0e8fd ∈ zWS := (zin_of zc2 (i := 2) rfl rfl)
set_option maxRecDepth 40000 in
theorem lk_Lat_240 : Cond.methodLink RLat 240 yUtf_inflate_0e8fd ∈ zWS := (zin_of zc2 (i := 5) rfl rfl)
set_option maxRecDepth 40000 in
theorem lk_Utf_173 : Cond.methodLink RUtf 173 yUtf_checkBoundsOffCount_d044e ∈ zWS := (zin_of zc2 (i := 8) rfl rfl)
set_option maxRecDepth 40000 in
theorem lk_Utf_48 : Cond.methodLink RUtf 48 yUtf_length_9d52b ∈ zWS := (zin_of zc2 (i := 11) rfl rfl)
set_option maxRecDepth 40000 in
theorem lk_Utf_419 : Cond.methodLink RUtf 419 yStr_checkBoundsOffCount_cabcc ∈ zWS := (zin_of zc2 (i := 14) rfl rfl)
set_option maxRecDepth 40000 in
theorem fl_Str_1053 : Cond.fieldLink RStr 1053 "jdk/internal/util/Preconditions" "SIOOBE_FORMATTER" "Ljava/util/function/BiFunction;" ∈ zWS := (zin_of zc2 (i := 17) rfl rfl)
set_option maxRecDepth 40000 in
theorem lk_Str_1065 : Cond.methodLink RStr 1065 yPrc_checkFromIndexSize_8c36e ∈ zWS := (zin_of zc2 (i := 19) rfl rfl)
set_option maxRecDepth 40000 in
theorem lk_Utf_111 : Cond.methodLink RUtf 111 yUtf_putChar_b72d1 ∈ zWS := (zin_of zc2 (i := 22) rfl rfl)
set_option maxRecDepth 40000 in
theorem fl_Utf_44 : Cond.fieldLink RUtf 44 "java/lang/StringUTF16" "$assertionsDisabled" "Z" ∈ zWS := (zin_of zc2 (i := 25) rfl rfl)
set_option maxRecDepth 40000 in
theorem fl_Utf_59 : Cond.fieldLink RUtf 59 "java/lang/StringUTF16" "HI_BYTE_SHIFT" "I" ∈ zWS := (zin_of zc2 (i := 27) rfl rfl)
set_option maxRecDepth 40000 in
theorem fl_Utf_63 : Cond.fieldLink RUtf 63 "java/lang/StringUTF16" "LO_BYTE_SHIFT" "I" ∈ zWS := (zin_of zc2 (i := 29) rfl rfl)
set_option maxRecDepth 40000 in
theorem lk_Asb_197 : Cond.methodLink RAsb 197 yUtf_putCharSB_b72d1 ∈ zWS := (zin_of zc2 (i := 31) rfl rfl)
set_option maxRecDepth 40000 in
theorem lk_Utf_67 : Cond.methodLink RUtf 67 yUtf_checkIndex_2214a ∈ zWS := (zin_of zc2 (i := 34) rfl rfl)
set_option maxRecDepth 40000 in
theorem lk_Utf_414 : Cond.methodLink RUtf 414 yStr_checkIndex_df160 ∈ zWS := (zin_of zc2 (i := 37) rfl rfl)
set_option maxRecDepth 40000 in
theorem lk_Str_1059 : Cond.methodLink RStr 1059 yPrc_checkIndex_8e157 ∈ zWS := (zin_of zc2 (i := 40) rfl rfl)
set_option maxRecDepth 40000 in
theorem lk_Row_33 : Cond.methodLink RRow 33 ySbd_append_bf812 ∈ zWS := (zin_of zc2 (i := 43) rfl rfl)
set_option maxRecDepth 40000 in
theorem lk_Sbd_53 : Cond.methodLink RSbd 53 yAsb_append_c97b9 ∈ zWS := (zin_of zc2 (i := 47) rfl rfl)
set_option maxRecDepth 40000 in
theorem lk_Asb_245 : Cond.methodLink RAsb 245 yInt_stringSize_0f7a4 ∈ zWS := (zin_of zc2 (i := 50) rfl rfl)
set_option maxRecDepth 40000 in
theorem lk_Asb_248 : Cond.methodLink RAsb 248 yInt_getChars_ba4f3 ∈ zWS := (zin_of zc2 (i := 53) rfl rfl)
set_option maxRecDepth 40000 in
theorem fl_Int_83 : Cond.fieldLink RInt 83 "java/lang/Integer" "DigitOnes" "[B" ∈ zWS := (zin_of zc2 (i := 56) rfl rfl)
set_option maxRecDepth 40000 in
theorem fl_Int_87 : Cond.fieldLink RInt 87 "java/lang/Integer" "DigitTens" "[B" ∈ zWS := (zin_of zc2 (i := 58) rfl rfl)
set_option maxRecDepth 40000 in
theorem lk_Asb_251 : Cond.methodLink RAsb 251 yUtf_getChars_46870 ∈ zWS := (zin_of zc2 (i := 60) rfl rfl)
set_option maxRecDepth 40000 in
theorem lk_Utf_96 : Cond.methodLink RUtf 96 yUtf_checkBoundsBeginEnd_d044e ∈ zWS := (zin_of zc2 (i := 63) rfl rfl)
set_option maxRecDepth 40000 in
theorem lk_Utf_241 : Cond.methodLink RUtf 241 yStr_checkBoundsBeginEnd_23922 ∈ zWS := (zin_of zc2 (i := 66) rfl rfl)
set_option maxRecDepth 40000 in
theorem lk_Str_1062 : Cond.methodLink RStr 1062 yPrc_checkFromToIndex_8c36e ∈ zWS := (zin_of zc2 (i := 69) rfl rfl)
set_option maxRecDepth 40000 in
theorem lk_Utf_393 : Cond.methodLink RUtf 393 yUtf_getChars_ba4f3 ∈ zWS := (zin_of zc2 (i := 72) rfl rfl)
set_option maxRecDepth 40000 in
theorem fl_Utf_403 : Cond.fieldLink RUtf 403 "java/lang/Integer" "DigitOnes" "[B" ∈ zWS := (zin_of zc2 (i := 75) rfl rfl)
set_option maxRecDepth 40000 in
theorem fl_Utf_407 : Cond.fieldLink RUtf 407 "java/lang/Integer" "DigitTens" "[B" ∈ zWS := (zin_of zc2 (i := 76) rfl rfl)
set_option maxRecDepth 40000 in
theorem lk_Row_36 : Cond.methodLink RRow 36 ySbd_toString_0e30d ∈ zWS := (zin_of zc2 (i := 77) rfl rfl)
set_option maxRecDepth 40000 in
theorem cl_Sbd_18 : Cond.classLink RSbd 18 RStr ∈ zWS := (zin_of zc2 (i := 81) rfl rfl)
set_option maxRecDepth 40000 in
theorem im_Str : Cond.instantiable RStr 4 ∈ zWS := (zin_of zc2 (i := 82) rfl rfl)
set_option maxRecDepth 40000 in
theorem lk_Sbd_137 : Cond.methodLink RSbd 137 yStr_init_81219 ∈ zWS := (zin_of zc2 (i := 83) rfl rfl)
set_option maxRecDepth 40000 in
theorem lk_Str_489 : Cond.methodLink RStr 489 yStr_init_db425 ∈ zWS := (zin_of zc2 (i := 86) rfl rfl)
set_option maxRecDepth 40000 in
theorem lk_Str_1 : Cond.methodLink RStr 1 objectInit ∈ zWS := (zin_of zc2 (i := 89) rfl rfl)
set_option maxRecDepth 40000 in
theorem lk_Str_552 : Cond.methodLink RStr 552 yAsb_getValue_6d5f1 ∈ zWS := (zin_of zc2 (i := 90) rfl rfl)
set_option maxRecDepth 40000 in
theorem lk_Str_549 : Cond.methodLink RStr 549 yAsb_length_8abf5 ∈ zWS := (zin_of zc2 (i := 95) rfl rfl)
set_option maxRecDepth 40000 in
theorem lk_Sbd_343 : Cond.methodLink RSbd 343 yAsb_length_8abf5 ∈ zWS := (zin_of zc2 (i := 101) rfl rfl)
set_option maxRecDepth 40000 in
theorem lk_Str_1047 : Cond.methodLink RStr 1047 yAsb_isLatin1_aae02 ∈ zWS := (zin_of zc2 (i := 103) rfl rfl)
set_option maxRecDepth 40000 in
theorem lk_Str_54 : Cond.methodLink RStr 54 yArr_copyOfRange_39247 ∈ zWS := (zin_of zc2 (i := 104) rfl rfl)
set_option maxRecDepth 40000 in
theorem lk_Arr_339 : Cond.methodLink RArr 339 yArr_copyOfRangeByte_39247 ∈ zWS := (zin_of zc2 (i := 107) rfl rfl)
set_option maxRecDepth 40000 in
theorem lk_Arr_343 : Cond.methodLink RArr 343 yArr_checkLength_df160 ∈ zWS := (zin_of zc2 (i := 110) rfl rfl)
set_option maxRecDepth 40000 in
theorem cl_Arr_43 : Cond.classLink RArr 43 "java/lang/IllegalArgumentException" ∈ zWS := (zin_of zc2 (i := 113) rfl rfl)
set_option maxRecDepth 40000 in
theorem im_IllegalArgumentException : Cond.instantiable "java/lang/IllegalArgumentException" 6 ∈ zWS := (zin_of zc2 (i := 114) rfl rfl)
set_option maxRecDepth 40000 in
theorem im_Throwable : Cond.instantiable "java/lang/Throwable" 6 ∈ zWS := (zin_of zc2 (i := 152) rfl rfl)
set_option maxRecDepth 40000 in
theorem cl_Arr_45 : Cond.classLink RArr 45 RSbd ∈ zWS := (zin_of zc2 (i := 154) rfl rfl)
set_option maxRecDepth 40000 in
theorem lk_Arr_47 : Cond.methodLink RArr 47 ySbd_init_da8c8 ∈ zWS := (zin_of zc2 (i := 155) rfl rfl)
set_option maxRecDepth 40000 in
theorem lk_Arr_54 : Cond.methodLink RArr 54 ySbd_append_bf812 ∈ zWS := (zin_of zc2 (i := 156) rfl rfl)
set_option maxRecDepth 40000 in
theorem lk_Arr_50 : Cond.methodLink RArr 50 ySbd_append_15ec4 ∈ zWS := (zin_of zc2 (i := 158) rfl rfl)
set_option maxRecDepth 40000 in
theorem lk_Sbd_29 : Cond.methodLink RSbd 29 yAsb_append_cf1ce ∈ zWS := (zin_of zc2 (i := 162) rfl rfl)
set_option maxRecDepth 40000 in
theorem lk_Asb_204 : Cond.methodLink RAsb 204 yAsb_appendNull_278bc ∈ zWS := (zin_of zc2 (i := 165) rfl rfl)
set_option maxRecDepth 40000 in
theorem lk_Asb_226 : Cond.methodLink RAsb 226 yUtf_putCharsAt_cd4e5 ∈ zWS := (zin_of zc2 (i := 169) rfl rfl)
set_option maxRecDepth 40000 in
theorem lk_Asb_32 : Cond.methodLink RAsb 32 yStr_length_8abf5 ∈ zWS := (zin_of zc2 (i := 172) rfl rfl)
set_option maxRecDepth 40000 in
theorem lk_Str_335 : Cond.methodLink RStr 335 yStr_coder_7d493 ∈ zWS := (zin_of zc2 (i := 176) rfl rfl)
set_option maxRecDepth 40000 in
theorem fl_Str_38 : Cond.fieldLink RStr 38 "java/lang/String" "COMPACT_STRINGS" "Z" ∈ zWS := (zin_of zc2 (i := 180) rfl rfl)
set_option maxRecDepth 40000 in
theorem lk_Asb_208 : Cond.methodLink RAsb 208 yAsb_putStringAt_47b60 ∈ zWS := (zin_of zc2 (i := 181) rfl rfl)
set_option maxRecDepth 40000 in
theorem lk_Asb_397 : Cond.methodLink RAsb 397 yAsb_inflateIfNeededFor_a7421 ∈ zWS := (zin_of zc2 (i := 185) rfl rfl)
set_option maxRecDepth 40000 in
theorem lk_Asb_40 : Cond.methodLink RAsb 40 yStr_coder_7d493 ∈ zWS := (zin_of zc2 (i := 189) rfl rfl)
set_option maxRecDepth 40000 in
theorem lk_Asb_399 : Cond.methodLink RAsb 399 yStr_getBytes_840e7 ∈ zWS := (zin_of zc2 (i := 190) rfl rfl)
set_option maxRecDepth 40000 in
theorem lk_Str_212 : Cond.methodLink RStr 212 ⟨"java/lang/System", "arraycopy", "(Ljava/lang/Object;ILjava/lang/Object;II)V"⟩ ∈ zWS := (zin_of zc2 (i := 194) rfl rfl)
set_option maxRecDepth 40000 in
theorem lk_Str_106 : Cond.methodLink RStr 106 yLat_inflate_0e8fd ∈ zWS := (zin_of zc2 (i := 195) rfl rfl)
set_option maxRecDepth 40000 in
theorem lk_Arr_61 : Cond.methodLink RArr 61 ySbd_toString_0e30d ∈ zWS := (zin_of zc2 (i := 196) rfl rfl)
set_option maxRecDepth 40000 in
theorem lk_Arr_65 : Cond.methodLink RArr 65 ⟨"java/lang/IllegalArgumentException", "<init>", "(Ljava/lang/String;)V"⟩ ∈ zWS := (zin_of zc2 (i := 197) rfl rfl)
set_option maxRecDepth 40000 in
theorem lk_Str_1051 : Cond.methodLink RStr 1051 yUtf_compress_39247 ∈ zWS := (zin_of zc2 (i := 222) rfl rfl)
set_option maxRecDepth 40000 in
theorem lk_Utf_123 : Cond.methodLink RUtf 123 yUtf_compress_5af95 ∈ zWS := (zin_of zc2 (i := 225) rfl rfl)
set_option maxRecDepth 40000 in
theorem lk_Utf_71 : Cond.methodLink RUtf 71 yUtf_getChar_3b067 ∈ zWS := (zin_of zc2 (i := 228) rfl rfl)
set_option maxRecDepth 40000 in
theorem lk_Utf_126 : Cond.methodLink RUtf 126 yArr_copyOfRange_39247 ∈ zWS := (zin_of zc2 (i := 231) rfl rfl)
set_option maxRecDepth 40000 in
theorem lk_Str_47 : Cond.methodLink RStr 47 yUtf_coderFromArrayLen_85cad ∈ zWS := (zin_of zc2 (i := 232) rfl rfl)
set_option maxRecDepth 40000 in
theorem fl_Str_9 : Cond.fieldLink RStr 9 "java/lang/String" "value" "[B" ∈ zWS := (zin_of zc2 (i := 235) rfl rfl)
set_option maxRecDepth 40000 in
theorem fl_Str_15 : Cond.fieldLink RStr 15 "java/lang/String" "coder" "B" ∈ zWS := (zin_of zc2 (i := 236) rfl rfl)
set_option maxRecDepth 40000 in
theorem lk_Law_328 : Cond.methodLink RLaw 328 yCls_knock ∈ zWS := (zin_of zc3 (i := 6) rfl rfl)
set_option maxRecDepth 40000 in
theorem lk_Law_332 : Cond.methodLink RLaw 332 yCls_isSound ∈ zWS := (zin_of zc3 (i := 10) rfl rfl)
set_option maxRecDepth 40000 in
theorem lk_Cls_265 : Cond.methodLink RCls 265 yCls_turnsBack ∈ zWS := (zin_of zc3 (i := 14) rfl rfl)
set_option maxRecDepth 40000 in
theorem lk_Cls_105 : Cond.methodLinkNest RCls 105 yRow_become "Cursorlist" ∈ zNW := (zinN_of zc3 (i := 18) rfl rfl)
set_option maxRecDepth 40000 in
theorem lk_Cls_126 : Cond.methodLinkNest RCls 126 yRow_turnRound "Cursorlist" ∈ zNW := (zinN_of zc3 (i := 22) rfl rfl)
set_option maxRecDepth 40000 in
theorem lk_Row_48 : Cond.methodLink RRow 48 yRow_exchange ∈ zWS := (zin_of zc3 (i := 26) rfl rfl)
set_option maxRecDepth 40000 in
theorem lk_Row_40 : Cond.methodLink RRow 40 yRow_itemAt ∈ zWS := (zin_of zc3 (i := 30) rfl rfl)
set_option maxRecDepth 40000 in
theorem lk_Row_19 : Cond.methodLink RRow 19 yRow_hasPlace ∈ zWS := (zin_of zc3 (i := 34) rfl rfl)
set_option maxRecDepth 40000 in
theorem lk_Row_44 : Cond.methodLink RRow 44 yRow_changeAt ∈ zWS := (zin_of zc3 (i := 38) rfl rfl)
set_option maxRecDepth 40000 in
theorem lk_Cls_133 : Cond.methodLinkNest RCls 133 yRow_isAs "Cursorlist" ∈ zNW := (zinN_of zc3 (i := 42) rfl rfl)
set_option maxRecDepth 40000 in
theorem lk_Cls_112 : Cond.methodLinkNest RCls 112 yRow_turnBy "Cursorlist" ∈ zNW := (zinN_of zc3 (i := 46) rfl rfl)
set_option maxRecDepth 40000 in
theorem lk_Row_51 : Cond.methodLink RRow 51 yMth_floorMod_7cf53 ∈ zWS := (zin_of zc3 (i := 50) rfl rfl)
set_option maxRecDepth 40000 in
theorem lk_Row_57 : Cond.methodLink RRow 57 yRow_takeOut ∈ zWS := (zin_of zc3 (i := 53) rfl rfl)
set_option maxRecDepth 40000 in
theorem lk_Cls_268 : Cond.methodLink RCls 268 yCls_addsUp ∈ zWS := (zin_of zc3 (i := 57) rfl rfl)
set_option maxRecDepth 40000 in
theorem lk_Cls_200 : Cond.methodLinkNest RCls 200 yRow_becomeSum "Cursorlist" ∈ zNW := (zinN_of zc3 (i := 61) rfl rfl)
set_option maxRecDepth 40000 in
theorem lk_Row_71 : Cond.methodLink RRow 71 yMth_max_7cf53 ∈ zWS := (zin_of zc3 (i := 65) rfl rfl)
set_option maxRecDepth 40000 in
theorem lk_Cls_325 : Cond.methodLink RCls 325 yCls_agreesWithResult ∈ zWS := (zin_of zc3 (i := 66) rfl rfl)
set_option maxRecDepth 40000 in
theorem lk_Cls_329 : Cond.methodLink RCls 329 yCls_isResultAt ∈ zWS := (zin_of zc3 (i := 70) rfl rfl)
set_option maxRecDepth 40000 in
theorem lk_Cls_212 : Cond.methodLinkNest RCls 212 yRow_restAt "Cursorlist" ∈ zNW := (zinN_of zc3 (i := 74) rfl rfl)
set_option maxRecDepth 40000 in
theorem lk_Cls_333 : Cond.methodLink RCls 333 yMth_floorMod_7cf53 ∈ zWS := (zin_of zc3 (i := 78) rfl rfl)
set_option maxRecDepth 40000 in
theorem lk_Cls_203 : Cond.methodLinkNest RCls 203 yRow_becomeProduct "Cursorlist" ∈ zNW := (zinN_of zc3 (i := 79) rfl rfl)
set_option maxRecDepth 40000 in
theorem lk_Row_74 : Cond.methodLink RRow 74 yRow_coefficientOfProduct ∈ zWS := (zin_of zc3 (i := 83) rfl rfl)
set_option maxRecDepth 40000 in
theorem lk_Cls_271 : Cond.methodLink RCls 271 yCls_isRecencySound ∈ zWS := (zin_of zc3 (i := 86) rfl rfl)
set_option maxRecDepth 40000 in
theorem lk_Cls_237 : Cond.methodLinkNest RCls 237 yRow_isOrder "Cursorlist" ∈ zNW := (zinN_of zc3 (i := 90) rfl rfl)
set_option maxRecDepth 40000 in
theorem lk_Row_78 : Cond.methodLink RRow 78 yRow_placeOf ∈ zWS := (zin_of zc3 (i := 94) rfl rfl)
set_option maxRecDepth 40000 in
theorem lk_Cls_247 : Cond.methodLinkNest RCls 247 yRec_boundBy "Cursorlist" ∈ zNW := (zinN_of zc3 (i := 98) rfl rfl)
set_option maxRecDepth 40000 in
theorem lk_Rec_51 : Cond.methodLink RRec 51 yRec_costBy ∈ zWS := (zin_of zc3 (i := 102) rfl rfl)
set_option maxRecDepth 40000 in
theorem lk_Rec_39 : Cond.methodLinkNest RRec 39 yRow_placeOf "Cursorlist" ∈ zNW := (zinN_of zc3 (i := 106) rfl rfl)
set_option maxRecDepth 40000 in
theorem lk_Rec_55 : Cond.methodLinkNest RRec 55 yRow_inversions "Cursorlist" ∈ zNW := (zinN_of zc3 (i := 107) rfl rfl)
set_option maxRecDepth 40000 in
theorem lk_Law_337 : Cond.methodLink RLaw 337 yCls_digest ∈ zWS := (zin_of zc3 (i := 111) rfl rfl)
set_option maxRecDepth 40000 in
theorem ct_Cls_274 : Cond.constantLong RCls 274 (7834) ∈ zWS := (zin_of zc3 (i := 115) rfl rfl)
set_option maxRecDepth 40000 in
theorem lk_Cls_276 : Cond.methodLink RCls 276 yCls_house ∈ zWS := (zin_of zc3 (i := 116) rfl rfl)
set_option maxRecDepth 40000 in
theorem lk_Cls_38 : Cond.methodLink RCls 38 yCls_demandWithin ∈ zWS := (zin_of zc3 (i := 120) rfl rfl)
set_option maxRecDepth 40000 in
theorem cl_Cls_181 : Cond.classLink RCls 181 "java/lang/IllegalArgumentException" ∈ zWS := (zin_of zc3 (i := 123) rfl rfl)
set_option maxRecDepth 40000 in
theorem lk_Cls_185 : Cond.methodLink RCls 185 ⟨"java/lang/IllegalArgumentException", "<init>", "(Ljava/lang/String;)V"⟩ ∈ zWS := (zin_of zc3 (i := 125) rfl rfl)
set_option maxRecDepth 40000 in
theorem lk_Cls_250 : Cond.methodLink RCls 250 yCls_itemsOfAll ∈ zWS := (zin_of zc3 (i := 126) rfl rfl)
set_option maxRecDepth 40000 in
theorem lk_Cls_253 : Cond.methodLink RCls 253 yCls_cursorsThere ∈ zWS := (zin_of zc3 (i := 130) rfl rfl)
set_option maxRecDepth 40000 in
theorem lk_Cls_192 : Cond.methodLink RCls 192 yCls_numberOf ∈ zWS := (zin_of zc3 (i := 134) rfl rfl)
set_option maxRecDepth 40000 in
theorem lk_Cls_256 : Cond.methodLink RCls 256 yCls_cursorsStale ∈ zWS := (zin_of zc3 (i := 137) rfl rfl)
set_option maxRecDepth 40000 in
theorem lk_Cls_279 : Cond.methodLink RCls 279 yCls_mixed ∈ zWS := (zin_of zc3 (i := 141) rfl rfl)
set_option maxRecDepth 40000 in
theorem ct_Cls_338 : Cond.constantLong RCls 338 (31) ∈ zWS := (zin_of zc3 (i := 144) rfl rfl)
set_option maxRecDepth 40000 in
theorem lk_Cls_283 : Cond.methodLink RCls 283 yCls_mixedWithList ∈ zWS := (zin_of zc3 (i := 145) rfl rfl)
set_option maxRecDepth 40000 in
theorem lk_Cls_293 : Cond.methodLink RCls 293 yCls_mixedWithItems ∈ zWS := (zin_of zc3 (i := 148) rfl rfl)
set_option maxRecDepth 40000 in
theorem lk_Cls_70 : Cond.methodLinkNest RCls 70 yRow_itemAt "Cursorlist" ∈ zNW := (zinN_of zc3 (i := 151) rfl rfl)
set_option maxRecDepth 40000 in
theorem lk_Cls_206 : Cond.methodLinkNest RCls 206 yRow_lastNotZero "Cursorlist" ∈ zNW := (zinN_of zc3 (i := 152) rfl rfl)
set_option maxRecDepth 40000 in
theorem lk_Cls_287 : Cond.methodLink RCls 287 yCls_ofCursor ∈ zWS := (zin_of zc3 (i := 156) rfl rfl)
set_option maxRecDepth 40000 in
theorem lk_Cls_137 : Cond.methodLink RCls 137 yCls_cursorAt ∈ zWS := (zin_of zc3 (i := 160) rfl rfl)
set_option maxRecDepth 40000 in
theorem cl_Cls_302 : Cond.classLink RCls 302 "java/lang/IndexOutOfBoundsException" ∈ zWS := (zin_of zc3 (i := 164) rfl rfl)
set_option maxRecDepth 40000 in
theorem im_IndexOutOfBoundsException : Cond.instantiable "java/lang/IndexOutOfBoundsException" 6 ∈ zWS := (zin_of zc3 (i := 165) rfl rfl)
set_option maxRecDepth 40000 in
theorem lk_Cls_306 : Cond.methodLink RCls 306 ⟨"java/lang/IndexOutOfBoundsException", "<init>", "(Ljava/lang/String;)V"⟩ ∈ zWS := (zin_of zc3 (i := 174) rfl rfl)
set_option maxRecDepth 40000 in
theorem lk_Cls_196 : Cond.methodLink RCls 196 yCls_whereIs ∈ zWS := (zin_of zc3 (i := 180) rfl rfl)
set_option maxRecDepth 40000 in
theorem lk_Cls_155 : Cond.methodLink RCls 155 yCls_rowUnder ∈ zWS := (zin_of zc3 (i := 184) rfl rfl)
set_option maxRecDepth 40000 in
theorem lk_Cls_34 : Cond.methodLink RCls 34 yCls_listAt ∈ zWS := (zin_of zc3 (i := 188) rfl rfl)
set_option maxRecDepth 40000 in
theorem lk_Cls_290 : Cond.methodLink RCls 290 yCls_asked ∈ zWS := (zin_of zc3 (i := 193) rfl rfl)
set_option maxRecDepth 40000 in
theorem lk_Cls_296 : Cond.methodLink RCls 296 yCls_mixedWithOrder ∈ zWS := (zin_of zc3 (i := 197) rfl rfl)
set_option maxRecDepth 40000 in
theorem lk_Cls_241 : Cond.methodLinkNest RCls 241 yRec_costBy "Cursorlist" ∈ zNW := (zinN_of zc3 (i := 201) rfl rfl)
set_option maxRecDepth 40000 in
theorem lk_Cls_244 : Cond.methodLinkNest RCls 244 yRow_inversions "Cursorlist" ∈ zNW := (zinN_of zc3 (i := 202) rfl rfl)
set_option maxRecDepth 40000 in
theorem lk_Cls_299 : Cond.methodLink RCls 299 yCls_isSound ∈ zWS := (zin_of zc3 (i := 203) rfl rfl)
set_option maxRecDepth 40000 in
theorem cl_Law_14 : Cond.classLink RLaw 14 ROut ∈ zWS := (zin_of zc3 (i := 204) rfl rfl)
set_option maxRecDepth 40000 in
theorem im_Out : Cond.instantiable ROut 2 ∈ zWS := (zin_of zc3 (i := 205) rfl rfl)
set_option maxRecDepth 40000 in
theorem lk_Law_172 : Cond.methodLinkNest RLaw 172 yOut_init "CursorlistLaw" ∈ zNW := (zinN_of zc3 (i := 206) rfl rfl)
set_option maxRecDepth 40000 in
theorem lk_Out_1 : Cond.methodLink ROut 1 objectInit ∈ zWS := (zin_of zc3 (i := 209) rfl rfl)
set_option maxRecDepth 40000 in
theorem fl_Law_13 : Cond.fieldLinkNest RLaw 13 "CursorlistLaw$Out" "n" "J" "CursorlistLaw" ∈ zNW := (zinN_of zc3 (i := 210) rfl rfl)
set_option maxRecDepth 40000 in
theorem fl_Law_65 : Cond.fieldLinkNest RLaw 65 "CursorlistLaw$Out" "s" "Ljava/lang/String;" "CursorlistLaw" ∈ zNW := (zinN_of zc3 (i := 211) rfl rfl)
set_option maxRecDepth 40000 in
theorem lk_Law_173 : Cond.methodLink RLaw 173 yLaw_put ∈ zWS := (zin_of zc3 (i := 217) rfl rfl)
set_option maxRecDepth 40000 in
theorem cl_Law_19 : Cond.classLink RLaw 19 "java/lang/IndexOutOfBoundsException" ∈ zWS := (zin_of zc3 (i := 220) rfl rfl)
set_option maxRecDepth 40000 in
theorem cl_Law_21 : Cond.classLink RLaw 21 "java/lang/IllegalArgumentException" ∈ zWS := (zin_of zc3 (i := 221) rfl rfl)
set_option maxRecDepth 40000 in
theorem lk_Law_7 : Cond.methodLink RLaw 7 yCls_put ∈ zWS := (zin_of zc3 (i := 222) rfl rfl)
set_option maxRecDepth 40000 in
theorem lk_Cls_42 : Cond.methodLink RCls 42 yCls_demandItem ∈ zWS := (zin_of zc3 (i := 226) rfl rfl)
set_option maxRecDepth 40000 in
theorem lk_Cls_50 : Cond.methodLink RCls 50 yCls_putInto ∈ zWS := (zin_of zc3 (i := 229) rfl rfl)
set_option maxRecDepth 40000 in
theorem lk_Cls_119 : Cond.methodLinkNest RCls 119 yRow_putIn "Cursorlist" ∈ zNW := (zinN_of zc3 (i := 233) rfl rfl)
set_option maxRecDepth 40000 in
theorem lk_Cls_54 : Cond.methodLink RCls 54 yCls_refuse ∈ zWS := (zin_of zc3 (i := 234) rfl rfl)
set_option maxRecDepth 40000 in
theorem ct_Cls_324 : Cond.constant RCls 324 (-1000009) ∈ zWS := (zin_of zc3 (i := 238) rfl rfl)
set_option maxRecDepth 40000 in
theorem lk_Cls_58 : Cond.methodLink RCls 58 yCls_makeStale ∈ zWS := (zin_of zc3 (i := 239) rfl rfl)
set_option maxRecDepth 40000 in
theorem lk_Law_179 : Cond.methodLink RLaw 179 yLaw_take ∈ zWS := (zin_of zc4 (i := 3) rfl rfl)
set_option maxRecDepth 40000 in
theorem lk_Law_23 : Cond.methodLink RLaw 23 yCls_take ∈ zWS := (zin_of zc4 (i := 6) rfl rfl)
set_option maxRecDepth 40000 in
theorem lk_Cls_62 : Cond.methodLink RCls 62 yCls_endOf ∈ zWS := (zin_of zc4 (i := 10) rfl rfl)
set_option maxRecDepth 40000 in
theorem lk_Cls_66 : Cond.methodLink RCls 66 yCls_takeFrom ∈ zWS := (zin_of zc4 (i := 13) rfl rfl)
set_option maxRecDepth 40000 in
theorem lk_Cls_88 : Cond.methodLinkNest RCls 88 yRow_takeOut "Cursorlist" ∈ zNW := (zinN_of zc4 (i := 17) rfl rfl)
set_option maxRecDepth 40000 in
theorem lk_Law_183 : Cond.methodLink RLaw 183 yLaw_look ∈ zWS := (zin_of zc4 (i := 18) rfl rfl)
set_option maxRecDepth 40000 in
theorem lk_Law_27 : Cond.methodLink RLaw 27 yCls_look ∈ zWS := (zin_of zc4 (i := 21) rfl rfl)
set_option maxRecDepth 40000 in
theorem lk_Law_186 : Cond.methodLink RLaw 186 yLaw_get ∈ zWS := (zin_of zc4 (i := 25) rfl rfl)
set_option maxRecDepth 40000 in
theorem lk_Law_30 : Cond.methodLink RLaw 30 yCls_get ∈ zWS := (zin_of zc4 (i := 28) rfl rfl)
set_option maxRecDepth 40000 in
theorem lk_Cls_74 : Cond.methodLink RCls 74 yCls_demandPlace ∈ zWS := (zin_of zc4 (i := 32) rfl rfl)
set_option maxRecDepth 40000 in
theorem lk_Cls_309 : Cond.methodLinkNest RCls 309 yRow_hasPlace "Cursorlist" ∈ zNW := (zinN_of zc4 (i := 35) rfl rfl)
set_option maxRecDepth 40000 in
theorem lk_Law_189 : Cond.methodLink RLaw 189 yLaw_set ∈ zWS := (zin_of zc4 (i := 37) rfl rfl)
set_option maxRecDepth 40000 in
theorem lk_Law_33 : Cond.methodLink RLaw 33 yCls_set ∈ zWS := (zin_of zc4 (i := 40) rfl rfl)
set_option maxRecDepth 40000 in
theorem lk_Cls_78 : Cond.methodLinkNest RCls 78 yRow_changeAt "Cursorlist" ∈ zNW := (zinN_of zc4 (i := 44) rfl rfl)
set_option maxRecDepth 40000 in
theorem lk_Law_192 : Cond.methodLink RLaw 192 yLaw_insert ∈ zWS := (zin_of zc4 (i := 45) rfl rfl)
set_option maxRecDepth 40000 in
theorem lk_Law_36 : Cond.methodLink RLaw 36 yCls_insert ∈ zWS := (zin_of zc4 (i := 48) rfl rfl)
set_option maxRecDepth 40000 in
theorem lk_Cls_81 : Cond.methodLink RCls 81 yCls_demandGap ∈ zWS := (zin_of zc4 (i := 52) rfl rfl)
set_option maxRecDepth 40000 in
theorem lk_Cls_315 : Cond.methodLinkNest RCls 315 yRow_hasGap "Cursorlist" ∈ zNW := (zinN_of zc4 (i := 55) rfl rfl)
set_option maxRecDepth 40000 in
theorem lk_Law_195 : Cond.methodLink RLaw 195 yLaw_removeAt ∈ zWS := (zin_of zc4 (i := 57) rfl rfl)
set_option maxRecDepth 40000 in
theorem lk_Law_39 : Cond.methodLink RLaw 39 yCls_removeAt ∈ zWS := (zin_of zc4 (i := 60) rfl rfl)
set_option maxRecDepth 40000 in
theorem lk_Law_198 : Cond.methodLink RLaw 198 yLaw_drop ∈ zWS := (zin_of zc4 (i := 64) rfl rfl)
set_option maxRecDepth 40000 in
theorem lk_Law_42 : Cond.methodLink RLaw 42 yCls_drop ∈ zWS := (zin_of zc4 (i := 67) rfl rfl)
set_option maxRecDepth 40000 in
theorem lk_Cls_84 : Cond.methodLinkNest RCls 84 yRow_placeOf "Cursorlist" ∈ zNW := (zinN_of zc4 (i := 71) rfl rfl)
set_option maxRecDepth 40000 in
theorem lk_Law_202 : Cond.methodLink RLaw 202 yLaw_thin ∈ zWS := (zin_of zc4 (i := 72) rfl rfl)
set_option maxRecDepth 40000 in
theorem lk_Law_46 : Cond.methodLink RLaw 46 yCls_thin ∈ zWS := (zin_of zc4 (i := 75) rfl rfl)
set_option maxRecDepth 40000 in
theorem lk_Cls_91 : Cond.methodLinkNest RCls 91 yRow_takeOutAll "Cursorlist" ∈ zNW := (zinN_of zc4 (i := 79) rfl rfl)
set_option maxRecDepth 40000 in
theorem lk_Law_205 : Cond.methodLink RLaw 205 yLaw_indexOf ∈ zWS := (zin_of zc4 (i := 83) rfl rfl)
set_option maxRecDepth 40000 in
theorem lk_Law_49 : Cond.methodLink RLaw 49 yCls_indexOf ∈ zWS := (zin_of zc4 (i := 86) rfl rfl)
set_option maxRecDepth 40000 in
theorem lk_Law_208 : Cond.methodLink RLaw 208 yLaw_has ∈ zWS := (zin_of zc4 (i := 90) rfl rfl)
set_option maxRecDepth 40000 in
theorem lk_Law_53 : Cond.methodLink RLaw 53 yCls_has ∈ zWS := (zin_of zc4 (i := 93) rfl rfl)
set_option maxRecDepth 40000 in
theorem lk_Law_211 : Cond.methodLink RLaw 211 yLaw_size ∈ zWS := (zin_of zc4 (i := 97) rfl rfl)
set_option maxRecDepth 40000 in
theorem lk_Law_57 : Cond.methodLink RLaw 57 yCls_size ∈ zWS := (zin_of zc4 (i := 100) rfl rfl)
set_option maxRecDepth 40000 in
theorem lk_Law_215 : Cond.methodLink RLaw 215 yLaw_text ∈ zWS := (zin_of zc4 (i := 104) rfl rfl)
set_option maxRecDepth 40000 in
theorem lk_Law_61 : Cond.methodLink RLaw 61 yCls_text ∈ zWS := (zin_of zc4 (i := 107) rfl rfl)
set_option maxRecDepth 40000 in
theorem lk_Law_219 : Cond.methodLink RLaw 219 yLaw_clear ∈ zWS := (zin_of zc4 (i := 111) rfl rfl)
set_option maxRecDepth 40000 in
theorem lk_Law_69 : Cond.methodLink RLaw 69 yCls_clear ∈ zWS := (zin_of zc4 (i := 114) rfl rfl)
set_option maxRecDepth 40000 in
theorem lk_Law_222 : Cond.methodLink RLaw 222 yLaw_append ∈ zWS := (zin_of zc4 (i := 118) rfl rfl)
set_option maxRecDepth 40000 in
theorem lk_Law_72 : Cond.methodLink RLaw 72 yCls_append ∈ zWS := (zin_of zc4 (i := 121) rfl rfl)
set_option maxRecDepth 40000 in
theorem lk_Cls_98 : Cond.methodLinkNest RCls 98 yRow_becomeJoined "Cursorlist" ∈ zNW := (zinN_of zc4 (i := 125) rfl rfl)
set_option maxRecDepth 40000 in
theorem lk_Row_67 : Cond.methodLink RRow 67 yRow_become ∈ zWS := (zin_of zc4 (i := 129) rfl rfl)
set_option maxRecDepth 40000 in
theorem lk_Cls_102 : Cond.methodLink RCls 102 yCls_becomeResult ∈ zWS := (zin_of zc4 (i := 130) rfl rfl)
set_option maxRecDepth 40000 in
theorem lk_Law_225 : Cond.methodLink RLaw 225 yLaw_appendAt ∈ zWS := (zin_of zc4 (i := 134) rfl rfl)
set_option maxRecDepth 40000 in
theorem lk_Law_75 : Cond.methodLink RLaw 75 yCls_appendAt ∈ zWS := (zin_of zc4 (i := 137) rfl rfl)
set_option maxRecDepth 40000 in
theorem lk_Law_228 : Cond.methodLink RLaw 228 yLaw_copy ∈ zWS := (zin_of zc4 (i := 141) rfl rfl)
set_option maxRecDepth 40000 in
theorem lk_Law_78 : Cond.methodLink RLaw 78 yCls_copy ∈ zWS := (zin_of zc4 (i := 144) rfl rfl)
set_option maxRecDepth 40000 in
theorem lk_Law_231 : Cond.methodLink RLaw 231 yLaw_places ∈ zWS := (zin_of zc4 (i := 148) rfl rfl)
set_option maxRecDepth 40000 in
theorem lk_Law_81 : Cond.methodLink RLaw 81 yCls_places ∈ zWS := (zin_of zc4 (i := 151) rfl rfl)
set_option maxRecDepth 40000 in
theorem lk_Cls_109 : Cond.methodLinkNest RCls 109 yRow_becomePlaces "Cursorlist" ∈ zNW := (zinN_of zc4 (i := 155) rfl rfl)
set_option maxRecDepth 40000 in
theorem lk_Law_234 : Cond.methodLink RLaw 234 yLaw_rotate ∈ zWS := (zin_of zc4 (i := 156) rfl rfl)
set_option maxRecDepth 40000 in
theorem lk_Law_84 : Cond.methodLink RLaw 84 yCls_rotate ∈ zWS := (zin_of zc4 (i := 159) rfl rfl)
set_option maxRecDepth 40000 in
theorem lk_Cls_115 : Cond.methodLink RCls 115 yCls_firstOf ∈ zWS := (zin_of zc4 (i := 163) rfl rfl)
set_option maxRecDepth 40000 in
theorem lk_Law_237 : Cond.methodLink RLaw 237 yLaw_move ∈ zWS := (zin_of zc4 (i := 166) rfl rfl)
set_option maxRecDepth 40000 in
theorem lk_Law_87 : Cond.methodLink RLaw 87 yCls_move ∈ zWS := (zin_of zc4 (i := 169) rfl rfl)
set_option maxRecDepth 40000 in
theorem lk_Law_240 : Cond.methodLink RLaw 240 yLaw_swap ∈ zWS := (zin_of zc4 (i := 173) rfl rfl)
set_option maxRecDepth 40000 in
theorem lk_Law_90 : Cond.methodLink RLaw 90 yCls_swap ∈ zWS := (zin_of zc4 (i := 176) rfl rfl)
set_option maxRecDepth 40000 in
theorem lk_Cls_123 : Cond.methodLinkNest RCls 123 yRow_exchange "Cursorlist" ∈ zNW := (zinN_of zc4 (i := 180) rfl rfl)
set_option maxRecDepth 40000 in
theorem lk_Law_243 : Cond.methodLink RLaw 243 yLaw_reverse ∈ zWS := (zin_of zc4 (i := 181) rfl rfl)
set_option maxRecDepth 40000 in
theorem lk_Law_93 : Cond.methodLink RLaw 93 yCls_reverse ∈ zWS := (zin_of zc4 (i := 184) rfl rfl)
set_option maxRecDepth 40000 in
theorem lk_Law_246 : Cond.methodLink RLaw 246 yLaw_through ∈ zWS := (zin_of zc4 (i := 188) rfl rfl)
set_option maxRecDepth 40000 in
theorem lk_Law_96 : Cond.methodLink RLaw 96 yCls_through ∈ zWS := (zin_of zc4 (i := 191) rfl rfl)
set_option maxRecDepth 40000 in
theorem lk_Cls_129 : Cond.methodLinkNest RCls 129 yRow_becomeThrough "Cursorlist" ∈ zNW := (zinN_of zc4 (i := 195) rfl rfl)
set_option maxRecDepth 40000 in
theorem lk_Law_249 : Cond.methodLink RLaw 249 yLaw_areSame ∈ zWS := (zin_of zc4 (i := 199) rfl rfl)
set_option maxRecDepth 40000 in
theorem lk_Law_99 : Cond.methodLink RLaw 99 yCls_areSame ∈ zWS := (zin_of zc4 (i := 202) rfl rfl)
set_option maxRecDepth 40000 in
theorem lk_Law_252 : Cond.methodLink RLaw 252 yLaw_isMirror ∈ zWS := (zin_of zc4 (i := 206) rfl rfl)
set_option maxRecDepth 40000 in
theorem lk_Law_102 : Cond.methodLink RLaw 102 yCls_isMirror ∈ zWS := (zin_of zc4 (i := 209) rfl rfl)
set_option maxRecDepth 40000 in
theorem lk_Law_255 : Cond.methodLink RLaw 255 yLaw_open ∈ zWS := (zin_of zc4 (i := 213) rfl rfl)
set_option maxRecDepth 40000 in
theorem lk_Law_106 : Cond.methodLink RLaw 106 yCls_open ∈ zWS := (zin_of zc4 (i := 216) rfl rfl)
set_option maxRecDepth 40000 in
theorem lk_Cls_141 : Cond.methodLinkNest RCls 141 yCur_begin "Cursorlist" ∈ zNW := (zinN_of zc4 (i := 220) rfl rfl)
set_option maxRecDepth 40000 in
theorem lk_Law_258 : Cond.methodLink RLaw 258 yLaw_shut ∈ zWS := (zin_of zc4 (i := 224) rfl rfl)
set_option maxRecDepth 40000 in
theorem lk_Law_109 : Cond.methodLink RLaw 109 yCls_shut ∈ zWS := (zin_of zc4 (i := 227) rfl rfl)
set_option maxRecDepth 40000 in
theorem lk_Law_261 : Cond.methodLink RLaw 261 yLaw_forth ∈ zWS := (zin_of zc4 (i := 231) rfl rfl)
set_option maxRecDepth 40000 in
theorem cl_Law_115 : Cond.classLink RLaw 115 "java/lang/IllegalStateException" ∈ zWS := (zin_of zc4 (i := 234) rfl rfl)
set_option maxRecDepth 40000 in
theorem lk_Law_112 : Cond.methodLink RLaw 112 yCls_forth ∈ zWS := (zin_of zc4 (i := 235) rfl rfl)
set_option maxRecDepth 40000 in
theorem lk_Cls_148 : Cond.methodLink RCls 148 yCls_demandThere ∈ zWS := (zin_of zc4 (i := 239) rfl rfl)
set_option maxRecDepth 40000 in
theorem cl_Cls_218 : Cond.classLink RCls 218 "java/lang/IllegalStateException" ∈ zWS := (zin_of zc5 (i := 2) rfl rfl)
set_option maxRecDepth 40000 in
theorem im_IllegalStateException : Cond.instantiable "java/lang/IllegalStateException" 6 ∈ zWS := (zin_of zc5 (i := 3) rfl rfl)
set_option maxRecDepth 40000 in
theorem lk_Cls_222 : Cond.methodLink RCls 222 ⟨"java/lang/IllegalStateException", "<init>", "(Ljava/lang/String;)V"⟩ ∈ zWS := (zin_of zc5 (i := 12) rfl rfl)
set_option maxRecDepth 40000 in
theorem lk_Cls_159 : Cond.methodLinkNest RCls 159 yCur_stepForth "Cursorlist" ∈ zNW := (zinN_of zc5 (i := 18) rfl rfl)
set_option maxRecDepth 40000 in
theorem lk_Cur_28 : Cond.methodLinkNest RCur 28 yRow_hasPlace "Cursorlist" ∈ zNW := (zinN_of zc5 (i := 22) rfl rfl)
set_option maxRecDepth 40000 in
theorem lk_Cur_34 : Cond.methodLinkNest RCur 34 yRow_itemAt "Cursorlist" ∈ zNW := (zinN_of zc5 (i := 23) rfl rfl)
set_option maxRecDepth 40000 in
theorem lk_Law_264 : Cond.methodLink RLaw 264 yLaw_back ∈ zWS := (zin_of zc5 (i := 24) rfl rfl)
set_option maxRecDepth 40000 in
theorem lk_Law_117 : Cond.methodLink RLaw 117 yCls_back ∈ zWS := (zin_of zc5 (i := 27) rfl rfl)
set_option maxRecDepth 40000 in
theorem lk_Cls_162 : Cond.methodLinkNest RCls 162 yCur_stepBack "Cursorlist" ∈ zNW := (zinN_of zc5 (i := 31) rfl rfl)
set_option maxRecDepth 40000 in
theorem lk_Law_267 : Cond.methodLink RLaw 267 yLaw_puts ∈ zWS := (zin_of zc5 (i := 35) rfl rfl)
set_option maxRecDepth 40000 in
theorem lk_Law_120 : Cond.methodLink RLaw 120 yCls_puts ∈ zWS := (zin_of zc5 (i := 38) rfl rfl)
set_option maxRecDepth 40000 in
theorem lk_Cls_165 : Cond.methodLinkNest RCls 165 yCur_putHere "Cursorlist" ∈ zNW := (zinN_of zc5 (i := 42) rfl rfl)
set_option maxRecDepth 40000 in
theorem lk_Cur_38 : Cond.methodLinkNest RCur 38 yRow_putIn "Cursorlist" ∈ zNW := (zinN_of zc5 (i := 46) rfl rfl)
set_option maxRecDepth 40000 in
theorem lk_Law_270 : Cond.methodLink RLaw 270 yLaw_cuts ∈ zWS := (zin_of zc5 (i := 47) rfl rfl)
set_option maxRecDepth 40000 in
theorem lk_Law_123 : Cond.methodLink RLaw 123 yCls_cuts ∈ zWS := (zin_of zc5 (i := 50) rfl rfl)
set_option maxRecDepth 40000 in
theorem lk_Cls_178 : Cond.methodLinkNest RCls 178 yCur_cutLast "Cursorlist" ∈ zNW := (zinN_of zc5 (i := 54) rfl rfl)
set_option maxRecDepth 40000 in
theorem lk_Cur_42 : Cond.methodLinkNest RCur 42 yRow_takeOut "Cursorlist" ∈ zNW := (zinN_of zc5 (i := 58) rfl rfl)
set_option maxRecDepth 40000 in
theorem lk_Law_273 : Cond.methodLink RLaw 273 yLaw_changes ∈ zWS := (zin_of zc5 (i := 59) rfl rfl)
set_option maxRecDepth 40000 in
theorem lk_Law_126 : Cond.methodLink RLaw 126 yCls_changes ∈ zWS := (zin_of zc5 (i := 62) rfl rfl)
set_option maxRecDepth 40000 in
theorem lk_Law_276 : Cond.methodLink RLaw 276 yLaw_meet ∈ zWS := (zin_of zc5 (i := 66) rfl rfl)
set_option maxRecDepth 40000 in
theorem lk_Law_129 : Cond.methodLink RLaw 129 yCls_meet ∈ zWS := (zin_of zc5 (i := 69) rfl rfl)
set_option maxRecDepth 40000 in
theorem lk_Cls_188 : Cond.methodLink RCls 188 yCls_sumUntilMet ∈ zWS := (zin_of zc5 (i := 74) rfl rfl)
set_option maxRecDepth 40000 in
theorem lk_Law_279 : Cond.methodLink RLaw 279 yLaw_ofCursor ∈ zWS := (zin_of zc5 (i := 77) rfl rfl)
set_option maxRecDepth 40000 in
theorem lk_Law_132 : Cond.methodLink RLaw 132 yCls_ofCursor ∈ zWS := (zin_of zc5 (i := 80) rfl rfl)
set_option maxRecDepth 40000 in
theorem lk_Law_282 : Cond.methodLink RLaw 282 yLaw_plus ∈ zWS := (zin_of zc5 (i := 81) rfl rfl)
set_option maxRecDepth 40000 in
theorem lk_Law_135 : Cond.methodLink RLaw 135 yCls_plus ∈ zWS := (zin_of zc5 (i := 84) rfl rfl)
set_option maxRecDepth 40000 in
theorem lk_Law_285 : Cond.methodLink RLaw 285 yLaw_times ∈ zWS := (zin_of zc5 (i := 88) rfl rfl)
set_option maxRecDepth 40000 in
theorem lk_Law_138 : Cond.methodLink RLaw 138 yCls_times ∈ zWS := (zin_of zc5 (i := 91) rfl rfl)
set_option maxRecDepth 40000 in
theorem lk_Law_288 : Cond.methodLink RLaw 288 yLaw_shift ∈ zWS := (zin_of zc5 (i := 95) rfl rfl)
set_option maxRecDepth 40000 in
theorem lk_Law_141 : Cond.methodLink RLaw 141 yCls_shift ∈ zWS := (zin_of zc5 (i := 98) rfl rfl)
set_option maxRecDepth 40000 in
theorem lk_Law_291 : Cond.methodLink RLaw 291 yLaw_trim ∈ zWS := (zin_of zc5 (i := 102) rfl rfl)
set_option maxRecDepth 40000 in
theorem lk_Law_144 : Cond.methodLink RLaw 144 yCls_trim ∈ zWS := (zin_of zc5 (i := 105) rfl rfl)
set_option maxRecDepth 40000 in
theorem lk_Law_294 : Cond.methodLink RLaw 294 yLaw_derive ∈ zWS := (zin_of zc5 (i := 109) rfl rfl)
set_option maxRecDepth 40000 in
theorem lk_Law_147 : Cond.methodLink RLaw 147 yCls_derive ∈ zWS := (zin_of zc5 (i := 112) rfl rfl)
set_option maxRecDepth 40000 in
theorem lk_Cls_209 : Cond.methodLinkNest RCls 209 yRow_becomeDerived "Cursorlist" ∈ zNW := (zinN_of zc5 (i := 116) rfl rfl)
set_option maxRecDepth 40000 in
theorem lk_Law_297 : Cond.methodLink RLaw 297 yLaw_value ∈ zWS := (zin_of zc5 (i := 120) rfl rfl)
set_option maxRecDepth 40000 in
theorem lk_Law_150 : Cond.methodLink RLaw 150 yCls_value ∈ zWS := (zin_of zc5 (i := 123) rfl rfl)
set_option maxRecDepth 40000 in
theorem lk_Law_300 : Cond.methodLink RLaw 300 yLaw_degree ∈ zWS := (zin_of zc5 (i := 127) rfl rfl)
set_option maxRecDepth 40000 in
theorem lk_Law_153 : Cond.methodLink RLaw 153 yCls_degree ∈ zWS := (zin_of zc5 (i := 130) rfl rfl)
set_option maxRecDepth 40000 in
theorem lk_Law_303 : Cond.methodLink RLaw 303 yLaw_ask ∈ zWS := (zin_of zc5 (i := 134) rfl rfl)
set_option maxRecDepth 40000 in
theorem lk_Law_156 : Cond.methodLink RLaw 156 yCls_ask ∈ zWS := (zin_of zc5 (i := 137) rfl rfl)
set_option maxRecDepth 40000 in
theorem lk_Cls_223 : Cond.methodLinkNest RCls 223 yRec_bringAhead "Cursorlist" ∈ zNW := (zinN_of zc5 (i := 142) rfl rfl)
set_option maxRecDepth 40000 in
theorem lk_Rec_43 : Cond.methodLinkNest RRec 43 yRow_takeOut "Cursorlist" ∈ zNW := (zinN_of zc5 (i := 146) rfl rfl)
set_option maxRecDepth 40000 in
theorem lk_Rec_47 : Cond.methodLinkNest RRec 47 yRow_putIn "Cursorlist" ∈ zNW := (zinN_of zc5 (i := 147) rfl rfl)
set_option maxRecDepth 40000 in
theorem lk_Law_311 : Cond.methodLink RLaw 311 yLaw_asked ∈ zWS := (zin_of zc5 (i := 148) rfl rfl)
set_option maxRecDepth 40000 in
theorem lk_Law_159 : Cond.methodLink RLaw 159 yCls_asked ∈ zWS := (zin_of zc5 (i := 151) rfl rfl)
set_option maxRecDepth 40000 in
theorem lk_Law_319 : Cond.methodLink RLaw 319 yLaw_byOrder ∈ zWS := (zin_of zc5 (i := 152) rfl rfl)
set_option maxRecDepth 40000 in
theorem lk_Law_162 : Cond.methodLink RLaw 162 yCls_byOrder ∈ zWS := (zin_of zc5 (i := 155) rfl rfl)
set_option maxRecDepth 40000 in
theorem lk_Law_322 : Cond.methodLink RLaw 322 yLaw_house ∈ zWS := (zin_of zc5 (i := 159) rfl rfl)
set_option maxRecDepth 40000 in
theorem lk_Law_165 : Cond.methodLink RLaw 165 yCls_house ∈ zWS := (zin_of zc5 (i := 162) rfl rfl)
set_option maxRecDepth 40000 in
theorem cl_Law_169 : Cond.classLink RLaw 169 RMod ∈ zWS := (zin_of zc5 (i := 163) rfl rfl)
set_option maxRecDepth 40000 in
theorem im_Mod : Cond.instantiable RMod 13 ∈ zWS := (zin_of zc5 (i := 164) rfl rfl)
set_option maxRecDepth 40000 in
theorem lk_Law_171 : Cond.methodLink RLaw 171 yMod_init ∈ zWS := (zin_of zc5 (i := 165) rfl rfl)
set_option maxRecDepth 40000 in
theorem lk_Mod_1 : Cond.methodLink RMod 1 objectInit ∈ zWS := (zin_of zc5 (i := 168) rfl rfl)
set_option maxRecDepth 40000 in
theorem cl_Mod_9 : Cond.classLink RMod 9 "[[I" ∈ zWS := (zin_of zc5 (i := 169) rfl rfl)
set_option maxRecDepth 40000 in
theorem fl_Mod_11 : Cond.fieldLink RMod 11 "CursorlistModel" "rows" "[[I" ∈ zWS := (zin_of zc5 (i := 171) rfl rfl)
set_option maxRecDepth 40000 in
theorem fl_Mod_14 : Cond.fieldLink RMod 14 "CursorlistModel" "isThere" "[Z" ∈ zWS := (zin_of zc5 (i := 172) rfl rfl)
set_option maxRecDepth 40000 in
theorem fl_Mod_18 : Cond.fieldLink RMod 18 "CursorlistModel" "isStale" "[Z" ∈ zWS := (zin_of zc5 (i := 173) rfl rfl)
set_option maxRecDepth 40000 in
theorem fl_Mod_21 : Cond.fieldLink RMod 21 "CursorlistModel" "over" "[I" ∈ zWS := (zin_of zc5 (i := 174) rfl rfl)
set_option maxRecDepth 40000 in
theorem fl_Mod_25 : Cond.fieldLink RMod 25 "CursorlistModel" "index" "[I" ∈ zWS := (zin_of zc5 (i := 175) rfl rfl)
set_option maxRecDepth 40000 in
theorem fl_Mod_28 : Cond.fieldLink RMod 28 "CursorlistModel" "lastAt" "[I" ∈ zWS := (zin_of zc5 (i := 176) rfl rfl)
set_option maxRecDepth 40000 in
theorem fl_Mod_31 : Cond.fieldLink RMod 31 "CursorlistModel" "recent" "[I" ∈ zWS := (zin_of zc5 (i := 177) rfl rfl)
set_option maxRecDepth 40000 in
theorem fl_Mod_34 : Cond.fieldLink RMod 34 "CursorlistModel" "askings" "[I" ∈ zWS := (zin_of zc5 (i := 178) rfl rfl)
set_option maxRecDepth 40000 in
theorem fl_Mod_184 : Cond.fieldLink RMod 184 "CursorlistModel" "asked" "I" ∈ zWS := (zin_of zc5 (i := 179) rfl rfl)
set_option maxRecDepth 40000 in
theorem fl_Mod_187 : Cond.fieldLink RMod 187 "CursorlistModel" "paid" "I" ∈ zWS := (zin_of zc5 (i := 180) rfl rfl)
set_option maxRecDepth 40000 in
theorem fl_Mod_45 : Cond.fieldLink RMod 45 "CursorlistModel" "refusals" "I" ∈ zWS := (zin_of zc5 (i := 181) rfl rfl)
set_option maxRecDepth 40000 in
theorem fl_Mod_200 : Cond.fieldLink RMod 200 "CursorlistModel" "knocks" "I" ∈ zWS := (zin_of zc5 (i := 182) rfl rfl)
set_option maxRecDepth 40000 in
theorem fl_Mod_37 : Cond.fieldLink RMod 37 "CursorlistModel" "thrown" "I" ∈ zWS := (zin_of zc5 (i := 183) rfl rfl)
set_option maxRecDepth 40000 in
theorem ac_boolean : Cond.arrayClass FieldType.boolean ∈ zWS := (zin_of zc5 (i := 211) rfl rfl)
set_option maxRecDepth 40000 in
theorem lk_Law_325 : Cond.methodLink RLaw 325 yMod_thrown ∈ zWS := (zin_of zc5 (i := 212) rfl rfl)
set_option maxRecDepth 40000 in
theorem lk_Law_178 : Cond.methodLink RLaw 178 yMod_put ∈ zWS := (zin_of zc5 (i := 216) rfl rfl)
set_option maxRecDepth 40000 in
theorem lk_Mod_81 : Cond.methodLink RMod 81 yMod_isNo ∈ zWS := (zin_of zc5 (i := 220) rfl rfl)
set_option maxRecDepth 40000 in
theorem lk_Mod_41 : Cond.methodLink RMod 41 yMod_isOut ∈ zWS := (zin_of zc5 (i := 223) rfl rfl)
set_option maxRecDepth 40000 in
theorem lk_Mod_85 : Cond.methodLink RMod 85 yMod_isNoItem ∈ zWS := (zin_of zc5 (i := 226) rfl rfl)
set_option maxRecDepth 40000 in
theorem lk_Mod_88 : Cond.methodLink RMod 88 yMod_fails ∈ zWS := (zin_of zc5 (i := 229) rfl rfl)
set_option maxRecDepth 40000 in
theorem lk_Mod_92 : Cond.methodLink RMod 92 yMod_refused ∈ zWS := (zin_of zc5 (i := 233) rfl rfl)
set_option maxRecDepth 40000 in
theorem ct_Mod_48 : Cond.constant RMod 48 (-1000009) ∈ zWS := (zin_of zc5 (i := 237) rfl rfl)
set_option maxRecDepth 40000 in
theorem lk_Mod_49 : Cond.methodLink RMod 49 yMod_with ∈ zWS := (zin_of zc5 (i := 238) rfl rfl)
set_option maxRecDepth 40000 in
theorem lk_Mod_95 : Cond.methodLink RMod 95 yMod_becomes ∈ zWS := (zin_of zc6 (i := 1) rfl rfl)
set_option maxRecDepth 40000 in
theorem lk_Mod_77 : Cond.methodLink RMod 77 yMod_become ∈ zWS := (zin_of zc6 (i := 5) rfl rfl)
set_option maxRecDepth 40000 in
theorem lk_Law_182 : Cond.methodLink RLaw 182 yMod_take ∈ zWS := (zin_of zc6 (i := 9) rfl rfl)
set_option maxRecDepth 40000 in
theorem lk_Mod_99 : Cond.methodLink RMod 99 yMod_isAtEnd ∈ zWS := (zin_of zc6 (i := 13) rfl rfl)
set_option maxRecDepth 40000 in
theorem lk_Mod_102 : Cond.methodLink RMod 102 yMod_without ∈ zWS := (zin_of zc6 (i := 16) rfl rfl)
set_option maxRecDepth 40000 in
theorem lk_Law_185 : Cond.methodLink RLaw 185 yMod_look ∈ zWS := (zin_of zc6 (i := 19) rfl rfl)
set_option maxRecDepth 40000 in
theorem lk_Law_188 : Cond.methodLink RLaw 188 yMod_get ∈ zWS := (zin_of zc6 (i := 23) rfl rfl)
set_option maxRecDepth 40000 in
theorem lk_Mod_106 : Cond.methodLink RMod 106 yMod_isNoPlace ∈ zWS := (zin_of zc6 (i := 27) rfl rfl)
set_option maxRecDepth 40000 in
theorem lk_Law_191 : Cond.methodLink RLaw 191 yMod_set ∈ zWS := (zin_of zc6 (i := 31) rfl rfl)
set_option maxRecDepth 40000 in
theorem lk_Law_194 : Cond.methodLink RLaw 194 yMod_insert ∈ zWS := (zin_of zc6 (i := 35) rfl rfl)
set_option maxRecDepth 40000 in
theorem lk_Law_197 : Cond.methodLink RLaw 197 yMod_removeAt ∈ zWS := (zin_of zc6 (i := 39) rfl rfl)
set_option maxRecDepth 40000 in
theorem lk_Law_201 : Cond.methodLink RLaw 201 yMod_drop ∈ zWS := (zin_of zc6 (i := 43) rfl rfl)
set_option maxRecDepth 40000 in
theorem lk_Mod_110 : Cond.methodLink RMod 110 yMod_find ∈ zWS := (zin_of zc6 (i := 47) rfl rfl)
set_option maxRecDepth 40000 in
theorem lk_Law_204 : Cond.methodLink RLaw 204 yMod_thin ∈ zWS := (zin_of zc6 (i := 50) rfl rfl)
set_option maxRecDepth 40000 in
theorem lk_Law_207 : Cond.methodLink RLaw 207 yMod_indexOf ∈ zWS := (zin_of zc6 (i := 54) rfl rfl)
set_option maxRecDepth 40000 in
theorem lk_Law_210 : Cond.methodLink RLaw 210 yMod_has ∈ zWS := (zin_of zc6 (i := 58) rfl rfl)
set_option maxRecDepth 40000 in
theorem lk_Law_214 : Cond.methodLink RLaw 214 yMod_size ∈ zWS := (zin_of zc6 (i := 62) rfl rfl)
set_option maxRecDepth 40000 in
theorem lk_Law_218 : Cond.methodLink RLaw 218 yMod_text ∈ zWS := (zin_of zc6 (i := 66) rfl rfl)
set_option maxRecDepth 40000 in
theorem lk_Mod_114 : Cond.methodLink RMod 114 yMod_turned ∈ zWS := (zin_of zc6 (i := 71) rfl rfl)
set_option maxRecDepth 40000 in
theorem lk_Mod_118 : Cond.methodLink RMod 118 yMod_told ∈ zWS := (zin_of zc6 (i := 74) rfl rfl)
set_option maxRecDepth 40000 in
theorem cl_Mod_55 : Cond.classLink RMod 55 RSbd ∈ zWS := (zin_of zc6 (i := 77) rfl rfl)
set_option maxRecDepth 40000 in
theorem lk_Mod_57 : Cond.methodLink RMod 57 ySbd_init_da8c8 ∈ zWS := (zin_of zc6 (i := 78) rfl rfl)
set_option maxRecDepth 40000 in
theorem lk_Mod_58 : Cond.methodLink RMod 58 ySbd_append_15ec4 ∈ zWS := (zin_of zc6 (i := 79) rfl rfl)
set_option maxRecDepth 40000 in
theorem lk_Mod_62 : Cond.methodLink RMod 62 yStr_length_8abf5 ∈ zWS := (zin_of zc6 (i := 80) rfl rfl)
set_option maxRecDepth 40000 in
theorem lk_Mod_70 : Cond.methodLink RMod 70 ySbd_append_bf812 ∈ zWS := (zin_of zc6 (i := 82) rfl rfl)
set_option maxRecDepth 40000 in
theorem lk_Mod_73 : Cond.methodLink RMod 73 ySbd_toString_0e30d ∈ zWS := (zin_of zc6 (i := 83) rfl rfl)
set_option maxRecDepth 40000 in
theorem lk_Law_221 : Cond.methodLink RLaw 221 yMod_clear ∈ zWS := (zin_of zc6 (i := 84) rfl rfl)
set_option maxRecDepth 40000 in
theorem lk_Law_224 : Cond.methodLink RLaw 224 yMod_append ∈ zWS := (zin_of zc6 (i := 88) rfl rfl)
set_option maxRecDepth 40000 in
theorem lk_Mod_122 : Cond.methodLink RMod 122 yMod_joins ∈ zWS := (zin_of zc6 (i := 92) rfl rfl)
set_option maxRecDepth 40000 in
theorem lk_Mod_126 : Cond.methodLink RMod 126 yMod_joined ∈ zWS := (zin_of zc6 (i := 96) rfl rfl)
set_option maxRecDepth 40000 in
theorem lk_Law_227 : Cond.methodLink RLaw 227 yMod_appendAt ∈ zWS := (zin_of zc6 (i := 99) rfl rfl)
set_option maxRecDepth 40000 in
theorem lk_Law_230 : Cond.methodLink RLaw 230 yMod_copy ∈ zWS := (zin_of zc6 (i := 103) rfl rfl)
set_option maxRecDepth 40000 in
theorem lk_Mod_130 : Cond.methodLink RMod 130 yMod_copied ∈ zWS := (zin_of zc6 (i := 107) rfl rfl)
set_option maxRecDepth 40000 in
theorem lk_Law_233 : Cond.methodLink RLaw 233 yMod_places ∈ zWS := (zin_of zc6 (i := 110) rfl rfl)
set_option maxRecDepth 40000 in
theorem lk_Law_236 : Cond.methodLink RLaw 236 yMod_rotate ∈ zWS := (zin_of zc6 (i := 114) rfl rfl)
set_option maxRecDepth 40000 in
theorem lk_Mod_133 : Cond.methodLink RMod 133 yMod_first ∈ zWS := (zin_of zc6 (i := 118) rfl rfl)
set_option maxRecDepth 40000 in
theorem lk_Law_239 : Cond.methodLink RLaw 239 yMod_move ∈ zWS := (zin_of zc6 (i := 122) rfl rfl)
set_option maxRecDepth 40000 in
theorem lk_Law_242 : Cond.methodLink RLaw 242 yMod_swap ∈ zWS := (zin_of zc6 (i := 126) rfl rfl)
set_option maxRecDepth 40000 in
theorem lk_Law_245 : Cond.methodLink RLaw 245 yMod_reverse ∈ zWS := (zin_of zc6 (i := 130) rfl rfl)
set_option maxRecDepth 40000 in
theorem lk_Law_248 : Cond.methodLink RLaw 248 yMod_through ∈ zWS := (zin_of zc6 (i := 134) rfl rfl)
set_option maxRecDepth 40000 in
theorem lk_Law_251 : Cond.methodLink RLaw 251 yMod_areSame ∈ zWS := (zin_of zc6 (i := 138) rfl rfl)
set_option maxRecDepth 40000 in
theorem lk_Mod_137 : Cond.methodLink RMod 137 yMod_areLike ∈ zWS := (zin_of zc6 (i := 142) rfl rfl)
set_option maxRecDepth 40000 in
theorem lk_Law_254 : Cond.methodLink RLaw 254 yMod_isMirror ∈ zWS := (zin_of zc6 (i := 145) rfl rfl)
set_option maxRecDepth 40000 in
theorem lk_Law_257 : Cond.methodLink RLaw 257 yMod_open ∈ zWS := (zin_of zc6 (i := 149) rfl rfl)
set_option maxRecDepth 40000 in
theorem lk_Mod_141 : Cond.methodLink RMod 141 yMod_isNoCursor ∈ zWS := (zin_of zc6 (i := 153) rfl rfl)
set_option maxRecDepth 40000 in
theorem lk_Law_260 : Cond.methodLink RLaw 260 yMod_shut ∈ zWS := (zin_of zc6 (i := 156) rfl rfl)
set_option maxRecDepth 40000 in
theorem lk_Law_263 : Cond.methodLink RLaw 263 yMod_forth ∈ zWS := (zin_of zc6 (i := 160) rfl rfl)
set_option maxRecDepth 40000 in
theorem lk_Mod_151 : Cond.methodLink RMod 151 yMod_asksOn ∈ zWS := (zin_of zc6 (i := 164) rfl rfl)
set_option maxRecDepth 40000 in
theorem lk_Mod_144 : Cond.methodLink RMod 144 yMod_isNotThere ∈ zWS := (zin_of zc6 (i := 168) rfl rfl)
set_option maxRecDepth 40000 in
theorem lk_Mod_147 : Cond.methodLink RMod 147 yMod_goes ∈ zWS := (zin_of zc6 (i := 172) rfl rfl)
set_option maxRecDepth 40000 in
theorem lk_Law_266 : Cond.methodLink RLaw 266 yMod_back ∈ zWS := (zin_of zc6 (i := 176) rfl rfl)
set_option maxRecDepth 40000 in
theorem lk_Law_269 : Cond.methodLink RLaw 269 yMod_puts ∈ zWS := (zin_of zc6 (i := 180) rfl rfl)
set_option maxRecDepth 40000 in
theorem lk_Law_272 : Cond.methodLink RLaw 272 yMod_cuts ∈ zWS := (zin_of zc6 (i := 184) rfl rfl)
set_option maxRecDepth 40000 in
theorem lk_Law_275 : Cond.methodLink RLaw 275 yMod_changes ∈ zWS := (zin_of zc6 (i := 188) rfl rfl)
set_option maxRecDepth 40000 in
theorem lk_Law_278 : Cond.methodLink RLaw 278 yMod_meet ∈ zWS := (zin_of zc6 (i := 192) rfl rfl)
set_option maxRecDepth 40000 in
theorem lk_Law_281 : Cond.methodLink RLaw 281 yMod_ofCursor ∈ zWS := (zin_of zc6 (i := 196) rfl rfl)
set_option maxRecDepth 40000 in
theorem lk_Mod_154 : Cond.methodLink RMod 154 yMod_ofCursorNow ∈ zWS := (zin_of zc6 (i := 200) rfl rfl)
set_option maxRecDepth 40000 in
theorem lk_Law_284 : Cond.methodLink RLaw 284 yMod_plus ∈ zWS := (zin_of zc6 (i := 204) rfl rfl)
set_option maxRecDepth 40000 in
theorem lk_Mod_166 : Cond.methodLink RMod 166 yMod_fits ∈ zWS := (zin_of zc6 (i := 208) rfl rfl)
set_option maxRecDepth 40000 in
theorem lk_Mod_162 : Cond.methodLink RMod 162 yMod_fitting ∈ zWS := (zin_of zc6 (i := 212) rfl rfl)
set_option maxRecDepth 40000 in
theorem ct_Mod_158 : Cond.constantLong RMod 158 (-9999) ∈ zWS := (zin_of zc6 (i := 215) rfl rfl)
set_option maxRecDepth 40000 in
theorem ct_Mod_160 : Cond.constantLong RMod 160 (9999) ∈ zWS := (zin_of zc6 (i := 216) rfl rfl)
set_option maxRecDepth 40000 in
theorem ac_long : Cond.arrayClass FieldType.long ∈ zWS := (zin_of zc6 (i := 217) rfl rfl)
set_option maxRecDepth 40000 in
theorem lk_Law_287 : Cond.methodLink RLaw 287 yMod_times ∈ zWS := (zin_of zc6 (i := 218) rfl rfl)
set_option maxRecDepth 40000 in
theorem lk_Law_290 : Cond.methodLink RLaw 290 yMod_shift ∈ zWS := (zin_of zc6 (i := 222) rfl rfl)
set_option maxRecDepth 40000 in
theorem lk_Law_293 : Cond.methodLink RLaw 293 yMod_trim ∈ zWS := (zin_of zc6 (i := 226) rfl rfl)
set_option maxRecDepth 40000 in
theorem lk_Law_296 : Cond.methodLink RLaw 296 yMod_derive ∈ zWS := (zin_of zc6 (i := 230) rfl rfl)
set_option maxRecDepth 40000 in
theorem lk_Law_299 : Cond.methodLink RLaw 299 yMod_value ∈ zWS := (zin_of zc6 (i := 234) rfl rfl)
set_option maxRecDepth 40000 in
theorem lk_Mod_176 : Cond.methodLink RMod 176 yMod_valueOf ∈ zWS := (zin_of zc6 (i := 238) rfl rfl)
set_option maxRecDepth 40000 in
theorem lk_Mod_172 : Cond.methodLink RMod 172 yMod_rest ∈ zWS := (zin_of zc7 (i := 1) rfl rfl)
set_option maxRecDepth 40000 in
theorem ct_Mod_170 : Cond.constantLong RMod 170 (9973) ∈ zWS := (zin_of zc7 (i := 4) rfl rfl)
set_option maxRecDepth 40000 in
theorem lk_Law_302 : Cond.methodLink RLaw 302 yMod_degree ∈ zWS := (zin_of zc7 (i := 5) rfl rfl)
set_option maxRecDepth 40000 in
theorem lk_Mod_180 : Cond.methodLink RMod 180 yMod_degreeOf ∈ zWS := (zin_of zc7 (i := 9) rfl rfl)
set_option maxRecDepth 40000 in
theorem lk_Law_305 : Cond.methodLink RLaw 305 yMod_ask ∈ zWS := (zin_of zc7 (i := 12) rfl rfl)
set_option maxRecDepth 40000 in
theorem lk_Law_310 : Cond.methodLink RLaw 310 yMod_forget ∈ zWS := (zin_of zc7 (i := 16) rfl rfl)
set_option maxRecDepth 40000 in
theorem lk_Law_313 : Cond.methodLink RLaw 313 yMod_asked ∈ zWS := (zin_of zc7 (i := 20) rfl rfl)
set_option maxRecDepth 40000 in
theorem lk_Mod_190 : Cond.methodLink RMod 190 yMod_askedNow ∈ zWS := (zin_of zc7 (i := 24) rfl rfl)
set_option maxRecDepth 40000 in
theorem lk_Law_318 : Cond.methodLink RLaw 318 yMod_recent ∈ zWS := (zin_of zc7 (i := 28) rfl rfl)
set_option maxRecDepth 40000 in
theorem lk_Law_321 : Cond.methodLink RLaw 321 yMod_byOrder ∈ zWS := (zin_of zc7 (i := 32) rfl rfl)
set_option maxRecDepth 40000 in
theorem lk_Mod_193 : Cond.methodLink RMod 193 yMod_isOrder ∈ zWS := (zin_of zc7 (i := 36) rfl rfl)
set_option maxRecDepth 40000 in
theorem lk_Mod_197 : Cond.methodLink RMod 197 yMod_byOrderNow ∈ zWS := (zin_of zc7 (i := 39) rfl rfl)
set_option maxRecDepth 40000 in
theorem lk_Law_324 : Cond.methodLink RLaw 324 yMod_house ∈ zWS := (zin_of zc7 (i := 43) rfl rfl)
set_option maxRecDepth 40000 in
theorem lk_Mod_203 : Cond.methodLink RMod 203 yMod_houseNow ∈ zWS := (zin_of zc7 (i := 47) rfl rfl)
set_option maxRecDepth 40000 in
theorem lk_Law_331 : Cond.methodLink RLaw 331 yMod_knock ∈ zWS := (zin_of zc7 (i := 51) rfl rfl)
set_option maxRecDepth 40000 in
theorem lk_Law_336 : Cond.methodLink RLaw 336 yMod_isSound ∈ zWS := (zin_of zc7 (i := 55) rfl rfl)
set_option maxRecDepth 40000 in
theorem lk_Law_341 : Cond.methodLink RLaw 341 yMod_digest ∈ zWS := (zin_of zc7 (i := 59) rfl rfl)
set_option maxRecDepth 40000 in
theorem ct_Mod_208 : Cond.constantLong RMod 208 (7834) ∈ zWS := (zin_of zc7 (i := 63) rfl rfl)
set_option maxRecDepth 40000 in
theorem lk_Mod_210 : Cond.methodLink RMod 210 yMod_add ∈ zWS := (zin_of zc7 (i := 64) rfl rfl)
set_option maxRecDepth 40000 in
theorem ct_Mod_206 : Cond.constantLong RMod 206 (31) ∈ zWS := (zin_of zc7 (i := 67) rfl rfl)
set_option maxRecDepth 40000 in
theorem ob_i : Cond.instanceMethod objectInit ∈ zWS := (zin_of zc1 (i := 30) rfl rfl)
set_option maxRecDepth 40000 in
theorem ob_c : Cond.code objectInit ⟨#[0xb1]⟩ 1 none ∈ zWS := (zin_of zc1 (i := 31) rfl rfl)
theorem fd_Str : zFd zkStr RStr TStr 4 tyStr := ⟨rfl, fun w hw => List.mem_filter.mpr ⟨(by decide +kernel : ∀ w ∈ u_ws RStr TStr 4, w ∈ lw_tbl) w hw, (by decide +kernel : ∀ w ∈ u_ws RStr TStr 4, goodWord w = true) w hw⟩, tyStr_ok, nmStr⟩
theorem fd_Sbd : zFd zkSbd RSbd TSbd 4 tySbd := ⟨rfl, fun w hw => List.mem_filter.mpr ⟨(by decide +kernel : ∀ w ∈ u_ws RSbd TSbd 4, w ∈ lw_tbl) w hw, (by decide +kernel : ∀ w ∈ u_ws RSbd TSbd 4, goodWord w = true) w hw⟩, tySbd_ok, nmSbd⟩
theorem fd_Cur : zFd zkCur RCur TCur 5 tyCur := ⟨rfl, fun w hw => List.mem_filter.mpr ⟨(by decide +kernel : ∀ w ∈ u_ws RCur TCur 5, w ∈ lw_tbl) w hw, (by decide +kernel : ∀ w ∈ u_ws RCur TCur 5, goodWord w = true) w hw⟩, tyCur_ok, nmCur⟩
theorem fd_Rec : zFd zkRec RRec TRec 5 tyRec := ⟨rfl, fun w hw => List.mem_filter.mpr ⟨(by decide +kernel : ∀ w ∈ u_ws RRec TRec 5, w ∈ lw_tbl) w hw, (by decide +kernel : ∀ w ∈ u_ws RRec TRec 5, goodWord w = true) w hw⟩, tyRec_ok, nmRec⟩
theorem fd_Row : zFd zkRow RRow TRow 2 tyRow := ⟨rfl, fun w hw => List.mem_filter.mpr ⟨(by decide +kernel : ∀ w ∈ u_ws RRow TRow 2, w ∈ lw_tbl) w hw, (by decide +kernel : ∀ w ∈ u_ws RRow TRow 2, goodWord w = true) w hw⟩, tyRow_ok, nmRow⟩
theorem fd_Cls : zFd zkCls RCls TCls 6 tyCls := ⟨rfl, fun w hw => List.mem_filter.mpr ⟨(by decide +kernel : ∀ w ∈ u_ws RCls TCls 6, w ∈ lw_tbl) w hw, (by decide +kernel : ∀ w ∈ u_ws RCls TCls 6, goodWord w = true) w hw⟩, tyCls_ok, nmCls⟩
theorem fd_Out : zFd zkOut ROut TOut 2 tyOut := ⟨rfl, fun w hw => List.mem_filter.mpr ⟨(by decide +kernel : ∀ w ∈ u_ws ROut TOut 2, w ∈ lw_tbl) w hw, (by decide +kernel : ∀ w ∈ u_ws ROut TOut 2, goodWord w = true) w hw⟩, tyOut_ok, nmOut⟩
theorem fd_Mod : zFd zkMod RMod TMod 13 tyMod := ⟨rfl, fun w hw => List.mem_filter.mpr ⟨(by decide +kernel : ∀ w ∈ u_ws RMod TMod 13, w ∈ lw_tbl) w hw, (by decide +kernel : ∀ w ∈ u_ws RMod TMod 13, goodWord w = true) w hw⟩, tyMod_ok, nmMod⟩
end
