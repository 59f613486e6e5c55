set_option maxRecDepth 40000 in
theorem ME_Asb_length_8abf5 : zMe yAsb_length_8abf5 hAsb_length_8abf5 0 := ⟨(zin_of zc1 (i := 12) rfl rfl), (zin_of zc2 (i := 102) rfl rfl), by decide +kernel, by decide +kernel⟩
set_option maxRecDepth 40000 in
theorem IN_Asb_length_8abf5 : Cond.instanceMethod yAsb_length_8abf5 ∈ zWS := (zin_of zc2 (i := 96) rfl rfl)
set_option maxRecDepth 40000 in
theorem SM_Asb_length_8abf5 : Cond.sameMethod yAsb_length_8abf5.cls yAsb_length_8abf5.cls yAsb_length_8abf5.name yAsb_length_8abf5.desc ∈ zWS := (zin_of zc2 (i := 97) rfl rfl)
set_option maxRecDepth 40000 in
theorem ME_Asb_ensureCapacityInternal_d00df : zMe yAsb_ensureCapacityInternal_d00df hAsb_ensureCapacityInternal_d00df 1 := ⟨(zin_of zc1 (i := 12) rfl rfl), (zin_of zc1 (i := 198) rfl rfl), by decide +kernel, by decide +kernel⟩
set_option maxRecDepth 40000 in
theorem IN_Asb_ensureCapacityInternal_d00df : Cond.instanceMethod yAsb_ensureCapacityInternal_d00df ∈ zWS := (zin_of zc1 (i := 197) rfl rfl)
set_option maxRecDepth 40000 in
theorem SM_Asb_ensureCapacityInternal_d00df : Cond.sameMethod yAsb_ensureCapacityInternal_d00df.cls yAsb_ensureCapacityInternal_d00df.cls yAsb_ensureCapacityInternal_d00df.name yAsb_ensureCapacityInternal_d00df.desc ∈ zWS := (zin_of zc7 (i := 69) rfl rfl)
set_option maxRecDepth 40000 in
theorem ME_Asb_newCapacity_0f7a4 : zMe yAsb_newCapacity_0f7a4 hAsb_newCapacity_0f7a4 1 := ⟨(zin_of zc1 (i := 12) rfl rfl), (zin_of zc1 (i := 202) rfl rfl), by decide +kernel, by decide +kernel⟩
set_option maxRecDepth 40000 in
theorem IN_Asb_newCapacity_0f7a4 : Cond.instanceMethod yAsb_newCapacity_0f7a4 ∈ zWS := (zin_of zc1 (i := 201) rfl rfl)
set_option maxRecDepth 40000 in
theorem SM_Asb_newCapacity_0f7a4 : Cond.sameMethod yAsb_newCapacity_0f7a4.cls yAsb_newCapacity_0f7a4.cls yAsb_newCapacity_0f7a4.name yAsb_newCapacity_0f7a4.desc ∈ zWS := (zin_of zc7 (i := 70) rfl rfl)
set_option maxRecDepth 40000 in
theorem ME_Asb_inflate_da8c8 : zMe yAsb_inflate_da8c8 hAsb_inflate_da8c8 0 := ⟨(zin_of zc1 (i := 12) rfl rfl), (zin_of zc2 (i := 1) rfl rfl), by decide +kernel, by decide +kernel⟩
set_option maxRecDepth 40000 in
theorem IN_Asb_inflate_da8c8 : Cond.instanceMethod yAsb_inflate_da8c8 ∈ zWS := (zin_of zc2 (i := 0) rfl rfl)
set_option maxRecDepth 40000 in
theorem SM_Asb_inflate_da8c8 : Cond.sameMethod yAsb_inflate_da8c8.cls yAsb_inflate_da8c8.cls yAsb_inflate_da8c8.name yAsb_inflate_da8c8.desc ∈ zWS := (zin_of zc7 (i := 71) rfl rfl)
set_option maxRecDepth 40000 in
theorem ME_Asb_append_cf1ce : zMe yAsb_append_cf1ce hAsb_append_cf1ce 1 := ⟨(zin_of zc1 (i := 12) rfl rfl), (zin_of zc2 (i := 164) rfl rfl), by decide +kernel, by decide +kernel⟩
set_option maxRecDepth 40000 in
theorem IN_Asb_append_cf1ce : Cond.instanceMethod yAsb_append_cf1ce ∈ zWS := (zin_of zc2 (i := 163) rfl rfl)
set_option maxRecDepth 40000 in
theorem SM_Asb_append_cf1ce : Cond.sameMethod yAsb_append_cf1ce.cls yAsb_append_cf1ce.cls yAsb_append_cf1ce.name yAsb_append_cf1ce.desc ∈ zWS := (zin_of zc7 (i := 74) rfl rfl)
set_option maxRecDepth 40000 in
theorem ME_Asb_appendNull_278bc : zMe yAsb_appendNull_278bc hAsb_appendNull_278bc 0 := ⟨(zin_of zc1 (i := 12) rfl rfl), (zin_of zc2 (i := 168) rfl rfl), by decide +kernel, by decide +kernel⟩
set_option maxRecDepth 40000 in
theorem IN_Asb_appendNull_278bc : Cond.instanceMethod yAsb_appendNull_278bc ∈ zWS := (zin_of zc2 (i := 167) rfl rfl)
set_option maxRecDepth 40000 in
theorem SM_Asb_appendNull_278bc : Cond.sameMethod yAsb_appendNull_278bc.cls yAsb_appendNull_278bc.cls yAsb_appendNull_278bc.name yAsb_appendNull_278bc.desc ∈ zWS := (zin_of zc7 (i := 75) rfl rfl)
set_option maxRecDepth 40000 in
theorem ME_Asb_append_3fe6f : zMe yAsb_append_3fe6f hAsb_append_3fe6f 1 := ⟨(zin_of zc1 (i := 12) rfl rfl), (zin_of zc1 (i := 194) rfl rfl), by decide +kernel, by decide +kernel⟩
set_option maxRecDepth 40000 in
theorem IN_Asb_append_3fe6f : Cond.instanceMethod yAsb_append_3fe6f ∈ zWS := (zin_of zc1 (i := 193) rfl rfl)
set_option maxRecDepth 40000 in
theorem SM_Asb_append_3fe6f : Cond.sameMethod yAsb_append_3fe6f.cls yAsb_append_3fe6f.cls yAsb_append_3fe6f.name yAsb_append_3fe6f.desc ∈ zWS := (zin_of zc7 (i := 68) rfl rfl)
set_option maxRecDepth 40000 in
theorem ME_Asb_append_c97b9 : zMe yAsb_append_c97b9 hAsb_append_c97b9 1 := ⟨(zin_of zc1 (i := 12) rfl rfl), (zin_of zc2 (i := 49) rfl rfl), by decide +kernel, by decide +kernel⟩
set_option maxRecDepth 40000 in
theorem IN_Asb_append_c97b9 : Cond.instanceMethod yAsb_append_c97b9 ∈ zWS := (zin_of zc2 (i := 48) rfl rfl)
set_option maxRecDepth 40000 in
theorem SM_Asb_append_c97b9 : Cond.sameMethod yAsb_append_c97b9.cls yAsb_append_c97b9.cls yAsb_append_c97b9.name yAsb_append_c97b9.desc ∈ zWS := (zin_of zc7 (i := 72) rfl rfl)
set_option maxRecDepth 40000 in
theorem ME_Asb_getValue_6d5f1 : zMe yAsb_getValue_6d5f1 hAsb_getValue_6d5f1 0 := ⟨(zin_of zc1 (i := 12) rfl rfl), (zin_of zc2 (i := 94) rfl rfl), by decide +kernel, by decide +kernel⟩
set_option maxRecDepth 40000 in
theorem IN_Asb_getValue_6d5f1 : Cond.instanceMethod yAsb_getValue_6d5f1 ∈ zWS := (zin_of zc2 (i := 91) rfl rfl)
set_option maxRecDepth 40000 in
theorem SM_Asb_getValue_6d5f1 : Cond.sameMethod yAsb_getValue_6d5f1.cls yAsb_getValue_6d5f1.cls yAsb_getValue_6d5f1.name yAsb_getValue_6d5f1.desc ∈ zWS := (zin_of zc2 (i := 92) rfl rfl)
set_option maxRecDepth 40000 in
theorem SE_Asb_getValue_6d5f1 {G : zG} : ∀ (args : Array Value) (s : State), zS G s s.heap → (∀ w ∈ zWS, w.before args s = true) → (Cond.selects RSbd yAsb_getValue_6d5f1 yAsb_getValue_6d5f1).before args s = true := fun _ _ _ h => h _ (zin_of zc2 (i := 93) rfl rfl)
set_option maxRecDepth 40000 in
theorem ME_Asb_isLatin1_aae02 : zMe yAsb_isLatin1_aae02 hAsb_isLatin1_aae02 0 := ⟨(zin_of zc1 (i := 12) rfl rfl), (zin_of zc1 (i := 234) rfl rfl), by decide +kernel, by decide +kernel⟩
set_option maxRecDepth 40000 in
theorem IN_Asb_isLatin1_aae02 : Cond.instanceMethod yAsb_isLatin1_aae02 ∈ zWS := (zin_of zc1 (i := 231) rfl rfl)
set_option maxRecDepth 40000 in
theorem SM_Asb_isLatin1_aae02 : Cond.sameMethod yAsb_isLatin1_aae02.cls yAsb_isLatin1_aae02.cls yAsb_isLatin1_aae02.name yAsb_isLatin1_aae02.desc ∈ zWS := (zin_of zc1 (i := 232) rfl rfl)
set_option maxRecDepth 40000 in
theorem SE_Asb_isLatin1_aae02 {G : zG} : ∀ (args : Array Value) (s : State), zS G s s.heap → (∀ w ∈ zWS, w.before args s = true) → (Cond.selects RSbd yAsb_isLatin1_aae02 yAsb_isLatin1_aae02).before args s = true := fun _ _ _ h => h _ (zin_of zc1 (i := 233) rfl rfl)
set_option maxRecDepth 40000 in
theorem ME_Asb_inflateIfNeededFor_a7421 : zMe yAsb_inflateIfNeededFor_a7421 hAsb_inflateIfNeededFor_a7421 1 := ⟨(zin_of zc1 (i := 12) rfl rfl), (zin_of zc2 (i := 188) rfl rfl), by decide +kernel, by decide +kernel⟩
set_option maxRecDepth 40000 in
theorem IN_Asb_inflateIfNeededFor_a7421 : Cond.instanceMethod yAsb_inflateIfNeededFor_a7421 ∈ zWS := (zin_of zc2 (i := 187) rfl rfl)
set_option maxRecDepth 40000 in
theorem SM_Asb_inflateIfNeededFor_a7421 : Cond.sameMethod yAsb_inflateIfNeededFor_a7421.cls yAsb_inflateIfNeededFor_a7421.cls yAsb_inflateIfNeededFor_a7421.name yAsb_inflateIfNeededFor_a7421.desc ∈ zWS := (zin_of zc7 (i := 77) rfl rfl)
set_option maxRecDepth 40000 in
theorem ME_Asb_putStringAt_47b60 : zMe yAsb_putStringAt_47b60 hAsb_putStringAt_47b60 2 := ⟨(zin_of zc1 (i := 12) rfl rfl), (zin_of zc2 (i := 184) rfl rfl), by decide +kernel, by decide +kernel⟩
set_option maxRecDepth 40000 in
theorem IN_Asb_putStringAt_47b60 : Cond.instanceMethod yAsb_putStringAt_47b60 ∈ zWS := (zin_of zc2 (i := 183) rfl rfl)
set_option maxRecDepth 40000 in
theorem SM_Asb_putStringAt_47b60 : Cond.sameMethod yAsb_putStringAt_47b60.cls yAsb_putStringAt_47b60.cls yAsb_putStringAt_47b60.name yAsb_putStringAt_47b60.desc ∈ zWS := (zin_of zc7 (i := 76) rfl rfl)
theorem SE_Asb_ensureCapacityInternal_d00df {G : zG} : ∀ (args : Array Value) (s : State), zS G s s.heap → (∀ w ∈ zWS, w.before args s = true) → (Cond.selects RSbd yAsb_ensureCapacityInternal_d00df yAsb_ensureCapacityInternal_d00df).before args s = true := fun args s hZ _ => word_at (State.WarmedH.refl s) (Or.inl (by first | rfl | simp [Cond.onTables, Cond.keeps, Cond.steady])) (hZ.sj.2.2.2.2.2.2 yAsb_ensureCapacityInternal_d00df (by simp [zSbP]))
theorem SE_Asb_newCapacity_0f7a4 {G : zG} : ∀ (args : Array Value) (s : State), zS G s s.heap → (∀ w ∈ zWS, w.before args s = true) → (Cond.selects RSbd yAsb_newCapacity_0f7a4 yAsb_newCapacity_0f7a4).before args s = true := fun args s hZ _ => word_at (State.WarmedH.refl s) (Or.inl (by first | rfl | simp [Cond.onTables, Cond.keeps, Cond.steady])) (hZ.sj.2.2.2.2.2.2 yAsb_newCapacity_0f7a4 (by simp [zSbP]))
theorem SE_Asb_inflate_da8c8 {G : zG} : ∀ (args : Array Value) (s : State), zS G s s.heap → (∀ w ∈ zWS, w.before args s = true) → (Cond.selects RSbd yAsb_inflate_da8c8 yAsb_inflate_da8c8).before args s = true := fun args s hZ _ => word_at (State.WarmedH.refl s) (Or.inl (by first | rfl | simp [Cond.onTables, Cond.keeps, Cond.steady])) (hZ.sj.2.2.2.2.2.2 yAsb_inflate_da8c8 (by simp [zSbP]))
theorem SE_Asb_appendNull_278bc {G : zG} : ∀ (args : Array Value) (s : State), zS G s s.heap → (∀ w ∈ zWS, w.before args s = true) → (Cond.selects RSbd yAsb_appendNull_278bc yAsb_appendNull_278bc).before args s = true := fun args s hZ _ => word_at (State.WarmedH.refl s) (Or.inl (by first | rfl | simp [Cond.onTables, Cond.keeps, Cond.steady])) (hZ.sj.2.2.2.2.2.2 yAsb_appendNull_278bc (by simp [zSbP]))
theorem SE_Asb_inflateIfNeededFor_a7421 {G : zG} : ∀ (args : Array Value) (s : State), zS G s s.heap → (∀ w ∈ zWS, w.before args s = true) → (Cond.selects RSbd yAsb_inflateIfNeededFor_a7421 yAsb_inflateIfNeededFor_a7421).before args s = true := fun args s hZ _ => word_at (State.WarmedH.refl s) (Or.inl (by first | rfl | simp [Cond.onTables, Cond.keeps, Cond.steady])) (hZ.sj.2.2.2.2.2.2 yAsb_inflateIfNeededFor_a7421 (by simp [zSbP]))
theorem SE_Asb_putStringAt_47b60 {G : zG} : ∀ (args : Array Value) (s : State), zS G s s.heap → (∀ w ∈ zWS, w.before args s = true) → (Cond.selects RSbd yAsb_putStringAt_47b60 yAsb_putStringAt_47b60).before args s = true := fun args s hZ _ => word_at (State.WarmedH.refl s) (Or.inl (by first | rfl | simp [Cond.onTables, Cond.keeps, Cond.steady])) (hZ.sj.2.2.2.2.2.2 yAsb_putStringAt_47b60 (by simp [zSbP]))
set_option maxRecDepth 40000 in
theorem SU_Sbd : Cond.superclass RSbd "java/lang/AbstractStringBuilder" ∈ zWS := (zin_of zc1 (i := 186) rfl rfl)
set_option maxRecDepth 40000 in
theorem ME_Sbd_length : zMe ySbd_length_8abf5 hSbd_length_8abf5 0 := ⟨(zin_of zc1 (i := 13) rfl rfl), (zin_of zc2 (i := 100) rfl rfl), by decide +kernel, by decide +kernel⟩
set_option maxRecDepth 40000 in
theorem IN_Sbd_length : Cond.instanceMethod ySbd_length_8abf5 ∈ zWS := (zin_of zc2 (i := 99) rfl rfl)
set_option maxRecDepth 40000 in
theorem SE_length : Cond.selects RSbd yAsb_length_8abf5 ySbd_length_8abf5 ∈ zWS := (zin_of zc2 (i := 98) rfl rfl)
