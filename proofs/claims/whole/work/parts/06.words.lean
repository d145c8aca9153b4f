/-! ===== words by their places ===== -/
theorem x_at {w : Cond} {i : Nat} (h : tables_1[i]? = some w) : w ∈ lw_tbl := List.mem_append_right _ (List.mem_of_getElem? h)
theorem x_priv {q : MethodName × Nat} (h : q ∈ lw_privs) : Cond.selects q.1.cls q.1 q.1 ∈ lw_tbl := List.mem_append_left _ (List.mem_map.mpr ⟨q, h, rfl⟩)
theorem kb_X11_init : x_KB yX11_init cX11_init 1 none 0 := ⟨(x_wd_in (x_at (i := 1) (by decide +kernel)) rfl), (x_wd_in (x_at (i := 26) (by decide +kernel)) rfl), by decide +kernel, by decide +kernel, by decide +kernel⟩
theorem kb_X9_init : x_KB yX9_init cX9_init 1 none 0 := ⟨(x_wd_in (x_at (i := 2) (by decide +kernel)) rfl), (x_wd_in (x_at (i := 34) (by decide +kernel)) rfl), by decide +kernel, by decide +kernel, by decide +kernel⟩
theorem kb_X2_init : x_KB yX2_init cX2_init 1 none 0 := ⟨(x_wd_in (x_at (i := 3) (by decide +kernel)) rfl), (x_wd_in (x_at (i := 51) (by decide +kernel)) rfl), by decide +kernel, by decide +kernel, by decide +kernel⟩
theorem kb_X8_init : x_KB yX8_init cX8_init 3 none 2 := ⟨(x_wd_in (x_at (i := 4) (by decide +kernel)) rfl), (x_wd_in (x_at (i := 79) (by decide +kernel)) rfl), by decide +kernel, by decide +kernel, by decide +kernel⟩
theorem kb_X1_init : x_KB yX1_init cX1_init 1 none 0 := ⟨(x_wd_in (x_at (i := 5) (by decide +kernel)) rfl), (x_wd_in (x_at (i := 108) (by decide +kernel)) rfl), by decide +kernel, by decide +kernel, by decide +kernel⟩
theorem kb_X6_init : x_KB yX6_init cX6_init 1 none 0 := ⟨(x_wd_in (x_at (i := 6) (by decide +kernel)) rfl), (x_wd_in (x_at (i := 134) (by decide +kernel)) rfl), by decide +kernel, by decide +kernel, by decide +kernel⟩
theorem kb_X0_init : x_KB yX0_init cX0_init 3 none 2 := ⟨(x_wd_in (x_at (i := 7) (by decide +kernel)) rfl), (x_wd_in (x_at (i := 162) (by decide +kernel)) rfl), by decide +kernel, by decide +kernel, by decide +kernel⟩
theorem kb_X7_init : x_KB yX7_init cX7_init 1 none 0 := ⟨(x_wd_in (x_at (i := 8) (by decide +kernel)) rfl), (x_wd_in (x_at (i := 193) (by decide +kernel)) rfl), by decide +kernel, by decide +kernel, by decide +kernel⟩
theorem kb_X5_init : x_KB yX5_init cX5_init 1 none 0 := ⟨(x_wd_in (x_at (i := 9) (by decide +kernel)) rfl), (x_wd_in (x_at (i := 199) (by decide +kernel)) rfl), by decide +kernel, by decide +kernel, by decide +kernel⟩
theorem kb_X4_init : x_KB yX4_init cX4_init 1 none 0 := ⟨(x_wd_in (x_at (i := 10) (by decide +kernel)) rfl), (x_wd_in (x_at (i := 205) (by decide +kernel)) rfl), by decide +kernel, by decide +kernel, by decide +kernel⟩
theorem kb_X10_init : x_KB yX10_init cX10_init 1 none 0 := ⟨(x_wd_in (x_at (i := 11) (by decide +kernel)) rfl), (x_wd_in (x_at (i := 264) (by decide +kernel)) rfl), by decide +kernel, by decide +kernel, by decide +kernel⟩
theorem kb_X11_symbol : x_KB yX11_symbol cX11_symbol 2 (some FieldType.int) 0 := ⟨(x_wd_in (x_at (i := 1) (by decide +kernel)) rfl), (x_wd_in (x_at (i := 302) (by decide +kernel)) rfl), by decide +kernel, by decide +kernel, by decide +kernel⟩
theorem kb_X8_readTape : x_KB yX8_readTape cX8_readTape 3 (some FieldType.boolean) 0 := ⟨(x_wd_in (x_at (i := 4) (by decide +kernel)) rfl), (x_wd_in (x_at (i := 306) (by decide +kernel)) rfl), by decide +kernel, by decide +kernel, by decide +kernel⟩
theorem kb_X2_clear : x_KB yX2_clear cX2_clear 1 none 0 := ⟨(x_wd_in (x_at (i := 3) (by decide +kernel)) rfl), (x_wd_in (x_at (i := 310) (by decide +kernel)) rfl), by decide +kernel, by decide +kernel, by decide +kernel⟩
theorem kb_X8_skipBlanks : x_KB yX8_skipBlanks cX8_skipBlanks 2 (some FieldType.int) 0 := ⟨(x_wd_in (x_at (i := 4) (by decide +kernel)) rfl), (x_wd_in (x_at (i := 314) (by decide +kernel)) rfl), by decide +kernel, by decide +kernel, by decide +kernel⟩
theorem kb_X9_byteAt : x_KB yX9_byteAt cX9_byteAt 2 (some FieldType.int) 1 := ⟨(x_wd_in (x_at (i := 2) (by decide +kernel)) rfl), (x_wd_in (x_at (i := 318) (by decide +kernel)) rfl), by decide +kernel, by decide +kernel, by decide +kernel⟩
theorem kb_X8_takes : x_KB yX8_takes cX8_takes 2 (some FieldType.boolean) 1 := ⟨(x_wd_in (x_at (i := 4) (by decide +kernel)) rfl), (x_wd_in (x_at (i := 322) (by decide +kernel)) rfl), by decide +kernel, by decide +kernel, by decide +kernel⟩
theorem kb_X8_addPlain : x_KB yX8_addPlain cX8_addPlain 5 none 4 := ⟨(x_wd_in (x_at (i := 4) (by decide +kernel)) rfl), (x_wd_in (x_at (i := 326) (by decide +kernel)) rfl), by decide +kernel, by decide +kernel, by decide +kernel⟩
theorem kb_X8_setRotation : x_KB yX8_setRotation cX8_setRotation 7 none 3 := ⟨(x_wd_in (x_at (i := 4) (by decide +kernel)) rfl), (x_wd_in (x_at (i := 330) (by decide +kernel)) rfl), by decide +kernel, by decide +kernel, by decide +kernel⟩
theorem kb_X8_shift : x_KB yX8_shift cX8_shift 4 (some FieldType.boolean) 3 := ⟨(x_wd_in (x_at (i := 4) (by decide +kernel)) rfl), (x_wd_in (x_at (i := 336) (by decide +kernel)) rfl), by decide +kernel, by decide +kernel, by decide +kernel⟩
theorem kb_X8_shiftAlong : x_KB yX8_shiftAlong cX8_shiftAlong 3 none 2 := ⟨(x_wd_in (x_at (i := 4) (by decide +kernel)) rfl), (x_wd_in (x_at (i := 340) (by decide +kernel)) rfl), by decide +kernel, by decide +kernel, by decide +kernel⟩
theorem kb_X2_addGenerator : x_KB yX2_addGenerator cX2_addGenerator 2 none 1 := ⟨(x_wd_in (x_at (i := 3) (by decide +kernel)) rfl), (x_wd_in (x_at (i := 344) (by decide +kernel)) rfl), by decide +kernel, by decide +kernel, by decide +kernel⟩
theorem kb_X8_readLattice : x_KB yX8_readLattice cX8_readLattice 1 (some FieldType.boolean) 0 := ⟨(x_wd_in (x_at (i := 4) (by decide +kernel)) rfl), (x_wd_in (x_at (i := 351) (by decide +kernel)) rfl), by decide +kernel, by decide +kernel, by decide +kernel⟩
theorem kb_X8_isAtEnd : x_KB yX8_isAtEnd cX8_isAtEnd 1 (some FieldType.boolean) 0 := ⟨(x_wd_in (x_at (i := 4) (by decide +kernel)) rfl), (x_wd_in (x_at (i := 355) (by decide +kernel)) rfl), by decide +kernel, by decide +kernel, by decide +kernel⟩
theorem kb_X8_readMatrix : x_KB yX8_readMatrix cX8_readMatrix 4 (some FieldType.boolean) 0 := ⟨(x_wd_in (x_at (i := 4) (by decide +kernel)) rfl), (x_wd_in (x_at (i := 359) (by decide +kernel)) rfl), by decide +kernel, by decide +kernel, by decide +kernel⟩
theorem kb_X8_foldOf : x_KB yX8_foldOf cX8_foldOf 1 (some FieldType.int) 1 := ⟨(x_wd_in (x_at (i := 4) (by decide +kernel)) rfl), (x_wd_in (x_at (i := 362) (by decide +kernel)) rfl), by decide +kernel, by decide +kernel, by decide +kernel⟩
theorem kb_X8_readAxis : x_KB yX8_readAxis cX8_readAxis 3 (some FieldType.int) 1 := ⟨(x_wd_in (x_at (i := 4) (by decide +kernel)) rfl), (x_wd_in (x_at (i := 366) (by decide +kernel)) rfl), by decide +kernel, by decide +kernel, by decide +kernel⟩
theorem kb_X8_writtenAxis : x_KB yX8_writtenAxis cX8_writtenAxis 2 (some FieldType.int) 2 := ⟨(x_wd_in (x_at (i := 4) (by decide +kernel)) rfl), (x_wd_in (x_at (i := 369) (by decide +kernel)) rfl), by decide +kernel, by decide +kernel, by decide +kernel⟩
theorem kb_X8_axisByDefault : x_KB yX8_axisByDefault cX8_axisByDefault 2 (some FieldType.int) 1 := ⟨(x_wd_in (x_at (i := 4) (by decide +kernel)) rfl), (x_wd_in (x_at (i := 373) (by decide +kernel)) rfl), by decide +kernel, by decide +kernel, by decide +kernel⟩
theorem kb_X8_rotationOf : x_KB yX8_rotationOf cX8_rotationOf 2 (some FieldType.int) 2 := ⟨(x_wd_in (x_at (i := 4) (by decide +kernel)) rfl), (x_wd_in (x_at (i := 376) (by decide +kernel)) rfl), by decide +kernel, by decide +kernel, by decide +kernel⟩
theorem kb_X8_turnOf : x_KB yX8_turnOf cX8_turnOf 3 (some FieldType.int) 1 := ⟨(x_wd_in (x_at (i := 4) (by decide +kernel)) rfl), (x_wd_in (x_at (i := 380) (by decide +kernel)) rfl), by decide +kernel, by decide +kernel, by decide +kernel⟩
theorem kb_X8_readShifts : x_KB yX8_readShifts cX8_readShifts 6 none 2 := ⟨(x_wd_in (x_at (i := 4) (by decide +kernel)) rfl), (x_wd_in (x_at (i := 384) (by decide +kernel)) rfl), by decide +kernel, by decide +kernel, by decide +kernel⟩
theorem kb_X8_isScrew : x_KB yX8_isScrew cX8_isScrew 2 (some FieldType.boolean) 2 := ⟨(x_wd_in (x_at (i := 4) (by decide +kernel)) rfl), (x_wd_in (x_at (i := 387) (by decide +kernel)) rfl), by decide +kernel, by decide +kernel, by decide +kernel⟩
theorem kb_X8_screwStep : x_KB yX8_screwStep cX8_screwStep 1 (some FieldType.int) 1 := ⟨(x_wd_in (x_at (i := 4) (by decide +kernel)) rfl), (x_wd_in (x_at (i := 390) (by decide +kernel)) rfl), by decide +kernel, by decide +kernel, by decide +kernel⟩
theorem kb_X8_shiftByLetter : x_KB yX8_shiftByLetter cX8_shiftByLetter 2 (some FieldType.boolean) 1 := ⟨(x_wd_in (x_at (i := 4) (by decide +kernel)) rfl), (x_wd_in (x_at (i := 394) (by decide +kernel)) rfl), by decide +kernel, by decide +kernel, by decide +kernel⟩
theorem kb_X8_remember : x_KB yX8_remember cX8_remember 3 none 2 := ⟨(x_wd_in (x_at (i := 4) (by decide +kernel)) rfl), (x_wd_in (x_at (i := 398) (by decide +kernel)) rfl), by decide +kernel, by decide +kernel, by decide +kernel⟩
theorem kb_X2_makesGroup : x_KB yX2_makesGroup cX2_makesGroup 4 (some FieldType.boolean) 0 := ⟨(x_wd_in (x_at (i := 3) (by decide +kernel)) rfl), (x_wd_in (x_at (i := 402) (by decide +kernel)) rfl), by decide +kernel, by decide +kernel, by decide +kernel⟩
theorem kb_X2_keep : x_KB yX2_keep cX2_keep 3 (some FieldType.boolean) 1 := ⟨(x_wd_in (x_at (i := 3) (by decide +kernel)) rfl), (x_wd_in (x_at (i := 407) (by decide +kernel)) rfl), by decide +kernel, by decide +kernel, by decide +kernel⟩
theorem kb_X2_placeOf : x_KB yX2_placeOf cX2_placeOf 6 (some FieldType.int) 1 := ⟨(x_wd_in (x_at (i := 3) (by decide +kernel)) rfl), (x_wd_in (x_at (i := 411) (by decide +kernel)) rfl), by decide +kernel, by decide +kernel, by decide +kernel⟩
theorem kb_X1_unpack : x_KB yX1_unpack cX1_unpack 4 none 3 := ⟨(x_wd_in (x_at (i := 5) (by decide +kernel)) rfl), (x_wd_in (x_at (i := 414) (by decide +kernel)) rfl), by decide +kernel, by decide +kernel, by decide +kernel⟩
theorem kb_X2_keyOfLeftBehind : x_KB yX2_keyOfLeftBehind cX2_keyOfLeftBehind 6 (some FieldType.int) 1 := ⟨(x_wd_in (x_at (i := 3) (by decide +kernel)) rfl), (x_wd_in (x_at (i := 418) (by decide +kernel)) rfl), by decide +kernel, by decide +kernel, by decide +kernel⟩
theorem kb_X2_timesColumn : x_KB yX2_timesColumn cX2_timesColumn 4 (some FieldType.int) 3 := ⟨(x_wd_in (x_at (i := 3) (by decide +kernel)) rfl), (x_wd_in (x_at (i := 422) (by decide +kernel)) rfl), by decide +kernel, by decide +kernel, by decide +kernel⟩
theorem kb_J9_floorMod_7cf53 : x_KB yJ9_floorMod_7cf53 cJ9_floorMod_7cf53 3 (some FieldType.int) 2 := ⟨(x_wd_in (x_at (i := 19) (by decide +kernel)) rfl), (x_wd_in (x_at (i := 425) (by decide +kernel)) rfl), by decide +kernel, by decide +kernel, by decide +kernel⟩
theorem kb_X1_become : x_KB yX1_become cX1_become 3 none 1 := ⟨(x_wd_in (x_at (i := 5) (by decide +kernel)) rfl), (x_wd_in (x_at (i := 429) (by decide +kernel)) rfl), by decide +kernel, by decide +kernel, by decide +kernel⟩
theorem kb_X1_rotationKey : x_KB yX1_rotationKey cX1_rotationKey 2 (some FieldType.int) 1 := ⟨(x_wd_in (x_at (i := 5) (by decide +kernel)) rfl), (x_wd_in (x_at (i := 434) (by decide +kernel)) rfl), by decide +kernel, by decide +kernel, by decide +kernel⟩
theorem kb_X1_determinant : x_KB yX1_determinant cX1_determinant 2 (some FieldType.int) 1 := ⟨(x_wd_in (x_at (i := 5) (by decide +kernel)) rfl), (x_wd_in (x_at (i := 438) (by decide +kernel)) rfl), by decide +kernel, by decide +kernel, by decide +kernel⟩
theorem kb_X1_keepTurn : x_KB yX1_keepTurn cX1_keepTurn 3 none 1 := ⟨(x_wd_in (x_at (i := 5) (by decide +kernel)) rfl), (x_wd_in (x_at (i := 443) (by decide +kernel)) rfl), by decide +kernel, by decide +kernel, by decide +kernel⟩
theorem kb_X7_clear : x_KB yX7_clear cX7_clear 1 none 0 := ⟨(x_wd_in (x_at (i := 8) (by decide +kernel)) rfl), (x_wd_in (x_at (i := 447) (by decide +kernel)) rfl), by decide +kernel, by decide +kernel, by decide +kernel⟩
theorem kb_X5_clear : x_KB yX5_clear cX5_clear 1 none 0 := ⟨(x_wd_in (x_at (i := 9) (by decide +kernel)) rfl), (x_wd_in (x_at (i := 451) (by decide +kernel)) rfl), by decide +kernel, by decide +kernel, by decide +kernel⟩
theorem kb_X4_set : x_KB yX4_set cX4_set 3 none 1 := ⟨(x_wd_in (x_at (i := 10) (by decide +kernel)) rfl), (x_wd_in (x_at (i := 455) (by decide +kernel)) rfl), by decide +kernel, by decide +kernel, by decide +kernel⟩
theorem kb_X11_order : x_KB yX11_order cX11_order 1 (some FieldType.int) 0 := ⟨(x_wd_in (x_at (i := 1) (by decide +kernel)) rfl), (x_wd_in (x_at (i := 460) (by decide +kernel)) rfl), by decide +kernel, by decide +kernel, by decide +kernel⟩
theorem kb_X11_laue : x_KB yX11_laue cX11_laue 1 (some FieldType.int) 0 := ⟨(x_wd_in (x_at (i := 1) (by decide +kernel)) rfl), (x_wd_in (x_at (i := 464) (by decide +kernel)) rfl), by decide +kernel, by decide +kernel, by decide +kernel⟩
theorem kb_X1_laueClass : x_KB yX1_laueClass cX1_laueClass 1 (some FieldType.int) 0 := ⟨(x_wd_in (x_at (i := 5) (by decide +kernel)) rfl), (x_wd_in (x_at (i := 468) (by decide +kernel)) rfl), by decide +kernel, by decide +kernel, by decide +kernel⟩
theorem kb_X1_hasTurnOfTrace : x_KB yX1_hasTurnOfTrace cX1_hasTurnOfTrace 4 (some FieldType.boolean) 1 := ⟨(x_wd_in (x_at (i := 5) (by decide +kernel)) rfl), (x_wd_in (x_at (i := 472) (by decide +kernel)) rfl), by decide +kernel, by decide +kernel, by decide +kernel⟩
theorem kb_X11_plain : x_KB yX11_plain cX11_plain 2 (some FieldType.int) 1 := ⟨(x_wd_in (x_at (i := 1) (by decide +kernel)) rfl), (x_wd_in (x_at (i := 476) (by decide +kernel)) rfl), by decide +kernel, by decide +kernel, by decide +kernel⟩
theorem kb_X1_countPlain : x_KB yX1_countPlain cX1_countPlain 5 (some FieldType.int) 1 := ⟨(x_wd_in (x_at (i := 5) (by decide +kernel)) rfl), (x_wd_in (x_at (i := 480) (by decide +kernel)) rfl), by decide +kernel, by decide +kernel, by decide +kernel⟩
theorem kb_X11_file : x_KB yX11_file cX11_file 2 (some FieldType.int) 0 := ⟨(x_wd_in (x_at (i := 1) (by decide +kernel)) rfl), (x_wd_in (x_at (i := 485) (by decide +kernel)) rfl), by decide +kernel, by decide +kernel, by decide +kernel⟩
theorem kb_X0_readTape : x_KB yX0_readTape cX0_readTape 5 (some FieldType.int) 0 := ⟨(x_wd_in (x_at (i := 7) (by decide +kernel)) rfl), (x_wd_in (x_at (i := 489) (by decide +kernel)) rfl), by decide +kernel, by decide +kernel, by decide +kernel⟩
theorem kb_X0_readRow : x_KB yX0_readRow cX0_readRow 3 (some FieldType.boolean) 1 := ⟨(x_wd_in (x_at (i := 7) (by decide +kernel)) rfl), (x_wd_in (x_at (i := 493) (by decide +kernel)) rfl), by decide +kernel, by decide +kernel, by decide +kernel⟩
theorem kb_X0_readIndex : x_KB yX0_readIndex cX0_readIndex 2 (some FieldType.boolean) 1 := ⟨(x_wd_in (x_at (i := 7) (by decide +kernel)) rfl), (x_wd_in (x_at (i := 497) (by decide +kernel)) rfl), by decide +kernel, by decide +kernel, by decide +kernel⟩
theorem kb_X0_readWhole : x_KB yX0_readWhole cX0_readWhole 8 (some FieldType.boolean) 3 := ⟨(x_wd_in (x_at (i := 7) (by decide +kernel)) rfl), (x_wd_in (x_at (i := 501) (by decide +kernel)) rfl), by decide +kernel, by decide +kernel, by decide +kernel⟩
theorem kb_X0_addDigit : x_KB yX0_addDigit cX0_addDigit 3 (some FieldType.boolean) 1 := ⟨(x_wd_in (x_at (i := 7) (by decide +kernel)) rfl), (x_wd_in (x_at (i := 506) (by decide +kernel)) rfl), by decide +kernel, by decide +kernel, by decide +kernel⟩
theorem kb_X0_isDigit : x_KB yX0_isDigit cX0_isDigit 1 (some FieldType.boolean) 1 := ⟨(x_wd_in (x_at (i := 7) (by decide +kernel)) rfl), (x_wd_in (x_at (i := 509) (by decide +kernel)) rfl), by decide +kernel, by decide +kernel, by decide +kernel⟩
theorem kb_X0_failAt : x_KB yX0_failAt cX0_failAt 2 (some FieldType.boolean) 1 := ⟨(x_wd_in (x_at (i := 7) (by decide +kernel)) rfl), (x_wd_in (x_at (i := 513) (by decide +kernel)) rfl), by decide +kernel, by decide +kernel, by decide +kernel⟩
theorem kb_X0_signed : x_KB yX0_signed cX0_signed 1 (some FieldType.int) 0 := ⟨(x_wd_in (x_at (i := 7) (by decide +kernel)) rfl), (x_wd_in (x_at (i := 517) (by decide +kernel)) rfl), by decide +kernel, by decide +kernel, by decide +kernel⟩
theorem kb_X0_readHundredths : x_KB yX0_readHundredths cX0_readHundredths 4 (some FieldType.boolean) 2 := ⟨(x_wd_in (x_at (i := 7) (by decide +kernel)) rfl), (x_wd_in (x_at (i := 521) (by decide +kernel)) rfl), by decide +kernel, by decide +kernel, by decide +kernel⟩
theorem kb_X3_pack : x_KB yX3_pack cX3_pack 3 (some FieldType.int) 3 := ⟨(x_wd_in (x_at (i := 21) (by decide +kernel)) rfl), (x_wd_in (x_at (i := 524) (by decide +kernel)) rfl), by decide +kernel, by decide +kernel, by decide +kernel⟩
theorem kb_X6_write : x_KB yX6_write cX6_write 6 (some FieldType.boolean) 4 := ⟨(x_wd_in (x_at (i := 6) (by decide +kernel)) rfl), (x_wd_in (x_at (i := 528) (by decide +kernel)) rfl), by decide +kernel, by decide +kernel, by decide +kernel⟩
theorem kb_X11_drop : x_KB yX11_drop cX11_drop 2 (some FieldType.int) 0 := ⟨(x_wd_in (x_at (i := 1) (by decide +kernel)) rfl), (x_wd_in (x_at (i := 532) (by decide +kernel)) rfl), by decide +kernel, by decide +kernel, by decide +kernel⟩
theorem kb_X11_reflections : x_KB yX11_reflections cX11_reflections 1 (some FieldType.int) 0 := ⟨(x_wd_in (x_at (i := 1) (by decide +kernel)) rfl), (x_wd_in (x_at (i := 536) (by decide +kernel)) rfl), by decide +kernel, by decide +kernel, by decide +kernel⟩
theorem kb_X11_rows : x_KB yX11_rows cX11_rows 1 (some FieldType.int) 0 := ⟨(x_wd_in (x_at (i := 1) (by decide +kernel)) rfl), (x_wd_in (x_at (i := 540) (by decide +kernel)) rfl), by decide +kernel, by decide +kernel, by decide +kernel⟩
theorem kb_X11_violation : x_KB yX11_violation cX11_violation 2 (some FieldType.int) 1 := ⟨(x_wd_in (x_at (i := 1) (by decide +kernel)) rfl), (x_wd_in (x_at (i := 544) (by decide +kernel)) rfl), by decide +kernel, by decide +kernel, by decide +kernel⟩
theorem kb_X10_numberOf : x_KB yX10_numberOf cX10_numberOf 2 (some FieldType.int) 1 := ⟨(x_wd_in (x_at (i := 11) (by decide +kernel)) rfl), (x_wd_in (x_at (i := 548) (by decide +kernel)) rfl), by decide +kernel, by decide +kernel, by decide +kernel⟩
theorem kb_X11_feed : x_KB yX11_feed cX11_feed 6 (some FieldType.int) 5 := ⟨(x_wd_in (x_at (i := 1) (by decide +kernel)) rfl), (x_wd_in (x_at (i := 556) (by decide +kernel)) rfl), by decide +kernel, by decide +kernel, by decide +kernel⟩
theorem kb_X9_append : x_KB yX9_append cX9_append 3 none 1 := ⟨(x_wd_in (x_at (i := 2) (by decide +kernel)) rfl), (x_wd_in (x_at (i := 627) (by decide +kernel)) rfl), by decide +kernel, by decide +kernel, by decide +kernel⟩
theorem kb_X11_end : x_KB yX11_end cX11_end 2 none 1 := ⟨(x_wd_in (x_at (i := 1) (by decide +kernel)) rfl), (x_wd_in (x_at (i := 635) (by decide +kernel)) rfl), by decide +kernel, by decide +kernel, by decide +kernel⟩
theorem kb_X11_op : x_KB yX11_op cX11_op 3 (some FieldType.int) 2 := ⟨(x_wd_in (x_at (i := 1) (by decide +kernel)) rfl), (x_wd_in (x_at (i := 659) (by decide +kernel)) rfl), by decide +kernel, by decide +kernel, by decide +kernel⟩
theorem kb_X1_has : x_KB yX1_has cX1_has 2 (some FieldType.boolean) 1 := ⟨(x_wd_in (x_at (i := 5) (by decide +kernel)) rfl), (x_wd_in (x_at (i := 663) (by decide +kernel)) rfl), by decide +kernel, by decide +kernel, by decide +kernel⟩
theorem kb_X1_number : x_KB yX1_number cX1_number 3 (some FieldType.int) 2 := ⟨(x_wd_in (x_at (i := 5) (by decide +kernel)) rfl), (x_wd_in (x_at (i := 683) (by decide +kernel)) rfl), by decide +kernel, by decide +kernel, by decide +kernel⟩
theorem kb_X11_sent : x_KB yX11_sent cX11_sent 6 (some FieldType.int) 5 := ⟨(x_wd_in (x_at (i := 1) (by decide +kernel)) rfl), (x_wd_in (x_at (i := 690) (by decide +kernel)) rfl), by decide +kernel, by decide +kernel, by decide +kernel⟩
theorem kb_X11_requireIndex : x_KB yX11_requireIndex cX11_requireIndex 3 none 3 := ⟨(x_wd_in (x_at (i := 1) (by decide +kernel)) rfl), (x_wd_in (x_at (i := 694) (by decide +kernel)) rfl), by decide +kernel, by decide +kernel, by decide +kernel⟩
theorem kb_X3_isInBox : x_KB yX3_isInBox cX3_isInBox 4 (some FieldType.boolean) 4 := ⟨(x_wd_in (x_at (i := 21) (by decide +kernel)) rfl), (x_wd_in (x_at (i := 697) (by decide +kernel)) rfl), by decide +kernel, by decide +kernel, by decide +kernel⟩
theorem kb_X1_phase : x_KB yX1_phase cX1_phase 6 (some FieldType.int) 4 := ⟨(x_wd_in (x_at (i := 5) (by decide +kernel)) rfl), (x_wd_in (x_at (i := 702) (by decide +kernel)) rfl), by decide +kernel, by decide +kernel, by decide +kernel⟩
theorem kb_X1_sentNumber : x_KB yX1_sentNumber cX1_sentNumber 7 (some FieldType.int) 5 := ⟨(x_wd_in (x_at (i := 5) (by decide +kernel)) rfl), (x_wd_in (x_at (i := 707) (by decide +kernel)) rfl), by decide +kernel, by decide +kernel, by decide +kernel⟩
theorem kb_X11_absent : x_KB yX11_absent cX11_absent 4 (some FieldType.int) 3 := ⟨(x_wd_in (x_at (i := 1) (by decide +kernel)) rfl), (x_wd_in (x_at (i := 714) (by decide +kernel)) rfl), by decide +kernel, by decide +kernel, by decide +kernel⟩
theorem kb_X11_requireGroup : x_KB yX11_requireGroup cX11_requireGroup 1 none 0 := ⟨(x_wd_in (x_at (i := 1) (by decide +kernel)) rfl), (x_wd_in (x_at (i := 718) (by decide +kernel)) rfl), by decide +kernel, by decide +kernel, by decide +kernel⟩
theorem kb_X1_isAbsent : x_KB yX1_isAbsent cX1_isAbsent 5 (some FieldType.boolean) 3 := ⟨(x_wd_in (x_at (i := 5) (by decide +kernel)) rfl), (x_wd_in (x_at (i := 723) (by decide +kernel)) rfl), by decide +kernel, by decide +kernel, by decide +kernel⟩
theorem kb_X11_greatest : x_KB yX11_greatest cX11_greatest 5 (some FieldType.int) 4 := ⟨(x_wd_in (x_at (i := 1) (by decide +kernel)) rfl), (x_wd_in (x_at (i := 732) (by decide +kernel)) rfl), by decide +kernel, by decide +kernel, by decide +kernel⟩
theorem kb_X1_multiplicity : x_KB yX1_multiplicity cX1_multiplicity 8 (some FieldType.int) 3 := ⟨(x_wd_in (x_at (i := 5) (by decide +kernel)) rfl), (x_wd_in (x_at (i := 737) (by decide +kernel)) rfl), by decide +kernel, by decide +kernel, by decide +kernel⟩
theorem kb_X1_turned : x_KB yX1_turned cX1_turned 6 (some FieldType.int) 4 := ⟨(x_wd_in (x_at (i := 5) (by decide +kernel)) rfl), (x_wd_in (x_at (i := 742) (by decide +kernel)) rfl), by decide +kernel, by decide +kernel, by decide +kernel⟩
theorem kb_X3_opposite : x_KB yX3_opposite cX3_opposite 1 (some FieldType.int) 1 := ⟨(x_wd_in (x_at (i := 21) (by decide +kernel)) rfl), (x_wd_in (x_at (i := 745) (by decide +kernel)) rfl), by decide +kernel, by decide +kernel, by decide +kernel⟩
theorem kb_X1_greatestOf : x_KB yX1_greatestOf cX1_greatestOf 7 (some FieldType.int) 3 := ⟨(x_wd_in (x_at (i := 5) (by decide +kernel)) rfl), (x_wd_in (x_at (i := 750) (by decide +kernel)) rfl), by decide +kernel, by decide +kernel, by decide +kernel⟩
theorem kb_J9_max_7cf53 : x_KB yJ9_max_7cf53 cJ9_max_7cf53 2 (some FieldType.int) 2 := ⟨(x_wd_in (x_at (i := 19) (by decide +kernel)) rfl), (x_wd_in (x_at (i := 753) (by decide +kernel)) rfl), by decide +kernel, by decide +kernel, by decide +kernel⟩
theorem kb_X3_part : x_KB yX3_part cX3_part 2 (some FieldType.int) 2 := ⟨(x_wd_in (x_at (i := 21) (by decide +kernel)) rfl), (x_wd_in (x_at (i := 756) (by decide +kernel)) rfl), by decide +kernel, by decide +kernel, by decide +kernel⟩
theorem kb_X11_reflection : x_KB yX11_reflection cX11_reflection 3 (some FieldType.int) 2 := ⟨(x_wd_in (x_at (i := 1) (by decide +kernel)) rfl), (x_wd_in (x_at (i := 763) (by decide +kernel)) rfl), by decide +kernel, by decide +kernel, by decide +kernel⟩
theorem kb_X6_number : x_KB yX6_number cX6_number 3 (some FieldType.int) 2 := ⟨(x_wd_in (x_at (i := 6) (by decide +kernel)) rfl), (x_wd_in (x_at (i := 768) (by decide +kernel)) rfl), by decide +kernel, by decide +kernel, by decide +kernel⟩
theorem kb_X11_merge : x_KB yX11_merge cX11_merge 1 (some FieldType.int) 0 := ⟨(x_wd_in (x_at (i := 1) (by decide +kernel)) rfl), (x_wd_in (x_at (i := 776) (by decide +kernel)) rfl), by decide +kernel, by decide +kernel, by decide +kernel⟩
theorem kb_X7_mergeAll : x_KB yX7_mergeAll cX7_mergeAll 3 none 2 := ⟨(x_wd_in (x_at (i := 8) (by decide +kernel)) rfl), (x_wd_in (x_at (i := 780) (by decide +kernel)) rfl), by decide +kernel, by decide +kernel, by decide +kernel⟩
theorem kb_X7_sortByKind : x_KB yX7_sortByKind cX7_sortByKind 8 none 2 := ⟨(x_wd_in (x_at (i := 8) (by decide +kernel)) rfl), (x_wd_in (x_at (i := 785) (by decide +kernel)) rfl), by decide +kernel, by decide +kernel, by decide +kernel⟩
theorem kb_X7_sink : x_KB yX7_sink cX7_sink 6 none 2 := ⟨(x_wd_in (x_at (i := 8) (by decide +kernel)) rfl), (x_wd_in (x_at (i := 793) (by decide +kernel)) rfl), by decide +kernel, by decide +kernel, by decide +kernel⟩
theorem kb_X7_gather : x_KB yX7_gather cX7_gather 4 none 2 := ⟨(x_wd_in (x_at (i := 8) (by decide +kernel)) rfl), (x_wd_in (x_at (i := 797) (by decide +kernel)) rfl), by decide +kernel, by decide +kernel, by decide +kernel⟩
theorem kb_X7_kindAt : x_KB yX7_kindAt cX7_kindAt 2 (some FieldType.int) 1 := ⟨(x_wd_in (x_at (i := 8) (by decide +kernel)) rfl), (x_wd_in (x_at (i := 801) (by decide +kernel)) rfl), by decide +kernel, by decide +kernel, by decide +kernel⟩
theorem kb_X7_begin : x_KB yX7_begin cX7_begin 6 none 2 := ⟨(x_wd_in (x_at (i := 8) (by decide +kernel)) rfl), (x_wd_in (x_at (i := 805) (by decide +kernel)) rfl), by decide +kernel, by decide +kernel, by decide +kernel⟩
theorem kb_X7_intensityAt : x_KB yX7_intensityAt cX7_intensityAt 3 (some FieldType.int) 2 := ⟨(x_wd_in (x_at (i := 8) (by decide +kernel)) rfl), (x_wd_in (x_at (i := 811) (by decide +kernel)) rfl), by decide +kernel, by decide +kernel, by decide +kernel⟩
theorem kb_X7_addSpreads : x_KB yX7_addSpreads cX7_addSpreads 4 none 1 := ⟨(x_wd_in (x_at (i := 8) (by decide +kernel)) rfl), (x_wd_in (x_at (i := 816) (by decide +kernel)) rfl), by decide +kernel, by decide +kernel, by decide +kernel⟩
theorem kb_J9_abs_067f4 : x_KB yJ9_abs_067f4 cJ9_abs_067f4 2 (some FieldType.long) 1 := ⟨(x_wd_in (x_at (i := 19) (by decide +kernel)) rfl), (x_wd_in (x_at (i := 819) (by decide +kernel)) rfl), by decide +kernel, by decide +kernel, by decide +kernel⟩
theorem kb_X7_makeQuotient : x_KB yX7_makeQuotient cX7_makeQuotient 4 none 0 := ⟨(x_wd_in (x_at (i := 8) (by decide +kernel)) rfl), (x_wd_in (x_at (i := 823) (by decide +kernel)) rfl), by decide +kernel, by decide +kernel, by decide +kernel⟩
theorem kb_X5_add : x_KB yX5_add cX5_add 12 none 2 := ⟨(x_wd_in (x_at (i := 9) (by decide +kernel)) rfl), (x_wd_in (x_at (i := 827) (by decide +kernel)) rfl), by decide +kernel, by decide +kernel, by decide +kernel⟩
theorem kb_X11_commonDivisor : x_KB yX11_commonDivisor cX11_commonDivisor 11 (some FieldType.long) 2 := ⟨(x_wd_in (x_at (i := 1) (by decide +kernel)) rfl), (x_wd_in (x_at (i := 831) (by decide +kernel)) rfl), by decide +kernel, by decide +kernel, by decide +kernel⟩
theorem kb_X4_remainder : x_KB yX4_remainder cX4_remainder 6 (some FieldType.long) 1 := ⟨(x_wd_in (x_at (i := 10) (by decide +kernel)) rfl), (x_wd_in (x_at (i := 835) (by decide +kernel)) rfl), by decide +kernel, by decide +kernel, by decide +kernel⟩
theorem kb_X4_copy : x_KB yX4_copy cX4_copy 2 none 1 := ⟨(x_wd_in (x_at (i := 10) (by decide +kernel)) rfl), (x_wd_in (x_at (i := 839) (by decide +kernel)) rfl), by decide +kernel, by decide +kernel, by decide +kernel⟩
theorem kb_X4_divide : x_KB yX4_divide cX4_divide 6 none 1 := ⟨(x_wd_in (x_at (i := 10) (by decide +kernel)) rfl), (x_wd_in (x_at (i := 844) (by decide +kernel)) rfl), by decide +kernel, by decide +kernel, by decide +kernel⟩
theorem kb_X4_multiply : x_KB yX4_multiply cX4_multiply 6 none 1 := ⟨(x_wd_in (x_at (i := 10) (by decide +kernel)) rfl), (x_wd_in (x_at (i := 848) (by decide +kernel)) rfl), by decide +kernel, by decide +kernel, by decide +kernel⟩
theorem kb_X4_addProduct : x_KB yX4_addProduct cX4_addProduct 7 none 2 := ⟨(x_wd_in (x_at (i := 10) (by decide +kernel)) rfl), (x_wd_in (x_at (i := 853) (by decide +kernel)) rfl), by decide +kernel, by decide +kernel, by decide +kernel⟩
theorem kb_X5_divideBy : x_KB yX5_divideBy cX5_divideBy 5 none 1 := ⟨(x_wd_in (x_at (i := 9) (by decide +kernel)) rfl), (x_wd_in (x_at (i := 857) (by decide +kernel)) rfl), by decide +kernel, by decide +kernel, by decide +kernel⟩
theorem kb_X5_cancelSmallFactors : x_KB yX5_cancelSmallFactors cX5_cancelSmallFactors 3 none 0 := ⟨(x_wd_in (x_at (i := 9) (by decide +kernel)) rfl), (x_wd_in (x_at (i := 861) (by decide +kernel)) rfl), by decide +kernel, by decide +kernel, by decide +kernel⟩
theorem kb_X5_cancels : x_KB yX5_cancels cX5_cancels 2 (some FieldType.boolean) 1 := ⟨(x_wd_in (x_at (i := 9) (by decide +kernel)) rfl), (x_wd_in (x_at (i := 865) (by decide +kernel)) rfl), by decide +kernel, by decide +kernel, by decide +kernel⟩
theorem kb_X11_row : x_KB yX11_row cX11_row 3 (some FieldType.long) 2 := ⟨(x_wd_in (x_at (i := 1) (by decide +kernel)) rfl), (x_wd_in (x_at (i := 872) (by decide +kernel)) rfl), by decide +kernel, by decide +kernel, by decide +kernel⟩
theorem kb_X7_number : x_KB yX7_number cX7_number 3 (some FieldType.long) 2 := ⟨(x_wd_in (x_at (i := 8) (by decide +kernel)) rfl), (x_wd_in (x_at (i := 877) (by decide +kernel)) rfl), by decide +kernel, by decide +kernel, by decide +kernel⟩
theorem kb_X11_digits : x_KB yX11_digits cX11_digits 2 (some FieldType.int) 1 := ⟨(x_wd_in (x_at (i := 1) (by decide +kernel)) rfl), (x_wd_in (x_at (i := 885) (by decide +kernel)) rfl), by decide +kernel, by decide +kernel, by decide +kernel⟩
theorem kb_X11_requirePartOfQuotient : x_KB yX11_requirePartOfQuotient cX11_requirePartOfQuotient 1 none 1 := ⟨(x_wd_in (x_at (i := 1) (by decide +kernel)) rfl), (x_wd_in (x_at (i := 888) (by decide +kernel)) rfl), by decide +kernel, by decide +kernel, by decide +kernel⟩
theorem kb_X5_part : x_KB yX5_part cX5_part 2 (some (FieldType.object "ReflectionReducer$Natural")) 1 := ⟨(x_wd_in (x_at (i := 9) (by decide +kernel)) rfl), (x_wd_in (x_at (i := 893) (by decide +kernel)) rfl), by decide +kernel, by decide +kernel, by decide +kernel⟩
theorem kb_X4_countDigits : x_KB yX4_countDigits cX4_countDigits 2 (some FieldType.int) 0 := ⟨(x_wd_in (x_at (i := 10) (by decide +kernel)) rfl), (x_wd_in (x_at (i := 897) (by decide +kernel)) rfl), by decide +kernel, by decide +kernel, by decide +kernel⟩
theorem kb_X4_digitAt : x_KB yX4_digitAt cX4_digitAt 2 (some FieldType.int) 1 := ⟨(x_wd_in (x_at (i := 10) (by decide +kernel)) rfl), (x_wd_in (x_at (i := 901) (by decide +kernel)) rfl), by decide +kernel, by decide +kernel, by decide +kernel⟩
theorem kb_X11_digit : x_KB yX11_digit cX11_digit 3 (some FieldType.int) 2 := ⟨(x_wd_in (x_at (i := 1) (by decide +kernel)) rfl), (x_wd_in (x_at (i := 908) (by decide +kernel)) rfl), by decide +kernel, by decide +kernel, by decide +kernel⟩
theorem kb_X11_violations : x_KB yX11_violations cX11_violations 2 (some FieldType.int) 1 := ⟨(x_wd_in (x_at (i := 1) (by decide +kernel)) rfl), (x_wd_in (x_at (i := 916) (by decide +kernel)) rfl), by decide +kernel, by decide +kernel, by decide +kernel⟩
theorem kb_X10_findAbove : x_KB yX10_findAbove cX10_findAbove 6 none 3 := ⟨(x_wd_in (x_at (i := 11) (by decide +kernel)) rfl), (x_wd_in (x_at (i := 921) (by decide +kernel)) rfl), by decide +kernel, by decide +kernel, by decide +kernel⟩
theorem kb_X11_complete : x_KB yX11_complete cX11_complete 3 (some FieldType.int) 2 := ⟨(x_wd_in (x_at (i := 1) (by decide +kernel)) rfl), (x_wd_in (x_at (i := 930) (by decide +kernel)) rfl), by decide +kernel, by decide +kernel, by decide +kernel⟩
theorem kb_X7_countPresentWithin : x_KB yX7_countPresentWithin cX7_countPresentWithin 7 (some FieldType.int) 1 := ⟨(x_wd_in (x_at (i := 8) (by decide +kernel)) rfl), (x_wd_in (x_at (i := 936) (by decide +kernel)) rfl), by decide +kernel, by decide +kernel, by decide +kernel⟩
theorem kb_X1_countPresentKindsWithin : x_KB yX1_countPresentKindsWithin cX1_countPresentKindsWithin 7 (some FieldType.int) 1 := ⟨(x_wd_in (x_at (i := 5) (by decide +kernel)) rfl), (x_wd_in (x_at (i := 941) (by decide +kernel)) rfl), by decide +kernel, by decide +kernel, by decide +kernel⟩
theorem kb_X1_isGreatest : x_KB yX1_isGreatest cX1_isGreatest 7 (some FieldType.boolean) 3 := ⟨(x_wd_in (x_at (i := 5) (by decide +kernel)) rfl), (x_wd_in (x_at (i := 945) (by decide +kernel)) rfl), by decide +kernel, by decide +kernel, by decide +kernel⟩
theorem kb_X12_init : x_KB yX12_init cX12_init 1 none 0 := ⟨(x_wd_in (x_at (i := 12) (by decide +kernel)) rfl), (x_wd_in (x_at (i := 951) (by decide +kernel)) rfl), by decide +kernel, by decide +kernel, by decide +kernel⟩
theorem kb_X12_thrown : x_KB yX12_thrown cX12_thrown 1 (some FieldType.int) 0 := ⟨(x_wd_in (x_at (i := 12) (by decide +kernel)) rfl), (x_wd_in (x_at (i := 1077) (by decide +kernel)) rfl), by decide +kernel, by decide +kernel, by decide +kernel⟩
theorem kb_X12_feed : x_KB yX12_feed cX12_feed 8 (some FieldType.int) 5 := ⟨(x_wd_in (x_at (i := 12) (by decide +kernel)) rfl), (x_wd_in (x_at (i := 1081) (by decide +kernel)) rfl), by decide +kernel, by decide +kernel, by decide +kernel⟩
theorem kb_X12_goes : x_KB yX12_goes cX12_goes 2 (some FieldType.boolean) 1 := ⟨(x_wd_in (x_at (i := 12) (by decide +kernel)) rfl), (x_wd_in (x_at (i := 1085) (by decide +kernel)) rfl), by decide +kernel, by decide +kernel, by decide +kernel⟩
theorem kb_X12_end : x_KB yX12_end cX12_end 2 none 1 := ⟨(x_wd_in (x_at (i := 12) (by decide +kernel)) rfl), (x_wd_in (x_at (i := 1089) (by decide +kernel)) rfl), by decide +kernel, by decide +kernel, by decide +kernel⟩
theorem kb_X12_in : x_KB yX12_in cX12_in 3 (some FieldType.boolean) 3 := ⟨(x_wd_in (x_at (i := 12) (by decide +kernel)) rfl), (x_wd_in (x_at (i := 1092) (by decide +kernel)) rfl), by decide +kernel, by decide +kernel, by decide +kernel⟩
theorem kb_X12_symbol : x_KB yX12_symbol cX12_symbol 3 (some FieldType.int) 0 := ⟨(x_wd_in (x_at (i := 12) (by decide +kernel)) rfl), (x_wd_in (x_at (i := 1096) (by decide +kernel)) rfl), by decide +kernel, by decide +kernel, by decide +kernel⟩
theorem kb_X12_isSymbol : x_KB yX12_isSymbol cX12_isSymbol 2 (some FieldType.boolean) 0 := ⟨(x_wd_in (x_at (i := 12) (by decide +kernel)) rfl), (x_wd_in (x_at (i := 1100) (by decide +kernel)) rfl), by decide +kernel, by decide +kernel, by decide +kernel⟩
theorem kb_X12_blanks : x_KB yX12_blanks cX12_blanks 1 none 0 := ⟨(x_wd_in (x_at (i := 12) (by decide +kernel)) rfl), (x_wd_in (x_at (i := 1104) (by decide +kernel)) rfl), by decide +kernel, by decide +kernel, by decide +kernel⟩
theorem kb_X12_look : x_KB yX12_look cX12_look 1 (some FieldType.int) 0 := ⟨(x_wd_in (x_at (i := 12) (by decide +kernel)) rfl), (x_wd_in (x_at (i := 1108) (by decide +kernel)) rfl), by decide +kernel, by decide +kernel, by decide +kernel⟩
theorem kb_X12_set : x_KB yX12_set cX12_set 10 none 9 := ⟨(x_wd_in (x_at (i := 12) (by decide +kernel)) rfl), (x_wd_in (x_at (i := 1112) (by decide +kernel)) rfl), by decide +kernel, by decide +kernel, by decide +kernel⟩
theorem kb_X12_setShift : x_KB yX12_setShift cX12_setShift 4 none 3 := ⟨(x_wd_in (x_at (i := 12) (by decide +kernel)) rfl), (x_wd_in (x_at (i := 1116) (by decide +kernel)) rfl), by decide +kernel, by decide +kernel, by decide +kernel⟩
theorem kb_X12_generate : x_KB yX12_generate cX12_generate 2 none 0 := ⟨(x_wd_in (x_at (i := 12) (by decide +kernel)) rfl), (x_wd_in (x_at (i := 1120) (by decide +kernel)) rfl), by decide +kernel, by decide +kernel, by decide +kernel⟩
theorem kb_X12_letter : x_KB yX12_letter cX12_letter 1 (some FieldType.boolean) 0 := ⟨(x_wd_in (x_at (i := 12) (by decide +kernel)) rfl), (x_wd_in (x_at (i := 1124) (by decide +kernel)) rfl), by decide +kernel, by decide +kernel, by decide +kernel⟩
theorem kb_X12_centre : x_KB yX12_centre cX12_centre 4 none 3 := ⟨(x_wd_in (x_at (i := 12) (by decide +kernel)) rfl), (x_wd_in (x_at (i := 1128) (by decide +kernel)) rfl), by decide +kernel, by decide +kernel, by decide +kernel⟩
theorem kb_X12_matrix : x_KB yX12_matrix cX12_matrix 9 (some FieldType.boolean) 0 := ⟨(x_wd_in (x_at (i := 12) (by decide +kernel)) rfl), (x_wd_in (x_at (i := 1132) (by decide +kernel)) rfl), by decide +kernel, by decide +kernel, by decide +kernel⟩
theorem kb_X12_isOrder : x_KB yX12_isOrder cX12_isOrder 1 (some FieldType.boolean) 1 := ⟨(x_wd_in (x_at (i := 12) (by decide +kernel)) rfl), (x_wd_in (x_at (i := 1135) (by decide +kernel)) rfl), by decide +kernel, by decide +kernel, by decide +kernel⟩
theorem kb_X12_axisAt : x_KB yX12_axisAt cX12_axisAt 3 (some FieldType.int) 1 := ⟨(x_wd_in (x_at (i := 12) (by decide +kernel)) rfl), (x_wd_in (x_at (i := 1139) (by decide +kernel)) rfl), by decide +kernel, by decide +kernel, by decide +kernel⟩
theorem kb_X12_axisFor : x_KB yX12_axisFor cX12_axisFor 2 (some FieldType.int) 1 := ⟨(x_wd_in (x_at (i := 12) (by decide +kernel)) rfl), (x_wd_in (x_at (i := 1143) (by decide +kernel)) rfl), by decide +kernel, by decide +kernel, by decide +kernel⟩
theorem kb_X12_rotate : x_KB yX12_rotate cX12_rotate 3 none 2 := ⟨(x_wd_in (x_at (i := 12) (by decide +kernel)) rfl), (x_wd_in (x_at (i := 1147) (by decide +kernel)) rfl), by decide +kernel, by decide +kernel, by decide +kernel⟩
theorem kb_X12_turnTo : x_KB yX12_turnTo cX12_turnTo 13 none 1 := ⟨(x_wd_in (x_at (i := 12) (by decide +kernel)) rfl), (x_wd_in (x_at (i := 1151) (by decide +kernel)) rfl), by decide +kernel, by decide +kernel, by decide +kernel⟩
theorem kb_X12_addShift : x_KB yX12_addShift cX12_addShift 4 none 3 := ⟨(x_wd_in (x_at (i := 12) (by decide +kernel)) rfl), (x_wd_in (x_at (i := 1155) (by decide +kernel)) rfl), by decide +kernel, by decide +kernel, by decide +kernel⟩
theorem kb_X12_takesShift : x_KB yX12_takesShift cX12_takesShift 1 (some FieldType.boolean) 0 := ⟨(x_wd_in (x_at (i := 12) (by decide +kernel)) rfl), (x_wd_in (x_at (i := 1159) (by decide +kernel)) rfl), by decide +kernel, by decide +kernel, by decide +kernel⟩
theorem kb_X12_close : x_KB yX12_close cX12_close 3 (some FieldType.boolean) 0 := ⟨(x_wd_in (x_at (i := 12) (by decide +kernel)) rfl), (x_wd_in (x_at (i := 1163) (by decide +kernel)) rfl), by decide +kernel, by decide +kernel, by decide +kernel⟩
theorem kb_X12_putMade : x_KB yX12_putMade cX12_putMade 3 none 1 := ⟨(x_wd_in (x_at (i := 12) (by decide +kernel)) rfl), (x_wd_in (x_at (i := 1167) (by decide +kernel)) rfl), by decide +kernel, by decide +kernel, by decide +kernel⟩
theorem kb_X12_multiply : x_KB yX12_multiply cX12_multiply 7 none 2 := ⟨(x_wd_in (x_at (i := 12) (by decide +kernel)) rfl), (x_wd_in (x_at (i := 1171) (by decide +kernel)) rfl), by decide +kernel, by decide +kernel, by decide +kernel⟩
theorem kb_X12_isMade : x_KB yX12_isMade cX12_isMade 3 (some FieldType.boolean) 0 := ⟨(x_wd_in (x_at (i := 12) (by decide +kernel)) rfl), (x_wd_in (x_at (i := 1175) (by decide +kernel)) rfl), by decide +kernel, by decide +kernel, by decide +kernel⟩
theorem kb_X12_compare : x_KB yX12_compare cX12_compare 3 (some FieldType.int) 1 := ⟨(x_wd_in (x_at (i := 12) (by decide +kernel)) rfl), (x_wd_in (x_at (i := 1179) (by decide +kernel)) rfl), by decide +kernel, by decide +kernel, by decide +kernel⟩
theorem kb_X12_keep : x_KB yX12_keep cX12_keep 4 none 0 := ⟨(x_wd_in (x_at (i := 12) (by decide +kernel)) rfl), (x_wd_in (x_at (i := 1183) (by decide +kernel)) rfl), by decide +kernel, by decide +kernel, by decide +kernel⟩
theorem kb_X12_order : x_KB yX12_order cX12_order 1 (some FieldType.int) 0 := ⟨(x_wd_in (x_at (i := 12) (by decide +kernel)) rfl), (x_wd_in (x_at (i := 1187) (by decide +kernel)) rfl), by decide +kernel, by decide +kernel, by decide +kernel⟩
theorem kb_X12_op : x_KB yX12_op cX12_op 3 (some FieldType.int) 2 := ⟨(x_wd_in (x_at (i := 12) (by decide +kernel)) rfl), (x_wd_in (x_at (i := 1191) (by decide +kernel)) rfl), by decide +kernel, by decide +kernel, by decide +kernel⟩
theorem kb_X12_laue : x_KB yX12_laue cX12_laue 7 (some FieldType.int) 0 := ⟨(x_wd_in (x_at (i := 12) (by decide +kernel)) rfl), (x_wd_in (x_at (i := 1195) (by decide +kernel)) rfl), by decide +kernel, by decide +kernel, by decide +kernel⟩
theorem kb_X12_sameTurn : x_KB yX12_sameTurn cX12_sameTurn 6 (some FieldType.boolean) 2 := ⟨(x_wd_in (x_at (i := 12) (by decide +kernel)) rfl), (x_wd_in (x_at (i := 1199) (by decide +kernel)) rfl), by decide +kernel, by decide +kernel, by decide +kernel⟩
theorem kb_X12_determinant : x_KB yX12_determinant cX12_determinant 6 (some FieldType.int) 1 := ⟨(x_wd_in (x_at (i := 12) (by decide +kernel)) rfl), (x_wd_in (x_at (i := 1203) (by decide +kernel)) rfl), by decide +kernel, by decide +kernel, by decide +kernel⟩
theorem kb_X12_plain : x_KB yX12_plain cX12_plain 6 (some FieldType.int) 1 := ⟨(x_wd_in (x_at (i := 12) (by decide +kernel)) rfl), (x_wd_in (x_at (i := 1207) (by decide +kernel)) rfl), by decide +kernel, by decide +kernel, by decide +kernel⟩
theorem kb_X12_sent : x_KB yX12_sent cX12_sent 6 (some FieldType.int) 5 := ⟨(x_wd_in (x_at (i := 12) (by decide +kernel)) rfl), (x_wd_in (x_at (i := 1211) (by decide +kernel)) rfl), by decide +kernel, by decide +kernel, by decide +kernel⟩
theorem kb_X12_isIndex : x_KB yX12_isIndex cX12_isIndex 3 (some FieldType.boolean) 3 := ⟨(x_wd_in (x_at (i := 12) (by decide +kernel)) rfl), (x_wd_in (x_at (i := 1214) (by decide +kernel)) rfl), by decide +kernel, by decide +kernel, by decide +kernel⟩
theorem kb_X12_phase : x_KB yX12_phase cX12_phase 6 (some FieldType.int) 4 := ⟨(x_wd_in (x_at (i := 12) (by decide +kernel)) rfl), (x_wd_in (x_at (i := 1218) (by decide +kernel)) rfl), by decide +kernel, by decide +kernel, by decide +kernel⟩
theorem kb_X12_sentTo : x_KB yX12_sentTo cX12_sentTo 6 (some FieldType.int) 5 := ⟨(x_wd_in (x_at (i := 12) (by decide +kernel)) rfl), (x_wd_in (x_at (i := 1222) (by decide +kernel)) rfl), by decide +kernel, by decide +kernel, by decide +kernel⟩
theorem kb_X12_absent : x_KB yX12_absent cX12_absent 4 (some FieldType.int) 3 := ⟨(x_wd_in (x_at (i := 12) (by decide +kernel)) rfl), (x_wd_in (x_at (i := 1226) (by decide +kernel)) rfl), by decide +kernel, by decide +kernel, by decide +kernel⟩
theorem kb_X12_isAbsent : x_KB yX12_isAbsent cX12_isAbsent 6 (some FieldType.boolean) 3 := ⟨(x_wd_in (x_at (i := 12) (by decide +kernel)) rfl), (x_wd_in (x_at (i := 1230) (by decide +kernel)) rfl), by decide +kernel, by decide +kernel, by decide +kernel⟩
theorem kb_X12_greatest : x_KB yX12_greatest cX12_greatest 5 (some FieldType.int) 4 := ⟨(x_wd_in (x_at (i := 12) (by decide +kernel)) rfl), (x_wd_in (x_at (i := 1234) (by decide +kernel)) rfl), by decide +kernel, by decide +kernel, by decide +kernel⟩
theorem kb_X12_multiplicity : x_KB yX12_multiplicity cX12_multiplicity 8 (some FieldType.int) 3 := ⟨(x_wd_in (x_at (i := 12) (by decide +kernel)) rfl), (x_wd_in (x_at (i := 1238) (by decide +kernel)) rfl), by decide +kernel, by decide +kernel, by decide +kernel⟩
theorem kb_X12_key : x_KB yX12_key cX12_key 3 (some FieldType.long) 3 := ⟨(x_wd_in (x_at (i := 12) (by decide +kernel)) rfl), (x_wd_in (x_at (i := 1241) (by decide +kernel)) rfl), by decide +kernel, by decide +kernel, by decide +kernel⟩
theorem kb_X12_addEqual : x_KB yX12_addEqual cX12_addEqual 5 none 1 := ⟨(x_wd_in (x_at (i := 12) (by decide +kernel)) rfl), (x_wd_in (x_at (i := 1247) (by decide +kernel)) rfl), by decide +kernel, by decide +kernel, by decide +kernel⟩
theorem kb_X12_greatestOf : x_KB yX12_greatestOf cX12_greatestOf 14 (some FieldType.long) 3 := ⟨(x_wd_in (x_at (i := 12) (by decide +kernel)) rfl), (x_wd_in (x_at (i := 1251) (by decide +kernel)) rfl), by decide +kernel, by decide +kernel, by decide +kernel⟩
theorem kb_X12_part : x_KB yX12_part cX12_part 5 (some FieldType.int) 2 := ⟨(x_wd_in (x_at (i := 12) (by decide +kernel)) rfl), (x_wd_in (x_at (i := 1254) (by decide +kernel)) rfl), by decide +kernel, by decide +kernel, by decide +kernel⟩
theorem kb_X12_file : x_KB yX12_file cX12_file 4 (some FieldType.int) 0 := ⟨(x_wd_in (x_at (i := 12) (by decide +kernel)) rfl), (x_wd_in (x_at (i := 1260) (by decide +kernel)) rfl), by decide +kernel, by decide +kernel, by decide +kernel⟩
theorem kb_X12_readsRow : x_KB yX12_readsRow cX12_readsRow 6 (some FieldType.boolean) 1 := ⟨(x_wd_in (x_at (i := 12) (by decide +kernel)) rfl), (x_wd_in (x_at (i := 1264) (by decide +kernel)) rfl), by decide +kernel, by decide +kernel, by decide +kernel⟩
theorem kb_X12_index : x_KB yX12_index cX12_index 1 (some FieldType.boolean) 0 := ⟨(x_wd_in (x_at (i := 12) (by decide +kernel)) rfl), (x_wd_in (x_at (i := 1268) (by decide +kernel)) rfl), by decide +kernel, by decide +kernel, by decide +kernel⟩
theorem kb_X12_column : x_KB yX12_column cX12_column 10 (some FieldType.boolean) 2 := ⟨(x_wd_in (x_at (i := 12) (by decide +kernel)) rfl), (x_wd_in (x_at (i := 1272) (by decide +kernel)) rfl), by decide +kernel, by decide +kernel, by decide +kernel⟩
theorem kb_X12_isDigit : x_KB yX12_isDigit cX12_isDigit 1 (some FieldType.boolean) 1 := ⟨(x_wd_in (x_at (i := 12) (by decide +kernel)) rfl), (x_wd_in (x_at (i := 1275) (by decide +kernel)) rfl), by decide +kernel, by decide +kernel, by decide +kernel⟩
theorem kb_X12_hundredths : x_KB yX12_hundredths cX12_hundredths 4 (some FieldType.boolean) 1 := ⟨(x_wd_in (x_at (i := 12) (by decide +kernel)) rfl), (x_wd_in (x_at (i := 1279) (by decide +kernel)) rfl), by decide +kernel, by decide +kernel, by decide +kernel⟩
theorem kb_X12_drop : x_KB yX12_drop cX12_drop 2 (some FieldType.int) 0 := ⟨(x_wd_in (x_at (i := 12) (by decide +kernel)) rfl), (x_wd_in (x_at (i := 1283) (by decide +kernel)) rfl), by decide +kernel, by decide +kernel, by decide +kernel⟩
theorem kb_X12_reflections : x_KB yX12_reflections cX12_reflections 1 (some FieldType.int) 0 := ⟨(x_wd_in (x_at (i := 12) (by decide +kernel)) rfl), (x_wd_in (x_at (i := 1287) (by decide +kernel)) rfl), by decide +kernel, by decide +kernel, by decide +kernel⟩
theorem kb_X12_reflection : x_KB yX12_reflection cX12_reflection 3 (some FieldType.int) 2 := ⟨(x_wd_in (x_at (i := 12) (by decide +kernel)) rfl), (x_wd_in (x_at (i := 1291) (by decide +kernel)) rfl), by decide +kernel, by decide +kernel, by decide +kernel⟩
theorem kb_X12_merge : x_KB yX12_merge cX12_merge 5 (some FieldType.int) 0 := ⟨(x_wd_in (x_at (i := 12) (by decide +kernel)) rfl), (x_wd_in (x_at (i := 1295) (by decide +kernel)) rfl), by decide +kernel, by decide +kernel, by decide +kernel⟩
theorem kb_X12_place : x_KB yX12_place cX12_place 6 (some FieldType.int) 1 := ⟨(x_wd_in (x_at (i := 12) (by decide +kernel)) rfl), (x_wd_in (x_at (i := 1299) (by decide +kernel)) rfl), by decide +kernel, by decide +kernel, by decide +kernel⟩
theorem kb_X12_rows : x_KB yX12_rows cX12_rows 1 (some FieldType.int) 0 := ⟨(x_wd_in (x_at (i := 12) (by decide +kernel)) rfl), (x_wd_in (x_at (i := 1303) (by decide +kernel)) rfl), by decide +kernel, by decide +kernel, by decide +kernel⟩
theorem kb_X12_row : x_KB yX12_row cX12_row 5 (some FieldType.long) 2 := ⟨(x_wd_in (x_at (i := 12) (by decide +kernel)) rfl), (x_wd_in (x_at (i := 1307) (by decide +kernel)) rfl), by decide +kernel, by decide +kernel, by decide +kernel⟩
theorem kb_X12_common : x_KB yX12_common cX12_common 10 (some FieldType.long) 2 := ⟨(x_wd_in (x_at (i := 12) (by decide +kernel)) rfl), (x_wd_in (x_at (i := 1310) (by decide +kernel)) rfl), by decide +kernel, by decide +kernel, by decide +kernel⟩
theorem kb_X12_digits : x_KB yX12_digits cX12_digits 4 (some FieldType.int) 1 := ⟨(x_wd_in (x_at (i := 12) (by decide +kernel)) rfl), (x_wd_in (x_at (i := 1314) (by decide +kernel)) rfl), by decide +kernel, by decide +kernel, by decide +kernel⟩
theorem kb_X12_findR : x_KB yX12_findR cX12_findR 9 (some FieldType.boolean) 0 := ⟨(x_wd_in (x_at (i := 12) (by decide +kernel)) rfl), (x_wd_in (x_at (i := 1318) (by decide +kernel)) rfl), by decide +kernel, by decide +kernel, by decide +kernel⟩
theorem kb_X12_counts : x_KB yX12_counts cX12_counts 2 (some FieldType.boolean) 1 := ⟨(x_wd_in (x_at (i := 12) (by decide +kernel)) rfl), (x_wd_in (x_at (i := 1322) (by decide +kernel)) rfl), by decide +kernel, by decide +kernel, by decide +kernel⟩
theorem kb_X12_clear : x_KB yX12_clear cX12_clear 4 none 2 := ⟨(x_wd_in (x_at (i := 12) (by decide +kernel)) rfl), (x_wd_in (x_at (i := 1326) (by decide +kernel)) rfl), by decide +kernel, by decide +kernel, by decide +kernel⟩
theorem kb_X12_isPrime : x_KB yX12_isPrime cX12_isPrime 3 (some FieldType.boolean) 1 := ⟨(x_wd_in (x_at (i := 12) (by decide +kernel)) rfl), (x_wd_in (x_at (i := 1329) (by decide +kernel)) rfl), by decide +kernel, by decide +kernel, by decide +kernel⟩
theorem kb_X12_times : x_KB yX12_times cX12_times 9 none 2 := ⟨(x_wd_in (x_at (i := 12) (by decide +kernel)) rfl), (x_wd_in (x_at (i := 1333) (by decide +kernel)) rfl), by decide +kernel, by decide +kernel, by decide +kernel⟩
theorem kb_X12_copy : x_KB yX12_copy cX12_copy 4 none 2 := ⟨(x_wd_in (x_at (i := 12) (by decide +kernel)) rfl), (x_wd_in (x_at (i := 1338) (by decide +kernel)) rfl), by decide +kernel, by decide +kernel, by decide +kernel⟩
theorem kb_X12_divide : x_KB yX12_divide cX12_divide 8 none 2 := ⟨(x_wd_in (x_at (i := 12) (by decide +kernel)) rfl), (x_wd_in (x_at (i := 1342) (by decide +kernel)) rfl), by decide +kernel, by decide +kernel, by decide +kernel⟩
theorem kb_X12_multiplyBig : x_KB yX12_multiplyBig cX12_multiplyBig 4 none 2 := ⟨(x_wd_in (x_at (i := 12) (by decide +kernel)) rfl), (x_wd_in (x_at (i := 1347) (by decide +kernel)) rfl), by decide +kernel, by decide +kernel, by decide +kernel⟩
theorem kb_X12_add : x_KB yX12_add cX12_add 6 none 2 := ⟨(x_wd_in (x_at (i := 12) (by decide +kernel)) rfl), (x_wd_in (x_at (i := 1353) (by decide +kernel)) rfl), by decide +kernel, by decide +kernel, by decide +kernel⟩
theorem kb_X12_isNought : x_KB yX12_isNought cX12_isNought 4 (some FieldType.boolean) 1 := ⟨(x_wd_in (x_at (i := 12) (by decide +kernel)) rfl), (x_wd_in (x_at (i := 1358) (by decide +kernel)) rfl), by decide +kernel, by decide +kernel, by decide +kernel⟩
theorem kb_X12_findCommon : x_KB yX12_findCommon cX12_findCommon 3 none 0 := ⟨(x_wd_in (x_at (i := 12) (by decide +kernel)) rfl), (x_wd_in (x_at (i := 1362) (by decide +kernel)) rfl), by decide +kernel, by decide +kernel, by decide +kernel⟩
theorem kb_X12_halve : x_KB yX12_halve cX12_halve 3 none 1 := ⟨(x_wd_in (x_at (i := 12) (by decide +kernel)) rfl), (x_wd_in (x_at (i := 1366) (by decide +kernel)) rfl), by decide +kernel, by decide +kernel, by decide +kernel⟩
theorem kb_X12_isBelow : x_KB yX12_isBelow cX12_isBelow 4 (some FieldType.boolean) 2 := ⟨(x_wd_in (x_at (i := 12) (by decide +kernel)) rfl), (x_wd_in (x_at (i := 1370) (by decide +kernel)) rfl), by decide +kernel, by decide +kernel, by decide +kernel⟩
theorem kb_X12_subtract : x_KB yX12_subtract cX12_subtract 6 none 2 := ⟨(x_wd_in (x_at (i := 12) (by decide +kernel)) rfl), (x_wd_in (x_at (i := 1374) (by decide +kernel)) rfl), by decide +kernel, by decide +kernel, by decide +kernel⟩
theorem kb_X12_lessen : x_KB yX12_lessen cX12_lessen 4 none 1 := ⟨(x_wd_in (x_at (i := 12) (by decide +kernel)) rfl), (x_wd_in (x_at (i := 1379) (by decide +kernel)) rfl), by decide +kernel, by decide +kernel, by decide +kernel⟩
theorem kb_X12_digit : x_KB yX12_digit cX12_digit 3 (some FieldType.int) 2 := ⟨(x_wd_in (x_at (i := 12) (by decide +kernel)) rfl), (x_wd_in (x_at (i := 1383) (by decide +kernel)) rfl), by decide +kernel, by decide +kernel, by decide +kernel⟩
theorem kb_X12_violations : x_KB yX12_violations cX12_violations 3 (some FieldType.int) 1 := ⟨(x_wd_in (x_at (i := 12) (by decide +kernel)) rfl), (x_wd_in (x_at (i := 1387) (by decide +kernel)) rfl), by decide +kernel, by decide +kernel, by decide +kernel⟩
theorem kb_X12_violation : x_KB yX12_violation cX12_violation 2 (some FieldType.int) 1 := ⟨(x_wd_in (x_at (i := 12) (by decide +kernel)) rfl), (x_wd_in (x_at (i := 1391) (by decide +kernel)) rfl), by decide +kernel, by decide +kernel, by decide +kernel⟩
theorem kb_X12_complete : x_KB yX12_complete cX12_complete 8 (some FieldType.int) 2 := ⟨(x_wd_in (x_at (i := 12) (by decide +kernel)) rfl), (x_wd_in (x_at (i := 1395) (by decide +kernel)) rfl), by decide +kernel, by decide +kernel, by decide +kernel⟩
theorem kb_X12_isWithin : x_KB yX12_isWithin cX12_isWithin 5 (some FieldType.boolean) 2 := ⟨(x_wd_in (x_at (i := 12) (by decide +kernel)) rfl), (x_wd_in (x_at (i := 1399) (by decide +kernel)) rfl), by decide +kernel, by decide +kernel, by decide +kernel⟩
theorem kf_X9_9 : x_FL RX9 9 TX9 0 := Or.inl (x_wd_in (x_at (i := 36) (by decide +kernel)) rfl)
theorem kf_X11_69 : x_FL RX11 69 TX9 1 := Or.inr ⟨"ReflectionReducer", x_ow_in (x_at (i := 37) (by decide +kernel)) rfl⟩
theorem kf_X9_15 : x_FL RX9 15 TX9 1 := Or.inl (x_wd_in (x_at (i := 38) (by decide +kernel)) rfl)
theorem kf_X0_23 : x_FL RX0 23 TX9 1 := Or.inr ⟨"ReflectionReducer", x_ow_in (x_at (i := 39) (by decide +kernel)) rfl⟩
theorem kf_X8_65 : x_FL RX8 65 TX9 1 := Or.inr ⟨"ReflectionReducer", x_ow_in (x_at (i := 40) (by decide +kernel)) rfl⟩
theorem kf_X2_13 : x_FL RX2 13 TX2 0 := Or.inl (x_wd_in (x_at (i := 53) (by decide +kernel)) rfl)
theorem kf_X2_17 : x_FL RX2 17 TX2 1 := Or.inl (x_wd_in (x_at (i := 54) (by decide +kernel)) rfl)
theorem kf_X2_20 : x_FL RX2 20 TX2 2 := Or.inl (x_wd_in (x_at (i := 55) (by decide +kernel)) rfl)
theorem kf_X1_36 : x_FL RX1 36 TX2 2 := Or.inr ⟨"ReflectionReducer", x_ow_in (x_at (i := 56) (by decide +kernel)) rfl⟩
theorem kf_X2_23 : x_FL RX2 23 TX2 3 := Or.inl (x_wd_in (x_at (i := 57) (by decide +kernel)) rfl)
theorem kf_X2_26 : x_FL RX2 26 TX2 4 := Or.inl (x_wd_in (x_at (i := 58) (by decide +kernel)) rfl)
theorem kf_X1_24 : x_FL RX1 24 TX2 5 := Or.inr ⟨"ReflectionReducer", x_ow_in (x_at (i := 59) (by decide +kernel)) rfl⟩
theorem kf_X2_36 : x_FL RX2 36 TX2 5 := Or.inl (x_wd_in (x_at (i := 60) (by decide +kernel)) rfl)
theorem kf_X8_17 : x_FL RX8 17 TX8 0 := Or.inl (x_wd_in (x_at (i := 81) (by decide +kernel)) rfl)
theorem kf_X8_21 : x_FL RX8 21 TX8 1 := Or.inl (x_wd_in (x_at (i := 82) (by decide +kernel)) rfl)
theorem kf_X8_11 : x_FL RX8 11 TX8 2 := Or.inl (x_wd_in (x_at (i := 83) (by decide +kernel)) rfl)
theorem kf_X8_25 : x_FL RX8 25 TX8 3 := Or.inl (x_wd_in (x_at (i := 84) (by decide +kernel)) rfl)
theorem kf_X11_93 : x_FL RX11 93 TX8 3 := Or.inr ⟨"ReflectionReducer", x_ow_in (x_at (i := 85) (by decide +kernel)) rfl⟩
theorem kf_X8_29 : x_FL RX8 29 TX8 4 := Or.inl (x_wd_in (x_at (i := 86) (by decide +kernel)) rfl)
theorem kf_X8_32 : x_FL RX8 32 TX8 5 := Or.inl (x_wd_in (x_at (i := 87) (by decide +kernel)) rfl)
theorem kf_X8_35 : x_FL RX8 35 TX8 6 := Or.inl (x_wd_in (x_at (i := 88) (by decide +kernel)) rfl)
theorem kf_X1_11 : x_FL RX1 11 TX1 0 := Or.inl (x_wd_in (x_at (i := 110) (by decide +kernel)) rfl)
theorem kf_X1_15 : x_FL RX1 15 TX1 1 := Or.inl (x_wd_in (x_at (i := 111) (by decide +kernel)) rfl)
theorem kf_X1_18 : x_FL RX1 18 TX1 2 := Or.inl (x_wd_in (x_at (i := 112) (by decide +kernel)) rfl)
theorem kf_X1_21 : x_FL RX1 21 TX1 3 := Or.inl (x_wd_in (x_at (i := 113) (by decide +kernel)) rfl)
theorem kf_X1_33 : x_FL RX1 33 TX1 4 := Or.inl (x_wd_in (x_at (i := 114) (by decide +kernel)) rfl)
theorem kf_X1_30 : x_FL RX1 30 TX1 5 := Or.inl (x_wd_in (x_at (i := 115) (by decide +kernel)) rfl)
theorem kf_X11_106 : x_FL RX11 106 TX1 5 := Or.inr ⟨"ReflectionReducer", x_ow_in (x_at (i := 116) (by decide +kernel)) rfl⟩
theorem kf_X6_9 : x_FL RX6 9 TX6 0 := Or.inl (x_wd_in (x_at (i := 136) (by decide +kernel)) rfl)
theorem kf_X10_22 : x_FL RX10 22 TX6 0 := Or.inr ⟨"ReflectionReducer", x_ow_in (x_at (i := 137) (by decide +kernel)) rfl⟩
theorem kf_X7_67 : x_FL RX7 67 TX6 0 := Or.inr ⟨"ReflectionReducer", x_ow_in (x_at (i := 138) (by decide +kernel)) rfl⟩
theorem kf_X6_15 : x_FL RX6 15 TX6 1 := Or.inl (x_wd_in (x_at (i := 139) (by decide +kernel)) rfl)
theorem kf_X10_25 : x_FL RX10 25 TX6 1 := Or.inr ⟨"ReflectionReducer", x_ow_in (x_at (i := 140) (by decide +kernel)) rfl⟩
theorem kf_X7_87 : x_FL RX7 87 TX6 1 := Or.inr ⟨"ReflectionReducer", x_ow_in (x_at (i := 141) (by decide +kernel)) rfl⟩
theorem kf_X6_18 : x_FL RX6 18 TX6 2 := Or.inl (x_wd_in (x_at (i := 142) (by decide +kernel)) rfl)
theorem kf_X10_28 : x_FL RX10 28 TX6 2 := Or.inr ⟨"ReflectionReducer", x_ow_in (x_at (i := 143) (by decide +kernel)) rfl⟩
theorem kf_X6_21 : x_FL RX6 21 TX6 3 := Or.inl (x_wd_in (x_at (i := 144) (by decide +kernel)) rfl)
theorem kf_X10_19 : x_FL RX10 19 TX6 3 := Or.inr ⟨"ReflectionReducer", x_ow_in (x_at (i := 145) (by decide +kernel)) rfl⟩
theorem kf_X0_58 : x_FL RX0 58 TX6 3 := Or.inr ⟨"ReflectionReducer", x_ow_in (x_at (i := 146) (by decide +kernel)) rfl⟩
theorem kf_X7_64 : x_FL RX7 64 TX6 3 := Or.inr ⟨"ReflectionReducer", x_ow_in (x_at (i := 147) (by decide +kernel)) rfl⟩
theorem kf_X11_167 : x_FL RX11 167 TX6 3 := Or.inr ⟨"ReflectionReducer", x_ow_in (x_at (i := 148) (by decide +kernel)) rfl⟩
theorem kf_X0_15 : x_FL RX0 15 TX0 0 := Or.inl (x_wd_in (x_at (i := 164) (by decide +kernel)) rfl)
theorem kf_X0_19 : x_FL RX0 19 TX0 1 := Or.inl (x_wd_in (x_at (i := 165) (by decide +kernel)) rfl)
theorem kf_X0_9 : x_FL RX0 9 TX0 2 := Or.inl (x_wd_in (x_at (i := 166) (by decide +kernel)) rfl)
theorem kf_X0_42 : x_FL RX0 42 TX0 3 := Or.inl (x_wd_in (x_at (i := 167) (by decide +kernel)) rfl)
theorem kf_X0_45 : x_FL RX0 45 TX0 4 := Or.inl (x_wd_in (x_at (i := 168) (by decide +kernel)) rfl)
theorem kf_X0_76 : x_FL RX0 76 TX0 5 := Or.inl (x_wd_in (x_at (i := 169) (by decide +kernel)) rfl)
theorem kf_X0_72 : x_FL RX0 72 TX0 6 := Or.inl (x_wd_in (x_at (i := 170) (by decide +kernel)) rfl)
theorem kf_X0_33 : x_FL RX0 33 TX0 7 := Or.inl (x_wd_in (x_at (i := 171) (by decide +kernel)) rfl)
theorem kf_X4_9 : x_FL RX4 9 TX4 0 := Or.inl (x_wd_in (x_at (i := 207) (by decide +kernel)) rfl)
theorem kf_X5_10 : x_FL RX5 10 TX5 0 := Or.inl (x_wd_in (x_at (i := 213) (by decide +kernel)) rfl)
theorem kf_X5_16 : x_FL RX5 16 TX5 1 := Or.inl (x_wd_in (x_at (i := 214) (by decide +kernel)) rfl)
theorem kf_X5_19 : x_FL RX5 19 TX5 2 := Or.inl (x_wd_in (x_at (i := 215) (by decide +kernel)) rfl)
theorem kf_X5_26 : x_FL RX5 26 TX5 3 := Or.inl (x_wd_in (x_at (i := 216) (by decide +kernel)) rfl)
theorem kf_X5_30 : x_FL RX5 30 TX5 4 := Or.inl (x_wd_in (x_at (i := 217) (by decide +kernel)) rfl)
theorem kf_X11_190 : x_FL RX11 190 TX5 4 := Or.inr ⟨"ReflectionReducer", x_ow_in (x_at (i := 218) (by decide +kernel)) rfl⟩
theorem kf_X7_9 : x_FL RX7 9 TX7 0 := Or.inl (x_wd_in (x_at (i := 230) (by decide +kernel)) rfl)
theorem kf_X7_15 : x_FL RX7 15 TX7 1 := Or.inl (x_wd_in (x_at (i := 231) (by decide +kernel)) rfl)
theorem kf_X7_19 : x_FL RX7 19 TX7 2 := Or.inl (x_wd_in (x_at (i := 232) (by decide +kernel)) rfl)
theorem kf_X7_22 : x_FL RX7 22 TX7 3 := Or.inl (x_wd_in (x_at (i := 233) (by decide +kernel)) rfl)
theorem kf_X7_25 : x_FL RX7 25 TX7 4 := Or.inl (x_wd_in (x_at (i := 234) (by decide +kernel)) rfl)
theorem kf_X7_29 : x_FL RX7 29 TX7 5 := Or.inl (x_wd_in (x_at (i := 235) (by decide +kernel)) rfl)
theorem kf_X7_32 : x_FL RX7 32 TX7 6 := Or.inl (x_wd_in (x_at (i := 236) (by decide +kernel)) rfl)
theorem kf_X7_38 : x_FL RX7 38 TX7 7 := Or.inl (x_wd_in (x_at (i := 237) (by decide +kernel)) rfl)
theorem kf_X11_186 : x_FL RX11 186 TX7 7 := Or.inr ⟨"ReflectionReducer", x_ow_in (x_at (i := 238) (by decide +kernel)) rfl⟩
theorem kf_X7_42 : x_FL RX7 42 TX7 8 := Or.inl (x_wd_in (x_at (i := 239) (by decide +kernel)) rfl)
theorem kf_X11_177 : x_FL RX11 177 TX7 8 := Or.inr ⟨"ReflectionReducer", x_ow_in (x_at (i := 240) (by decide +kernel)) rfl⟩
theorem kf_X10_9 : x_FL RX10 9 TX10 0 := Or.inl (x_wd_in (x_at (i := 266) (by decide +kernel)) rfl)
theorem kf_X10_15 : x_FL RX10 15 TX10 1 := Or.inl (x_wd_in (x_at (i := 267) (by decide +kernel)) rfl)
theorem kf_X11_213 : x_FL RX11 213 TX10 1 := Or.inr ⟨"ReflectionReducer", x_ow_in (x_at (i := 268) (by decide +kernel)) rfl⟩
theorem kf_X11_10 : x_FL RX11 10 TX11 0 := Or.inl (x_wd_in (x_at (i := 274) (by decide +kernel)) rfl)
theorem kf_X11_19 : x_FL RX11 19 TX11 1 := Or.inl (x_wd_in (x_at (i := 275) (by decide +kernel)) rfl)
theorem kf_X11_28 : x_FL RX11 28 TX11 2 := Or.inl (x_wd_in (x_at (i := 276) (by decide +kernel)) rfl)
theorem kf_X11_35 : x_FL RX11 35 TX11 3 := Or.inl (x_wd_in (x_at (i := 277) (by decide +kernel)) rfl)
theorem kf_X11_42 : x_FL RX11 42 TX11 4 := Or.inl (x_wd_in (x_at (i := 278) (by decide +kernel)) rfl)
theorem kf_X11_51 : x_FL RX11 51 TX11 5 := Or.inl (x_wd_in (x_at (i := 279) (by decide +kernel)) rfl)
theorem kf_X11_58 : x_FL RX11 58 TX11 6 := Or.inl (x_wd_in (x_at (i := 280) (by decide +kernel)) rfl)
theorem kf_X11_65 : x_FL RX11 65 TX11 7 := Or.inl (x_wd_in (x_at (i := 281) (by decide +kernel)) rfl)
theorem kv_L_79 : x_KV RL 79 yX11_symbol := ⟨(x_wd_in (x_at (i := 299) (by decide +kernel)) rfl), (x_wd_in (x_at (i := 300) (by decide +kernel)) rfl), (x_wd_in (x_at (i := 301) (by decide +kernel)) rfl)⟩
theorem kv_X11_89 : x_KV RX11 89 yX8_readTape := ⟨(x_wd_in (x_at (i := 303) (by decide +kernel)) rfl), (x_wd_in (x_at (i := 304) (by decide +kernel)) rfl), (x_wd_in (x_at (i := 305) (by decide +kernel)) rfl)⟩
theorem kv_X8_38 : x_KV RX8 38 yX2_clear := ⟨(x_wd_in (x_at (i := 307) (by decide +kernel)) rfl), (x_wd_in (x_at (i := 308) (by decide +kernel)) rfl), (x_wd_in (x_at (i := 309) (by decide +kernel)) rfl)⟩
theorem kv_X8_43 : x_KV RX8 43 yX8_skipBlanks := ⟨(x_wd_in (x_at (i := 311) (by decide +kernel)) rfl), (x_wd_in (x_at (i := 313) (by decide +kernel)) rfl), (x_wd_in (x_priv (q := (yX8_skipBlanks, _)) (List.mem_of_getElem? (i := 0) rfl)) rfl)⟩
theorem kv_X8_70 : x_KV RX8 70 yX9_byteAt := ⟨(x_wd_in (x_at (i := 315) (by decide +kernel)) rfl), (x_wd_in (x_at (i := 316) (by decide +kernel)) rfl), (x_wd_in (x_at (i := 317) (by decide +kernel)) rfl)⟩
theorem kv_X8_47 : x_KV RX8 47 yX8_takes := ⟨(x_wd_in (x_at (i := 319) (by decide +kernel)) rfl), (x_wd_in (x_at (i := 321) (by decide +kernel)) rfl), (x_wd_in (x_priv (q := (yX8_takes, _)) (List.mem_of_getElem? (i := 1) rfl)) rfl)⟩
theorem kv_X8_51 : x_KV RX8 51 yX8_addPlain := ⟨(x_wd_in (x_at (i := 323) (by decide +kernel)) rfl), (x_wd_in (x_at (i := 325) (by decide +kernel)) rfl), (x_wd_in (x_priv (q := (yX8_addPlain, _)) (List.mem_of_getElem? (i := 2) rfl)) rfl)⟩
theorem kv_X8_74 : x_KV RX8 74 yX8_setRotation := ⟨(x_wd_in (x_at (i := 327) (by decide +kernel)) rfl), (x_wd_in (x_at (i := 329) (by decide +kernel)) rfl), (x_wd_in (x_priv (q := (yX8_setRotation, _)) (List.mem_of_getElem? (i := 3) rfl)) rfl)⟩
theorem kw_X8_112 : Cond.fieldLink RX8 112 RX8 "ROTATIONS" "[I" ∈ x_wd := (x_wd_in (x_at (i := 331) (by decide +kernel)) rfl)
theorem kv_X8_78 : x_KV RX8 78 yX8_shift := ⟨(x_wd_in (x_at (i := 333) (by decide +kernel)) rfl), (x_wd_in (x_at (i := 335) (by decide +kernel)) rfl), (x_wd_in (x_priv (q := (yX8_shift, _)) (List.mem_of_getElem? (i := 4) rfl)) rfl)⟩
theorem kv_X8_122 : x_KV RX8 122 yX8_shiftAlong := ⟨(x_wd_in (x_at (i := 337) (by decide +kernel)) rfl), (x_wd_in (x_at (i := 339) (by decide +kernel)) rfl), (x_wd_in (x_priv (q := (yX8_shiftAlong, _)) (List.mem_of_getElem? (i := 5) rfl)) rfl)⟩
theorem kv_X8_82 : x_KV RX8 82 yX2_addGenerator := ⟨(x_wd_in (x_at (i := 341) (by decide +kernel)) rfl), (x_wd_in (x_at (i := 342) (by decide +kernel)) rfl), (x_wd_in (x_at (i := 343) (by decide +kernel)) rfl)⟩
theorem kv_X8_55 : x_KV RX8 55 yX8_readLattice := ⟨(x_wd_in (x_at (i := 348) (by decide +kernel)) rfl), (x_wd_in (x_at (i := 350) (by decide +kernel)) rfl), (x_wd_in (x_priv (q := (yX8_readLattice, _)) (List.mem_of_getElem? (i := 6) rfl)) rfl)⟩
theorem kv_X8_59 : x_KV RX8 59 yX8_isAtEnd := ⟨(x_wd_in (x_at (i := 352) (by decide +kernel)) rfl), (x_wd_in (x_at (i := 354) (by decide +kernel)) rfl), (x_wd_in (x_priv (q := (yX8_isAtEnd, _)) (List.mem_of_getElem? (i := 7) rfl)) rfl)⟩
theorem kv_X8_62 : x_KV RX8 62 yX8_readMatrix := ⟨(x_wd_in (x_at (i := 356) (by decide +kernel)) rfl), (x_wd_in (x_at (i := 358) (by decide +kernel)) rfl), (x_wd_in (x_priv (q := (yX8_readMatrix, _)) (List.mem_of_getElem? (i := 8) rfl)) rfl)⟩
theorem ks_X8_86 : x_KS RX8 86 yX8_foldOf := ⟨(x_wd_in (x_at (i := 360) (by decide +kernel)) rfl), (x_wd_in (x_at (i := 361) (by decide +kernel)) rfl)⟩
theorem kv_X8_89 : x_KV RX8 89 yX8_readAxis := ⟨(x_wd_in (x_at (i := 363) (by decide +kernel)) rfl), (x_wd_in (x_at (i := 365) (by decide +kernel)) rfl), (x_wd_in (x_priv (q := (yX8_readAxis, _)) (List.mem_of_getElem? (i := 9) rfl)) rfl)⟩
theorem ks_X8_106 : x_KS RX8 106 yX8_writtenAxis := ⟨(x_wd_in (x_at (i := 367) (by decide +kernel)) rfl), (x_wd_in (x_at (i := 368) (by decide +kernel)) rfl)⟩
theorem kv_X8_109 : x_KV RX8 109 yX8_axisByDefault := ⟨(x_wd_in (x_at (i := 370) (by decide +kernel)) rfl), (x_wd_in (x_at (i := 372) (by decide +kernel)) rfl), (x_wd_in (x_priv (q := (yX8_axisByDefault, _)) (List.mem_of_getElem? (i := 10) rfl)) rfl)⟩
theorem ks_X8_92 : x_KS RX8 92 yX8_rotationOf := ⟨(x_wd_in (x_at (i := 374) (by decide +kernel)) rfl), (x_wd_in (x_at (i := 375) (by decide +kernel)) rfl)⟩
theorem kv_X8_96 : x_KV RX8 96 yX8_turnOf := ⟨(x_wd_in (x_at (i := 377) (by decide +kernel)) rfl), (x_wd_in (x_at (i := 379) (by decide +kernel)) rfl), (x_wd_in (x_priv (q := (yX8_turnOf, _)) (List.mem_of_getElem? (i := 11) rfl)) rfl)⟩
theorem kv_X8_99 : x_KV RX8 99 yX8_readShifts := ⟨(x_wd_in (x_at (i := 381) (by decide +kernel)) rfl), (x_wd_in (x_at (i := 383) (by decide +kernel)) rfl), (x_wd_in (x_priv (q := (yX8_readShifts, _)) (List.mem_of_getElem? (i := 12) rfl)) rfl)⟩
theorem ks_X8_115 : x_KS RX8 115 yX8_isScrew := ⟨(x_wd_in (x_at (i := 385) (by decide +kernel)) rfl), (x_wd_in (x_at (i := 386) (by decide +kernel)) rfl)⟩
theorem ks_X8_119 : x_KS RX8 119 yX8_screwStep := ⟨(x_wd_in (x_at (i := 388) (by decide +kernel)) rfl), (x_wd_in (x_at (i := 389) (by decide +kernel)) rfl)⟩
theorem kv_X8_125 : x_KV RX8 125 yX8_shiftByLetter := ⟨(x_wd_in (x_at (i := 391) (by decide +kernel)) rfl), (x_wd_in (x_at (i := 393) (by decide +kernel)) rfl), (x_wd_in (x_priv (q := (yX8_shiftByLetter, _)) (List.mem_of_getElem? (i := 13) rfl)) rfl)⟩
theorem kv_X8_103 : x_KV RX8 103 yX8_remember := ⟨(x_wd_in (x_at (i := 395) (by decide +kernel)) rfl), (x_wd_in (x_at (i := 397) (by decide +kernel)) rfl), (x_wd_in (x_priv (q := (yX8_remember, _)) (List.mem_of_getElem? (i := 14) rfl)) rfl)⟩
theorem kv_X11_96 : x_KV RX11 96 yX2_makesGroup := ⟨(x_wd_in (x_at (i := 399) (by decide +kernel)) rfl), (x_wd_in (x_at (i := 400) (by decide +kernel)) rfl), (x_wd_in (x_at (i := 401) (by decide +kernel)) rfl)⟩
theorem kc_X2_39 : Cond.constant RX2 39 (627400704) ∈ x_wd := (x_wd_in (x_at (i := 403) (by decide +kernel)) rfl)
theorem kv_X2_40 : x_KV RX2 40 yX2_keep := ⟨(x_wd_in (x_at (i := 404) (by decide +kernel)) rfl), (x_wd_in (x_at (i := 406) (by decide +kernel)) rfl), (x_wd_in (x_priv (q := (yX2_keep, _)) (List.mem_of_getElem? (i := 15) rfl)) rfl)⟩
theorem kv_X2_62 : x_KV RX2 62 yX2_placeOf := ⟨(x_wd_in (x_at (i := 408) (by decide +kernel)) rfl), (x_wd_in (x_at (i := 410) (by decide +kernel)) rfl), (x_wd_in (x_priv (q := (yX2_placeOf, _)) (List.mem_of_getElem? (i := 16) rfl)) rfl)⟩
theorem ks_X2_44 : x_KS RX2 44 yX1_unpack := ⟨(x_wd_in (x_at (i := 412) (by decide +kernel)) rfl), (x_wd_in (x_at (i := 413) (by decide +kernel)) rfl)⟩
theorem kv_X2_48 : x_KV RX2 48 yX2_keyOfLeftBehind := ⟨(x_wd_in (x_at (i := 415) (by decide +kernel)) rfl), (x_wd_in (x_at (i := 417) (by decide +kernel)) rfl), (x_wd_in (x_priv (q := (yX2_keyOfLeftBehind, _)) (List.mem_of_getElem? (i := 17) rfl)) rfl)⟩
theorem kv_X2_52 : x_KV RX2 52 yX2_timesColumn := ⟨(x_wd_in (x_at (i := 419) (by decide +kernel)) rfl), (x_wd_in (x_at (i := 421) (by decide +kernel)) rfl), (x_wd_in (x_priv (q := (yX2_timesColumn, _)) (List.mem_of_getElem? (i := 18) rfl)) rfl)⟩
theorem ks_X2_56 : x_KS RX2 56 yJ9_floorMod_7cf53 := ⟨(x_wd_in (x_at (i := 423) (by decide +kernel)) rfl), (x_wd_in (x_at (i := 424) (by decide +kernel)) rfl)⟩
theorem kv_X11_99 : x_KV RX11 99 yX1_become := ⟨(x_wd_in (x_at (i := 426) (by decide +kernel)) rfl), (x_wd_in (x_at (i := 427) (by decide +kernel)) rfl), (x_wd_in (x_at (i := 428) (by decide +kernel)) rfl)⟩
theorem ks_X1_39 : x_KS RX1 39 yX1_unpack := ⟨(x_wd_in (x_at (i := 430) (by decide +kernel)) rfl), (x_wd_in (x_at (i := 413) (by decide +kernel)) rfl)⟩
theorem kv_X1_43 : x_KV RX1 43 yX1_rotationKey := ⟨(x_wd_in (x_at (i := 431) (by decide +kernel)) rfl), (x_wd_in (x_at (i := 433) (by decide +kernel)) rfl), (x_wd_in (x_priv (q := (yX1_rotationKey, _)) (List.mem_of_getElem? (i := 19) rfl)) rfl)⟩
theorem kv_X1_47 : x_KV RX1 47 yX1_determinant := ⟨(x_wd_in (x_at (i := 435) (by decide +kernel)) rfl), (x_wd_in (x_at (i := 437) (by decide +kernel)) rfl), (x_wd_in (x_priv (q := (yX1_determinant, _)) (List.mem_of_getElem? (i := 20) rfl)) rfl)⟩
theorem kc_X1_50 : Cond.constant RX1 50 (174762) ∈ x_wd := (x_wd_in (x_at (i := 439) (by decide +kernel)) rfl)
theorem kv_X1_51 : x_KV RX1 51 yX1_keepTurn := ⟨(x_wd_in (x_at (i := 440) (by decide +kernel)) rfl), (x_wd_in (x_at (i := 442) (by decide +kernel)) rfl), (x_wd_in (x_priv (q := (yX1_keepTurn, _)) (List.mem_of_getElem? (i := 21) rfl)) rfl)⟩
theorem kv_X11_103 : x_KV RX11 103 yX7_clear := ⟨(x_wd_in (x_at (i := 444) (by decide +kernel)) rfl), (x_wd_in (x_at (i := 445) (by decide +kernel)) rfl), (x_wd_in (x_at (i := 446) (by decide +kernel)) rfl)⟩
theorem kv_X7_46 : x_KV RX7 46 yX5_clear := ⟨(x_wd_in (x_at (i := 448) (by decide +kernel)) rfl), (x_wd_in (x_at (i := 449) (by decide +kernel)) rfl), (x_wd_in (x_at (i := 450) (by decide +kernel)) rfl)⟩
theorem kv_X5_22 : x_KV RX5 22 yX4_set := ⟨(x_wd_in (x_at (i := 452) (by decide +kernel)) rfl), (x_wd_in (x_at (i := 453) (by decide +kernel)) rfl), (x_wd_in (x_at (i := 454) (by decide +kernel)) rfl)⟩
theorem kc_X4_13 : Cond.constant RX4 13 (65535) ∈ x_wd := (x_wd_in (x_at (i := 456) (by decide +kernel)) rfl)
theorem kv_L_83 : x_KV RL 83 yX11_order := ⟨(x_wd_in (x_at (i := 457) (by decide +kernel)) rfl), (x_wd_in (x_at (i := 458) (by decide +kernel)) rfl), (x_wd_in (x_at (i := 459) (by decide +kernel)) rfl)⟩
theorem kv_L_91 : x_KV RL 91 yX11_laue := ⟨(x_wd_in (x_at (i := 461) (by decide +kernel)) rfl), (x_wd_in (x_at (i := 462) (by decide +kernel)) rfl), (x_wd_in (x_at (i := 463) (by decide +kernel)) rfl)⟩
theorem kv_X11_122 : x_KV RX11 122 yX1_laueClass := ⟨(x_wd_in (x_at (i := 465) (by decide +kernel)) rfl), (x_wd_in (x_at (i := 466) (by decide +kernel)) rfl), (x_wd_in (x_at (i := 467) (by decide +kernel)) rfl)⟩
theorem kv_X1_55 : x_KV RX1 55 yX1_hasTurnOfTrace := ⟨(x_wd_in (x_at (i := 469) (by decide +kernel)) rfl), (x_wd_in (x_at (i := 471) (by decide +kernel)) rfl), (x_wd_in (x_priv (q := (yX1_hasTurnOfTrace, _)) (List.mem_of_getElem? (i := 22) rfl)) rfl)⟩
theorem kv_L_95 : x_KV RL 95 yX11_plain := ⟨(x_wd_in (x_at (i := 473) (by decide +kernel)) rfl), (x_wd_in (x_at (i := 474) (by decide +kernel)) rfl), (x_wd_in (x_at (i := 475) (by decide +kernel)) rfl)⟩
theorem kv_X11_126 : x_KV RX11 126 yX1_countPlain := ⟨(x_wd_in (x_at (i := 477) (by decide +kernel)) rfl), (x_wd_in (x_at (i := 478) (by decide +kernel)) rfl), (x_wd_in (x_at (i := 479) (by decide +kernel)) rfl)⟩
theorem kc_X1_59 : Cond.constant RX1 59 (153174) ∈ x_wd := (x_wd_in (x_at (i := 481) (by decide +kernel)) rfl)
theorem kv_L_110 : x_KV RL 110 yX11_file := ⟨(x_wd_in (x_at (i := 482) (by decide +kernel)) rfl), (x_wd_in (x_at (i := 483) (by decide +kernel)) rfl), (x_wd_in (x_at (i := 484) (by decide +kernel)) rfl)⟩
theorem kv_X11_165 : x_KV RX11 165 yX0_readTape := ⟨(x_wd_in (x_at (i := 486) (by decide +kernel)) rfl), (x_wd_in (x_at (i := 487) (by decide +kernel)) rfl), (x_wd_in (x_at (i := 488) (by decide +kernel)) rfl)⟩
theorem kv_X0_29 : x_KV RX0 29 yX0_readRow := ⟨(x_wd_in (x_at (i := 490) (by decide +kernel)) rfl), (x_wd_in (x_at (i := 492) (by decide +kernel)) rfl), (x_wd_in (x_priv (q := (yX0_readRow, _)) (List.mem_of_getElem? (i := 23) rfl)) rfl)⟩
theorem kv_X0_61 : x_KV RX0 61 yX0_readIndex := ⟨(x_wd_in (x_at (i := 494) (by decide +kernel)) rfl), (x_wd_in (x_at (i := 496) (by decide +kernel)) rfl), (x_wd_in (x_priv (q := (yX0_readIndex, _)) (List.mem_of_getElem? (i := 24) rfl)) rfl)⟩
theorem kv_X0_79 : x_KV RX0 79 yX0_readWhole := ⟨(x_wd_in (x_at (i := 498) (by decide +kernel)) rfl), (x_wd_in (x_at (i := 500) (by decide +kernel)) rfl), (x_wd_in (x_priv (q := (yX0_readWhole, _)) (List.mem_of_getElem? (i := 25) rfl)) rfl)⟩
theorem kv_X0_54 : x_KV RX0 54 yX9_byteAt := ⟨(x_wd_in (x_at (i := 502) (by decide +kernel)) rfl), (x_wd_in (x_at (i := 316) (by decide +kernel)) rfl), (x_wd_in (x_at (i := 317) (by decide +kernel)) rfl)⟩
theorem kv_X0_86 : x_KV RX0 86 yX0_addDigit := ⟨(x_wd_in (x_at (i := 503) (by decide +kernel)) rfl), (x_wd_in (x_at (i := 505) (by decide +kernel)) rfl), (x_wd_in (x_priv (q := (yX0_addDigit, _)) (List.mem_of_getElem? (i := 26) rfl)) rfl)⟩
theorem ks_X0_89 : x_KS RX0 89 yX0_isDigit := ⟨(x_wd_in (x_at (i := 507) (by decide +kernel)) rfl), (x_wd_in (x_at (i := 508) (by decide +kernel)) rfl)⟩
theorem kv_X0_83 : x_KV RX0 83 yX0_failAt := ⟨(x_wd_in (x_at (i := 510) (by decide +kernel)) rfl), (x_wd_in (x_at (i := 512) (by decide +kernel)) rfl), (x_wd_in (x_priv (q := (yX0_failAt, _)) (List.mem_of_getElem? (i := 27) rfl)) rfl)⟩
theorem kv_X0_64 : x_KV RX0 64 yX0_signed := ⟨(x_wd_in (x_at (i := 514) (by decide +kernel)) rfl), (x_wd_in (x_at (i := 516) (by decide +kernel)) rfl), (x_wd_in (x_priv (q := (yX0_signed, _)) (List.mem_of_getElem? (i := 28) rfl)) rfl)⟩
theorem kv_X0_68 : x_KV RX0 68 yX0_readHundredths := ⟨(x_wd_in (x_at (i := 518) (by decide +kernel)) rfl), (x_wd_in (x_at (i := 520) (by decide +kernel)) rfl), (x_wd_in (x_priv (q := (yX0_readHundredths, _)) (List.mem_of_getElem? (i := 29) rfl)) rfl)⟩
theorem ks_X0_36 : x_KS RX0 36 yX3_pack := ⟨(x_wd_in (x_at (i := 522) (by decide +kernel)) rfl), (x_wd_in (x_at (i := 523) (by decide +kernel)) rfl)⟩
theorem kv_X0_48 : x_KV RX0 48 yX6_write := ⟨(x_wd_in (x_at (i := 525) (by decide +kernel)) rfl), (x_wd_in (x_at (i := 526) (by decide +kernel)) rfl), (x_wd_in (x_at (i := 527) (by decide +kernel)) rfl)⟩
theorem kv_L_114 : x_KV RL 114 yX11_drop := ⟨(x_wd_in (x_at (i := 529) (by decide +kernel)) rfl), (x_wd_in (x_at (i := 530) (by decide +kernel)) rfl), (x_wd_in (x_at (i := 531) (by decide +kernel)) rfl)⟩
theorem kv_L_118 : x_KV RL 118 yX11_reflections := ⟨(x_wd_in (x_at (i := 533) (by decide +kernel)) rfl), (x_wd_in (x_at (i := 534) (by decide +kernel)) rfl), (x_wd_in (x_at (i := 535) (by decide +kernel)) rfl)⟩
theorem kv_L_129 : x_KV RL 129 yX11_rows := ⟨(x_wd_in (x_at (i := 537) (by decide +kernel)) rfl), (x_wd_in (x_at (i := 538) (by decide +kernel)) rfl), (x_wd_in (x_at (i := 539) (by decide +kernel)) rfl)⟩
theorem kv_L_146 : x_KV RL 146 yX11_violation := ⟨(x_wd_in (x_at (i := 541) (by decide +kernel)) rfl), (x_wd_in (x_at (i := 542) (by decide +kernel)) rfl), (x_wd_in (x_at (i := 543) (by decide +kernel)) rfl)⟩
theorem kv_X11_214 : x_KV RX11 214 yX10_numberOf := ⟨(x_wd_in (x_at (i := 545) (by decide +kernel)) rfl), (x_wd_in (x_at (i := 546) (by decide +kernel)) rfl), (x_wd_in (x_at (i := 547) (by decide +kernel)) rfl)⟩
theorem ks_L_66 : x_KS RL 66 yL_feed := ⟨(x_wd_in (x_at (i := 549) (by decide +kernel)) rfl), (x_wd_in (x_at (i := 550) (by decide +kernel)) rfl)⟩
theorem kv_L_7 : x_KV RL 7 yX11_feed := ⟨(x_wd_in (x_at (i := 553) (by decide +kernel)) rfl), (x_wd_in (x_at (i := 554) (by decide +kernel)) rfl), (x_wd_in (x_at (i := 555) (by decide +kernel)) rfl)⟩
theorem kv_X11_80 : x_KV RX11 80 yX9_append := ⟨(x_wd_in (x_at (i := 624) (by decide +kernel)) rfl), (x_wd_in (x_at (i := 625) (by decide +kernel)) rfl), (x_wd_in (x_at (i := 626) (by decide +kernel)) rfl)⟩
theorem ks_L_75 : x_KS RL 75 yL_end := ⟨(x_wd_in (x_at (i := 628) (by decide +kernel)) rfl), (x_wd_in (x_at (i := 629) (by decide +kernel)) rfl)⟩
theorem kv_L_15 : x_KV RL 15 yX11_end := ⟨(x_wd_in (x_at (i := 632) (by decide +kernel)) rfl), (x_wd_in (x_at (i := 633) (by decide +kernel)) rfl), (x_wd_in (x_at (i := 634) (by decide +kernel)) rfl)⟩
theorem ks_L_87 : x_KS RL 87 yL_op := ⟨(x_wd_in (x_at (i := 652) (by decide +kernel)) rfl), (x_wd_in (x_at (i := 653) (by decide +kernel)) rfl)⟩
theorem kv_L_21 : x_KV RL 21 yX11_op := ⟨(x_wd_in (x_at (i := 656) (by decide +kernel)) rfl), (x_wd_in (x_at (i := 657) (by decide +kernel)) rfl), (x_wd_in (x_at (i := 658) (by decide +kernel)) rfl)⟩
theorem kv_X11_109 : x_KV RX11 109 yX1_has := ⟨(x_wd_in (x_at (i := 660) (by decide +kernel)) rfl), (x_wd_in (x_at (i := 661) (by decide +kernel)) rfl), (x_wd_in (x_at (i := 662) (by decide +kernel)) rfl)⟩
theorem kv_X11_118 : x_KV RX11 118 yX1_number := ⟨(x_wd_in (x_at (i := 680) (by decide +kernel)) rfl), (x_wd_in (x_at (i := 681) (by decide +kernel)) rfl), (x_wd_in (x_at (i := 682) (by decide +kernel)) rfl)⟩
theorem ks_L_99 : x_KS RL 99 yL_sent := ⟨(x_wd_in (x_at (i := 684) (by decide +kernel)) rfl), (x_wd_in (x_at (i := 685) (by decide +kernel)) rfl)⟩
theorem kv_L_27 : x_KV RL 27 yX11_sent := ⟨(x_wd_in (x_at (i := 687) (by decide +kernel)) rfl), (x_wd_in (x_at (i := 688) (by decide +kernel)) rfl), (x_wd_in (x_at (i := 689) (by decide +kernel)) rfl)⟩
theorem ks_X11_132 : x_KS RX11 132 yX11_requireIndex := ⟨(x_wd_in (x_at (i := 692) (by decide +kernel)) rfl), (x_wd_in (x_at (i := 693) (by decide +kernel)) rfl)⟩
theorem ks_X11_229 : x_KS RX11 229 yX3_isInBox := ⟨(x_wd_in (x_at (i := 695) (by decide +kernel)) rfl), (x_wd_in (x_at (i := 696) (by decide +kernel)) rfl)⟩
theorem kv_X11_136 : x_KV RX11 136 yX1_phase := ⟨(x_wd_in (x_at (i := 699) (by decide +kernel)) rfl), (x_wd_in (x_at (i := 700) (by decide +kernel)) rfl), (x_wd_in (x_at (i := 701) (by decide +kernel)) rfl)⟩
theorem ks_X1_60 : x_KS RX1 60 yJ9_floorMod_7cf53 := ⟨(x_wd_in (x_at (i := 703) (by decide +kernel)) rfl), (x_wd_in (x_at (i := 424) (by decide +kernel)) rfl)⟩
theorem kv_X11_140 : x_KV RX11 140 yX1_sentNumber := ⟨(x_wd_in (x_at (i := 704) (by decide +kernel)) rfl), (x_wd_in (x_at (i := 705) (by decide +kernel)) rfl), (x_wd_in (x_at (i := 706) (by decide +kernel)) rfl)⟩
theorem ks_L_102 : x_KS RL 102 yL_absent := ⟨(x_wd_in (x_at (i := 708) (by decide +kernel)) rfl), (x_wd_in (x_at (i := 709) (by decide +kernel)) rfl)⟩
theorem kv_L_30 : x_KV RL 30 yX11_absent := ⟨(x_wd_in (x_at (i := 711) (by decide +kernel)) rfl), (x_wd_in (x_at (i := 712) (by decide +kernel)) rfl), (x_wd_in (x_at (i := 713) (by decide +kernel)) rfl)⟩
theorem kv_X11_144 : x_KV RX11 144 yX11_requireGroup := ⟨(x_wd_in (x_at (i := 715) (by decide +kernel)) rfl), (x_wd_in (x_at (i := 717) (by decide +kernel)) rfl), (x_wd_in (x_priv (q := (yX11_requireGroup, _)) (List.mem_of_getElem? (i := 31) rfl)) rfl)⟩
theorem kv_X11_147 : x_KV RX11 147 yX1_isAbsent := ⟨(x_wd_in (x_at (i := 720) (by decide +kernel)) rfl), (x_wd_in (x_at (i := 721) (by decide +kernel)) rfl), (x_wd_in (x_at (i := 722) (by decide +kernel)) rfl)⟩
theorem kv_X1_66 : x_KV RX1 66 yX1_sentNumber := ⟨(x_wd_in (x_at (i := 724) (by decide +kernel)) rfl), (x_wd_in (x_at (i := 705) (by decide +kernel)) rfl), (x_wd_in (x_at (i := 706) (by decide +kernel)) rfl)⟩
theorem kv_X1_70 : x_KV RX1 70 yX1_phase := ⟨(x_wd_in (x_at (i := 725) (by decide +kernel)) rfl), (x_wd_in (x_at (i := 700) (by decide +kernel)) rfl), (x_wd_in (x_at (i := 701) (by decide +kernel)) rfl)⟩
theorem ks_L_106 : x_KS RL 106 yL_greatest := ⟨(x_wd_in (x_at (i := 726) (by decide +kernel)) rfl), (x_wd_in (x_at (i := 727) (by decide +kernel)) rfl)⟩
theorem kv_L_34 : x_KV RL 34 yX11_greatest := ⟨(x_wd_in (x_at (i := 729) (by decide +kernel)) rfl), (x_wd_in (x_at (i := 730) (by decide +kernel)) rfl), (x_wd_in (x_at (i := 731) (by decide +kernel)) rfl)⟩
theorem kv_X11_153 : x_KV RX11 153 yX1_multiplicity := ⟨(x_wd_in (x_at (i := 734) (by decide +kernel)) rfl), (x_wd_in (x_at (i := 735) (by decide +kernel)) rfl), (x_wd_in (x_at (i := 736) (by decide +kernel)) rfl)⟩
theorem ks_X1_74 : x_KS RX1 74 yX3_pack := ⟨(x_wd_in (x_at (i := 738) (by decide +kernel)) rfl), (x_wd_in (x_at (i := 523) (by decide +kernel)) rfl)⟩
theorem kv_X1_80 : x_KV RX1 80 yX1_turned := ⟨(x_wd_in (x_at (i := 739) (by decide +kernel)) rfl), (x_wd_in (x_at (i := 741) (by decide +kernel)) rfl), (x_wd_in (x_priv (q := (yX1_turned, _)) (List.mem_of_getElem? (i := 32) rfl)) rfl)⟩
theorem ks_X1_83 : x_KS RX1 83 yX3_opposite := ⟨(x_wd_in (x_at (i := 743) (by decide +kernel)) rfl), (x_wd_in (x_at (i := 744) (by decide +kernel)) rfl)⟩
theorem kc_X3_9 : Cond.constant RX3 9 (1074791424) ∈ x_wd := (x_wd_in (x_at (i := 746) (by decide +kernel)) rfl)
theorem kv_X11_157 : x_KV RX11 157 yX1_greatestOf := ⟨(x_wd_in (x_at (i := 747) (by decide +kernel)) rfl), (x_wd_in (x_at (i := 748) (by decide +kernel)) rfl), (x_wd_in (x_at (i := 749) (by decide +kernel)) rfl)⟩
theorem ks_X1_86 : x_KS RX1 86 yJ9_max_7cf53 := ⟨(x_wd_in (x_at (i := 751) (by decide +kernel)) rfl), (x_wd_in (x_at (i := 752) (by decide +kernel)) rfl)⟩
theorem ks_X11_160 : x_KS RX11 160 yX3_part := ⟨(x_wd_in (x_at (i := 754) (by decide +kernel)) rfl), (x_wd_in (x_at (i := 755) (by decide +kernel)) rfl)⟩
theorem ks_L_122 : x_KS RL 122 yL_reflection := ⟨(x_wd_in (x_at (i := 757) (by decide +kernel)) rfl), (x_wd_in (x_at (i := 758) (by decide +kernel)) rfl)⟩
theorem kv_L_38 : x_KV RL 38 yX11_reflection := ⟨(x_wd_in (x_at (i := 760) (by decide +kernel)) rfl), (x_wd_in (x_at (i := 761) (by decide +kernel)) rfl), (x_wd_in (x_at (i := 762) (by decide +kernel)) rfl)⟩
theorem kv_X11_172 : x_KV RX11 172 yX6_number := ⟨(x_wd_in (x_at (i := 765) (by decide +kernel)) rfl), (x_wd_in (x_at (i := 766) (by decide +kernel)) rfl), (x_wd_in (x_at (i := 767) (by decide +kernel)) rfl)⟩
theorem ks_X6_25 : x_KS RX6 25 yX3_part := ⟨(x_wd_in (x_at (i := 769) (by decide +kernel)) rfl), (x_wd_in (x_at (i := 755) (by decide +kernel)) rfl)⟩
theorem ks_L_125 : x_KS RL 125 yL_merge := ⟨(x_wd_in (x_at (i := 770) (by decide +kernel)) rfl), (x_wd_in (x_at (i := 771) (by decide +kernel)) rfl)⟩
theorem kv_L_41 : x_KV RL 41 yX11_merge := ⟨(x_wd_in (x_at (i := 773) (by decide +kernel)) rfl), (x_wd_in (x_at (i := 774) (by decide +kernel)) rfl), (x_wd_in (x_at (i := 775) (by decide +kernel)) rfl)⟩
theorem kv_X11_173 : x_KV RX11 173 yX7_mergeAll := ⟨(x_wd_in (x_at (i := 777) (by decide +kernel)) rfl), (x_wd_in (x_at (i := 778) (by decide +kernel)) rfl), (x_wd_in (x_at (i := 779) (by decide +kernel)) rfl)⟩
theorem kv_X7_49 : x_KV RX7 49 yX7_clear := ⟨(x_wd_in (x_at (i := 781) (by decide +kernel)) rfl), (x_wd_in (x_at (i := 445) (by decide +kernel)) rfl), (x_wd_in (x_at (i := 446) (by decide +kernel)) rfl)⟩
theorem kv_X7_50 : x_KV RX7 50 yX7_sortByKind := ⟨(x_wd_in (x_at (i := 782) (by decide +kernel)) rfl), (x_wd_in (x_at (i := 784) (by decide +kernel)) rfl), (x_wd_in (x_priv (q := (yX7_sortByKind, _)) (List.mem_of_getElem? (i := 33) rfl)) rfl)⟩
theorem ks_X7_68 : x_KS RX7 68 yX3_part := ⟨(x_wd_in (x_at (i := 786) (by decide +kernel)) rfl), (x_wd_in (x_at (i := 755) (by decide +kernel)) rfl)⟩
theorem kv_X7_74 : x_KV RX7 74 yX1_greatestOf := ⟨(x_wd_in (x_at (i := 787) (by decide +kernel)) rfl), (x_wd_in (x_at (i := 748) (by decide +kernel)) rfl), (x_wd_in (x_at (i := 749) (by decide +kernel)) rfl)⟩
theorem kw_X7_80 : Cond.fieldLink RX7 80 RX7 "GAPS" "[I" ∈ x_wd := (x_wd_in (x_at (i := 788) (by decide +kernel)) rfl)
theorem kv_X7_83 : x_KV RX7 83 yX7_sink := ⟨(x_wd_in (x_at (i := 790) (by decide +kernel)) rfl), (x_wd_in (x_at (i := 792) (by decide +kernel)) rfl), (x_wd_in (x_priv (q := (yX7_sink, _)) (List.mem_of_getElem? (i := 34) rfl)) rfl)⟩
theorem kv_X7_54 : x_KV RX7 54 yX7_gather := ⟨(x_wd_in (x_at (i := 794) (by decide +kernel)) rfl), (x_wd_in (x_at (i := 796) (by decide +kernel)) rfl), (x_wd_in (x_priv (q := (yX7_gather, _)) (List.mem_of_getElem? (i := 35) rfl)) rfl)⟩
theorem kv_X7_92 : x_KV RX7 92 yX7_kindAt := ⟨(x_wd_in (x_at (i := 798) (by decide +kernel)) rfl), (x_wd_in (x_at (i := 800) (by decide +kernel)) rfl), (x_wd_in (x_priv (q := (yX7_kindAt, _)) (List.mem_of_getElem? (i := 36) rfl)) rfl)⟩
theorem kv_X7_96 : x_KV RX7 96 yX7_begin := ⟨(x_wd_in (x_at (i := 802) (by decide +kernel)) rfl), (x_wd_in (x_at (i := 804) (by decide +kernel)) rfl), (x_wd_in (x_priv (q := (yX7_begin, _)) (List.mem_of_getElem? (i := 37) rfl)) rfl)⟩
theorem kv_X7_104 : x_KV RX7 104 yX1_multiplicity := ⟨(x_wd_in (x_at (i := 806) (by decide +kernel)) rfl), (x_wd_in (x_at (i := 735) (by decide +kernel)) rfl), (x_wd_in (x_at (i := 736) (by decide +kernel)) rfl)⟩
theorem kv_X7_107 : x_KV RX7 107 yX1_isAbsent := ⟨(x_wd_in (x_at (i := 807) (by decide +kernel)) rfl), (x_wd_in (x_at (i := 721) (by decide +kernel)) rfl), (x_wd_in (x_at (i := 722) (by decide +kernel)) rfl)⟩
theorem kv_X7_100 : x_KV RX7 100 yX7_intensityAt := ⟨(x_wd_in (x_at (i := 808) (by decide +kernel)) rfl), (x_wd_in (x_at (i := 810) (by decide +kernel)) rfl), (x_wd_in (x_priv (q := (yX7_intensityAt, _)) (List.mem_of_getElem? (i := 38) rfl)) rfl)⟩
theorem kc_X7_90 : Cond.constantLong RX7 90 (4095) ∈ x_wd := (x_wd_in (x_at (i := 812) (by decide +kernel)) rfl)
theorem kv_X7_57 : x_KV RX7 57 yX7_addSpreads := ⟨(x_wd_in (x_at (i := 813) (by decide +kernel)) rfl), (x_wd_in (x_at (i := 815) (by decide +kernel)) rfl), (x_wd_in (x_priv (q := (yX7_addSpreads, _)) (List.mem_of_getElem? (i := 39) rfl)) rfl)⟩
theorem ks_X7_111 : x_KS RX7 111 yJ9_abs_067f4 := ⟨(x_wd_in (x_at (i := 817) (by decide +kernel)) rfl), (x_wd_in (x_at (i := 818) (by decide +kernel)) rfl)⟩
theorem kv_X7_61 : x_KV RX7 61 yX7_makeQuotient := ⟨(x_wd_in (x_at (i := 820) (by decide +kernel)) rfl), (x_wd_in (x_at (i := 822) (by decide +kernel)) rfl), (x_wd_in (x_priv (q := (yX7_makeQuotient, _)) (List.mem_of_getElem? (i := 40) rfl)) rfl)⟩
theorem kv_X7_117 : x_KV RX7 117 yX5_add := ⟨(x_wd_in (x_at (i := 824) (by decide +kernel)) rfl), (x_wd_in (x_at (i := 825) (by decide +kernel)) rfl), (x_wd_in (x_at (i := 826) (by decide +kernel)) rfl)⟩
theorem ks_X5_34 : x_KS RX5 34 yJ9_max_7cf53 := ⟨(x_wd_in (x_at (i := 828) (by decide +kernel)) rfl), (x_wd_in (x_at (i := 752) (by decide +kernel)) rfl)⟩
theorem kn_X5_40 : x_KSN RX5 40 yX11_commonDivisor := ⟨⟨"ReflectionReducer", x_ow_in (x_at (i := 829) (by decide +kernel)) rfl⟩, (x_wd_in (x_at (i := 830) (by decide +kernel)) rfl)⟩
theorem kv_X5_46 : x_KV RX5 46 yX4_remainder := ⟨(x_wd_in (x_at (i := 832) (by decide +kernel)) rfl), (x_wd_in (x_at (i := 833) (by decide +kernel)) rfl), (x_wd_in (x_at (i := 834) (by decide +kernel)) rfl)⟩
theorem kv_X5_50 : x_KV RX5 50 yX4_copy := ⟨(x_wd_in (x_at (i := 836) (by decide +kernel)) rfl), (x_wd_in (x_at (i := 837) (by decide +kernel)) rfl), (x_wd_in (x_at (i := 838) (by decide +kernel)) rfl)⟩
theorem kv_X5_54 : x_KV RX5 54 yX4_divide := ⟨(x_wd_in (x_at (i := 841) (by decide +kernel)) rfl), (x_wd_in (x_at (i := 842) (by decide +kernel)) rfl), (x_wd_in (x_at (i := 843) (by decide +kernel)) rfl)⟩
theorem kv_X5_58 : x_KV RX5 58 yX4_multiply := ⟨(x_wd_in (x_at (i := 845) (by decide +kernel)) rfl), (x_wd_in (x_at (i := 846) (by decide +kernel)) rfl), (x_wd_in (x_at (i := 847) (by decide +kernel)) rfl)⟩
theorem kc_X4_20 : Cond.constantLong RX4 20 (65535) ∈ x_wd := (x_wd_in (x_at (i := 849) (by decide +kernel)) rfl)
theorem kv_X5_61 : x_KV RX5 61 yX4_addProduct := ⟨(x_wd_in (x_at (i := 850) (by decide +kernel)) rfl), (x_wd_in (x_at (i := 851) (by decide +kernel)) rfl), (x_wd_in (x_at (i := 852) (by decide +kernel)) rfl)⟩
theorem kv_X7_121 : x_KV RX7 121 yX5_divideBy := ⟨(x_wd_in (x_at (i := 854) (by decide +kernel)) rfl), (x_wd_in (x_at (i := 855) (by decide +kernel)) rfl), (x_wd_in (x_at (i := 856) (by decide +kernel)) rfl)⟩
theorem kv_X5_65 : x_KV RX5 65 yX5_cancelSmallFactors := ⟨(x_wd_in (x_at (i := 858) (by decide +kernel)) rfl), (x_wd_in (x_at (i := 860) (by decide +kernel)) rfl), (x_wd_in (x_priv (q := (yX5_cancelSmallFactors, _)) (List.mem_of_getElem? (i := 41) rfl)) rfl)⟩
theorem kv_X5_68 : x_KV RX5 68 yX5_cancels := ⟨(x_wd_in (x_at (i := 862) (by decide +kernel)) rfl), (x_wd_in (x_at (i := 864) (by decide +kernel)) rfl), (x_wd_in (x_priv (q := (yX5_cancels, _)) (List.mem_of_getElem? (i := 42) rfl)) rfl)⟩
theorem ks_L_133 : x_KS RL 133 yL_row := ⟨(x_wd_in (x_at (i := 866) (by decide +kernel)) rfl), (x_wd_in (x_at (i := 867) (by decide +kernel)) rfl)⟩
theorem kv_L_45 : x_KV RL 45 yX11_row := ⟨(x_wd_in (x_at (i := 869) (by decide +kernel)) rfl), (x_wd_in (x_at (i := 870) (by decide +kernel)) rfl), (x_wd_in (x_at (i := 871) (by decide +kernel)) rfl)⟩
theorem kv_X11_180 : x_KV RX11 180 yX7_number := ⟨(x_wd_in (x_at (i := 874) (by decide +kernel)) rfl), (x_wd_in (x_at (i := 875) (by decide +kernel)) rfl), (x_wd_in (x_at (i := 876) (by decide +kernel)) rfl)⟩
theorem kn_X7_125 : x_KSN RX7 125 yX11_commonDivisor := ⟨⟨"ReflectionReducer", x_ow_in (x_at (i := 878) (by decide +kernel)) rfl⟩, (x_wd_in (x_at (i := 830) (by decide +kernel)) rfl)⟩
theorem ks_L_136 : x_KS RL 136 yL_digits := ⟨(x_wd_in (x_at (i := 879) (by decide +kernel)) rfl), (x_wd_in (x_at (i := 880) (by decide +kernel)) rfl)⟩
theorem kv_L_49 : x_KV RL 49 yX11_digits := ⟨(x_wd_in (x_at (i := 882) (by decide +kernel)) rfl), (x_wd_in (x_at (i := 883) (by decide +kernel)) rfl), (x_wd_in (x_at (i := 884) (by decide +kernel)) rfl)⟩
theorem ks_X11_183 : x_KS RX11 183 yX11_requirePartOfQuotient := ⟨(x_wd_in (x_at (i := 886) (by decide +kernel)) rfl), (x_wd_in (x_at (i := 887) (by decide +kernel)) rfl)⟩
theorem kv_X11_196 : x_KV RX11 196 yX5_part := ⟨(x_wd_in (x_at (i := 890) (by decide +kernel)) rfl), (x_wd_in (x_at (i := 891) (by decide +kernel)) rfl), (x_wd_in (x_at (i := 892) (by decide +kernel)) rfl)⟩
theorem kv_X11_199 : x_KV RX11 199 yX4_countDigits := ⟨(x_wd_in (x_at (i := 894) (by decide +kernel)) rfl), (x_wd_in (x_at (i := 895) (by decide +kernel)) rfl), (x_wd_in (x_at (i := 896) (by decide +kernel)) rfl)⟩
theorem kv_X4_22 : x_KV RX4 22 yX4_digitAt := ⟨(x_wd_in (x_at (i := 898) (by decide +kernel)) rfl), (x_wd_in (x_at (i := 899) (by decide +kernel)) rfl), (x_wd_in (x_at (i := 900) (by decide +kernel)) rfl)⟩
theorem ks_L_140 : x_KS RL 140 yL_digit := ⟨(x_wd_in (x_at (i := 902) (by decide +kernel)) rfl), (x_wd_in (x_at (i := 903) (by decide +kernel)) rfl)⟩
theorem kv_L_53 : x_KV RL 53 yX11_digit := ⟨(x_wd_in (x_at (i := 905) (by decide +kernel)) rfl), (x_wd_in (x_at (i := 906) (by decide +kernel)) rfl), (x_wd_in (x_at (i := 907) (by decide +kernel)) rfl)⟩
theorem kv_X11_204 : x_KV RX11 204 yX4_digitAt := ⟨(x_wd_in (x_at (i := 909) (by decide +kernel)) rfl), (x_wd_in (x_at (i := 899) (by decide +kernel)) rfl), (x_wd_in (x_at (i := 900) (by decide +kernel)) rfl)⟩
theorem ks_L_143 : x_KS RL 143 yL_violations := ⟨(x_wd_in (x_at (i := 910) (by decide +kernel)) rfl), (x_wd_in (x_at (i := 911) (by decide +kernel)) rfl)⟩
theorem kv_L_56 : x_KV RL 56 yX11_violations := ⟨(x_wd_in (x_at (i := 913) (by decide +kernel)) rfl), (x_wd_in (x_at (i := 914) (by decide +kernel)) rfl), (x_wd_in (x_at (i := 915) (by decide +kernel)) rfl)⟩
theorem kv_X11_209 : x_KV RX11 209 yX10_findAbove := ⟨(x_wd_in (x_at (i := 918) (by decide +kernel)) rfl), (x_wd_in (x_at (i := 919) (by decide +kernel)) rfl), (x_wd_in (x_at (i := 920) (by decide +kernel)) rfl)⟩
theorem ks_X10_31 : x_KS RX10 31 yX3_part := ⟨(x_wd_in (x_at (i := 922) (by decide +kernel)) rfl), (x_wd_in (x_at (i := 755) (by decide +kernel)) rfl)⟩
theorem kv_X10_37 : x_KV RX10 37 yX1_isAbsent := ⟨(x_wd_in (x_at (i := 923) (by decide +kernel)) rfl), (x_wd_in (x_at (i := 721) (by decide +kernel)) rfl), (x_wd_in (x_at (i := 722) (by decide +kernel)) rfl)⟩
theorem ks_L_150 : x_KS RL 150 yL_complete := ⟨(x_wd_in (x_at (i := 924) (by decide +kernel)) rfl), (x_wd_in (x_at (i := 925) (by decide +kernel)) rfl)⟩
theorem kv_L_59 : x_KV RL 59 yX11_complete := ⟨(x_wd_in (x_at (i := 927) (by decide +kernel)) rfl), (x_wd_in (x_at (i := 928) (by decide +kernel)) rfl), (x_wd_in (x_at (i := 929) (by decide +kernel)) rfl)⟩
theorem kv_X11_221 : x_KV RX11 221 yX7_countPresentWithin := ⟨(x_wd_in (x_at (i := 933) (by decide +kernel)) rfl), (x_wd_in (x_at (i := 934) (by decide +kernel)) rfl), (x_wd_in (x_at (i := 935) (by decide +kernel)) rfl)⟩
theorem ks_X7_129 : x_KS RX7 129 yX3_isInBox := ⟨(x_wd_in (x_at (i := 937) (by decide +kernel)) rfl), (x_wd_in (x_at (i := 696) (by decide +kernel)) rfl)⟩
theorem kv_X11_224 : x_KV RX11 224 yX1_countPresentKindsWithin := ⟨(x_wd_in (x_at (i := 938) (by decide +kernel)) rfl), (x_wd_in (x_at (i := 939) (by decide +kernel)) rfl), (x_wd_in (x_at (i := 940) (by decide +kernel)) rfl)⟩
theorem kv_X1_89 : x_KV RX1 89 yX1_isGreatest := ⟨(x_wd_in (x_at (i := 942) (by decide +kernel)) rfl), (x_wd_in (x_at (i := 944) (by decide +kernel)) rfl), (x_wd_in (x_priv (q := (yX1_isGreatest, _)) (List.mem_of_getElem? (i := 43) rfl)) rfl)⟩
theorem kv_X1_93 : x_KV RX1 93 yX1_isAbsent := ⟨(x_wd_in (x_at (i := 946) (by decide +kernel)) rfl), (x_wd_in (x_at (i := 721) (by decide +kernel)) rfl), (x_wd_in (x_at (i := 722) (by decide +kernel)) rfl)⟩
theorem kf_X12_85 : x_FL RX12 85 TX12 0 := Or.inl (x_wd_in (x_at (i := 953) (by decide +kernel)) rfl)
theorem kf_X12_7 : x_FL RX12 7 TX12 1 := Or.inl (x_wd_in (x_at (i := 954) (by decide +kernel)) rfl)
theorem kf_X12_89 : x_FL RX12 89 TX12 2 := Or.inl (x_wd_in (x_at (i := 955) (by decide +kernel)) rfl)
theorem kf_X12_100 : x_FL RX12 100 TX12 3 := Or.inl (x_wd_in (x_at (i := 956) (by decide +kernel)) rfl)
theorem kf_X12_183 : x_FL RX12 183 TX12 4 := Or.inl (x_wd_in (x_at (i := 957) (by decide +kernel)) rfl)
theorem kf_X12_13 : x_FL RX12 13 TX12 5 := Or.inl (x_wd_in (x_at (i := 958) (by decide +kernel)) rfl)
theorem kf_X12_17 : x_FL RX12 17 TX12 6 := Or.inl (x_wd_in (x_at (i := 959) (by decide +kernel)) rfl)
theorem kf_X12_168 : x_FL RX12 168 TX12 7 := Or.inl (x_wd_in (x_at (i := 960) (by decide +kernel)) rfl)
theorem kf_X12_20 : x_FL RX12 20 TX12 8 := Or.inl (x_wd_in (x_at (i := 961) (by decide +kernel)) rfl)
theorem kf_X12_23 : x_FL RX12 23 TX12 9 := Or.inl (x_wd_in (x_at (i := 962) (by decide +kernel)) rfl)
theorem kf_X12_103 : x_FL RX12 103 TX12 10 := Or.inl (x_wd_in (x_at (i := 963) (by decide +kernel)) rfl)
theorem kf_X12_26 : x_FL RX12 26 TX12 11 := Or.inl (x_wd_in (x_at (i := 964) (by decide +kernel)) rfl)
theorem kf_X12_29 : x_FL RX12 29 TX12 12 := Or.inl (x_wd_in (x_at (i := 965) (by decide +kernel)) rfl)
theorem kf_X12_32 : x_FL RX12 32 TX12 13 := Or.inl (x_wd_in (x_at (i := 966) (by decide +kernel)) rfl)
theorem kf_X12_35 : x_FL RX12 35 TX12 14 := Or.inl (x_wd_in (x_at (i := 967) (by decide +kernel)) rfl)
theorem kf_X12_114 : x_FL RX12 114 TX12 15 := Or.inl (x_wd_in (x_at (i := 968) (by decide +kernel)) rfl)
theorem kf_X12_117 : x_FL RX12 117 TX12 16 := Or.inl (x_wd_in (x_at (i := 969) (by decide +kernel)) rfl)
theorem kf_X12_124 : x_FL RX12 124 TX12 17 := Or.inl (x_wd_in (x_at (i := 970) (by decide +kernel)) rfl)
theorem kf_X12_226 : x_FL RX12 226 TX12 18 := Or.inl (x_wd_in (x_at (i := 971) (by decide +kernel)) rfl)
theorem kf_X12_38 : x_FL RX12 38 TX12 19 := Or.inl (x_wd_in (x_at (i := 972) (by decide +kernel)) rfl)
theorem kf_X12_271 : x_FL RX12 271 TX12 20 := Or.inl (x_wd_in (x_at (i := 973) (by decide +kernel)) rfl)
theorem kf_X12_42 : x_FL RX12 42 TX12 21 := Or.inl (x_wd_in (x_at (i := 974) (by decide +kernel)) rfl)
theorem kf_X12_45 : x_FL RX12 45 TX12 22 := Or.inl (x_wd_in (x_at (i := 975) (by decide +kernel)) rfl)
theorem kf_X12_48 : x_FL RX12 48 TX12 23 := Or.inl (x_wd_in (x_at (i := 976) (by decide +kernel)) rfl)
theorem kf_X12_51 : x_FL RX12 51 TX12 24 := Or.inl (x_wd_in (x_at (i := 977) (by decide +kernel)) rfl)
theorem kf_X12_54 : x_FL RX12 54 TX12 25 := Or.inl (x_wd_in (x_at (i := 978) (by decide +kernel)) rfl)
theorem kf_X12_248 : x_FL RX12 248 TX12 26 := Or.inl (x_wd_in (x_at (i := 979) (by decide +kernel)) rfl)
theorem kf_X12_251 : x_FL RX12 251 TX12 27 := Or.inl (x_wd_in (x_at (i := 980) (by decide +kernel)) rfl)
theorem kf_X12_268 : x_FL RX12 268 TX12 28 := Or.inl (x_wd_in (x_at (i := 981) (by decide +kernel)) rfl)
theorem kf_X12_195 : x_FL RX12 195 TX12 29 := Or.inl (x_wd_in (x_at (i := 982) (by decide +kernel)) rfl)
theorem kf_X12_57 : x_FL RX12 57 TX12 30 := Or.inl (x_wd_in (x_at (i := 983) (by decide +kernel)) rfl)
theorem kf_X12_60 : x_FL RX12 60 TX12 31 := Or.inl (x_wd_in (x_at (i := 984) (by decide +kernel)) rfl)
theorem kf_X12_63 : x_FL RX12 63 TX12 32 := Or.inl (x_wd_in (x_at (i := 985) (by decide +kernel)) rfl)
theorem kf_X12_66 : x_FL RX12 66 TX12 33 := Or.inl (x_wd_in (x_at (i := 986) (by decide +kernel)) rfl)
theorem kf_X12_70 : x_FL RX12 70 TX12 34 := Or.inl (x_wd_in (x_at (i := 987) (by decide +kernel)) rfl)
theorem kf_X12_73 : x_FL RX12 73 TX12 35 := Or.inl (x_wd_in (x_at (i := 988) (by decide +kernel)) rfl)
theorem kf_X12_76 : x_FL RX12 76 TX12 36 := Or.inl (x_wd_in (x_at (i := 989) (by decide +kernel)) rfl)
theorem kf_X12_79 : x_FL RX12 79 TX12 37 := Or.inl (x_wd_in (x_at (i := 990) (by decide +kernel)) rfl)
theorem kf_X12_342 : x_FL RX12 342 TX12 38 := Or.inl (x_wd_in (x_at (i := 991) (by decide +kernel)) rfl)
theorem kf_X12_82 : x_FL RX12 82 TX12 39 := Or.inl (x_wd_in (x_at (i := 992) (by decide +kernel)) rfl)
theorem kv_L_72 : x_KV RL 72 yX12_thrown := ⟨(x_wd_in (x_at (i := 1074) (by decide +kernel)) rfl), (x_wd_in (x_at (i := 1075) (by decide +kernel)) rfl), (x_wd_in (x_at (i := 1076) (by decide +kernel)) rfl)⟩
theorem kv_L_71 : x_KV RL 71 yX12_feed := ⟨(x_wd_in (x_at (i := 1078) (by decide +kernel)) rfl), (x_wd_in (x_at (i := 1079) (by decide +kernel)) rfl), (x_wd_in (x_at (i := 1080) (by decide +kernel)) rfl)⟩
theorem kv_X12_92 : x_KV RX12 92 yX12_goes := ⟨(x_wd_in (x_at (i := 1082) (by decide +kernel)) rfl), (x_wd_in (x_at (i := 1084) (by decide +kernel)) rfl), (x_wd_in (x_priv (q := (yX12_goes, _)) (List.mem_of_getElem? (i := 44) rfl)) rfl)⟩
theorem kv_L_78 : x_KV RL 78 yX12_end := ⟨(x_wd_in (x_at (i := 1086) (by decide +kernel)) rfl), (x_wd_in (x_at (i := 1087) (by decide +kernel)) rfl), (x_wd_in (x_at (i := 1088) (by decide +kernel)) rfl)⟩
theorem ks_X12_96 : x_KS RX12 96 yX12_in := ⟨(x_wd_in (x_at (i := 1090) (by decide +kernel)) rfl), (x_wd_in (x_at (i := 1091) (by decide +kernel)) rfl)⟩
theorem kv_L_82 : x_KV RL 82 yX12_symbol := ⟨(x_wd_in (x_at (i := 1093) (by decide +kernel)) rfl), (x_wd_in (x_at (i := 1094) (by decide +kernel)) rfl), (x_wd_in (x_at (i := 1095) (by decide +kernel)) rfl)⟩
theorem kv_X12_186 : x_KV RX12 186 yX12_isSymbol := ⟨(x_wd_in (x_at (i := 1097) (by decide +kernel)) rfl), (x_wd_in (x_at (i := 1099) (by decide +kernel)) rfl), (x_wd_in (x_priv (q := (yX12_isSymbol, _)) (List.mem_of_getElem? (i := 45) rfl)) rfl)⟩
theorem kv_X12_159 : x_KV RX12 159 yX12_blanks := ⟨(x_wd_in (x_at (i := 1101) (by decide +kernel)) rfl), (x_wd_in (x_at (i := 1103) (by decide +kernel)) rfl), (x_wd_in (x_priv (q := (yX12_blanks, _)) (List.mem_of_getElem? (i := 46) rfl)) rfl)⟩
theorem kv_X12_110 : x_KV RX12 110 yX12_look := ⟨(x_wd_in (x_at (i := 1105) (by decide +kernel)) rfl), (x_wd_in (x_at (i := 1107) (by decide +kernel)) rfl), (x_wd_in (x_priv (q := (yX12_look, _)) (List.mem_of_getElem? (i := 47) rfl)) rfl)⟩
theorem kv_X12_106 : x_KV RX12 106 yX12_set := ⟨(x_wd_in (x_at (i := 1109) (by decide +kernel)) rfl), (x_wd_in (x_at (i := 1111) (by decide +kernel)) rfl), (x_wd_in (x_priv (q := (yX12_set, _)) (List.mem_of_getElem? (i := 48) rfl)) rfl)⟩
theorem kv_X12_127 : x_KV RX12 127 yX12_setShift := ⟨(x_wd_in (x_at (i := 1113) (by decide +kernel)) rfl), (x_wd_in (x_at (i := 1115) (by decide +kernel)) rfl), (x_wd_in (x_priv (q := (yX12_setShift, _)) (List.mem_of_getElem? (i := 49) rfl)) rfl)⟩
theorem kv_X12_153 : x_KV RX12 153 yX12_generate := ⟨(x_wd_in (x_at (i := 1117) (by decide +kernel)) rfl), (x_wd_in (x_at (i := 1119) (by decide +kernel)) rfl), (x_wd_in (x_priv (q := (yX12_generate, _)) (List.mem_of_getElem? (i := 50) rfl)) rfl)⟩
theorem kv_X12_162 : x_KV RX12 162 yX12_letter := ⟨(x_wd_in (x_at (i := 1121) (by decide +kernel)) rfl), (x_wd_in (x_at (i := 1123) (by decide +kernel)) rfl), (x_wd_in (x_priv (q := (yX12_letter, _)) (List.mem_of_getElem? (i := 51) rfl)) rfl)⟩
theorem kv_X12_156 : x_KV RX12 156 yX12_centre := ⟨(x_wd_in (x_at (i := 1125) (by decide +kernel)) rfl), (x_wd_in (x_at (i := 1127) (by decide +kernel)) rfl), (x_wd_in (x_priv (q := (yX12_centre, _)) (List.mem_of_getElem? (i := 52) rfl)) rfl)⟩
theorem kv_X12_165 : x_KV RX12 165 yX12_matrix := ⟨(x_wd_in (x_at (i := 1129) (by decide +kernel)) rfl), (x_wd_in (x_at (i := 1131) (by decide +kernel)) rfl), (x_wd_in (x_priv (q := (yX12_matrix, _)) (List.mem_of_getElem? (i := 53) rfl)) rfl)⟩
theorem ks_X12_134 : x_KS RX12 134 yX12_isOrder := ⟨(x_wd_in (x_at (i := 1133) (by decide +kernel)) rfl), (x_wd_in (x_at (i := 1134) (by decide +kernel)) rfl)⟩
theorem kv_X12_138 : x_KV RX12 138 yX12_axisAt := ⟨(x_wd_in (x_at (i := 1136) (by decide +kernel)) rfl), (x_wd_in (x_at (i := 1138) (by decide +kernel)) rfl), (x_wd_in (x_priv (q := (yX12_axisAt, _)) (List.mem_of_getElem? (i := 54) rfl)) rfl)⟩
theorem kv_X12_142 : x_KV RX12 142 yX12_axisFor := ⟨(x_wd_in (x_at (i := 1140) (by decide +kernel)) rfl), (x_wd_in (x_at (i := 1142) (by decide +kernel)) rfl), (x_wd_in (x_priv (q := (yX12_axisFor, _)) (List.mem_of_getElem? (i := 55) rfl)) rfl)⟩
theorem kv_X12_145 : x_KV RX12 145 yX12_rotate := ⟨(x_wd_in (x_at (i := 1144) (by decide +kernel)) rfl), (x_wd_in (x_at (i := 1146) (by decide +kernel)) rfl), (x_wd_in (x_priv (q := (yX12_rotate, _)) (List.mem_of_getElem? (i := 56) rfl)) rfl)⟩
theorem kv_X12_120 : x_KV RX12 120 yX12_turnTo := ⟨(x_wd_in (x_at (i := 1148) (by decide +kernel)) rfl), (x_wd_in (x_at (i := 1150) (by decide +kernel)) rfl), (x_wd_in (x_priv (q := (yX12_turnTo, _)) (List.mem_of_getElem? (i := 57) rfl)) rfl)⟩
theorem kv_X12_131 : x_KV RX12 131 yX12_addShift := ⟨(x_wd_in (x_at (i := 1152) (by decide +kernel)) rfl), (x_wd_in (x_at (i := 1154) (by decide +kernel)) rfl), (x_wd_in (x_priv (q := (yX12_addShift, _)) (List.mem_of_getElem? (i := 58) rfl)) rfl)⟩
theorem kv_X12_149 : x_KV RX12 149 yX12_takesShift := ⟨(x_wd_in (x_at (i := 1156) (by decide +kernel)) rfl), (x_wd_in (x_at (i := 1158) (by decide +kernel)) rfl), (x_wd_in (x_priv (q := (yX12_takesShift, _)) (List.mem_of_getElem? (i := 59) rfl)) rfl)⟩
theorem kv_X12_189 : x_KV RX12 189 yX12_close := ⟨(x_wd_in (x_at (i := 1160) (by decide +kernel)) rfl), (x_wd_in (x_at (i := 1162) (by decide +kernel)) rfl), (x_wd_in (x_priv (q := (yX12_close, _)) (List.mem_of_getElem? (i := 60) rfl)) rfl)⟩
theorem kv_X12_174 : x_KV RX12 174 yX12_putMade := ⟨(x_wd_in (x_at (i := 1164) (by decide +kernel)) rfl), (x_wd_in (x_at (i := 1166) (by decide +kernel)) rfl), (x_wd_in (x_priv (q := (yX12_putMade, _)) (List.mem_of_getElem? (i := 61) rfl)) rfl)⟩
theorem kv_X12_177 : x_KV RX12 177 yX12_multiply := ⟨(x_wd_in (x_at (i := 1168) (by decide +kernel)) rfl), (x_wd_in (x_at (i := 1170) (by decide +kernel)) rfl), (x_wd_in (x_priv (q := (yX12_multiply, _)) (List.mem_of_getElem? (i := 62) rfl)) rfl)⟩
theorem kv_X12_180 : x_KV RX12 180 yX12_isMade := ⟨(x_wd_in (x_at (i := 1172) (by decide +kernel)) rfl), (x_wd_in (x_at (i := 1174) (by decide +kernel)) rfl), (x_wd_in (x_priv (q := (yX12_isMade, _)) (List.mem_of_getElem? (i := 63) rfl)) rfl)⟩
theorem kv_X12_171 : x_KV RX12 171 yX12_compare := ⟨(x_wd_in (x_at (i := 1176) (by decide +kernel)) rfl), (x_wd_in (x_at (i := 1178) (by decide +kernel)) rfl), (x_wd_in (x_priv (q := (yX12_compare, _)) (List.mem_of_getElem? (i := 64) rfl)) rfl)⟩
theorem kv_X12_192 : x_KV RX12 192 yX12_keep := ⟨(x_wd_in (x_at (i := 1180) (by decide +kernel)) rfl), (x_wd_in (x_at (i := 1182) (by decide +kernel)) rfl), (x_wd_in (x_priv (q := (yX12_keep, _)) (List.mem_of_getElem? (i := 65) rfl)) rfl)⟩
theorem kv_L_86 : x_KV RL 86 yX12_order := ⟨(x_wd_in (x_at (i := 1184) (by decide +kernel)) rfl), (x_wd_in (x_at (i := 1185) (by decide +kernel)) rfl), (x_wd_in (x_at (i := 1186) (by decide +kernel)) rfl)⟩
theorem kv_L_90 : x_KV RL 90 yX12_op := ⟨(x_wd_in (x_at (i := 1188) (by decide +kernel)) rfl), (x_wd_in (x_at (i := 1189) (by decide +kernel)) rfl), (x_wd_in (x_at (i := 1190) (by decide +kernel)) rfl)⟩
theorem kv_L_94 : x_KV RL 94 yX12_laue := ⟨(x_wd_in (x_at (i := 1192) (by decide +kernel)) rfl), (x_wd_in (x_at (i := 1193) (by decide +kernel)) rfl), (x_wd_in (x_at (i := 1194) (by decide +kernel)) rfl)⟩
theorem kv_X12_201 : x_KV RX12 201 yX12_sameTurn := ⟨(x_wd_in (x_at (i := 1196) (by decide +kernel)) rfl), (x_wd_in (x_at (i := 1198) (by decide +kernel)) rfl), (x_wd_in (x_priv (q := (yX12_sameTurn, _)) (List.mem_of_getElem? (i := 66) rfl)) rfl)⟩
theorem kv_X12_198 : x_KV RX12 198 yX12_determinant := ⟨(x_wd_in (x_at (i := 1200) (by decide +kernel)) rfl), (x_wd_in (x_at (i := 1202) (by decide +kernel)) rfl), (x_wd_in (x_priv (q := (yX12_determinant, _)) (List.mem_of_getElem? (i := 67) rfl)) rfl)⟩
theorem kv_L_98 : x_KV RL 98 yX12_plain := ⟨(x_wd_in (x_at (i := 1204) (by decide +kernel)) rfl), (x_wd_in (x_at (i := 1205) (by decide +kernel)) rfl), (x_wd_in (x_at (i := 1206) (by decide +kernel)) rfl)⟩
theorem kv_L_101 : x_KV RL 101 yX12_sent := ⟨(x_wd_in (x_at (i := 1208) (by decide +kernel)) rfl), (x_wd_in (x_at (i := 1209) (by decide +kernel)) rfl), (x_wd_in (x_at (i := 1210) (by decide +kernel)) rfl)⟩
theorem ks_X12_205 : x_KS RX12 205 yX12_isIndex := ⟨(x_wd_in (x_at (i := 1212) (by decide +kernel)) rfl), (x_wd_in (x_at (i := 1213) (by decide +kernel)) rfl)⟩
theorem kv_X12_208 : x_KV RX12 208 yX12_phase := ⟨(x_wd_in (x_at (i := 1215) (by decide +kernel)) rfl), (x_wd_in (x_at (i := 1217) (by decide +kernel)) rfl), (x_wd_in (x_priv (q := (yX12_phase, _)) (List.mem_of_getElem? (i := 68) rfl)) rfl)⟩
theorem kv_X12_212 : x_KV RX12 212 yX12_sentTo := ⟨(x_wd_in (x_at (i := 1219) (by decide +kernel)) rfl), (x_wd_in (x_at (i := 1221) (by decide +kernel)) rfl), (x_wd_in (x_priv (q := (yX12_sentTo, _)) (List.mem_of_getElem? (i := 69) rfl)) rfl)⟩
theorem kv_L_105 : x_KV RL 105 yX12_absent := ⟨(x_wd_in (x_at (i := 1223) (by decide +kernel)) rfl), (x_wd_in (x_at (i := 1224) (by decide +kernel)) rfl), (x_wd_in (x_at (i := 1225) (by decide +kernel)) rfl)⟩
theorem kv_X12_216 : x_KV RX12 216 yX12_isAbsent := ⟨(x_wd_in (x_at (i := 1227) (by decide +kernel)) rfl), (x_wd_in (x_at (i := 1229) (by decide +kernel)) rfl), (x_wd_in (x_priv (q := (yX12_isAbsent, _)) (List.mem_of_getElem? (i := 70) rfl)) rfl)⟩
theorem kv_L_109 : x_KV RL 109 yX12_greatest := ⟨(x_wd_in (x_at (i := 1231) (by decide +kernel)) rfl), (x_wd_in (x_at (i := 1232) (by decide +kernel)) rfl), (x_wd_in (x_at (i := 1233) (by decide +kernel)) rfl)⟩
theorem kv_X12_237 : x_KV RX12 237 yX12_multiplicity := ⟨(x_wd_in (x_at (i := 1235) (by decide +kernel)) rfl), (x_wd_in (x_at (i := 1237) (by decide +kernel)) rfl), (x_wd_in (x_priv (q := (yX12_multiplicity, _)) (List.mem_of_getElem? (i := 71) rfl)) rfl)⟩
theorem ks_X12_229 : x_KS RX12 229 yX12_key := ⟨(x_wd_in (x_at (i := 1239) (by decide +kernel)) rfl), (x_wd_in (x_at (i := 1240) (by decide +kernel)) rfl)⟩
theorem kc_X12_219 : Cond.constantLong RX12 219 (524288) ∈ x_wd := (x_wd_in (x_at (i := 1242) (by decide +kernel)) rfl)
theorem kc_X12_221 : Cond.constantLong RX12 221 (1048576) ∈ x_wd := (x_wd_in (x_at (i := 1243) (by decide +kernel)) rfl)
theorem kv_X12_233 : x_KV RX12 233 yX12_addEqual := ⟨(x_wd_in (x_at (i := 1244) (by decide +kernel)) rfl), (x_wd_in (x_at (i := 1246) (by decide +kernel)) rfl), (x_wd_in (x_priv (q := (yX12_addEqual, _)) (List.mem_of_getElem? (i := 72) rfl)) rfl)⟩
theorem kv_X12_241 : x_KV RX12 241 yX12_greatestOf := ⟨(x_wd_in (x_at (i := 1248) (by decide +kernel)) rfl), (x_wd_in (x_at (i := 1250) (by decide +kernel)) rfl), (x_wd_in (x_priv (q := (yX12_greatestOf, _)) (List.mem_of_getElem? (i := 73) rfl)) rfl)⟩
theorem ks_X12_244 : x_KS RX12 244 yX12_part := ⟨(x_wd_in (x_at (i := 1252) (by decide +kernel)) rfl), (x_wd_in (x_at (i := 1253) (by decide +kernel)) rfl)⟩
theorem kc_X12_223 : Cond.constantLong RX12 223 (1048575) ∈ x_wd := (x_wd_in (x_at (i := 1255) (by decide +kernel)) rfl)
theorem kc_X12_225 : Cond.constant RX12 225 (524288) ∈ x_wd := (x_wd_in (x_at (i := 1256) (by decide +kernel)) rfl)
theorem kv_L_113 : x_KV RL 113 yX12_file := ⟨(x_wd_in (x_at (i := 1257) (by decide +kernel)) rfl), (x_wd_in (x_at (i := 1258) (by decide +kernel)) rfl), (x_wd_in (x_at (i := 1259) (by decide +kernel)) rfl)⟩
theorem kv_X12_274 : x_KV RX12 274 yX12_readsRow := ⟨(x_wd_in (x_at (i := 1261) (by decide +kernel)) rfl), (x_wd_in (x_at (i := 1263) (by decide +kernel)) rfl), (x_wd_in (x_priv (q := (yX12_readsRow, _)) (List.mem_of_getElem? (i := 74) rfl)) rfl)⟩
theorem kv_X12_262 : x_KV RX12 262 yX12_index := ⟨(x_wd_in (x_at (i := 1265) (by decide +kernel)) rfl), (x_wd_in (x_at (i := 1267) (by decide +kernel)) rfl), (x_wd_in (x_priv (q := (yX12_index, _)) (List.mem_of_getElem? (i := 75) rfl)) rfl)⟩
theorem kv_X12_258 : x_KV RX12 258 yX12_column := ⟨(x_wd_in (x_at (i := 1269) (by decide +kernel)) rfl), (x_wd_in (x_at (i := 1271) (by decide +kernel)) rfl), (x_wd_in (x_priv (q := (yX12_column, _)) (List.mem_of_getElem? (i := 76) rfl)) rfl)⟩
theorem ks_X12_255 : x_KS RX12 255 yX12_isDigit := ⟨(x_wd_in (x_at (i := 1273) (by decide +kernel)) rfl), (x_wd_in (x_at (i := 1274) (by decide +kernel)) rfl)⟩
theorem kv_X12_265 : x_KV RX12 265 yX12_hundredths := ⟨(x_wd_in (x_at (i := 1276) (by decide +kernel)) rfl), (x_wd_in (x_at (i := 1278) (by decide +kernel)) rfl), (x_wd_in (x_priv (q := (yX12_hundredths, _)) (List.mem_of_getElem? (i := 77) rfl)) rfl)⟩
theorem kv_L_117 : x_KV RL 117 yX12_drop := ⟨(x_wd_in (x_at (i := 1280) (by decide +kernel)) rfl), (x_wd_in (x_at (i := 1281) (by decide +kernel)) rfl), (x_wd_in (x_at (i := 1282) (by decide +kernel)) rfl)⟩
theorem kv_L_121 : x_KV RL 121 yX12_reflections := ⟨(x_wd_in (x_at (i := 1284) (by decide +kernel)) rfl), (x_wd_in (x_at (i := 1285) (by decide +kernel)) rfl), (x_wd_in (x_at (i := 1286) (by decide +kernel)) rfl)⟩
theorem kv_L_124 : x_KV RL 124 yX12_reflection := ⟨(x_wd_in (x_at (i := 1288) (by decide +kernel)) rfl), (x_wd_in (x_at (i := 1289) (by decide +kernel)) rfl), (x_wd_in (x_at (i := 1290) (by decide +kernel)) rfl)⟩
theorem kv_L_128 : x_KV RL 128 yX12_merge := ⟨(x_wd_in (x_at (i := 1292) (by decide +kernel)) rfl), (x_wd_in (x_at (i := 1293) (by decide +kernel)) rfl), (x_wd_in (x_at (i := 1294) (by decide +kernel)) rfl)⟩
theorem kv_X12_277 : x_KV RX12 277 yX12_place := ⟨(x_wd_in (x_at (i := 1296) (by decide +kernel)) rfl), (x_wd_in (x_at (i := 1298) (by decide +kernel)) rfl), (x_wd_in (x_priv (q := (yX12_place, _)) (List.mem_of_getElem? (i := 78) rfl)) rfl)⟩
theorem kv_L_132 : x_KV RL 132 yX12_rows := ⟨(x_wd_in (x_at (i := 1300) (by decide +kernel)) rfl), (x_wd_in (x_at (i := 1301) (by decide +kernel)) rfl), (x_wd_in (x_at (i := 1302) (by decide +kernel)) rfl)⟩
theorem kv_L_135 : x_KV RL 135 yX12_row := ⟨(x_wd_in (x_at (i := 1304) (by decide +kernel)) rfl), (x_wd_in (x_at (i := 1305) (by decide +kernel)) rfl), (x_wd_in (x_at (i := 1306) (by decide +kernel)) rfl)⟩
theorem ks_X12_281 : x_KS RX12 281 yX12_common := ⟨(x_wd_in (x_at (i := 1308) (by decide +kernel)) rfl), (x_wd_in (x_at (i := 1309) (by decide +kernel)) rfl)⟩
theorem kv_L_139 : x_KV RL 139 yX12_digits := ⟨(x_wd_in (x_at (i := 1311) (by decide +kernel)) rfl), (x_wd_in (x_at (i := 1312) (by decide +kernel)) rfl), (x_wd_in (x_at (i := 1313) (by decide +kernel)) rfl)⟩
theorem kv_X12_339 : x_KV RX12 339 yX12_findR := ⟨(x_wd_in (x_at (i := 1315) (by decide +kernel)) rfl), (x_wd_in (x_at (i := 1317) (by decide +kernel)) rfl), (x_wd_in (x_priv (q := (yX12_findR, _)) (List.mem_of_getElem? (i := 79) rfl)) rfl)⟩
theorem kv_X12_314 : x_KV RX12 314 yX12_counts := ⟨(x_wd_in (x_at (i := 1319) (by decide +kernel)) rfl), (x_wd_in (x_at (i := 1321) (by decide +kernel)) rfl), (x_wd_in (x_priv (q := (yX12_counts, _)) (List.mem_of_getElem? (i := 80) rfl)) rfl)⟩
theorem kv_X12_311 : x_KV RX12 311 yX12_clear := ⟨(x_wd_in (x_at (i := 1323) (by decide +kernel)) rfl), (x_wd_in (x_at (i := 1325) (by decide +kernel)) rfl), (x_wd_in (x_priv (q := (yX12_clear, _)) (List.mem_of_getElem? (i := 81) rfl)) rfl)⟩
theorem ks_X12_317 : x_KS RX12 317 yX12_isPrime := ⟨(x_wd_in (x_at (i := 1327) (by decide +kernel)) rfl), (x_wd_in (x_at (i := 1328) (by decide +kernel)) rfl)⟩
theorem kv_X12_307 : x_KV RX12 307 yX12_times := ⟨(x_wd_in (x_at (i := 1330) (by decide +kernel)) rfl), (x_wd_in (x_at (i := 1332) (by decide +kernel)) rfl), (x_wd_in (x_priv (q := (yX12_times, _)) (List.mem_of_getElem? (i := 82) rfl)) rfl)⟩
theorem kc_X12_285 : Cond.constantLong RX12 285 (65535) ∈ x_wd := (x_wd_in (x_at (i := 1334) (by decide +kernel)) rfl)
theorem kv_X12_290 : x_KV RX12 290 yX12_copy := ⟨(x_wd_in (x_at (i := 1335) (by decide +kernel)) rfl), (x_wd_in (x_at (i := 1337) (by decide +kernel)) rfl), (x_wd_in (x_priv (q := (yX12_copy, _)) (List.mem_of_getElem? (i := 83) rfl)) rfl)⟩
theorem kv_X12_320 : x_KV RX12 320 yX12_divide := ⟨(x_wd_in (x_at (i := 1339) (by decide +kernel)) rfl), (x_wd_in (x_at (i := 1341) (by decide +kernel)) rfl), (x_wd_in (x_priv (q := (yX12_divide, _)) (List.mem_of_getElem? (i := 84) rfl)) rfl)⟩
theorem kc_X12_287 : Cond.constantLong RX12 287 (65536) ∈ x_wd := (x_wd_in (x_at (i := 1343) (by decide +kernel)) rfl)
theorem kv_X12_323 : x_KV RX12 323 yX12_multiplyBig := ⟨(x_wd_in (x_at (i := 1344) (by decide +kernel)) rfl), (x_wd_in (x_at (i := 1346) (by decide +kernel)) rfl), (x_wd_in (x_priv (q := (yX12_multiplyBig, _)) (List.mem_of_getElem? (i := 85) rfl)) rfl)⟩
theorem kc_X12_335 : Cond.constantLong RX12 335 (1073741823) ∈ x_wd := (x_wd_in (x_at (i := 1348) (by decide +kernel)) rfl)
theorem kc_X12_337 : Cond.constantLong RX12 337 (1073741824) ∈ x_wd := (x_wd_in (x_at (i := 1349) (by decide +kernel)) rfl)
theorem kv_X12_326 : x_KV RX12 326 yX12_add := ⟨(x_wd_in (x_at (i := 1350) (by decide +kernel)) rfl), (x_wd_in (x_at (i := 1352) (by decide +kernel)) rfl), (x_wd_in (x_priv (q := (yX12_add, _)) (List.mem_of_getElem? (i := 86) rfl)) rfl)⟩
theorem kc_X12_289 : Cond.constant RX12 289 (65535) ∈ x_wd := (x_wd_in (x_at (i := 1354) (by decide +kernel)) rfl)
theorem kv_X12_296 : x_KV RX12 296 yX12_isNought := ⟨(x_wd_in (x_at (i := 1355) (by decide +kernel)) rfl), (x_wd_in (x_at (i := 1357) (by decide +kernel)) rfl), (x_wd_in (x_priv (q := (yX12_isNought, _)) (List.mem_of_getElem? (i := 87) rfl)) rfl)⟩
theorem kv_X12_329 : x_KV RX12 329 yX12_findCommon := ⟨(x_wd_in (x_at (i := 1359) (by decide +kernel)) rfl), (x_wd_in (x_at (i := 1361) (by decide +kernel)) rfl), (x_wd_in (x_priv (q := (yX12_findCommon, _)) (List.mem_of_getElem? (i := 88) rfl)) rfl)⟩
theorem kv_X12_293 : x_KV RX12 293 yX12_halve := ⟨(x_wd_in (x_at (i := 1363) (by decide +kernel)) rfl), (x_wd_in (x_at (i := 1365) (by decide +kernel)) rfl), (x_wd_in (x_priv (q := (yX12_halve, _)) (List.mem_of_getElem? (i := 89) rfl)) rfl)⟩
theorem kv_X12_299 : x_KV RX12 299 yX12_isBelow := ⟨(x_wd_in (x_at (i := 1367) (by decide +kernel)) rfl), (x_wd_in (x_at (i := 1369) (by decide +kernel)) rfl), (x_wd_in (x_priv (q := (yX12_isBelow, _)) (List.mem_of_getElem? (i := 90) rfl)) rfl)⟩
theorem kv_X12_302 : x_KV RX12 302 yX12_subtract := ⟨(x_wd_in (x_at (i := 1371) (by decide +kernel)) rfl), (x_wd_in (x_at (i := 1373) (by decide +kernel)) rfl), (x_wd_in (x_priv (q := (yX12_subtract, _)) (List.mem_of_getElem? (i := 91) rfl)) rfl)⟩
theorem kc_X12_305 : Cond.constantLong RX12 305 (2) ∈ x_wd := (x_wd_in (x_at (i := 1375) (by decide +kernel)) rfl)
theorem kv_X12_332 : x_KV RX12 332 yX12_lessen := ⟨(x_wd_in (x_at (i := 1376) (by decide +kernel)) rfl), (x_wd_in (x_at (i := 1378) (by decide +kernel)) rfl), (x_wd_in (x_priv (q := (yX12_lessen, _)) (List.mem_of_getElem? (i := 92) rfl)) rfl)⟩
theorem kv_L_142 : x_KV RL 142 yX12_digit := ⟨(x_wd_in (x_at (i := 1380) (by decide +kernel)) rfl), (x_wd_in (x_at (i := 1381) (by decide +kernel)) rfl), (x_wd_in (x_at (i := 1382) (by decide +kernel)) rfl)⟩
theorem kv_L_145 : x_KV RL 145 yX12_violations := ⟨(x_wd_in (x_at (i := 1384) (by decide +kernel)) rfl), (x_wd_in (x_at (i := 1385) (by decide +kernel)) rfl), (x_wd_in (x_at (i := 1386) (by decide +kernel)) rfl)⟩
theorem kv_L_149 : x_KV RL 149 yX12_violation := ⟨(x_wd_in (x_at (i := 1388) (by decide +kernel)) rfl), (x_wd_in (x_at (i := 1389) (by decide +kernel)) rfl), (x_wd_in (x_at (i := 1390) (by decide +kernel)) rfl)⟩
theorem kv_L_152 : x_KV RL 152 yX12_complete := ⟨(x_wd_in (x_at (i := 1392) (by decide +kernel)) rfl), (x_wd_in (x_at (i := 1393) (by decide +kernel)) rfl), (x_wd_in (x_at (i := 1394) (by decide +kernel)) rfl)⟩
theorem kv_X12_345 : x_KV RX12 345 yX12_isWithin := ⟨(x_wd_in (x_at (i := 1396) (by decide +kernel)) rfl), (x_wd_in (x_at (i := 1398) (by decide +kernel)) rfl), (x_wd_in (x_priv (q := (yX12_isWithin, _)) (List.mem_of_getElem? (i := 93) rfl)) rfl)⟩
theorem kl_X0 : x_cls 0 RX0 TX0 8 tyX0 := ⟨rfl, fun w hw => x_wd_in (List.mem_append_right _ ((by decide +kernel : ∀ w ∈ u_ws RX0 TX0 8, w ∈ tables_1) w hw)) ((by decide +kernel : ∀ w ∈ u_ws RX0 TX0 8, goodWord w = true) w hw), tyX0_ok, nmX0⟩
theorem kl_X1 : x_cls 1 RX1 TX1 6 tyX1 := ⟨rfl, fun w hw => x_wd_in (List.mem_append_right _ ((by decide +kernel : ∀ w ∈ u_ws RX1 TX1 6, w ∈ tables_1) w hw)) ((by decide +kernel : ∀ w ∈ u_ws RX1 TX1 6, goodWord w = true) w hw), tyX1_ok, nmX1⟩
theorem kl_X2 : x_cls 2 RX2 TX2 6 tyX2 := ⟨rfl, fun w hw => x_wd_in (List.mem_append_right _ ((by decide +kernel : ∀ w ∈ u_ws RX2 TX2 6, w ∈ tables_1) w hw)) ((by decide +kernel : ∀ w ∈ u_ws RX2 TX2 6, goodWord w = true) w hw), tyX2_ok, nmX2⟩
theorem kl_X4 : x_cls 3 RX4 TX4 1 tyX4 := ⟨rfl, fun w hw => x_wd_in (List.mem_append_right _ ((by decide +kernel : ∀ w ∈ u_ws RX4 TX4 1, w ∈ tables_1) w hw)) ((by decide +kernel : ∀ w ∈ u_ws RX4 TX4 1, goodWord w = true) w hw), tyX4_ok, nmX4⟩
theorem kl_X5 : x_cls 4 RX5 TX5 5 tyX5 := ⟨rfl, fun w hw => x_wd_in (List.mem_append_right _ ((by decide +kernel : ∀ w ∈ u_ws RX5 TX5 5, w ∈ tables_1) w hw)) ((by decide +kernel : ∀ w ∈ u_ws RX5 TX5 5, goodWord w = true) w hw), tyX5_ok, nmX5⟩
theorem kl_X6 : x_cls 5 RX6 TX6 4 tyX6 := ⟨rfl, fun w hw => x_wd_in (List.mem_append_right _ ((by decide +kernel : ∀ w ∈ u_ws RX6 TX6 4, w ∈ tables_1) w hw)) ((by decide +kernel : ∀ w ∈ u_ws RX6 TX6 4, goodWord w = true) w hw), tyX6_ok, nmX6⟩
theorem kl_X7 : x_cls 6 RX7 TX7 9 tyX7 := ⟨rfl, fun w hw => x_wd_in (List.mem_append_right _ ((by decide +kernel : ∀ w ∈ u_ws RX7 TX7 9, w ∈ tables_1) w hw)) ((by decide +kernel : ∀ w ∈ u_ws RX7 TX7 9, goodWord w = true) w hw), tyX7_ok, nmX7⟩
theorem kl_X8 : x_cls 7 RX8 TX8 7 tyX8 := ⟨rfl, fun w hw => x_wd_in (List.mem_append_right _ ((by decide +kernel : ∀ w ∈ u_ws RX8 TX8 7, w ∈ tables_1) w hw)) ((by decide +kernel : ∀ w ∈ u_ws RX8 TX8 7, goodWord w = true) w hw), tyX8_ok, nmX8⟩
theorem kl_X9 : x_cls 8 RX9 TX9 2 tyX9 := ⟨rfl, fun w hw => x_wd_in (List.mem_append_right _ ((by decide +kernel : ∀ w ∈ u_ws RX9 TX9 2, w ∈ tables_1) w hw)) ((by decide +kernel : ∀ w ∈ u_ws RX9 TX9 2, goodWord w = true) w hw), tyX9_ok, nmX9⟩
theorem kl_X10 : x_cls 9 RX10 TX10 2 tyX10 := ⟨rfl, fun w hw => x_wd_in (List.mem_append_right _ ((by decide +kernel : ∀ w ∈ u_ws RX10 TX10 2, w ∈ tables_1) w hw)) ((by decide +kernel : ∀ w ∈ u_ws RX10 TX10 2, goodWord w = true) w hw), tyX10_ok, nmX10⟩
theorem kl_X11 : x_cls 10 RX11 TX11 8 tyX11 := ⟨rfl, fun w hw => x_wd_in (List.mem_append_right _ ((by decide +kernel : ∀ w ∈ u_ws RX11 TX11 8, w ∈ tables_1) w hw)) ((by decide +kernel : ∀ w ∈ u_ws RX11 TX11 8, goodWord w = true) w hw), tyX11_ok, nmX11⟩
theorem kl_X12 : x_cls 11 RX12 TX12 40 tyX12 := ⟨rfl, fun w hw => x_wd_in (List.mem_append_right _ ((by decide +kernel : ∀ w ∈ u_ws RX12 TX12 40, w ∈ tables_1) w hw)) ((by decide +kernel : ∀ w ∈ u_ws RX12 TX12 40, goodWord w = true) w hw), tyX12_ok, nmX12⟩
theorem ko_0 : 0 < 64 ∧ ∃ (ci : Nat) (fl : List (Option Nat)) (T : u_T) (N : Nat), x_sh 0 = .inl (ci, fl) ∧ vwCl[ci]? = some (RX11, T, N) := ⟨by decide, _, _, _, _, rfl, rfl⟩
theorem fr_0_0 : x_FR 0 0 1 RX11 TX11 8 tyX11 := ⟨by decide, ⟨_, _, rfl, rfl, kl_X11⟩, by decide⟩
theorem fr_0_1 : x_FR 0 1 3 RX11 TX11 8 tyX11 := ⟨by decide, ⟨_, _, rfl, rfl, kl_X11⟩, by decide⟩
theorem fr_0_2 : x_FR 0 2 8 RX11 TX11 8 tyX11 := ⟨by decide, ⟨_, _, rfl, rfl, kl_X11⟩, by decide⟩
theorem fr_0_3 : x_FR 0 3 10 RX11 TX11 8 tyX11 := ⟨by decide, ⟨_, _, rfl, rfl, kl_X11⟩, by decide⟩
theorem fr_0_4 : x_FR 0 4 15 RX11 TX11 8 tyX11 := ⟨by decide, ⟨_, _, rfl, rfl, kl_X11⟩, by decide⟩
theorem fr_0_5 : x_FR 0 5 19 RX11 TX11 8 tyX11 := ⟨by decide, ⟨_, _, rfl, rfl, kl_X11⟩, by decide⟩
theorem fr_0_6 : x_FR 0 6 21 RX11 TX11 8 tyX11 := ⟨by decide, ⟨_, _, rfl, rfl, kl_X11⟩, by decide⟩
theorem fr_0_7 : x_FR 0 7 36 RX11 TX11 8 tyX11 := ⟨by decide, ⟨_, _, rfl, rfl, kl_X11⟩, by decide⟩
theorem ko_1 : 1 < 64 ∧ ∃ (ci : Nat) (fl : List (Option Nat)) (T : u_T) (N : Nat), x_sh 1 = .inl (ci, fl) ∧ vwCl[ci]? = some (RX9, T, N) := ⟨by decide, _, _, _, _, rfl, rfl⟩
theorem fr_1_0 : x_FR 1 0 2 RX9 TX9 2 tyX9 := ⟨by decide, ⟨_, _, rfl, rfl, kl_X9⟩, by decide⟩
theorem fi_1_1 : x_FI 1 1 RX9 TX9 2 tyX9 := ⟨by decide, ⟨_, _, rfl, rfl, kl_X9⟩, by decide⟩
theorem ko_3 : 3 < 64 ∧ ∃ (ci : Nat) (fl : List (Option Nat)) (T : u_T) (N : Nat), x_sh 3 = .inl (ci, fl) ∧ vwCl[ci]? = some (RX2, T, N) := ⟨by decide, _, _, _, _, rfl, rfl⟩
theorem fr_3_0 : x_FR 3 0 4 RX2 TX2 6 tyX2 := ⟨by decide, ⟨_, _, rfl, rfl, kl_X2⟩, by decide⟩
theorem fr_3_1 : x_FR 3 1 5 RX2 TX2 6 tyX2 := ⟨by decide, ⟨_, _, rfl, rfl, kl_X2⟩, by decide⟩
theorem fr_3_2 : x_FR 3 2 6 RX2 TX2 6 tyX2 := ⟨by decide, ⟨_, _, rfl, rfl, kl_X2⟩, by decide⟩
theorem fr_3_3 : x_FR 3 3 7 RX2 TX2 6 tyX2 := ⟨by decide, ⟨_, _, rfl, rfl, kl_X2⟩, by decide⟩
theorem fi_3_4 : x_FI 3 4 RX2 TX2 6 tyX2 := ⟨by decide, ⟨_, _, rfl, rfl, kl_X2⟩, by decide⟩
theorem fi_3_5 : x_FI 3 5 RX2 TX2 6 tyX2 := ⟨by decide, ⟨_, _, rfl, rfl, kl_X2⟩, by decide⟩
theorem ko_8 : 8 < 64 ∧ ∃ (ci : Nat) (fl : List (Option Nat)) (T : u_T) (N : Nat), x_sh 8 = .inl (ci, fl) ∧ vwCl[ci]? = some (RX8, T, N) := ⟨by decide, _, _, _, _, rfl, rfl⟩
theorem fr_8_0 : x_FR 8 0 1 RX8 TX8 7 tyX8 := ⟨by decide, ⟨_, _, rfl, rfl, kl_X8⟩, by decide⟩
theorem fr_8_1 : x_FR 8 1 3 RX8 TX8 7 tyX8 := ⟨by decide, ⟨_, _, rfl, rfl, kl_X8⟩, by decide⟩
theorem fr_8_2 : x_FR 8 2 9 RX8 TX8 7 tyX8 := ⟨by decide, ⟨_, _, rfl, rfl, kl_X8⟩, by decide⟩
theorem fi_8_3 : x_FI 8 3 RX8 TX8 7 tyX8 := ⟨by decide, ⟨_, _, rfl, rfl, kl_X8⟩, by decide⟩
theorem fi_8_4 : x_FI 8 4 RX8 TX8 7 tyX8 := ⟨by decide, ⟨_, _, rfl, rfl, kl_X8⟩, by decide⟩
theorem fi_8_5 : x_FI 8 5 RX8 TX8 7 tyX8 := ⟨by decide, ⟨_, _, rfl, rfl, kl_X8⟩, by decide⟩
theorem fi_8_6 : x_FI 8 6 RX8 TX8 7 tyX8 := ⟨by decide, ⟨_, _, rfl, rfl, kl_X8⟩, by decide⟩
theorem ko_10 : 10 < 64 ∧ ∃ (ci : Nat) (fl : List (Option Nat)) (T : u_T) (N : Nat), x_sh 10 = .inl (ci, fl) ∧ vwCl[ci]? = some (RX1, T, N) := ⟨by decide, _, _, _, _, rfl, rfl⟩
theorem fr_10_0 : x_FR 10 0 11 RX1 TX1 6 tyX1 := ⟨by decide, ⟨_, _, rfl, rfl, kl_X1⟩, by decide⟩
theorem fr_10_1 : x_FR 10 1 12 RX1 TX1 6 tyX1 := ⟨by decide, ⟨_, _, rfl, rfl, kl_X1⟩, by decide⟩
theorem fr_10_2 : x_FR 10 2 13 RX1 TX1 6 tyX1 := ⟨by decide, ⟨_, _, rfl, rfl, kl_X1⟩, by decide⟩
theorem fr_10_3 : x_FR 10 3 14 RX1 TX1 6 tyX1 := ⟨by decide, ⟨_, _, rfl, rfl, kl_X1⟩, by decide⟩
theorem fi_10_4 : x_FI 10 4 RX1 TX1 6 tyX1 := ⟨by decide, ⟨_, _, rfl, rfl, kl_X1⟩, by decide⟩
theorem fi_10_5 : x_FI 10 5 RX1 TX1 6 tyX1 := ⟨by decide, ⟨_, _, rfl, rfl, kl_X1⟩, by decide⟩
theorem ko_15 : 15 < 64 ∧ ∃ (ci : Nat) (fl : List (Option Nat)) (T : u_T) (N : Nat), x_sh 15 = .inl (ci, fl) ∧ vwCl[ci]? = some (RX6, T, N) := ⟨by decide, _, _, _, _, rfl, rfl⟩
theorem fr_15_0 : x_FR 15 0 16 RX6 TX6 4 tyX6 := ⟨by decide, ⟨_, _, rfl, rfl, kl_X6⟩, by decide⟩
theorem fr_15_1 : x_FR 15 1 17 RX6 TX6 4 tyX6 := ⟨by decide, ⟨_, _, rfl, rfl, kl_X6⟩, by decide⟩
theorem fr_15_2 : x_FR 15 2 18 RX6 TX6 4 tyX6 := ⟨by decide, ⟨_, _, rfl, rfl, kl_X6⟩, by decide⟩
theorem fi_15_3 : x_FI 15 3 RX6 TX6 4 tyX6 := ⟨by decide, ⟨_, _, rfl, rfl, kl_X6⟩, by decide⟩
theorem ko_19 : 19 < 64 ∧ ∃ (ci : Nat) (fl : List (Option Nat)) (T : u_T) (N : Nat), x_sh 19 = .inl (ci, fl) ∧ vwCl[ci]? = some (RX0, T, N) := ⟨by decide, _, _, _, _, rfl, rfl⟩
theorem fr_19_0 : x_FR 19 0 1 RX0 TX0 8 tyX0 := ⟨by decide, ⟨_, _, rfl, rfl, kl_X0⟩, by decide⟩
theorem fr_19_1 : x_FR 19 1 15 RX0 TX0 8 tyX0 := ⟨by decide, ⟨_, _, rfl, rfl, kl_X0⟩, by decide⟩
theorem fr_19_2 : x_FR 19 2 20 RX0 TX0 8 tyX0 := ⟨by decide, ⟨_, _, rfl, rfl, kl_X0⟩, by decide⟩
theorem fi_19_3 : x_FI 19 3 RX0 TX0 8 tyX0 := ⟨by decide, ⟨_, _, rfl, rfl, kl_X0⟩, by decide⟩
theorem fi_19_4 : x_FI 19 4 RX0 TX0 8 tyX0 := ⟨by decide, ⟨_, _, rfl, rfl, kl_X0⟩, by decide⟩
theorem fi_19_5 : x_FI 19 5 RX0 TX0 8 tyX0 := ⟨by decide, ⟨_, _, rfl, rfl, kl_X0⟩, by decide⟩
theorem fi_19_6 : x_FI 19 6 RX0 TX0 8 tyX0 := ⟨by decide, ⟨_, _, rfl, rfl, kl_X0⟩, by decide⟩
theorem fi_19_7 : x_FI 19 7 RX0 TX0 8 tyX0 := ⟨by decide, ⟨_, _, rfl, rfl, kl_X0⟩, by decide⟩
theorem ko_21 : 21 < 64 ∧ ∃ (ci : Nat) (fl : List (Option Nat)) (T : u_T) (N : Nat), x_sh 21 = .inl (ci, fl) ∧ vwCl[ci]? = some (RX7, T, N) := ⟨by decide, _, _, _, _, rfl, rfl⟩
theorem fr_21_0 : x_FR 21 0 22 RX7 TX7 9 tyX7 := ⟨by decide, ⟨_, _, rfl, rfl, kl_X7⟩, by decide⟩
theorem fr_21_1 : x_FR 21 1 23 RX7 TX7 9 tyX7 := ⟨by decide, ⟨_, _, rfl, rfl, kl_X7⟩, by decide⟩
theorem fr_21_2 : x_FR 21 2 24 RX7 TX7 9 tyX7 := ⟨by decide, ⟨_, _, rfl, rfl, kl_X7⟩, by decide⟩
theorem fr_21_3 : x_FR 21 3 25 RX7 TX7 9 tyX7 := ⟨by decide, ⟨_, _, rfl, rfl, kl_X7⟩, by decide⟩
theorem fr_21_4 : x_FR 21 4 26 RX7 TX7 9 tyX7 := ⟨by decide, ⟨_, _, rfl, rfl, kl_X7⟩, by decide⟩
theorem fr_21_5 : x_FR 21 5 27 RX7 TX7 9 tyX7 := ⟨by decide, ⟨_, _, rfl, rfl, kl_X7⟩, by decide⟩
theorem fr_21_6 : x_FR 21 6 28 RX7 TX7 9 tyX7 := ⟨by decide, ⟨_, _, rfl, rfl, kl_X7⟩, by decide⟩
theorem fr_21_7 : x_FR 21 7 29 RX7 TX7 9 tyX7 := ⟨by decide, ⟨_, _, rfl, rfl, kl_X7⟩, by decide⟩
theorem fi_21_8 : x_FI 21 8 RX7 TX7 9 tyX7 := ⟨by decide, ⟨_, _, rfl, rfl, kl_X7⟩, by decide⟩
theorem ko_29 : 29 < 64 ∧ ∃ (ci : Nat) (fl : List (Option Nat)) (T : u_T) (N : Nat), x_sh 29 = .inl (ci, fl) ∧ vwCl[ci]? = some (RX5, T, N) := ⟨by decide, _, _, _, _, rfl, rfl⟩
theorem fr_29_0 : x_FR 29 0 30 RX5 TX5 5 tyX5 := ⟨by decide, ⟨_, _, rfl, rfl, kl_X5⟩, by decide⟩
theorem fr_29_1 : x_FR 29 1 32 RX5 TX5 5 tyX5 := ⟨by decide, ⟨_, _, rfl, rfl, kl_X5⟩, by decide⟩
theorem fr_29_2 : x_FR 29 2 34 RX5 TX5 5 tyX5 := ⟨by decide, ⟨_, _, rfl, rfl, kl_X5⟩, by decide⟩
theorem fi_29_3 : x_FI 29 3 RX5 TX5 5 tyX5 := ⟨by decide, ⟨_, _, rfl, rfl, kl_X5⟩, by decide⟩
theorem fi_29_4 : x_FI 29 4 RX5 TX5 5 tyX5 := ⟨by decide, ⟨_, _, rfl, rfl, kl_X5⟩, by decide⟩
theorem ko_30 : 30 < 64 ∧ ∃ (ci : Nat) (fl : List (Option Nat)) (T : u_T) (N : Nat), x_sh 30 = .inl (ci, fl) ∧ vwCl[ci]? = some (RX4, T, N) := ⟨by decide, _, _, _, _, rfl, rfl⟩
theorem fr_30_0 : x_FR 30 0 31 RX4 TX4 1 tyX4 := ⟨by decide, ⟨_, _, rfl, rfl, kl_X4⟩, by decide⟩
theorem ko_32 : 32 < 64 ∧ ∃ (ci : Nat) (fl : List (Option Nat)) (T : u_T) (N : Nat), x_sh 32 = .inl (ci, fl) ∧ vwCl[ci]? = some (RX4, T, N) := ⟨by decide, _, _, _, _, rfl, rfl⟩
theorem fr_32_0 : x_FR 32 0 33 RX4 TX4 1 tyX4 := ⟨by decide, ⟨_, _, rfl, rfl, kl_X4⟩, by decide⟩
theorem ko_34 : 34 < 64 ∧ ∃ (ci : Nat) (fl : List (Option Nat)) (T : u_T) (N : Nat), x_sh 34 = .inl (ci, fl) ∧ vwCl[ci]? = some (RX4, T, N) := ⟨by decide, _, _, _, _, rfl, rfl⟩
theorem fr_34_0 : x_FR 34 0 35 RX4 TX4 1 tyX4 := ⟨by decide, ⟨_, _, rfl, rfl, kl_X4⟩, by decide⟩
theorem ko_36 : 36 < 64 ∧ ∃ (ci : Nat) (fl : List (Option Nat)) (T : u_T) (N : Nat), x_sh 36 = .inl (ci, fl) ∧ vwCl[ci]? = some (RX10, T, N) := ⟨by decide, _, _, _, _, rfl, rfl⟩
theorem fr_36_0 : x_FR 36 0 37 RX10 TX10 2 tyX10 := ⟨by decide, ⟨_, _, rfl, rfl, kl_X10⟩, by decide⟩
theorem fi_36_1 : x_FI 36 1 RX10 TX10 2 tyX10 := ⟨by decide, ⟨_, _, rfl, rfl, kl_X10⟩, by decide⟩
theorem ko_38 : 38 < 64 ∧ ∃ (ci : Nat) (fl : List (Option Nat)) (T : u_T) (N : Nat), x_sh 38 = .inl (ci, fl) ∧ vwCl[ci]? = some (RX12, T, N) := ⟨by decide, _, _, _, _, rfl, rfl⟩
theorem fi_38_0 : x_FI 38 0 RX12 TX12 40 tyX12 := ⟨by decide, ⟨_, _, rfl, rfl, kl_X12⟩, by decide⟩
theorem fr_38_1 : x_FR 38 1 39 RX12 TX12 40 tyX12 := ⟨by decide, ⟨_, _, rfl, rfl, kl_X12⟩, by decide⟩
theorem fi_38_2 : x_FI 38 2 RX12 TX12 40 tyX12 := ⟨by decide, ⟨_, _, rfl, rfl, kl_X12⟩, by decide⟩
theorem fi_38_3 : x_FI 38 3 RX12 TX12 40 tyX12 := ⟨by decide, ⟨_, _, rfl, rfl, kl_X12⟩, by decide⟩
theorem fi_38_4 : x_FI 38 4 RX12 TX12 40 tyX12 := ⟨by decide, ⟨_, _, rfl, rfl, kl_X12⟩, by decide⟩
theorem fr_38_5 : x_FR 38 5 40 RX12 TX12 40 tyX12 := ⟨by decide, ⟨_, _, rfl, rfl, kl_X12⟩, by decide⟩
theorem fr_38_6 : x_FR 38 6 41 RX12 TX12 40 tyX12 := ⟨by decide, ⟨_, _, rfl, rfl, kl_X12⟩, by decide⟩
theorem fi_38_7 : x_FI 38 7 RX12 TX12 40 tyX12 := ⟨by decide, ⟨_, _, rfl, rfl, kl_X12⟩, by decide⟩
theorem fr_38_8 : x_FR 38 8 42 RX12 TX12 40 tyX12 := ⟨by decide, ⟨_, _, rfl, rfl, kl_X12⟩, by decide⟩
theorem fr_38_9 : x_FR 38 9 43 RX12 TX12 40 tyX12 := ⟨by decide, ⟨_, _, rfl, rfl, kl_X12⟩, by decide⟩
theorem fi_38_10 : x_FI 38 10 RX12 TX12 40 tyX12 := ⟨by decide, ⟨_, _, rfl, rfl, kl_X12⟩, by decide⟩
theorem fr_38_11 : x_FR 38 11 44 RX12 TX12 40 tyX12 := ⟨by decide, ⟨_, _, rfl, rfl, kl_X12⟩, by decide⟩
theorem fr_38_12 : x_FR 38 12 45 RX12 TX12 40 tyX12 := ⟨by decide, ⟨_, _, rfl, rfl, kl_X12⟩, by decide⟩
theorem fr_38_13 : x_FR 38 13 46 RX12 TX12 40 tyX12 := ⟨by decide, ⟨_, _, rfl, rfl, kl_X12⟩, by decide⟩
theorem fr_38_14 : x_FR 38 14 47 RX12 TX12 40 tyX12 := ⟨by decide, ⟨_, _, rfl, rfl, kl_X12⟩, by decide⟩
theorem fi_38_15 : x_FI 38 15 RX12 TX12 40 tyX12 := ⟨by decide, ⟨_, _, rfl, rfl, kl_X12⟩, by decide⟩
theorem fi_38_16 : x_FI 38 16 RX12 TX12 40 tyX12 := ⟨by decide, ⟨_, _, rfl, rfl, kl_X12⟩, by decide⟩
theorem fi_38_17 : x_FI 38 17 RX12 TX12 40 tyX12 := ⟨by decide, ⟨_, _, rfl, rfl, kl_X12⟩, by decide⟩
theorem fi_38_18 : x_FI 38 18 RX12 TX12 40 tyX12 := ⟨by decide, ⟨_, _, rfl, rfl, kl_X12⟩, by decide⟩
theorem fr_38_19 : x_FR 38 19 48 RX12 TX12 40 tyX12 := ⟨by decide, ⟨_, _, rfl, rfl, kl_X12⟩, by decide⟩
theorem fi_38_20 : x_FI 38 20 RX12 TX12 40 tyX12 := ⟨by decide, ⟨_, _, rfl, rfl, kl_X12⟩, by decide⟩
theorem fr_38_21 : x_FR 38 21 49 RX12 TX12 40 tyX12 := ⟨by decide, ⟨_, _, rfl, rfl, kl_X12⟩, by decide⟩
theorem fr_38_22 : x_FR 38 22 50 RX12 TX12 40 tyX12 := ⟨by decide, ⟨_, _, rfl, rfl, kl_X12⟩, by decide⟩
theorem fr_38_23 : x_FR 38 23 51 RX12 TX12 40 tyX12 := ⟨by decide, ⟨_, _, rfl, rfl, kl_X12⟩, by decide⟩
theorem fr_38_24 : x_FR 38 24 52 RX12 TX12 40 tyX12 := ⟨by decide, ⟨_, _, rfl, rfl, kl_X12⟩, by decide⟩
theorem fr_38_25 : x_FR 38 25 53 RX12 TX12 40 tyX12 := ⟨by decide, ⟨_, _, rfl, rfl, kl_X12⟩, by decide⟩
theorem fi_38_26 : x_FI 38 26 RX12 TX12 40 tyX12 := ⟨by decide, ⟨_, _, rfl, rfl, kl_X12⟩, by decide⟩
theorem fi_38_27 : x_FI 38 27 RX12 TX12 40 tyX12 := ⟨by decide, ⟨_, _, rfl, rfl, kl_X12⟩, by decide⟩
theorem fi_38_28 : x_FI 38 28 RX12 TX12 40 tyX12 := ⟨by decide, ⟨_, _, rfl, rfl, kl_X12⟩, by decide⟩
theorem fi_38_29 : x_FI 38 29 RX12 TX12 40 tyX12 := ⟨by decide, ⟨_, _, rfl, rfl, kl_X12⟩, by decide⟩
theorem fr_38_30 : x_FR 38 30 54 RX12 TX12 40 tyX12 := ⟨by decide, ⟨_, _, rfl, rfl, kl_X12⟩, by decide⟩
theorem fr_38_31 : x_FR 38 31 55 RX12 TX12 40 tyX12 := ⟨by decide, ⟨_, _, rfl, rfl, kl_X12⟩, by decide⟩
theorem fr_38_32 : x_FR 38 32 56 RX12 TX12 40 tyX12 := ⟨by decide, ⟨_, _, rfl, rfl, kl_X12⟩, by decide⟩
theorem fr_38_33 : x_FR 38 33 57 RX12 TX12 40 tyX12 := ⟨by decide, ⟨_, _, rfl, rfl, kl_X12⟩, by decide⟩
theorem fr_38_34 : x_FR 38 34 58 RX12 TX12 40 tyX12 := ⟨by decide, ⟨_, _, rfl, rfl, kl_X12⟩, by decide⟩
theorem fr_38_35 : x_FR 38 35 59 RX12 TX12 40 tyX12 := ⟨by decide, ⟨_, _, rfl, rfl, kl_X12⟩, by decide⟩
theorem fr_38_36 : x_FR 38 36 60 RX12 TX12 40 tyX12 := ⟨by decide, ⟨_, _, rfl, rfl, kl_X12⟩, by decide⟩
theorem fr_38_37 : x_FR 38 37 61 RX12 TX12 40 tyX12 := ⟨by decide, ⟨_, _, rfl, rfl, kl_X12⟩, by decide⟩
theorem fi_38_38 : x_FI 38 38 RX12 TX12 40 tyX12 := ⟨by decide, ⟨_, _, rfl, rfl, kl_X12⟩, by decide⟩
theorem fr_38_39 : x_FR 38 39 62 RX12 TX12 40 tyX12 := ⟨by decide, ⟨_, _, rfl, rfl, kl_X12⟩, by decide⟩
