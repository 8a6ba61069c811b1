/-! METHODS as gw_J, and the pool entries: printed by wip/whole/gen_links.py -/
abbrev jX4_init : gw_J := (yX4_init, cX4_init, 2, none, 98, 9629)
set_option maxRecDepth 20000 in
theorem okX4_init : gw_ok jX4_init := ⟨by decide +kernel, gw_Tb_in (i := 66) rfl rfl, gw_Tb_in (i := 54) (by decide +kernel) rfl, ⟨by decide +kernel, by decide +kernel⟩, by decide⟩
abbrev jX2_init : gw_J := (yX2_init, cX2_init, 1, none, 10, 209)
set_option maxRecDepth 20000 in
theorem okX2_init : gw_ok jX2_init := ⟨by decide +kernel, gw_Tb_in (i := 74) rfl rfl, gw_Tb_in (i := 55) (by decide +kernel) rfl, ⟨by decide +kernel, by decide +kernel⟩, by decide⟩
abbrev jX0_init : gw_J := (yX0_init, cX0_init, 1, none, 5, 20)
set_option maxRecDepth 20000 in
theorem okX0_init : gw_ok jX0_init := ⟨by decide +kernel, gw_Tb_in (i := 80) rfl rfl, gw_Tb_in (i := 56) (by decide +kernel) rfl, ⟨by decide +kernel, by decide +kernel⟩, by decide⟩
abbrev jX1_init : gw_J := (yX1_init, cX1_init, 1, none, 1, 24)
set_option maxRecDepth 20000 in
theorem okX1_init : gw_ok jX1_init := ⟨by decide +kernel, gw_Tb_in (i := 118) rfl rfl, gw_Tb_in (i := 57) (by decide +kernel) rfl, ⟨by decide +kernel, by decide +kernel⟩, by decide⟩
abbrev jX3_init : gw_J := (yX3_init, cX3_init, 1, none, 57, 9024)
set_option maxRecDepth 20000 in
theorem okX3_init : gw_ok jX3_init := ⟨by decide +kernel, gw_Tb_in (i := 186) rfl rfl, gw_Tb_in (i := 58) (by decide +kernel) rfl, ⟨by decide +kernel, by decide +kernel⟩, by decide⟩
abbrev jX4_type : gw_J := (yX4_type, cX4_type, 2, some .int, 0, 0)
set_option maxRecDepth 20000 in
theorem okX4_type : gw_ok jX4_type := ⟨by decide +kernel, gw_Tb_in (i := 278) rfl rfl, gw_Tb_in (i := 54) (by decide +kernel) rfl, ⟨by decide +kernel, by decide +kernel⟩, by decide⟩
abbrev jX2_add : gw_J := (yX2_add, cX2_add, 2, none, 0, 0)
set_option maxRecDepth 20000 in
theorem okX2_add : gw_ok jX2_add := ⟨by decide +kernel, gw_Tb_in (i := 282) rfl rfl, gw_Tb_in (i := 55) (by decide +kernel) rfl, ⟨by decide +kernel, by decide +kernel⟩, by decide⟩
abbrev jX4_clear : gw_J := (yX4_clear, cX4_clear, 2, some .int, 0, 0)
set_option maxRecDepth 20000 in
theorem okX4_clear : gw_ok jX4_clear := ⟨by decide +kernel, gw_Tb_in (i := 286) rfl rfl, gw_Tb_in (i := 54) (by decide +kernel) rfl, ⟨by decide +kernel, by decide +kernel⟩, by decide⟩
abbrev jX4_band : gw_J := (yX4_band, cX4_band, 3, some .int, 0, 0)
set_option maxRecDepth 20000 in
theorem okX4_band : gw_ok jX4_band := ⟨by decide +kernel, gw_Tb_in (i := 290) rfl rfl, gw_Tb_in (i := 54) (by decide +kernel) rfl, ⟨by decide +kernel, by decide +kernel⟩, by decide⟩
abbrev jX2_read : gw_J := (yX2_read, cX2_read, 2, some .int, 0, 0)
set_option maxRecDepth 20000 in
theorem okX2_read : gw_ok jX2_read := ⟨by decide +kernel, gw_Tb_in (i := 294) rfl rfl, gw_Tb_in (i := 55) (by decide +kernel) rfl, ⟨by decide +kernel, by decide +kernel⟩, by decide⟩
abbrev jX0_empty : gw_J := (yX0_empty, cX0_empty, 1, none, 0, 0)
set_option maxRecDepth 20000 in
theorem okX0_empty : gw_ok jX0_empty := ⟨by decide +kernel, gw_Tb_in (i := 298) rfl rfl, gw_Tb_in (i := 56) (by decide +kernel) rfl, ⟨by decide +kernel, by decide +kernel⟩, by decide⟩
abbrev jX1_empty : gw_J := (yX1_empty, cX1_empty, 1, none, 0, 0)
set_option maxRecDepth 20000 in
theorem okX1_empty : gw_ok jX1_empty := ⟨by decide +kernel, gw_Tb_in (i := 302) rfl rfl, gw_Tb_in (i := 57) (by decide +kernel) rfl, ⟨by decide +kernel, by decide +kernel⟩, by decide⟩
abbrev jX2_next : gw_J := (yX2_next, cX2_next, 1, none, 0, 0)
set_option maxRecDepth 20000 in
theorem okX2_next : gw_ok jX2_next := ⟨by decide +kernel, gw_Tb_in (i := 306) rfl rfl, gw_Tb_in (i := 55) (by decide +kernel) rfl, ⟨by decide +kernel, by decide +kernel⟩, by decide⟩
abbrev jX2_isFigure : gw_J := (yX2_isFigure, cX2_isFigure, 1, some .boolean, 0, 0)
set_option maxRecDepth 20000 in
theorem okX2_isFigure : gw_ok jX2_isFigure := ⟨by decide +kernel, gw_Tb_in (i := 309) rfl rfl, gw_Tb_in (i := 55) (by decide +kernel) rfl, ⟨by decide +kernel, by decide +kernel⟩, by decide⟩
abbrev jX2_weigh : gw_J := (yX2_weigh, cX2_weigh, 2, some .int, 0, 0)
set_option maxRecDepth 20000 in
theorem okX2_weigh : gw_ok jX2_weigh := ⟨by decide +kernel, gw_Tb_in (i := 313) rfl rfl, gw_Tb_in (i := 55) (by decide +kernel) rfl, ⟨by decide +kernel, by decide +kernel⟩, by decide⟩
abbrev jX2_readItem : gw_J := (yX2_readItem, cX2_readItem, 1, some .boolean, 0, 0)
set_option maxRecDepth 20000 in
theorem okX2_readItem : gw_ok jX2_readItem := ⟨by decide +kernel, gw_Tb_in (i := 317) rfl rfl, gw_Tb_in (i := 55) (by decide +kernel) rfl, ⟨by decide +kernel, by decide +kernel⟩, by decide⟩
abbrev jX2_readPlayer : gw_J := (yX2_readPlayer, cX2_readPlayer, 6, some .boolean, 0, 0)
set_option maxRecDepth 20000 in
theorem okX2_readPlayer : gw_ok jX2_readPlayer := ⟨by decide +kernel, gw_Tb_in (i := 321) rfl rfl, gw_Tb_in (i := 55) (by decide +kernel) rfl, ⟨by decide +kernel, by decide +kernel⟩, by decide⟩
abbrev jX0_hasRoomFor : gw_J := (yX0_hasRoomFor, cX0_hasRoomFor, 2, some .boolean, 0, 0)
set_option maxRecDepth 20000 in
theorem okX0_hasRoomFor : gw_ok jX0_hasRoomFor := ⟨by decide +kernel, gw_Tb_in (i := 325) rfl rfl, gw_Tb_in (i := 56) (by decide +kernel) rfl, ⟨by decide +kernel, by decide +kernel⟩, by decide⟩
abbrev jX2_nextIsNumber : gw_J := (yX2_nextIsNumber, cX2_nextIsNumber, 3, some .boolean, 0, 0)
set_option maxRecDepth 20000 in
theorem okX2_nextIsNumber : gw_ok jX2_nextIsNumber := ⟨by decide +kernel, gw_Tb_in (i := 329) rfl rfl, gw_Tb_in (i := 55) (by decide +kernel) rfl, ⟨by decide +kernel, by decide +kernel⟩, by decide⟩
abbrev jX2_isNumber : gw_J := (yX2_isNumber, cX2_isNumber, 3, some .boolean, 0, 0)
set_option maxRecDepth 20000 in
theorem okX2_isNumber : gw_ok jX2_isNumber := ⟨by decide +kernel, gw_Tb_in (i := 333) rfl rfl, gw_Tb_in (i := 55) (by decide +kernel) rfl, ⟨by decide +kernel, by decide +kernel⟩, by decide⟩
abbrev jX4_isWithin : gw_J := (yX4_isWithin, cX4_isWithin, 3, some .boolean, 0, 0)
set_option maxRecDepth 20000 in
theorem okX4_isWithin : gw_ok jX4_isWithin := ⟨by decide +kernel, gw_Tb_in (i := 336) rfl rfl, gw_Tb_in (i := 54) (by decide +kernel) rfl, ⟨by decide +kernel, by decide +kernel⟩, by decide⟩
abbrev jX0_add : gw_J := (yX0_add, cX0_add, 6, none, 0, 0)
set_option maxRecDepth 20000 in
theorem okX0_add : gw_ok jX0_add := ⟨by decide +kernel, gw_Tb_in (i := 340) rfl rfl, gw_Tb_in (i := 56) (by decide +kernel) rfl, ⟨by decide +kernel, by decide +kernel⟩, by decide⟩
abbrev jX2_nextEndsItem : gw_J := (yX2_nextEndsItem, cX2_nextEndsItem, 1, some .boolean, 0, 0)
set_option maxRecDepth 20000 in
theorem okX2_nextEndsItem : gw_ok jX2_nextEndsItem := ⟨by decide +kernel, gw_Tb_in (i := 345) rfl rfl, gw_Tb_in (i := 55) (by decide +kernel) rfl, ⟨by decide +kernel, by decide +kernel⟩, by decide⟩
abbrev jX2_readChord : gw_J := (yX2_readChord, cX2_readChord, 2, some .boolean, 0, 0)
set_option maxRecDepth 20000 in
theorem okX2_readChord : gw_ok jX2_readChord := ⟨by decide +kernel, gw_Tb_in (i := 349) rfl rfl, gw_Tb_in (i := 55) (by decide +kernel) rfl, ⟨by decide +kernel, by decide +kernel⟩, by decide⟩
abbrev jX1_put : gw_J := (yX1_put, cX1_put, 5, none, 0, 0)
set_option maxRecDepth 20000 in
theorem okX1_put : gw_ok jX1_put := ⟨by decide +kernel, gw_Tb_in (i := 353) rfl rfl, gw_Tb_in (i := 57) (by decide +kernel) rfl, ⟨by decide +kernel, by decide +kernel⟩, by decide⟩
abbrev jX2_readRules : gw_J := (yX2_readRules, cX2_readRules, 1, some .boolean, 0, 0)
set_option maxRecDepth 20000 in
theorem okX2_readRules : gw_ok jX2_readRules := ⟨by decide +kernel, gw_Tb_in (i := 357) rfl rfl, gw_Tb_in (i := 55) (by decide +kernel) rfl, ⟨by decide +kernel, by decide +kernel⟩, by decide⟩
abbrev jX0_become : gw_J := (yX0_become, cX0_become, 3, none, 0, 0)
set_option maxRecDepth 20000 in
theorem okX0_become : gw_ok jX0_become := ⟨by decide +kernel, gw_Tb_in (i := 361) rfl rfl, gw_Tb_in (i := 56) (by decide +kernel) rfl, ⟨by decide +kernel, by decide +kernel⟩, by decide⟩
abbrev jX1_become : gw_J := (yX1_become, cX1_become, 3, none, 0, 0)
set_option maxRecDepth 20000 in
theorem okX1_become : gw_ok jX1_become := ⟨by decide +kernel, gw_Tb_in (i := 367) rfl rfl, gw_Tb_in (i := 57) (by decide +kernel) rfl, ⟨by decide +kernel, by decide +kernel⟩, by decide⟩
abbrev jX4_player : gw_J := (yX4_player, cX4_player, 3, some .int, 0, 0)
set_option maxRecDepth 20000 in
theorem okX4_player : gw_ok jX4_player := ⟨by decide +kernel, gw_Tb_in (i := 371) rfl rfl, gw_Tb_in (i := 54) (by decide +kernel) rfl, ⟨by decide +kernel, by decide +kernel⟩, by decide⟩
abbrev jX4_isPlayer : gw_J := (yX4_isPlayer, cX4_isPlayer, 2, some .boolean, 0, 0)
set_option maxRecDepth 20000 in
theorem okX4_isPlayer : gw_ok jX4_isPlayer := ⟨by decide +kernel, gw_Tb_in (i := 375) rfl rfl, gw_Tb_in (i := 54) (by decide +kernel) rfl, ⟨by decide +kernel, by decide +kernel⟩, by decide⟩
abbrev jX4_span : gw_J := (yX4_span, cX4_span, 2, some .int, 0, 0)
set_option maxRecDepth 20000 in
theorem okX4_span : gw_ok jX4_span := ⟨by decide +kernel, gw_Tb_in (i := 379) rfl rfl, gw_Tb_in (i := 54) (by decide +kernel) rfl, ⟨by decide +kernel, by decide +kernel⟩, by decide⟩
abbrev jX4_chord : gw_J := (yX4_chord, cX4_chord, 4, some .int, 0, 0)
set_option maxRecDepth 20000 in
theorem okX4_chord : gw_ok jX4_chord := ⟨by decide +kernel, gw_Tb_in (i := 383) rfl rfl, gw_Tb_in (i := 54) (by decide +kernel) rfl, ⟨by decide +kernel, by decide +kernel⟩, by decide⟩
abbrev jX4_isChord : gw_J := (yX4_isChord, cX4_isChord, 2, some .boolean, 0, 0)
set_option maxRecDepth 20000 in
theorem okX4_isChord : gw_ok jX4_isChord := ⟨by decide +kernel, gw_Tb_in (i := 387) rfl rfl, gw_Tb_in (i := 54) (by decide +kernel) rfl, ⟨by decide +kernel, by decide +kernel⟩, by decide⟩
abbrev jX1_notesOf : gw_J := (yX1_notesOf, cX1_notesOf, 3, some .int, 0, 0)
set_option maxRecDepth 20000 in
theorem okX1_notesOf : gw_ok jX1_notesOf := ⟨by decide +kernel, gw_Tb_in (i := 391) rfl rfl, gw_Tb_in (i := 57) (by decide +kernel) rfl, ⟨by decide +kernel, by decide +kernel⟩, by decide⟩
abbrev jX1_noteAt : gw_J := (yX1_noteAt, cX1_noteAt, 3, some .int, 0, 0)
set_option maxRecDepth 20000 in
theorem okX1_noteAt : gw_ok jX1_noteAt := ⟨by decide +kernel, gw_Tb_in (i := 395) rfl rfl, gw_Tb_in (i := 57) (by decide +kernel) rfl, ⟨by decide +kernel, by decide +kernel⟩, by decide⟩
abbrev jX4_puts : gw_J := (yX4_puts, cX4_puts, 5, some .int, 0, 0)
set_option maxRecDepth 20000 in
theorem okX4_puts : gw_ok jX4_puts := ⟨by decide +kernel, gw_Tb_in (i := 400) rfl rfl, gw_Tb_in (i := 54) (by decide +kernel) rfl, ⟨by decide +kernel, by decide +kernel⟩, by decide⟩
abbrev jX4_areNotes : gw_J := (yX4_areNotes, cX4_areNotes, 3, some .boolean, 0, 0)
set_option maxRecDepth 20000 in
theorem okX4_areNotes : gw_ok jX4_areNotes := ⟨by decide +kernel, gw_Tb_in (i := 403) rfl rfl, gw_Tb_in (i := 54) (by decide +kernel) rfl, ⟨by decide +kernel, by decide +kernel⟩, by decide⟩
abbrev jX1_isThat : gw_J := (yX1_isThat, cX1_isThat, 5, some .boolean, 0, 0)
set_option maxRecDepth 20000 in
theorem okX1_isThat : gw_ok jX1_isThat := ⟨by decide +kernel, gw_Tb_in (i := 408) rfl rfl, gw_Tb_in (i := 57) (by decide +kernel) rfl, ⟨by decide +kernel, by decide +kernel⟩, by decide⟩
abbrev jX4_remember : gw_J := (yX4_remember, cX4_remember, 1, none, 0, 0)
set_option maxRecDepth 20000 in
theorem okX4_remember : gw_ok jX4_remember := ⟨by decide +kernel, gw_Tb_in (i := 412) rfl rfl, gw_Tb_in (i := 54) (by decide +kernel) rfl, ⟨by decide +kernel, by decide +kernel⟩, by decide⟩
abbrev jX4_forgetOldest : gw_J := (yX4_forgetOldest, cX4_forgetOldest, 3, none, 0, 0)
set_option maxRecDepth 20000 in
theorem okX4_forgetOldest : gw_ok jX4_forgetOldest := ⟨by decide +kernel, gw_Tb_in (i := 416) rfl rfl, gw_Tb_in (i := 54) (by decide +kernel) rfl, ⟨by decide +kernel, by decide +kernel⟩, by decide⟩
abbrev jX4_takes : gw_J := (yX4_takes, cX4_takes, 2, some .int, 0, 0)
set_option maxRecDepth 20000 in
theorem okX4_takes : gw_ok jX4_takes := ⟨by decide +kernel, gw_Tb_in (i := 421) rfl rfl, gw_Tb_in (i := 54) (by decide +kernel) rfl, ⟨by decide +kernel, by decide +kernel⟩, by decide⟩
abbrev jX1_take : gw_J := (yX1_take, cX1_take, 3, none, 0, 0)
set_option maxRecDepth 20000 in
theorem okX1_take : gw_ok jX1_take := ⟨by decide +kernel, gw_Tb_in (i := 425) rfl rfl, gw_Tb_in (i := 57) (by decide +kernel) rfl, ⟨by decide +kernel, by decide +kernel⟩, by decide⟩
abbrev jX4_calls : gw_J := (yX4_calls, cX4_calls, 2, some .int, 0, 0)
set_option maxRecDepth 20000 in
theorem okX4_calls : gw_ok jX4_calls := ⟨by decide +kernel, gw_Tb_in (i := 429) rfl rfl, gw_Tb_in (i := 54) (by decide +kernel) rfl, ⟨by decide +kernel, by decide +kernel⟩, by decide⟩
abbrev jX4_tells : gw_J := (yX4_tells, cX4_tells, 3, some .int, 0, 0)
set_option maxRecDepth 20000 in
theorem okX4_tells : gw_ok jX4_tells := ⟨by decide +kernel, gw_Tb_in (i := 433) rfl rfl, gw_Tb_in (i := 54) (by decide +kernel) rfl, ⟨by decide +kernel, by decide +kernel⟩, by decide⟩
abbrev jX4_undo : gw_J := (yX4_undo, cX4_undo, 1, some .int, 0, 0)
set_option maxRecDepth 20000 in
theorem okX4_undo : gw_ok jX4_undo := ⟨by decide +kernel, gw_Tb_in (i := 437) rfl rfl, gw_Tb_in (i := 54) (by decide +kernel) rfl, ⟨by decide +kernel, by decide +kernel⟩, by decide⟩
abbrev jX4_could : gw_J := (yX4_could, cX4_could, 4, some .int, 0, 0)
set_option maxRecDepth 20000 in
theorem okX4_could : gw_ok jX4_could := ⟨by decide +kernel, gw_Tb_in (i := 441) rfl rfl, gw_Tb_in (i := 54) (by decide +kernel) rfl, ⟨by decide +kernel, by decide +kernel⟩, by decide⟩
abbrev jX0_manages : gw_J := (yX0_manages, cX0_manages, 8, some .boolean, 0, 0)
set_option maxRecDepth 20000 in
theorem okX0_manages : gw_ok jX0_manages := ⟨by decide +kernel, gw_Tb_in (i := 445) rfl rfl, gw_Tb_in (i := 56) (by decide +kernel) rfl, ⟨by decide +kernel, by decide +kernel⟩, by decide⟩
abbrev jJ6_bitCount_0f7a4 : gw_J := (yJ6_bitCount_0f7a4, cJ6_bitCount_0f7a4, 1, some .int, 0, 0)
set_option maxRecDepth 20000 in
theorem okJ6_bitCount_0f7a4 : gw_ok jJ6_bitCount_0f7a4 := ⟨by decide +kernel, gw_Tb_in (i := 448) rfl rfl, gw_Tb_in (i := 60) (by decide +kernel) rfl, ⟨by decide +kernel, by decide +kernel⟩, by decide⟩
abbrev jX1_lowestOf : gw_J := (yX1_lowestOf, cX1_lowestOf, 4, some .int, 0, 0)
set_option maxRecDepth 20000 in
theorem okX1_lowestOf : gw_ok jX1_lowestOf := ⟨by decide +kernel, gw_Tb_in (i := 455) rfl rfl, gw_Tb_in (i := 57) (by decide +kernel) rfl, ⟨by decide +kernel, by decide +kernel⟩, by decide⟩
abbrev jX1_highestOf : gw_J := (yX1_highestOf, cX1_highestOf, 4, some .int, 0, 0)
set_option maxRecDepth 20000 in
theorem okX1_highestOf : gw_ok jX1_highestOf := ⟨by decide +kernel, gw_Tb_in (i := 459) rfl rfl, gw_Tb_in (i := 57) (by decide +kernel) rfl, ⟨by decide +kernel, by decide +kernel⟩, by decide⟩
abbrev jX4_spreads : gw_J := (yX4_spreads, cX4_spreads, 2, some .int, 0, 0)
set_option maxRecDepth 20000 in
theorem okX4_spreads : gw_ok jX4_spreads := ⟨by decide +kernel, gw_Tb_in (i := 463) rfl rfl, gw_Tb_in (i := 54) (by decide +kernel) rfl, ⟨by decide +kernel, by decide +kernel⟩, by decide⟩
abbrev jX3_evenSpreads : gw_J := (yX3_evenSpreads, cX3_evenSpreads, 6, some .int, 0, 0)
set_option maxRecDepth 20000 in
theorem okX3_evenSpreads : gw_ok jX3_evenSpreads := ⟨by decide +kernel, gw_Tb_in (i := 467) rfl rfl, gw_Tb_in (i := 58) (by decide +kernel) rfl, ⟨by decide +kernel, by decide +kernel⟩, by decide⟩
abbrev jX3_offer : gw_J := (yX3_offer, cX3_offer, 8, none, 0, 0)
set_option maxRecDepth 20000 in
theorem okX3_offer : gw_ok jX3_offer := ⟨by decide +kernel, gw_Tb_in (i := 471) rfl rfl, gw_Tb_in (i := 58) (by decide +kernel) rfl, ⟨by decide +kernel, by decide +kernel⟩, by decide⟩
abbrev jX3_findGaps : gw_J := (yX3_findGaps, cX3_findGaps, 6, some .int, 0, 0)
set_option maxRecDepth 20000 in
theorem okX3_findGaps : gw_ok jX3_findGaps := ⟨by decide +kernel, gw_Tb_in (i := 480) rfl rfl, gw_Tb_in (i := 58) (by decide +kernel) rfl, ⟨by decide +kernel, by decide +kernel⟩, by decide⟩
abbrev jX3_packedLoud : gw_J := (yX3_packedLoud, cX3_packedLoud, 6, some .int, 0, 0)
set_option maxRecDepth 20000 in
theorem okX3_packedLoud : gw_ok jX3_packedLoud := ⟨by decide +kernel, gw_Tb_in (i := 484) rfl rfl, gw_Tb_in (i := 58) (by decide +kernel) rfl, ⟨by decide +kernel, by decide +kernel⟩, by decide⟩
abbrev jX0_strength : gw_J := (yX0_strength, cX0_strength, 3, some .int, 0, 0)
set_option maxRecDepth 20000 in
theorem okX0_strength : gw_ok jX0_strength := ⟨by decide +kernel, gw_Tb_in (i := 488) rfl rfl, gw_Tb_in (i := 56) (by decide +kernel) rfl, ⟨by decide +kernel, by decide +kernel⟩, by decide⟩
abbrev jX3_widen : gw_J := (yX3_widen, cX3_widen, 7, some .int, 0, 0)
set_option maxRecDepth 20000 in
theorem okX3_widen : gw_ok jX3_widen := ⟨by decide +kernel, gw_Tb_in (i := 492) rfl rfl, gw_Tb_in (i := 58) (by decide +kernel) rfl, ⟨by decide +kernel, by decide +kernel⟩, by decide⟩
abbrev jX3_gapOf : gw_J := (yX3_gapOf, cX3_gapOf, 6, some .int, 0, 0)
set_option maxRecDepth 20000 in
theorem okX3_gapOf : gw_ok jX3_gapOf := ⟨by decide +kernel, gw_Tb_in (i := 495) rfl rfl, gw_Tb_in (i := 58) (by decide +kernel) rfl, ⟨by decide +kernel, by decide +kernel⟩, by decide⟩
abbrev jX4_score : gw_J := (yX4_score, cX4_score, 2, some .int, 0, 0)
set_option maxRecDepth 20000 in
theorem okX4_score : gw_ok jX4_score := ⟨by decide +kernel, gw_Tb_in (i := 503) rfl rfl, gw_Tb_in (i := 54) (by decide +kernel) rfl, ⟨by decide +kernel, by decide +kernel⟩, by decide⟩
abbrev jX4_isThereAScore : gw_J := (yX4_isThereAScore, cX4_isThereAScore, 1, some .boolean, 0, 0)
set_option maxRecDepth 20000 in
theorem okX4_isThereAScore : gw_ok jX4_isThereAScore := ⟨by decide +kernel, gw_Tb_in (i := 507) rfl rfl, gw_Tb_in (i := 54) (by decide +kernel) rfl, ⟨by decide +kernel, by decide +kernel⟩, by decide⟩
abbrev jX3_findCosts : gw_J := (yX3_findCosts, cX3_findCosts, 4, none, 0, 0)
set_option maxRecDepth 20000 in
theorem okX3_findCosts : gw_ok jX3_findCosts := ⟨by decide +kernel, gw_Tb_in (i := 511) rfl rfl, gw_Tb_in (i := 58) (by decide +kernel) rfl, ⟨by decide +kernel, by decide +kernel⟩, by decide⟩
abbrev jX3_fill : gw_J := (yX3_fill, cX3_fill, 4, none, 0, 0)
set_option maxRecDepth 20000 in
theorem okX3_fill : gw_ok jX3_fill := ⟨by decide +kernel, gw_Tb_in (i := 514) rfl rfl, gw_Tb_in (i := 58) (by decide +kernel) rfl, ⟨by decide +kernel, by decide +kernel⟩, by decide⟩
abbrev jX3_carry : gw_J := (yX3_carry, cX3_carry, 7, none, 0, 0)
set_option maxRecDepth 20000 in
theorem okX3_carry : gw_ok jX3_carry := ⟨by decide +kernel, gw_Tb_in (i := 518) rfl rfl, gw_Tb_in (i := 58) (by decide +kernel) rfl, ⟨by decide +kernel, by decide +kernel⟩, by decide⟩
abbrev jX3_carryPlayer : gw_J := (yX3_carryPlayer, cX3_carryPlayer, 13, none, 0, 0)
set_option maxRecDepth 20000 in
theorem okX3_carryPlayer : gw_ok jX3_carryPlayer := ⟨by decide +kernel, gw_Tb_in (i := 522) rfl rfl, gw_Tb_in (i := 58) (by decide +kernel) rfl, ⟨by decide +kernel, by decide +kernel⟩, by decide⟩
abbrev jX3_way : gw_J := (yX3_way, cX3_way, 7, some .int, 0, 0)
set_option maxRecDepth 20000 in
theorem okX3_way : gw_ok jX3_way := ⟨by decide +kernel, gw_Tb_in (i := 526) rfl rfl, gw_Tb_in (i := 58) (by decide +kernel) rfl, ⟨by decide +kernel, by decide +kernel⟩, by decide⟩
abbrev jX3_lower : gw_J := (yX3_lower, cX3_lower, 11, none, 0, 0)
set_option maxRecDepth 20000 in
theorem okX3_lower : gw_ok jX3_lower := ⟨by decide +kernel, gw_Tb_in (i := 535) rfl rfl, gw_Tb_in (i := 58) (by decide +kernel) rfl, ⟨by decide +kernel, by decide +kernel⟩, by decide⟩
abbrev jX3_chooseFirst : gw_J := (yX3_chooseFirst, cX3_chooseFirst, 3, none, 0, 0)
set_option maxRecDepth 20000 in
theorem okX3_chooseFirst : gw_ok jX3_chooseFirst := ⟨by decide +kernel, gw_Tb_in (i := 539) rfl rfl, gw_Tb_in (i := 58) (by decide +kernel) rfl, ⟨by decide +kernel, by decide +kernel⟩, by decide⟩
abbrev jX3_firstBest : gw_J := (yX3_firstBest, cX3_firstBest, 6, some .int, 0, 0)
set_option maxRecDepth 20000 in
theorem okX3_firstBest : gw_ok jX3_firstBest := ⟨by decide +kernel, gw_Tb_in (i := 543) rfl rfl, gw_Tb_in (i := 58) (by decide +kernel) rfl, ⟨by decide +kernel, by decide +kernel⟩, by decide⟩
abbrev jX3_handIn : gw_J := (yX3_handIn, cX3_handIn, 3, some .int, 0, 0)
set_option maxRecDepth 20000 in
theorem okX3_handIn : gw_ok jX3_handIn := ⟨by decide +kernel, gw_Tb_in (i := 547) rfl rfl, gw_Tb_in (i := 58) (by decide +kernel) rfl, ⟨by decide +kernel, by decide +kernel⟩, by decide⟩
abbrev jX3_choose : gw_J := (yX3_choose, cX3_choose, 7, none, 0, 0)
set_option maxRecDepth 20000 in
theorem okX3_choose : gw_ok jX3_choose := ⟨by decide +kernel, gw_Tb_in (i := 551) rfl rfl, gw_Tb_in (i := 58) (by decide +kernel) rfl, ⟨by decide +kernel, by decide +kernel⟩, by decide⟩
abbrev jX3_handsThatPlay : gw_J := (yX3_handsThatPlay, cX3_handsThatPlay, 3, some .int, 0, 0)
set_option maxRecDepth 20000 in
theorem okX3_handsThatPlay : gw_ok jX3_handsThatPlay := ⟨by decide +kernel, gw_Tb_in (i := 556) rfl rfl, gw_Tb_in (i := 58) (by decide +kernel) rfl, ⟨by decide +kernel, by decide +kernel⟩, by decide⟩
abbrev jX3_doubledNotes : gw_J := (yX3_doubledNotes, cX3_doubledNotes, 4, some .int, 0, 0)
set_option maxRecDepth 20000 in
theorem okX3_doubledNotes : gw_ok jX3_doubledNotes := ⟨by decide +kernel, gw_Tb_in (i := 560) rfl rfl, gw_Tb_in (i := 58) (by decide +kernel) rfl, ⟨by decide +kernel, by decide +kernel⟩, by decide⟩
abbrev jX3_playersOf : gw_J := (yX3_playersOf, cX3_playersOf, 5, some .int, 0, 0)
set_option maxRecDepth 20000 in
theorem okX3_playersOf : gw_ok jX3_playersOf := ⟨by decide +kernel, gw_Tb_in (i := 564) rfl rfl, gw_Tb_in (i := 58) (by decide +kernel) rfl, ⟨by decide +kernel, by decide +kernel⟩, by decide⟩
abbrev jX4_hand : gw_J := (yX4_hand, cX4_hand, 3, some .int, 0, 0)
set_option maxRecDepth 20000 in
theorem okX4_hand : gw_ok jX4_hand := ⟨by decide +kernel, gw_Tb_in (i := 568) rfl rfl, gw_Tb_in (i := 54) (by decide +kernel) rfl, ⟨by decide +kernel, by decide +kernel⟩, by decide⟩
abbrev jX4_loud : gw_J := (yX4_loud, cX4_loud, 3, some .int, 0, 0)
set_option maxRecDepth 20000 in
theorem okX4_loud : gw_ok jX4_loud := ⟨by decide +kernel, gw_Tb_in (i := 573) rfl rfl, gw_Tb_in (i := 54) (by decide +kernel) rfl, ⟨by decide +kernel, by decide +kernel⟩, by decide⟩
abbrev jX3_loudWithout : gw_J := (yX3_loudWithout, cX3_loudWithout, 7, some .int, 0, 0)
set_option maxRecDepth 20000 in
theorem okX3_loudWithout : gw_ok jX3_loudWithout := ⟨by decide +kernel, gw_Tb_in (i := 577) rfl rfl, gw_Tb_in (i := 58) (by decide +kernel) rfl, ⟨by decide +kernel, by decide +kernel⟩, by decide⟩
abbrev jX4_couldRest : gw_J := (yX4_couldRest, cX4_couldRest, 4, some .int, 0, 0)
set_option maxRecDepth 20000 in
theorem okX4_couldRest : gw_ok jX4_couldRest := ⟨by decide +kernel, gw_Tb_in (i := 581) rfl rfl, gw_Tb_in (i := 54) (by decide +kernel) rfl, ⟨by decide +kernel, by decide +kernel⟩, by decide⟩
abbrev jX3_isEvenWithout : gw_J := (yX3_isEvenWithout, cX3_isEvenWithout, 6, some .boolean, 0, 0)
set_option maxRecDepth 20000 in
theorem okX3_isEvenWithout : gw_ok jX3_isEvenWithout := ⟨by decide +kernel, gw_Tb_in (i := 585) rfl rfl, gw_Tb_in (i := 58) (by decide +kernel) rfl, ⟨by decide +kernel, by decide +kernel⟩, by decide⟩
abbrev jX4_move : gw_J := (yX4_move, cX4_move, 3, some .int, 0, 0)
set_option maxRecDepth 20000 in
theorem okX4_move : gw_ok jX4_move := ⟨by decide +kernel, gw_Tb_in (i := 590) rfl rfl, gw_Tb_in (i := 54) (by decide +kernel) rfl, ⟨by decide +kernel, by decide +kernel⟩, by decide⟩
abbrev jX4_reach : gw_J := (yX4_reach, cX4_reach, 2, some .int, 0, 0)
set_option maxRecDepth 20000 in
theorem okX4_reach : gw_ok jX4_reach := ⟨by decide +kernel, gw_Tb_in (i := 595) rfl rfl, gw_Tb_in (i := 54) (by decide +kernel) rfl, ⟨by decide +kernel, by decide +kernel⟩, by decide⟩
abbrev jX3_measure : gw_J := (yX3_measure, cX3_measure, 6, none, 0, 0)
set_option maxRecDepth 20000 in
theorem okX3_measure : gw_ok jX3_measure := ⟨by decide +kernel, gw_Tb_in (i := 599) rfl rfl, gw_Tb_in (i := 58) (by decide +kernel) rfl, ⟨by decide +kernel, by decide +kernel⟩, by decide⟩
abbrev jX3_needed : gw_J := (yX3_needed, cX3_needed, 2, some .int, 0, 0)
set_option maxRecDepth 20000 in
theorem okX3_needed : gw_ok jX3_needed := ⟨by decide +kernel, gw_Tb_in (i := 603) rfl rfl, gw_Tb_in (i := 58) (by decide +kernel) rfl, ⟨by decide +kernel, by decide +kernel⟩, by decide⟩
abbrev jX4_fewest : gw_J := (yX4_fewest, cX4_fewest, 3, some .int, 0, 0)
set_option maxRecDepth 20000 in
theorem okX4_fewest : gw_ok jX4_fewest := ⟨by decide +kernel, gw_Tb_in (i := 607) rfl rfl, gw_Tb_in (i := 54) (by decide +kernel) rfl, ⟨by decide +kernel, by decide +kernel⟩, by decide⟩
abbrev jX4_canPlayAll : gw_J := (yX4_canPlayAll, cX4_canPlayAll, 2, some .boolean, 0, 0)
set_option maxRecDepth 20000 in
theorem okX4_canPlayAll : gw_ok jX4_canPlayAll := ⟨by decide +kernel, gw_Tb_in (i := 612) rfl rfl, gw_Tb_in (i := 54) (by decide +kernel) rfl, ⟨by decide +kernel, by decide +kernel⟩, by decide⟩
abbrev jX4_bear : gw_J := (yX4_bear, cX4_bear, 2, some .int, 0, 0)
set_option maxRecDepth 20000 in
theorem okX4_bear : gw_ok jX4_bear := ⟨by decide +kernel, gw_Tb_in (i := 616) rfl rfl, gw_Tb_in (i := 54) (by decide +kernel) rfl, ⟨by decide +kernel, by decide +kernel⟩, by decide⟩
abbrev jX4_hears : gw_J := (yX4_hears, cX4_hears, 3, some .int, 0, 0)
set_option maxRecDepth 20000 in
theorem okX4_hears : gw_ok jX4_hears := ⟨by decide +kernel, gw_Tb_in (i := 620) rfl rfl, gw_Tb_in (i := 54) (by decide +kernel) rfl, ⟨by decide +kernel, by decide +kernel⟩, by decide⟩
abbrev jX4_forget : gw_J := (yX4_forget, cX4_forget, 2, some .int, 0, 0)
set_option maxRecDepth 20000 in
theorem okX4_forget : gw_ok jX4_forget := ⟨by decide +kernel, gw_Tb_in (i := 624) rfl rfl, gw_Tb_in (i := 54) (by decide +kernel) rfl, ⟨by decide +kernel, by decide +kernel⟩, by decide⟩
abbrev jX4_ill : gw_J := (yX4_ill, cX4_ill, 3, some .int, 0, 0)
set_option maxRecDepth 20000 in
theorem okX4_ill : gw_ok jX4_ill := ⟨by decide +kernel, gw_Tb_in (i := 628) rfl rfl, gw_Tb_in (i := 54) (by decide +kernel) rfl, ⟨by decide +kernel, by decide +kernel⟩, by decide⟩
abbrev jX4_fitsAllHeard : gw_J := (yX4_fitsAllHeard, cX4_fitsAllHeard, 4, some .boolean, 0, 0)
set_option maxRecDepth 20000 in
theorem okX4_fitsAllHeard : gw_ok jX4_fitsAllHeard := ⟨by decide +kernel, gw_Tb_in (i := 632) rfl rfl, gw_Tb_in (i := 54) (by decide +kernel) rfl, ⟨by decide +kernel, by decide +kernel⟩, by decide⟩
abbrev jX4_keep : gw_J := (yX4_keep, cX4_keep, 2, some .int, 0, 0)
set_option maxRecDepth 20000 in
theorem okX4_keep : gw_ok jX4_keep := ⟨by decide +kernel, gw_Tb_in (i := 636) rfl rfl, gw_Tb_in (i := 54) (by decide +kernel) rfl, ⟨by decide +kernel, by decide +kernel⟩, by decide⟩
abbrev jX4_back : gw_J := (yX4_back, cX4_back, 2, some .int, 0, 0)
set_option maxRecDepth 20000 in
theorem okX4_back : gw_ok jX4_back := ⟨by decide +kernel, gw_Tb_in (i := 640) rfl rfl, gw_Tb_in (i := 54) (by decide +kernel) rfl, ⟨by decide +kernel, by decide +kernel⟩, by decide⟩
abbrev jX4_count : gw_J := (yX4_count, cX4_count, 2, some .int, 0, 0)
set_option maxRecDepth 20000 in
theorem okX4_count : gw_ok jX4_count := ⟨by decide +kernel, gw_Tb_in (i := 644) rfl rfl, gw_Tb_in (i := 54) (by decide +kernel) rfl, ⟨by decide +kernel, by decide +kernel⟩, by decide⟩
abbrev jX5_init : gw_J := (yX5_init, cX5_init, 1, none, 14, 13268)
set_option maxRecDepth 20000 in
theorem okX5_init : gw_ok jX5_init := ⟨by decide +kernel, gw_Tb_in (i := 649) rfl rfl, gw_Tb_in (i := 59) (by decide +kernel) rfl, ⟨by decide +kernel, by decide +kernel⟩, by decide⟩
abbrev jX5_begins : gw_J := (yX5_begins, cX5_begins, 2, none, 0, 0)
set_option maxRecDepth 20000 in
theorem okX5_begins : gw_ok jX5_begins := ⟨by decide +kernel, gw_Tb_in (i := 654) rfl rfl, gw_Tb_in (i := 59) (by decide +kernel) rfl, ⟨by decide +kernel, by decide +kernel⟩, by decide⟩
abbrev jX5_becomes : gw_J := (yX5_becomes, cX5_becomes, 2, none, 0, 0)
set_option maxRecDepth 20000 in
theorem okX5_becomes : gw_ok jX5_becomes := ⟨by decide +kernel, gw_Tb_in (i := 658) rfl rfl, gw_Tb_in (i := 59) (by decide +kernel) rfl, ⟨by decide +kernel, by decide +kernel⟩, by decide⟩
abbrev jX5_type : gw_J := (yX5_type, cX5_type, 2, some .int, 0, 0)
set_option maxRecDepth 20000 in
theorem okX5_type : gw_ok jX5_type := ⟨by decide +kernel, gw_Tb_in (i := 732) rfl rfl, gw_Tb_in (i := 59) (by decide +kernel) rfl, ⟨by decide +kernel, by decide +kernel⟩, by decide⟩
abbrev jX5_in : gw_J := (yX5_in, cX5_in, 3, some .boolean, 0, 0)
set_option maxRecDepth 20000 in
theorem okX5_in : gw_ok jX5_in := ⟨by decide +kernel, gw_Tb_in (i := 735) rfl rfl, gw_Tb_in (i := 59) (by decide +kernel) rfl, ⟨by decide +kernel, by decide +kernel⟩, by decide⟩
abbrev jX5_clear : gw_J := (yX5_clear, cX5_clear, 2, some .int, 0, 0)
set_option maxRecDepth 20000 in
theorem okX5_clear : gw_ok jX5_clear := ⟨by decide +kernel, gw_Tb_in (i := 739) rfl rfl, gw_Tb_in (i := 59) (by decide +kernel) rfl, ⟨by decide +kernel, by decide +kernel⟩, by decide⟩
abbrev jX5_band : gw_J := (yX5_band, cX5_band, 2, some .int, 0, 0)
set_option maxRecDepth 20000 in
theorem okX5_band : gw_ok jX5_band := ⟨by decide +kernel, gw_Tb_in (i := 743) rfl rfl, gw_Tb_in (i := 59) (by decide +kernel) rfl, ⟨by decide +kernel, by decide +kernel⟩, by decide⟩
abbrev jX5_here : gw_J := (yX5_here, cX5_here, 1, some .int, 0, 0)
set_option maxRecDepth 20000 in
theorem okX5_here : gw_ok jX5_here := ⟨by decide +kernel, gw_Tb_in (i := 747) rfl rfl, gw_Tb_in (i := 59) (by decide +kernel) rfl, ⟨by decide +kernel, by decide +kernel⟩, by decide⟩
abbrev jX5_item : gw_J := (yX5_item, cX5_item, 1, some .boolean, 0, 0)
set_option maxRecDepth 20000 in
theorem okX5_item : gw_ok jX5_item := ⟨by decide +kernel, gw_Tb_in (i := 751) rfl rfl, gw_Tb_in (i := 59) (by decide +kernel) rfl, ⟨by decide +kernel, by decide +kernel⟩, by decide⟩
abbrev jX5_readsPlayer : gw_J := (yX5_readsPlayer, cX5_readsPlayer, 3, some .boolean, 0, 0)
set_option maxRecDepth 20000 in
theorem okX5_readsPlayer : gw_ok jX5_readsPlayer := ⟨by decide +kernel, gw_Tb_in (i := 755) rfl rfl, gw_Tb_in (i := 59) (by decide +kernel) rfl, ⟨by decide +kernel, by decide +kernel⟩, by decide⟩
abbrev jX5_bows : gw_J := (yX5_bows, cX5_bows, 3, some .int, 0, 0)
set_option maxRecDepth 20000 in
theorem okX5_bows : gw_ok jX5_bows := ⟨by decide +kernel, gw_Tb_in (i := 759) rfl rfl, gw_Tb_in (i := 59) (by decide +kernel) rfl, ⟨by decide +kernel, by decide +kernel⟩, by decide⟩
abbrev jX5_reads : gw_J := (yX5_reads, cX5_reads, 7, some .boolean, 0, 0)
set_option maxRecDepth 20000 in
theorem okX5_reads : gw_ok jX5_reads := ⟨by decide +kernel, gw_Tb_in (i := 763) rfl rfl, gw_Tb_in (i := 59) (by decide +kernel) rfl, ⟨by decide +kernel, by decide +kernel⟩, by decide⟩
abbrev jX5_readsChord : gw_J := (yX5_readsChord, cX5_readsChord, 4, some .boolean, 0, 0)
set_option maxRecDepth 20000 in
theorem okX5_readsChord : gw_ok jX5_readsChord := ⟨by decide +kernel, gw_Tb_in (i := 767) rfl rfl, gw_Tb_in (i := 59) (by decide +kernel) rfl, ⟨by decide +kernel, by decide +kernel⟩, by decide⟩
abbrev jX5_readsQuiet : gw_J := (yX5_readsQuiet, cX5_readsQuiet, 1, some .boolean, 0, 0)
set_option maxRecDepth 20000 in
theorem okX5_readsQuiet : gw_ok jX5_readsQuiet := ⟨by decide +kernel, gw_Tb_in (i := 771) rfl rfl, gw_Tb_in (i := 59) (by decide +kernel) rfl, ⟨by decide +kernel, by decide +kernel⟩, by decide⟩
abbrev jX5_player : gw_J := (yX5_player, cX5_player, 3, some .int, 0, 0)
set_option maxRecDepth 20000 in
theorem okX5_player : gw_ok jX5_player := ⟨by decide +kernel, gw_Tb_in (i := 775) rfl rfl, gw_Tb_in (i := 59) (by decide +kernel) rfl, ⟨by decide +kernel, by decide +kernel⟩, by decide⟩
abbrev jX5_isPlayer : gw_J := (yX5_isPlayer, cX5_isPlayer, 2, some .boolean, 0, 0)
set_option maxRecDepth 20000 in
theorem okX5_isPlayer : gw_ok jX5_isPlayer := ⟨by decide +kernel, gw_Tb_in (i := 779) rfl rfl, gw_Tb_in (i := 59) (by decide +kernel) rfl, ⟨by decide +kernel, by decide +kernel⟩, by decide⟩
abbrev jX5_isIn : gw_J := (yX5_isIn, cX5_isIn, 2, some .boolean, 0, 0)
set_option maxRecDepth 20000 in
theorem okX5_isIn : gw_ok jX5_isIn := ⟨by decide +kernel, gw_Tb_in (i := 783) rfl rfl, gw_Tb_in (i := 59) (by decide +kernel) rfl, ⟨by decide +kernel, by decide +kernel⟩, by decide⟩
abbrev jX5_span : gw_J := (yX5_span, cX5_span, 2, some .int, 0, 0)
set_option maxRecDepth 20000 in
theorem okX5_span : gw_ok jX5_span := ⟨by decide +kernel, gw_Tb_in (i := 787) rfl rfl, gw_Tb_in (i := 59) (by decide +kernel) rfl, ⟨by decide +kernel, by decide +kernel⟩, by decide⟩
abbrev jX5_kind : gw_J := (yX5_kind, cX5_kind, 2, some .int, 0, 0)
set_option maxRecDepth 20000 in
theorem okX5_kind : gw_ok jX5_kind := ⟨by decide +kernel, gw_Tb_in (i := 791) rfl rfl, gw_Tb_in (i := 59) (by decide +kernel) rfl, ⟨by decide +kernel, by decide +kernel⟩, by decide⟩
abbrev jX5_chord : gw_J := (yX5_chord, cX5_chord, 3, some .int, 0, 0)
set_option maxRecDepth 20000 in
theorem okX5_chord : gw_ok jX5_chord := ⟨by decide +kernel, gw_Tb_in (i := 795) rfl rfl, gw_Tb_in (i := 59) (by decide +kernel) rfl, ⟨by decide +kernel, by decide +kernel⟩, by decide⟩
abbrev jX5_isChord : gw_J := (yX5_isChord, cX5_isChord, 2, some .boolean, 0, 0)
set_option maxRecDepth 20000 in
theorem okX5_isChord : gw_ok jX5_isChord := ⟨by decide +kernel, gw_Tb_in (i := 799) rfl rfl, gw_Tb_in (i := 59) (by decide +kernel) rfl, ⟨by decide +kernel, by decide +kernel⟩, by decide⟩
abbrev jX5_notes : gw_J := (yX5_notes, cX5_notes, 2, some .int, 0, 0)
set_option maxRecDepth 20000 in
theorem okX5_notes : gw_ok jX5_notes := ⟨by decide +kernel, gw_Tb_in (i := 803) rfl rfl, gw_Tb_in (i := 59) (by decide +kernel) rfl, ⟨by decide +kernel, by decide +kernel⟩, by decide⟩
abbrev jX5_note : gw_J := (yX5_note, cX5_note, 3, some .int, 0, 0)
set_option maxRecDepth 20000 in
theorem okX5_note : gw_ok jX5_note := ⟨by decide +kernel, gw_Tb_in (i := 807) rfl rfl, gw_Tb_in (i := 59) (by decide +kernel) rfl, ⟨by decide +kernel, by decide +kernel⟩, by decide⟩
abbrev jX5_puts : gw_J := (yX5_puts, cX5_puts, 8, some .int, 0, 0)
set_option maxRecDepth 20000 in
theorem okX5_puts : gw_ok jX5_puts := ⟨by decide +kernel, gw_Tb_in (i := 811) rfl rfl, gw_Tb_in (i := 59) (by decide +kernel) rfl, ⟨by decide +kernel, by decide +kernel⟩, by decide⟩
abbrev jX5_areNotes : gw_J := (yX5_areNotes, cX5_areNotes, 5, some .boolean, 0, 0)
set_option maxRecDepth 20000 in
theorem okX5_areNotes : gw_ok jX5_areNotes := ⟨by decide +kernel, gw_Tb_in (i := 814) rfl rfl, gw_Tb_in (i := 59) (by decide +kernel) rfl, ⟨by decide +kernel, by decide +kernel⟩, by decide⟩
abbrev jX5_remembers : gw_J := (yX5_remembers, cX5_remembers, 2, none, 0, 0)
set_option maxRecDepth 20000 in
theorem okX5_remembers : gw_ok jX5_remembers := ⟨by decide +kernel, gw_Tb_in (i := 818) rfl rfl, gw_Tb_in (i := 59) (by decide +kernel) rfl, ⟨by decide +kernel, by decide +kernel⟩, by decide⟩
abbrev jX5_takes : gw_J := (yX5_takes, cX5_takes, 3, some .int, 0, 0)
set_option maxRecDepth 20000 in
theorem okX5_takes : gw_ok jX5_takes := ⟨by decide +kernel, gw_Tb_in (i := 822) rfl rfl, gw_Tb_in (i := 59) (by decide +kernel) rfl, ⟨by decide +kernel, by decide +kernel⟩, by decide⟩
abbrev jX5_calls : gw_J := (yX5_calls, cX5_calls, 2, some .int, 0, 0)
set_option maxRecDepth 20000 in
theorem okX5_calls : gw_ok jX5_calls := ⟨by decide +kernel, gw_Tb_in (i := 826) rfl rfl, gw_Tb_in (i := 59) (by decide +kernel) rfl, ⟨by decide +kernel, by decide +kernel⟩, by decide⟩
abbrev jX5_tells : gw_J := (yX5_tells, cX5_tells, 3, some .int, 0, 0)
set_option maxRecDepth 20000 in
theorem okX5_tells : gw_ok jX5_tells := ⟨by decide +kernel, gw_Tb_in (i := 830) rfl rfl, gw_Tb_in (i := 59) (by decide +kernel) rfl, ⟨by decide +kernel, by decide +kernel⟩, by decide⟩
abbrev jX5_undo : gw_J := (yX5_undo, cX5_undo, 2, some .int, 0, 0)
set_option maxRecDepth 20000 in
theorem okX5_undo : gw_ok jX5_undo := ⟨by decide +kernel, gw_Tb_in (i := 834) rfl rfl, gw_Tb_in (i := 59) (by decide +kernel) rfl, ⟨by decide +kernel, by decide +kernel⟩, by decide⟩
abbrev jX5_could : gw_J := (yX5_could, cX5_could, 4, some .int, 0, 0)
set_option maxRecDepth 20000 in
theorem okX5_could : gw_ok jX5_could := ⟨by decide +kernel, gw_Tb_in (i := 838) rfl rfl, gw_Tb_in (i := 59) (by decide +kernel) rfl, ⟨by decide +kernel, by decide +kernel⟩, by decide⟩
abbrev jX5_isHand : gw_J := (yX5_isHand, cX5_isHand, 7, some .boolean, 0, 0)
set_option maxRecDepth 20000 in
theorem okX5_isHand : gw_ok jX5_isHand := ⟨by decide +kernel, gw_Tb_in (i := 842) rfl rfl, gw_Tb_in (i := 59) (by decide +kernel) rfl, ⟨by decide +kernel, by decide +kernel⟩, by decide⟩
abbrev jX5_lowest : gw_J := (yX5_lowest, cX5_lowest, 1, some .int, 0, 0)
set_option maxRecDepth 20000 in
theorem okX5_lowest : gw_ok jX5_lowest := ⟨by decide +kernel, gw_Tb_in (i := 845) rfl rfl, gw_Tb_in (i := 59) (by decide +kernel) rfl, ⟨by decide +kernel, by decide +kernel⟩, by decide⟩
abbrev jX5_highest : gw_J := (yX5_highest, cX5_highest, 1, some .int, 0, 0)
set_option maxRecDepth 20000 in
theorem okX5_highest : gw_ok jX5_highest := ⟨by decide +kernel, gw_Tb_in (i := 848) rfl rfl, gw_Tb_in (i := 59) (by decide +kernel) rfl, ⟨by decide +kernel, by decide +kernel⟩, by decide⟩
abbrev jX5_ones : gw_J := (yX5_ones, cX5_ones, 1, some .int, 0, 0)
set_option maxRecDepth 20000 in
theorem okX5_ones : gw_ok jX5_ones := ⟨by decide +kernel, gw_Tb_in (i := 851) rfl rfl, gw_Tb_in (i := 59) (by decide +kernel) rfl, ⟨by decide +kernel, by decide +kernel⟩, by decide⟩
abbrev jX5_spreads : gw_J := (yX5_spreads, cX5_spreads, 2, some .int, 0, 0)
set_option maxRecDepth 20000 in
theorem okX5_spreads : gw_ok jX5_spreads := ⟨by decide +kernel, gw_Tb_in (i := 855) rfl rfl, gw_Tb_in (i := 59) (by decide +kernel) rfl, ⟨by decide +kernel, by decide +kernel⟩, by decide⟩
abbrev jX5_laysSpreads : gw_J := (yX5_laysSpreads, cX5_laysSpreads, 5, none, 0, 0)
set_option maxRecDepth 20000 in
theorem okX5_laysSpreads : gw_ok jX5_laysSpreads := ⟨by decide +kernel, gw_Tb_in (i := 859) rfl rfl, gw_Tb_in (i := 59) (by decide +kernel) rfl, ⟨by decide +kernel, by decide +kernel⟩, by decide⟩
abbrev jX5_isSpread : gw_J := (yX5_isSpread, cX5_isSpread, 8, some .boolean, 0, 0)
set_option maxRecDepth 20000 in
theorem okX5_isSpread : gw_ok jX5_isSpread := ⟨by decide +kernel, gw_Tb_in (i := 863) rfl rfl, gw_Tb_in (i := 59) (by decide +kernel) rfl, ⟨by decide +kernel, by decide +kernel⟩, by decide⟩
abbrev jX5_handOf : gw_J := (yX5_handOf, cX5_handOf, 2, some .int, 0, 0)
set_option maxRecDepth 20000 in
theorem okX5_handOf : gw_ok jX5_handOf := ⟨by decide +kernel, gw_Tb_in (i := 866) rfl rfl, gw_Tb_in (i := 59) (by decide +kernel) rfl, ⟨by decide +kernel, by decide +kernel⟩, by decide⟩
abbrev jX5_isEven : gw_J := (yX5_isEven, cX5_isEven, 9, some .boolean, 0, 0)
set_option maxRecDepth 20000 in
theorem okX5_isEven : gw_ok jX5_isEven := ⟨by decide +kernel, gw_Tb_in (i := 870) rfl rfl, gw_Tb_in (i := 59) (by decide +kernel) rfl, ⟨by decide +kernel, by decide +kernel⟩, by decide⟩
abbrev jX5_loudOf : gw_J := (yX5_loudOf, cX5_loudOf, 7, some .int, 0, 0)
set_option maxRecDepth 20000 in
theorem okX5_loudOf : gw_ok jX5_loudOf := ⟨by decide +kernel, gw_Tb_in (i := 875) rfl rfl, gw_Tb_in (i := 59) (by decide +kernel) rfl, ⟨by decide +kernel, by decide +kernel⟩, by decide⟩
abbrev jX5_score : gw_J := (yX5_score, cX5_score, 6, some .int, 0, 0)
set_option maxRecDepth 20000 in
theorem okX5_score : gw_ok jX5_score := ⟨by decide +kernel, gw_Tb_in (i := 879) rfl rfl, gw_Tb_in (i := 59) (by decide +kernel) rfl, ⟨by decide +kernel, by decide +kernel⟩, by decide⟩
abbrev jX5_laysFirst : gw_J := (yX5_laysFirst, cX5_laysFirst, 5, some .boolean, 0, 0)
set_option maxRecDepth 20000 in
theorem okX5_laysFirst : gw_ok jX5_laysFirst := ⟨by decide +kernel, gw_Tb_in (i := 883) rfl rfl, gw_Tb_in (i := 59) (by decide +kernel) rfl, ⟨by decide +kernel, by decide +kernel⟩, by decide⟩
abbrev jX5_laysScore : gw_J := (yX5_laysScore, cX5_laysScore, 7, some .int, 0, 0)
set_option maxRecDepth 20000 in
theorem okX5_laysScore : gw_ok jX5_laysScore := ⟨by decide +kernel, gw_Tb_in (i := 887) rfl rfl, gw_Tb_in (i := 59) (by decide +kernel) rfl, ⟨by decide +kernel, by decide +kernel⟩, by decide⟩
abbrev jX5_leastBehind : gw_J := (yX5_leastBehind, cX5_leastBehind, 8, some .int, 0, 0)
set_option maxRecDepth 20000 in
theorem okX5_leastBehind : gw_ok jX5_leastBehind := ⟨by decide +kernel, gw_Tb_in (i := 891) rfl rfl, gw_Tb_in (i := 59) (by decide +kernel) rfl, ⟨by decide +kernel, by decide +kernel⟩, by decide⟩
abbrev jX5_movesOf : gw_J := (yX5_movesOf, cX5_movesOf, 8, some .int, 0, 0)
set_option maxRecDepth 20000 in
theorem okX5_movesOf : gw_ok jX5_movesOf := ⟨by decide +kernel, gw_Tb_in (i := 895) rfl rfl, gw_Tb_in (i := 59) (by decide +kernel) rfl, ⟨by decide +kernel, by decide +kernel⟩, by decide⟩
abbrev jX5_moveOf : gw_J := (yX5_moveOf, cX5_moveOf, 5, some .int, 0, 0)
set_option maxRecDepth 20000 in
theorem okX5_moveOf : gw_ok jX5_moveOf := ⟨by decide +kernel, gw_Tb_in (i := 899) rfl rfl, gw_Tb_in (i := 59) (by decide +kernel) rfl, ⟨by decide +kernel, by decide +kernel⟩, by decide⟩
abbrev jX5_playing : gw_J := (yX5_playing, cX5_playing, 5, some .int, 0, 0)
set_option maxRecDepth 20000 in
theorem okX5_playing : gw_ok jX5_playing := ⟨by decide +kernel, gw_Tb_in (i := 903) rfl rfl, gw_Tb_in (i := 59) (by decide +kernel) rfl, ⟨by decide +kernel, by decide +kernel⟩, by decide⟩
abbrev jX5_hand : gw_J := (yX5_hand, cX5_hand, 3, some .int, 0, 0)
set_option maxRecDepth 20000 in
theorem okX5_hand : gw_ok jX5_hand := ⟨by decide +kernel, gw_Tb_in (i := 907) rfl rfl, gw_Tb_in (i := 59) (by decide +kernel) rfl, ⟨by decide +kernel, by decide +kernel⟩, by decide⟩
abbrev jX5_loud : gw_J := (yX5_loud, cX5_loud, 3, some .int, 0, 0)
set_option maxRecDepth 20000 in
theorem okX5_loud : gw_ok jX5_loud := ⟨by decide +kernel, gw_Tb_in (i := 911) rfl rfl, gw_Tb_in (i := 59) (by decide +kernel) rfl, ⟨by decide +kernel, by decide +kernel⟩, by decide⟩
abbrev jX5_couldRest : gw_J := (yX5_couldRest, cX5_couldRest, 5, some .int, 0, 0)
set_option maxRecDepth 20000 in
theorem okX5_couldRest : gw_ok jX5_couldRest := ⟨by decide +kernel, gw_Tb_in (i := 915) rfl rfl, gw_Tb_in (i := 59) (by decide +kernel) rfl, ⟨by decide +kernel, by decide +kernel⟩, by decide⟩
abbrev jX5_move : gw_J := (yX5_move, cX5_move, 3, some .int, 0, 0)
set_option maxRecDepth 20000 in
theorem okX5_move : gw_ok jX5_move := ⟨by decide +kernel, gw_Tb_in (i := 919) rfl rfl, gw_Tb_in (i := 59) (by decide +kernel) rfl, ⟨by decide +kernel, by decide +kernel⟩, by decide⟩
abbrev jX5_reach : gw_J := (yX5_reach, cX5_reach, 2, some .int, 0, 0)
set_option maxRecDepth 20000 in
theorem okX5_reach : gw_ok jX5_reach := ⟨by decide +kernel, gw_Tb_in (i := 923) rfl rfl, gw_Tb_in (i := 59) (by decide +kernel) rfl, ⟨by decide +kernel, by decide +kernel⟩, by decide⟩
abbrev jX5_fewest : gw_J := (yX5_fewest, cX5_fewest, 3, some .int, 0, 0)
set_option maxRecDepth 20000 in
theorem okX5_fewest : gw_ok jX5_fewest := ⟨by decide +kernel, gw_Tb_in (i := 927) rfl rfl, gw_Tb_in (i := 59) (by decide +kernel) rfl, ⟨by decide +kernel, by decide +kernel⟩, by decide⟩
abbrev jX5_bits : gw_J := (yX5_bits, cX5_bits, 1, some .int, 0, 0)
set_option maxRecDepth 20000 in
theorem okX5_bits : gw_ok jX5_bits := ⟨by decide +kernel, gw_Tb_in (i := 930) rfl rfl, gw_Tb_in (i := 59) (by decide +kernel) rfl, ⟨by decide +kernel, by decide +kernel⟩, by decide⟩
abbrev jX5_bear : gw_J := (yX5_bear, cX5_bear, 2, some .int, 0, 0)
set_option maxRecDepth 20000 in
theorem okX5_bear : gw_ok jX5_bear := ⟨by decide +kernel, gw_Tb_in (i := 934) rfl rfl, gw_Tb_in (i := 59) (by decide +kernel) rfl, ⟨by decide +kernel, by decide +kernel⟩, by decide⟩
abbrev jX5_hears : gw_J := (yX5_hears, cX5_hears, 3, some .int, 0, 0)
set_option maxRecDepth 20000 in
theorem okX5_hears : gw_ok jX5_hears := ⟨by decide +kernel, gw_Tb_in (i := 938) rfl rfl, gw_Tb_in (i := 59) (by decide +kernel) rfl, ⟨by decide +kernel, by decide +kernel⟩, by decide⟩
abbrev jX5_forget : gw_J := (yX5_forget, cX5_forget, 2, some .int, 0, 0)
set_option maxRecDepth 20000 in
theorem okX5_forget : gw_ok jX5_forget := ⟨by decide +kernel, gw_Tb_in (i := 942) rfl rfl, gw_Tb_in (i := 59) (by decide +kernel) rfl, ⟨by decide +kernel, by decide +kernel⟩, by decide⟩
abbrev jX5_ill : gw_J := (yX5_ill, cX5_ill, 5, some .int, 0, 0)
set_option maxRecDepth 20000 in
theorem okX5_ill : gw_ok jX5_ill := ⟨by decide +kernel, gw_Tb_in (i := 946) rfl rfl, gw_Tb_in (i := 59) (by decide +kernel) rfl, ⟨by decide +kernel, by decide +kernel⟩, by decide⟩
abbrev jX5_keep : gw_J := (yX5_keep, cX5_keep, 3, some .int, 0, 0)
set_option maxRecDepth 20000 in
theorem okX5_keep : gw_ok jX5_keep := ⟨by decide +kernel, gw_Tb_in (i := 950) rfl rfl, gw_Tb_in (i := 59) (by decide +kernel) rfl, ⟨by decide +kernel, by decide +kernel⟩, by decide⟩
abbrev jX5_back : gw_J := (yX5_back, cX5_back, 3, some .int, 0, 0)
set_option maxRecDepth 20000 in
theorem okX5_back : gw_ok jX5_back := ⟨by decide +kernel, gw_Tb_in (i := 954) rfl rfl, gw_Tb_in (i := 59) (by decide +kernel) rfl, ⟨by decide +kernel, by decide +kernel⟩, by decide⟩
abbrev jX5_count : gw_J := (yX5_count, cX5_count, 2, some .int, 0, 0)
set_option maxRecDepth 20000 in
theorem okX5_count : gw_ok jX5_count := ⟨by decide +kernel, gw_Tb_in (i := 958) rfl rfl, gw_Tb_in (i := 59) (by decide +kernel) rfl, ⟨by decide +kernel, by decide +kernel⟩, by decide⟩
abbrev jL_law : gw_J := (yL_law, cL_law, 4, some .boolean, 600000, 7302250)
set_option maxRecDepth 20000 in
theorem glX0 : ∀ k, k < 7 → u_lay RX0 TX0 k ∈ gw_Tb := fun k hk => match k, hk with
  | 0, _ => gw_Tb_in (i := 98) rfl rfl
  | 1, _ => gw_Tb_in (i := 100) rfl rfl
  | 2, _ => gw_Tb_in (i := 102) rfl rfl
  | 3, _ => gw_Tb_in (i := 104) rfl rfl
  | 4, _ => gw_Tb_in (i := 106) rfl rfl
  | 5, _ => gw_Tb_in (i := 108) rfl rfl
  | 6, _ => gw_Tb_in (i := 110) rfl rfl
  | k + 7, h => absurd h (by omega)
set_option maxRecDepth 20000 in
theorem gcX0 : gw_Cl 0 RX0 TX0 7 := ⟨rfl, by decide, fun w hw => by
  obtain ⟨k, hk, rfl⟩ := List.mem_map.mp hw
  exact glX0 k (List.mem_range.mp hk), tyX0_ok, nmX0, gw_Tb_in (i := 77) (by decide +kernel) rfl, gw_Tb_in (i := 56) (by decide +kernel) rfl⟩
theorem gdX0 : ∀ k, k < 7 → defaultValue (gw_ty 0 k) = (if gw_isR 0 k = true then .null else .int 0) := fun k hk => match k, hk with
  | 0, _ => rfl
  | 1, _ => rfl
  | 2, _ => rfl
  | 3, _ => rfl
  | 4, _ => rfl
  | 5, _ => rfl
  | 6, _ => rfl
  | k + 7, h => absurd h (by omega)
set_option maxRecDepth 20000 in
theorem glX1 : ∀ k, k < 5 → u_lay RX1 TX1 k ∈ gw_Tb := fun k hk => match k, hk with
  | 0, _ => gw_Tb_in (i := 137) rfl rfl
  | 1, _ => gw_Tb_in (i := 139) rfl rfl
  | 2, _ => gw_Tb_in (i := 141) rfl rfl
  | 3, _ => gw_Tb_in (i := 143) rfl rfl
  | 4, _ => gw_Tb_in (i := 145) rfl rfl
  | k + 5, h => absurd h (by omega)
set_option maxRecDepth 20000 in
theorem gcX1 : gw_Cl 1 RX1 TX1 5 := ⟨rfl, by decide, fun w hw => by
  obtain ⟨k, hk, rfl⟩ := List.mem_map.mp hw
  exact glX1 k (List.mem_range.mp hk), tyX1_ok, nmX1, gw_Tb_in (i := 115) (by decide +kernel) rfl, gw_Tb_in (i := 57) (by decide +kernel) rfl⟩
theorem gdX1 : ∀ k, k < 5 → defaultValue (gw_ty 1 k) = (if gw_isR 1 k = true then .null else .int 0) := fun k hk => match k, hk with
  | 0, _ => rfl
  | 1, _ => rfl
  | 2, _ => rfl
  | 3, _ => rfl
  | 4, _ => rfl
  | k + 5, h => absurd h (by omega)
set_option maxRecDepth 20000 in
theorem glX2 : ∀ k, k < 10 → u_lay RX2 TX2 k ∈ gw_Tb := fun k hk => match k, hk with
  | 0, _ => gw_Tb_in (i := 161) rfl rfl
  | 1, _ => gw_Tb_in (i := 163) rfl rfl
  | 2, _ => gw_Tb_in (i := 165) rfl rfl
  | 3, _ => gw_Tb_in (i := 167) rfl rfl
  | 4, _ => gw_Tb_in (i := 169) rfl rfl
  | 5, _ => gw_Tb_in (i := 171) rfl rfl
  | 6, _ => gw_Tb_in (i := 173) rfl rfl
  | 7, _ => gw_Tb_in (i := 175) rfl rfl
  | 8, _ => gw_Tb_in (i := 177) rfl rfl
  | 9, _ => gw_Tb_in (i := 179) rfl rfl
  | k + 10, h => absurd h (by omega)
set_option maxRecDepth 20000 in
theorem gcX2 : gw_Cl 2 RX2 TX2 10 := ⟨rfl, by decide, fun w hw => by
  obtain ⟨k, hk, rfl⟩ := List.mem_map.mp hw
  exact glX2 k (List.mem_range.mp hk), tyX2_ok, nmX2, gw_Tb_in (i := 71) (by decide +kernel) rfl, gw_Tb_in (i := 55) (by decide +kernel) rfl⟩
theorem gdX2 : ∀ k, k < 10 → defaultValue (gw_ty 2 k) = (if gw_isR 2 k = true then .null else .int 0) := fun k hk => match k, hk with
  | 0, _ => rfl
  | 1, _ => rfl
  | 2, _ => rfl
  | 3, _ => rfl
  | 4, _ => rfl
  | 5, _ => rfl
  | 6, _ => rfl
  | 7, _ => rfl
  | 8, _ => rfl
  | 9, _ => rfl
  | k + 10, h => absurd h (by omega)
set_option maxRecDepth 20000 in
theorem glX3 : ∀ k, k < 12 → u_lay RX3 TX3 k ∈ gw_Tb := fun k hk => match k, hk with
  | 0, _ => gw_Tb_in (i := 209) rfl rfl
  | 1, _ => gw_Tb_in (i := 211) rfl rfl
  | 2, _ => gw_Tb_in (i := 213) rfl rfl
  | 3, _ => gw_Tb_in (i := 215) rfl rfl
  | 4, _ => gw_Tb_in (i := 217) rfl rfl
  | 5, _ => gw_Tb_in (i := 219) rfl rfl
  | 6, _ => gw_Tb_in (i := 221) rfl rfl
  | 7, _ => gw_Tb_in (i := 223) rfl rfl
  | 8, _ => gw_Tb_in (i := 225) rfl rfl
  | 9, _ => gw_Tb_in (i := 227) rfl rfl
  | 10, _ => gw_Tb_in (i := 229) rfl rfl
  | 11, _ => gw_Tb_in (i := 231) rfl rfl
  | k + 12, h => absurd h (by omega)
set_option maxRecDepth 20000 in
theorem gcX3 : gw_Cl 3 RX3 TX3 12 := ⟨rfl, by decide, fun w hw => by
  obtain ⟨k, hk, rfl⟩ := List.mem_map.mp hw
  exact glX3 k (List.mem_range.mp hk), tyX3_ok, nmX3, gw_Tb_in (i := 183) (by decide +kernel) rfl, gw_Tb_in (i := 58) (by decide +kernel) rfl⟩
theorem gdX3 : ∀ k, k < 12 → defaultValue (gw_ty 3 k) = (if gw_isR 3 k = true then .null else .int 0) := fun k hk => match k, hk with
  | 0, _ => rfl
  | 1, _ => rfl
  | 2, _ => rfl
  | 3, _ => rfl
  | 4, _ => rfl
  | 5, _ => rfl
  | 6, _ => rfl
  | 7, _ => rfl
  | 8, _ => rfl
  | 9, _ => rfl
  | 10, _ => rfl
  | 11, _ => rfl
  | k + 12, h => absurd h (by omega)
set_option maxRecDepth 20000 in
theorem glX4 : ∀ k, k < 12 → u_lay RX4 TX4 k ∈ gw_Tb := fun k hk => match k, hk with
  | 0, _ => gw_Tb_in (i := 249) rfl rfl
  | 1, _ => gw_Tb_in (i := 251) rfl rfl
  | 2, _ => gw_Tb_in (i := 253) rfl rfl
  | 3, _ => gw_Tb_in (i := 255) rfl rfl
  | 4, _ => gw_Tb_in (i := 257) rfl rfl
  | 5, _ => gw_Tb_in (i := 259) rfl rfl
  | 6, _ => gw_Tb_in (i := 261) rfl rfl
  | 7, _ => gw_Tb_in (i := 263) rfl rfl
  | 8, _ => gw_Tb_in (i := 265) rfl rfl
  | 9, _ => gw_Tb_in (i := 267) rfl rfl
  | 10, _ => gw_Tb_in (i := 269) rfl rfl
  | 11, _ => gw_Tb_in (i := 271) rfl rfl
  | k + 12, h => absurd h (by omega)
set_option maxRecDepth 20000 in
theorem gcX4 : gw_Cl 4 RX4 TX4 12 := ⟨rfl, by decide, fun w hw => by
  obtain ⟨k, hk, rfl⟩ := List.mem_map.mp hw
  exact glX4 k (List.mem_range.mp hk), tyX4_ok, nmX4, gw_Tb_in (i := 63) (by decide +kernel) rfl, gw_Tb_in (i := 54) (by decide +kernel) rfl⟩
theorem gdX4 : ∀ k, k < 12 → defaultValue (gw_ty 4 k) = (if gw_isR 4 k = true then .null else .int 0) := fun k hk => match k, hk with
  | 0, _ => rfl
  | 1, _ => rfl
  | 2, _ => rfl
  | 3, _ => rfl
  | 4, _ => rfl
  | 5, _ => rfl
  | 6, _ => rfl
  | 7, _ => rfl
  | 8, _ => rfl
  | 9, _ => rfl
  | 10, _ => rfl
  | 11, _ => rfl
  | k + 12, h => absurd h (by omega)
set_option maxRecDepth 20000 in
theorem glX5 : ∀ k, k < 23 → u_lay RX5 TX5 k ∈ gw_Tb := fun k hk => match k, hk with
  | 0, _ => gw_Tb_in (i := 682) rfl rfl
  | 1, _ => gw_Tb_in (i := 684) rfl rfl
  | 2, _ => gw_Tb_in (i := 686) rfl rfl
  | 3, _ => gw_Tb_in (i := 688) rfl rfl
  | 4, _ => gw_Tb_in (i := 690) rfl rfl
  | 5, _ => gw_Tb_in (i := 692) rfl rfl
  | 6, _ => gw_Tb_in (i := 694) rfl rfl
  | 7, _ => gw_Tb_in (i := 696) rfl rfl
  | 8, _ => gw_Tb_in (i := 698) rfl rfl
  | 9, _ => gw_Tb_in (i := 700) rfl rfl
  | 10, _ => gw_Tb_in (i := 702) rfl rfl
  | 11, _ => gw_Tb_in (i := 704) rfl rfl
  | 12, _ => gw_Tb_in (i := 706) rfl rfl
  | 13, _ => gw_Tb_in (i := 708) rfl rfl
  | 14, _ => gw_Tb_in (i := 710) rfl rfl
  | 15, _ => gw_Tb_in (i := 712) rfl rfl
  | 16, _ => gw_Tb_in (i := 714) rfl rfl
  | 17, _ => gw_Tb_in (i := 716) rfl rfl
  | 18, _ => gw_Tb_in (i := 718) rfl rfl
  | 19, _ => gw_Tb_in (i := 720) rfl rfl
  | 20, _ => gw_Tb_in (i := 722) rfl rfl
  | 21, _ => gw_Tb_in (i := 724) rfl rfl
  | 22, _ => gw_Tb_in (i := 726) rfl rfl
  | k + 23, h => absurd h (by omega)
set_option maxRecDepth 20000 in
theorem gcX5 : gw_Cl 5 RX5 TX5 23 := ⟨rfl, by decide, fun w hw => by
  obtain ⟨k, hk, rfl⟩ := List.mem_map.mp hw
  exact glX5 k (List.mem_range.mp hk), tyX5_ok, nmX5, gw_Tb_in (i := 646) (by decide +kernel) rfl, gw_Tb_in (i := 59) (by decide +kernel) rfl⟩
theorem gdX5 : ∀ k, k < 23 → defaultValue (gw_ty 5 k) = (if gw_isR 5 k = true then .null else .int 0) := fun k hk => match k, hk with
  | 0, _ => rfl
  | 1, _ => rfl
  | 2, _ => rfl
  | 3, _ => rfl
  | 4, _ => rfl
  | 5, _ => rfl
  | 6, _ => rfl
  | 7, _ => rfl
  | 8, _ => rfl
  | 9, _ => rfl
  | 10, _ => rfl
  | 11, _ => rfl
  | 12, _ => rfl
  | 13, _ => rfl
  | 14, _ => rfl
  | 15, _ => rfl
  | 16, _ => rfl
  | 17, _ => rfl
  | 18, _ => rfl
  | 19, _ => rfl
  | 20, _ => rfl
  | 21, _ => rfl
  | 22, _ => rfl
  | k + 23, h => absurd h (by omega)
set_option maxRecDepth 20000 in
theorem fX0_9 : gw_F RX0 9 0 0 false := ⟨RX0, TX0, 7, gcX0, by decide, gw_Tb_in (i := 82) rfl rfl, rfl, rfl⟩
set_option maxRecDepth 20000 in
theorem fX3_79 : gw_F RX3 79 0 0 false := ⟨RX0, TX0, 7, gcX0, by decide, gw_Tb_in (i := 83) rfl rfl, rfl, rfl⟩
set_option maxRecDepth 20000 in
theorem fX2_63 : gw_F RX2 63 0 0 false := ⟨RX0, TX0, 7, gcX0, by decide, gw_Tb_in (i := 84) rfl rfl, rfl, rfl⟩
set_option maxRecDepth 20000 in
theorem fX4_179 : gw_F RX4 179 0 0 false := ⟨RX0, TX0, 7, gcX0, by decide, gw_Tb_in (i := 85) rfl rfl, rfl, rfl⟩
set_option maxRecDepth 20000 in
theorem fX0_15 : gw_F RX0 15 0 1 false := ⟨RX0, TX0, 7, gcX0, by decide, gw_Tb_in (i := 86) rfl rfl, rfl, rfl⟩
set_option maxRecDepth 20000 in
theorem fX0_18 : gw_F RX0 18 0 2 true := ⟨RX0, TX0, 7, gcX0, by decide, gw_Tb_in (i := 87) rfl rfl, rfl, rfl⟩
set_option maxRecDepth 20000 in
theorem fX4_93 : gw_F RX4 93 0 2 true := ⟨RX0, TX0, 7, gcX0, by decide, gw_Tb_in (i := 88) rfl rfl, rfl, rfl⟩
set_option maxRecDepth 20000 in
theorem fX3_112 : gw_F RX3 112 0 2 true := ⟨RX0, TX0, 7, gcX0, by decide, gw_Tb_in (i := 89) rfl rfl, rfl, rfl⟩
set_option maxRecDepth 20000 in
theorem fX0_22 : gw_F RX0 22 0 3 true := ⟨RX0, TX0, 7, gcX0, by decide, gw_Tb_in (i := 90) rfl rfl, rfl, rfl⟩
set_option maxRecDepth 20000 in
theorem fX4_96 : gw_F RX4 96 0 3 true := ⟨RX0, TX0, 7, gcX0, by decide, gw_Tb_in (i := 91) rfl rfl, rfl, rfl⟩
set_option maxRecDepth 20000 in
theorem fX0_25 : gw_F RX0 25 0 4 true := ⟨RX0, TX0, 7, gcX0, by decide, gw_Tb_in (i := 92) rfl rfl, rfl, rfl⟩
set_option maxRecDepth 20000 in
theorem fX4_99 : gw_F RX4 99 0 4 true := ⟨RX0, TX0, 7, gcX0, by decide, gw_Tb_in (i := 93) rfl rfl, rfl, rfl⟩
set_option maxRecDepth 20000 in
theorem fX0_28 : gw_F RX0 28 0 5 true := ⟨RX0, TX0, 7, gcX0, by decide, gw_Tb_in (i := 94) rfl rfl, rfl, rfl⟩
set_option maxRecDepth 20000 in
theorem fX4_102 : gw_F RX4 102 0 5 true := ⟨RX0, TX0, 7, gcX0, by decide, gw_Tb_in (i := 95) rfl rfl, rfl, rfl⟩
set_option maxRecDepth 20000 in
theorem fX0_31 : gw_F RX0 31 0 6 true := ⟨RX0, TX0, 7, gcX0, by decide, gw_Tb_in (i := 96) rfl rfl, rfl, rfl⟩
set_option maxRecDepth 20000 in
theorem fX4_108 : gw_F RX4 108 0 6 true := ⟨RX0, TX0, 7, gcX0, by decide, gw_Tb_in (i := 97) rfl rfl, rfl, rfl⟩
set_option maxRecDepth 20000 in
theorem fX1_9 : gw_F RX1 9 1 0 false := ⟨RX1, TX1, 5, gcX1, by decide, gw_Tb_in (i := 120) rfl rfl, rfl, rfl⟩
set_option maxRecDepth 20000 in
theorem fX2_93 : gw_F RX2 93 1 0 false := ⟨RX1, TX1, 5, gcX1, by decide, gw_Tb_in (i := 121) rfl rfl, rfl, rfl⟩
set_option maxRecDepth 20000 in
theorem fX4_122 : gw_F RX4 122 1 0 false := ⟨RX1, TX1, 5, gcX1, by decide, gw_Tb_in (i := 122) rfl rfl, rfl, rfl⟩
set_option maxRecDepth 20000 in
theorem fX3_136 : gw_F RX3 136 1 0 false := ⟨RX1, TX1, 5, gcX1, by decide, gw_Tb_in (i := 123) rfl rfl, rfl, rfl⟩
set_option maxRecDepth 20000 in
theorem fX1_15 : gw_F RX1 15 1 1 false := ⟨RX1, TX1, 5, gcX1, by decide, gw_Tb_in (i := 124) rfl rfl, rfl, rfl⟩
set_option maxRecDepth 20000 in
theorem fX2_66 : gw_F RX2 66 1 1 false := ⟨RX1, TX1, 5, gcX1, by decide, gw_Tb_in (i := 125) rfl rfl, rfl, rfl⟩
set_option maxRecDepth 20000 in
theorem fX4_105 : gw_F RX4 105 1 1 false := ⟨RX1, TX1, 5, gcX1, by decide, gw_Tb_in (i := 126) rfl rfl, rfl, rfl⟩
set_option maxRecDepth 20000 in
theorem fX3_147 : gw_F RX3 147 1 1 false := ⟨RX1, TX1, 5, gcX1, by decide, gw_Tb_in (i := 127) rfl rfl, rfl, rfl⟩
set_option maxRecDepth 20000 in
theorem fX1_18 : gw_F RX1 18 1 2 false := ⟨RX1, TX1, 5, gcX1, by decide, gw_Tb_in (i := 128) rfl rfl, rfl, rfl⟩
set_option maxRecDepth 20000 in
theorem fX2_101 : gw_F RX2 101 1 2 false := ⟨RX1, TX1, 5, gcX1, by decide, gw_Tb_in (i := 129) rfl rfl, rfl, rfl⟩
set_option maxRecDepth 20000 in
theorem fX3_103 : gw_F RX3 103 1 2 false := ⟨RX1, TX1, 5, gcX1, by decide, gw_Tb_in (i := 130) rfl rfl, rfl, rfl⟩
set_option maxRecDepth 20000 in
theorem fX4_146 : gw_F RX4 146 1 2 false := ⟨RX1, TX1, 5, gcX1, by decide, gw_Tb_in (i := 131) rfl rfl, rfl, rfl⟩
set_option maxRecDepth 20000 in
theorem fX1_21 : gw_F RX1 21 1 3 false := ⟨RX1, TX1, 5, gcX1, by decide, gw_Tb_in (i := 132) rfl rfl, rfl, rfl⟩
set_option maxRecDepth 20000 in
theorem fX3_67 : gw_F RX3 67 1 3 false := ⟨RX1, TX1, 5, gcX1, by decide, gw_Tb_in (i := 133) rfl rfl, rfl, rfl⟩
set_option maxRecDepth 20000 in
theorem fX2_104 : gw_F RX2 104 1 3 false := ⟨RX1, TX1, 5, gcX1, by decide, gw_Tb_in (i := 134) rfl rfl, rfl, rfl⟩
set_option maxRecDepth 20000 in
theorem fX4_149 : gw_F RX4 149 1 3 false := ⟨RX1, TX1, 5, gcX1, by decide, gw_Tb_in (i := 135) rfl rfl, rfl, rfl⟩
set_option maxRecDepth 20000 in
theorem fX1_24 : gw_F RX1 24 1 4 true := ⟨RX1, TX1, 5, gcX1, by decide, gw_Tb_in (i := 136) rfl rfl, rfl, rfl⟩
set_option maxRecDepth 20000 in
theorem fX2_12 : gw_F RX2 12 2 0 true := ⟨RX2, TX2, 10, gcX2, by decide, gw_Tb_in (i := 148) rfl rfl, rfl, rfl⟩
set_option maxRecDepth 20000 in
theorem fX4_78 : gw_F RX4 78 2 0 true := ⟨RX2, TX2, 10, gcX2, by decide, gw_Tb_in (i := 149) rfl rfl, rfl, rfl⟩
set_option maxRecDepth 20000 in
theorem fX2_21 : gw_F RX2 21 2 1 true := ⟨RX2, TX2, 10, gcX2, by decide, gw_Tb_in (i := 150) rfl rfl, rfl, rfl⟩
set_option maxRecDepth 20000 in
theorem fX4_85 : gw_F RX4 85 2 1 true := ⟨RX2, TX2, 10, gcX2, by decide, gw_Tb_in (i := 151) rfl rfl, rfl, rfl⟩
set_option maxRecDepth 20000 in
theorem fX2_25 : gw_F RX2 25 2 2 false := ⟨RX2, TX2, 10, gcX2, by decide, gw_Tb_in (i := 152) rfl rfl, rfl, rfl⟩
set_option maxRecDepth 20000 in
theorem fX4_67 : gw_F RX4 67 2 2 false := ⟨RX2, TX2, 10, gcX2, by decide, gw_Tb_in (i := 153) rfl rfl, rfl, rfl⟩
set_option maxRecDepth 20000 in
theorem fX2_29 : gw_F RX2 29 2 3 true := ⟨RX2, TX2, 10, gcX2, by decide, gw_Tb_in (i := 154) rfl rfl, rfl, rfl⟩
set_option maxRecDepth 20000 in
theorem fX2_33 : gw_F RX2 33 2 4 true := ⟨RX2, TX2, 10, gcX2, by decide, gw_Tb_in (i := 155) rfl rfl, rfl, rfl⟩
set_option maxRecDepth 20000 in
theorem fX2_36 : gw_F RX2 36 2 5 false := ⟨RX2, TX2, 10, gcX2, by decide, gw_Tb_in (i := 156) rfl rfl, rfl, rfl⟩
set_option maxRecDepth 20000 in
theorem fX2_39 : gw_F RX2 39 2 6 false := ⟨RX2, TX2, 10, gcX2, by decide, gw_Tb_in (i := 157) rfl rfl, rfl, rfl⟩
set_option maxRecDepth 20000 in
theorem fX2_42 : gw_F RX2 42 2 7 false := ⟨RX2, TX2, 10, gcX2, by decide, gw_Tb_in (i := 158) rfl rfl, rfl, rfl⟩
set_option maxRecDepth 20000 in
theorem fX2_45 : gw_F RX2 45 2 8 false := ⟨RX2, TX2, 10, gcX2, by decide, gw_Tb_in (i := 159) rfl rfl, rfl, rfl⟩
set_option maxRecDepth 20000 in
theorem fX2_48 : gw_F RX2 48 2 9 false := ⟨RX2, TX2, 10, gcX2, by decide, gw_Tb_in (i := 160) rfl rfl, rfl, rfl⟩
set_option maxRecDepth 20000 in
theorem fX3_12 : gw_F RX3 12 3 0 true := ⟨RX3, TX3, 12, gcX3, by decide, gw_Tb_in (i := 194) rfl rfl, rfl, rfl⟩
set_option maxRecDepth 20000 in
theorem fX4_23 : gw_F RX4 23 3 0 true := ⟨RX3, TX3, 12, gcX3, by decide, gw_Tb_in (i := 195) rfl rfl, rfl, rfl⟩
set_option maxRecDepth 20000 in
theorem fX3_21 : gw_F RX3 21 3 1 true := ⟨RX3, TX3, 12, gcX3, by decide, gw_Tb_in (i := 196) rfl rfl, rfl, rfl⟩
set_option maxRecDepth 20000 in
theorem fX4_28 : gw_F RX4 28 3 1 true := ⟨RX3, TX3, 12, gcX3, by decide, gw_Tb_in (i := 197) rfl rfl, rfl, rfl⟩
set_option maxRecDepth 20000 in
theorem fX3_25 : gw_F RX3 25 3 2 false := ⟨RX3, TX3, 12, gcX3, by decide, gw_Tb_in (i := 198) rfl rfl, rfl, rfl⟩
set_option maxRecDepth 20000 in
theorem fX4_163 : gw_F RX4 163 3 2 false := ⟨RX3, TX3, 12, gcX3, by decide, gw_Tb_in (i := 199) rfl rfl, rfl, rfl⟩
set_option maxRecDepth 20000 in
theorem fX3_31 : gw_F RX3 31 3 3 true := ⟨RX3, TX3, 12, gcX3, by decide, gw_Tb_in (i := 200) rfl rfl, rfl, rfl⟩
set_option maxRecDepth 20000 in
theorem fX3_34 : gw_F RX3 34 3 4 true := ⟨RX3, TX3, 12, gcX3, by decide, gw_Tb_in (i := 201) rfl rfl, rfl, rfl⟩
set_option maxRecDepth 20000 in
theorem fX3_38 : gw_F RX3 38 3 5 true := ⟨RX3, TX3, 12, gcX3, by decide, gw_Tb_in (i := 202) rfl rfl, rfl, rfl⟩
set_option maxRecDepth 20000 in
theorem fX3_41 : gw_F RX3 41 3 6 true := ⟨RX3, TX3, 12, gcX3, by decide, gw_Tb_in (i := 203) rfl rfl, rfl, rfl⟩
set_option maxRecDepth 20000 in
theorem fX3_44 : gw_F RX3 44 3 7 true := ⟨RX3, TX3, 12, gcX3, by decide, gw_Tb_in (i := 204) rfl rfl, rfl, rfl⟩
set_option maxRecDepth 20000 in
theorem fX3_47 : gw_F RX3 47 3 8 false := ⟨RX3, TX3, 12, gcX3, by decide, gw_Tb_in (i := 205) rfl rfl, rfl, rfl⟩
set_option maxRecDepth 20000 in
theorem fX3_50 : gw_F RX3 50 3 9 false := ⟨RX3, TX3, 12, gcX3, by decide, gw_Tb_in (i := 206) rfl rfl, rfl, rfl⟩
set_option maxRecDepth 20000 in
theorem fX3_53 : gw_F RX3 53 3 10 true := ⟨RX3, TX3, 12, gcX3, by decide, gw_Tb_in (i := 207) rfl rfl, rfl, rfl⟩
set_option maxRecDepth 20000 in
theorem fX3_56 : gw_F RX3 56 3 11 true := ⟨RX3, TX3, 12, gcX3, by decide, gw_Tb_in (i := 208) rfl rfl, rfl, rfl⟩
set_option maxRecDepth 20000 in
theorem fX4_10 : gw_F RX4 10 4 0 true := ⟨RX4, TX4, 12, gcX4, by decide, gw_Tb_in (i := 237) rfl rfl, rfl, rfl⟩
set_option maxRecDepth 20000 in
theorem fX4_19 : gw_F RX4 19 4 1 true := ⟨RX4, TX4, 12, gcX4, by decide, gw_Tb_in (i := 238) rfl rfl, rfl, rfl⟩
set_option maxRecDepth 20000 in
theorem fX4_27 : gw_F RX4 27 4 2 true := ⟨RX4, TX4, 12, gcX4, by decide, gw_Tb_in (i := 239) rfl rfl, rfl, rfl⟩
set_option maxRecDepth 20000 in
theorem fX4_32 : gw_F RX4 32 4 3 true := ⟨RX4, TX4, 12, gcX4, by decide, gw_Tb_in (i := 240) rfl rfl, rfl, rfl⟩
set_option maxRecDepth 20000 in
theorem fX4_37 : gw_F RX4 37 4 4 true := ⟨RX4, TX4, 12, gcX4, by decide, gw_Tb_in (i := 241) rfl rfl, rfl, rfl⟩
set_option maxRecDepth 20000 in
theorem fX4_41 : gw_F RX4 41 4 5 false := ⟨RX4, TX4, 12, gcX4, by decide, gw_Tb_in (i := 242) rfl rfl, rfl, rfl⟩
set_option maxRecDepth 20000 in
theorem fX4_45 : gw_F RX4 45 4 6 true := ⟨RX4, TX4, 12, gcX4, by decide, gw_Tb_in (i := 243) rfl rfl, rfl, rfl⟩
set_option maxRecDepth 20000 in
theorem fX4_48 : gw_F RX4 48 4 7 true := ⟨RX4, TX4, 12, gcX4, by decide, gw_Tb_in (i := 244) rfl rfl, rfl, rfl⟩
set_option maxRecDepth 20000 in
theorem fX4_52 : gw_F RX4 52 4 8 true := ⟨RX4, TX4, 12, gcX4, by decide, gw_Tb_in (i := 245) rfl rfl, rfl, rfl⟩
set_option maxRecDepth 20000 in
theorem fX4_56 : gw_F RX4 56 4 9 true := ⟨RX4, TX4, 12, gcX4, by decide, gw_Tb_in (i := 246) rfl rfl, rfl, rfl⟩
set_option maxRecDepth 20000 in
theorem fX4_59 : gw_F RX4 59 4 10 false := ⟨RX4, TX4, 12, gcX4, by decide, gw_Tb_in (i := 247) rfl rfl, rfl, rfl⟩
set_option maxRecDepth 20000 in
theorem fX4_62 : gw_F RX4 62 4 11 false := ⟨RX4, TX4, 12, gcX4, by decide, gw_Tb_in (i := 248) rfl rfl, rfl, rfl⟩
set_option maxRecDepth 20000 in
theorem fX5_63 : gw_F RX5 63 5 0 false := ⟨RX5, TX5, 23, gcX5, by decide, gw_Tb_in (i := 659) rfl rfl, rfl, rfl⟩
set_option maxRecDepth 20000 in
theorem fX5_7 : gw_F RX5 7 5 1 true := ⟨RX5, TX5, 23, gcX5, by decide, gw_Tb_in (i := 660) rfl rfl, rfl, rfl⟩
set_option maxRecDepth 20000 in
theorem fX5_13 : gw_F RX5 13 5 2 true := ⟨RX5, TX5, 23, gcX5, by decide, gw_Tb_in (i := 661) rfl rfl, rfl, rfl⟩
set_option maxRecDepth 20000 in
theorem fX5_66 : gw_F RX5 66 5 3 false := ⟨RX5, TX5, 23, gcX5, by decide, gw_Tb_in (i := 662) rfl rfl, rfl, rfl⟩
set_option maxRecDepth 20000 in
theorem fX5_16 : gw_F RX5 16 5 4 true := ⟨RX5, TX5, 23, gcX5, by decide, gw_Tb_in (i := 663) rfl rfl, rfl, rfl⟩
set_option maxRecDepth 20000 in
theorem fX5_19 : gw_F RX5 19 5 5 true := ⟨RX5, TX5, 23, gcX5, by decide, gw_Tb_in (i := 664) rfl rfl, rfl, rfl⟩
set_option maxRecDepth 20000 in
theorem fX5_23 : gw_F RX5 23 5 6 true := ⟨RX5, TX5, 23, gcX5, by decide, gw_Tb_in (i := 665) rfl rfl, rfl, rfl⟩
set_option maxRecDepth 20000 in
theorem fX5_69 : gw_F RX5 69 5 7 false := ⟨RX5, TX5, 23, gcX5, by decide, gw_Tb_in (i := 666) rfl rfl, rfl, rfl⟩
set_option maxRecDepth 20000 in
theorem fX5_26 : gw_F RX5 26 5 8 true := ⟨RX5, TX5, 23, gcX5, by decide, gw_Tb_in (i := 667) rfl rfl, rfl, rfl⟩
set_option maxRecDepth 20000 in
theorem fX5_29 : gw_F RX5 29 5 9 true := ⟨RX5, TX5, 23, gcX5, by decide, gw_Tb_in (i := 668) rfl rfl, rfl, rfl⟩
set_option maxRecDepth 20000 in
theorem fX5_59 : gw_F RX5 59 5 10 false := ⟨RX5, TX5, 23, gcX5, by decide, gw_Tb_in (i := 669) rfl rfl, rfl, rfl⟩
set_option maxRecDepth 20000 in
theorem fX5_32 : gw_F RX5 32 5 11 true := ⟨RX5, TX5, 23, gcX5, by decide, gw_Tb_in (i := 670) rfl rfl, rfl, rfl⟩
set_option maxRecDepth 20000 in
theorem fX5_35 : gw_F RX5 35 5 12 true := ⟨RX5, TX5, 23, gcX5, by decide, gw_Tb_in (i := 671) rfl rfl, rfl, rfl⟩
set_option maxRecDepth 20000 in
theorem fX5_76 : gw_F RX5 76 5 13 false := ⟨RX5, TX5, 23, gcX5, by decide, gw_Tb_in (i := 672) rfl rfl, rfl, rfl⟩
set_option maxRecDepth 20000 in
theorem fX5_38 : gw_F RX5 38 5 14 true := ⟨RX5, TX5, 23, gcX5, by decide, gw_Tb_in (i := 673) rfl rfl, rfl, rfl⟩
set_option maxRecDepth 20000 in
theorem fX5_79 : gw_F RX5 79 5 15 false := ⟨RX5, TX5, 23, gcX5, by decide, gw_Tb_in (i := 674) rfl rfl, rfl, rfl⟩
set_option maxRecDepth 20000 in
theorem fX5_86 : gw_F RX5 86 5 16 false := ⟨RX5, TX5, 23, gcX5, by decide, gw_Tb_in (i := 675) rfl rfl, rfl, rfl⟩
set_option maxRecDepth 20000 in
theorem fX5_96 : gw_F RX5 96 5 17 false := ⟨RX5, TX5, 23, gcX5, by decide, gw_Tb_in (i := 676) rfl rfl, rfl, rfl⟩
set_option maxRecDepth 20000 in
theorem fX5_41 : gw_F RX5 41 5 18 true := ⟨RX5, TX5, 23, gcX5, by decide, gw_Tb_in (i := 677) rfl rfl, rfl, rfl⟩
set_option maxRecDepth 20000 in
theorem fX5_44 : gw_F RX5 44 5 19 true := ⟨RX5, TX5, 23, gcX5, by decide, gw_Tb_in (i := 678) rfl rfl, rfl, rfl⟩
set_option maxRecDepth 20000 in
theorem fX5_47 : gw_F RX5 47 5 20 true := ⟨RX5, TX5, 23, gcX5, by decide, gw_Tb_in (i := 679) rfl rfl, rfl, rfl⟩
set_option maxRecDepth 20000 in
theorem fX5_50 : gw_F RX5 50 5 21 true := ⟨RX5, TX5, 23, gcX5, by decide, gw_Tb_in (i := 680) rfl rfl, rfl, rfl⟩
set_option maxRecDepth 20000 in
theorem fX5_183 : gw_F RX5 183 5 22 false := ⟨RX5, TX5, 23, gcX5, by decide, gw_Tb_in (i := 681) rfl rfl, rfl, rfl⟩
set_option maxRecDepth 20000 in
theorem kL_9 : gw_CI RL 9 jX4_init 0 := ⟨okX4_init, gw_Tb_in (i := 64) rfl rfl, gw_Tb_in (i := 65) rfl rfl, by unfold gw_np; decide +kernel, by decide +kernel, rfl⟩
set_option maxRecDepth 20000 in
theorem oX4_1 : Cond.methodLink RX4 1 Lib.objectInit ∈ gw_Tb := gw_Tb_in (i := 67) rfl rfl
set_option maxRecDepth 20000 in
theorem oX2_3 : Cond.methodLink RX2 3 Lib.objectInit ∈ gw_Tb := gw_Tb_in (i := 75) rfl rfl
set_option maxRecDepth 20000 in
theorem oX0_3 : Cond.methodLink RX0 3 Lib.objectInit ∈ gw_Tb := gw_Tb_in (i := 81) rfl rfl
set_option maxRecDepth 20000 in
theorem oX1_3 : Cond.methodLink RX1 3 Lib.objectInit ∈ gw_Tb := gw_Tb_in (i := 119) rfl rfl
set_option maxRecDepth 20000 in
theorem oX3_3 : Cond.methodLink RX3 3 Lib.objectInit ∈ gw_Tb := gw_Tb_in (i := 187) rfl rfl
set_option maxRecDepth 20000 in
theorem kL_13 : gw_CV RL 13 jX4_type 1 4 := ⟨okX4_type, gw_Tb_in (i := 275) rfl rfl, gw_Tb_in (i := 276) rfl rfl, gw_Tb_in (i := 277) rfl rfl, by unfold gw_np; decide +kernel, rfl, by decide⟩
set_option maxRecDepth 20000 in
theorem kX4_70 : gw_CV RX4 70 jX2_add 1 2 := ⟨okX2_add, gw_Tb_in (i := 279) rfl rfl, gw_Tb_in (i := 280) rfl rfl, gw_Tb_in (i := 281) rfl rfl, by unfold gw_np; decide +kernel, rfl, by decide⟩
set_option maxRecDepth 20000 in
theorem kL_18 : gw_CV RL 18 jX4_clear 0 4 := ⟨okX4_clear, gw_Tb_in (i := 283) rfl rfl, gw_Tb_in (i := 284) rfl rfl, gw_Tb_in (i := 285) rfl rfl, by unfold gw_np; decide +kernel, rfl, by decide⟩
set_option maxRecDepth 20000 in
theorem kL_23 : gw_CV RL 23 jX4_band 0 4 := ⟨okX4_band, gw_Tb_in (i := 287) rfl rfl, gw_Tb_in (i := 288) rfl rfl, gw_Tb_in (i := 289) rfl rfl, by unfold gw_np; decide +kernel, rfl, by decide⟩
set_option maxRecDepth 20000 in
theorem kX4_74 : gw_CV RX4 74 jX2_read 0 2 := ⟨okX2_read, gw_Tb_in (i := 291) rfl rfl, gw_Tb_in (i := 292) rfl rfl, gw_Tb_in (i := 293) rfl rfl, by unfold gw_np; decide +kernel, rfl, by decide⟩
set_option maxRecDepth 20000 in
theorem kX2_52 : gw_CV RX2 52 jX0_empty 0 0 := ⟨okX0_empty, gw_Tb_in (i := 295) rfl rfl, gw_Tb_in (i := 296) rfl rfl, gw_Tb_in (i := 297) rfl rfl, by unfold gw_np; decide +kernel, rfl, by decide⟩
set_option maxRecDepth 20000 in
theorem kX2_55 : gw_CV RX2 55 jX1_empty 0 1 := ⟨okX1_empty, gw_Tb_in (i := 299) rfl rfl, gw_Tb_in (i := 300) rfl rfl, gw_Tb_in (i := 301) rfl rfl, by unfold gw_np; decide +kernel, rfl, by decide⟩
set_option maxRecDepth 20000 in
theorem kX2_56 : gw_CV RX2 56 jX2_next 0 2 := ⟨okX2_next, gw_Tb_in (i := 303) rfl rfl, gw_Tb_in (i := 305) rfl rfl, gw_Tb_in (i := 0) rfl rfl, by unfold gw_np; decide +kernel, rfl, by decide⟩
set_option maxRecDepth 20000 in
theorem kX2_111 : gw_CS RX2 111 jX2_isFigure 1 := ⟨okX2_isFigure, gw_Tb_in (i := 307) rfl rfl, gw_Tb_in (i := 308) rfl rfl, by unfold gw_np; decide +kernel⟩
set_option maxRecDepth 20000 in
theorem kX2_114 : gw_CV RX2 114 jX2_weigh 1 2 := ⟨okX2_weigh, gw_Tb_in (i := 310) rfl rfl, gw_Tb_in (i := 312) rfl rfl, gw_Tb_in (i := 1) rfl rfl, by unfold gw_np; decide +kernel, rfl, by decide⟩
set_option maxRecDepth 20000 in
theorem kX2_59 : gw_CV RX2 59 jX2_readItem 0 2 := ⟨okX2_readItem, gw_Tb_in (i := 314) rfl rfl, gw_Tb_in (i := 316) rfl rfl, gw_Tb_in (i := 2) rfl rfl, by unfold gw_np; decide +kernel, rfl, by decide⟩
set_option maxRecDepth 20000 in
theorem kX2_69 : gw_CV RX2 69 jX2_readPlayer 1 2 := ⟨okX2_readPlayer, gw_Tb_in (i := 318) rfl rfl, gw_Tb_in (i := 320) rfl rfl, gw_Tb_in (i := 3) rfl rfl, by unfold gw_np; decide +kernel, rfl, by decide⟩
set_option maxRecDepth 20000 in
theorem kX2_79 : gw_CV RX2 79 jX0_hasRoomFor 1 0 := ⟨okX0_hasRoomFor, gw_Tb_in (i := 322) rfl rfl, gw_Tb_in (i := 323) rfl rfl, gw_Tb_in (i := 324) rfl rfl, by unfold gw_np; decide +kernel, rfl, by decide⟩
set_option maxRecDepth 20000 in
theorem kX2_82 : gw_CV RX2 82 jX2_nextIsNumber 2 2 := ⟨okX2_nextIsNumber, gw_Tb_in (i := 326) rfl rfl, gw_Tb_in (i := 328) rfl rfl, gw_Tb_in (i := 4) rfl rfl, by unfold gw_np; decide +kernel, rfl, by decide⟩
set_option maxRecDepth 20000 in
theorem kX2_98 : gw_CV RX2 98 jX2_isNumber 2 2 := ⟨okX2_isNumber, gw_Tb_in (i := 330) rfl rfl, gw_Tb_in (i := 332) rfl rfl, gw_Tb_in (i := 5) rfl rfl, by unfold gw_np; decide +kernel, rfl, by decide⟩
set_option maxRecDepth 20000 in
theorem kX2_86 : gw_CV RX2 86 jX0_add 5 0 := ⟨okX0_add, gw_Tb_in (i := 337) rfl rfl, gw_Tb_in (i := 338) rfl rfl, gw_Tb_in (i := 339) rfl rfl, by unfold gw_np; decide +kernel, rfl, by decide⟩
set_option maxRecDepth 20000 in
theorem kX0_34 : gw_CV RX0 34 jX0_hasRoomFor 1 0 := ⟨okX0_hasRoomFor, gw_Tb_in (i := 341) rfl rfl, gw_Tb_in (i := 323) rfl rfl, gw_Tb_in (i := 324) rfl rfl, by unfold gw_np; decide +kernel, rfl, by decide⟩
set_option maxRecDepth 20000 in
theorem kX2_90 : gw_CV RX2 90 jX2_nextEndsItem 0 2 := ⟨okX2_nextEndsItem, gw_Tb_in (i := 342) rfl rfl, gw_Tb_in (i := 344) rfl rfl, gw_Tb_in (i := 6) rfl rfl, by unfold gw_np; decide +kernel, rfl, by decide⟩
set_option maxRecDepth 20000 in
theorem kX2_73 : gw_CV RX2 73 jX2_readChord 0 2 := ⟨okX2_readChord, gw_Tb_in (i := 346) rfl rfl, gw_Tb_in (i := 348) rfl rfl, gw_Tb_in (i := 7) rfl rfl, by unfold gw_np; decide +kernel, rfl, by decide⟩
set_option maxRecDepth 20000 in
theorem kX2_94 : gw_CV RX2 94 jX1_put 4 1 := ⟨okX1_put, gw_Tb_in (i := 350) rfl rfl, gw_Tb_in (i := 351) rfl rfl, gw_Tb_in (i := 352) rfl rfl, by unfold gw_np; decide +kernel, rfl, by decide⟩
set_option maxRecDepth 20000 in
theorem kX2_76 : gw_CV RX2 76 jX2_readRules 0 2 := ⟨okX2_readRules, gw_Tb_in (i := 354) rfl rfl, gw_Tb_in (i := 356) rfl rfl, gw_Tb_in (i := 8) rfl rfl, by unfold gw_np; decide +kernel, rfl, by decide⟩
set_option maxRecDepth 20000 in
theorem kX4_79 : gw_CV RX4 79 jX0_become 1 0 := ⟨okX0_become, gw_Tb_in (i := 358) rfl rfl, gw_Tb_in (i := 359) rfl rfl, gw_Tb_in (i := 360) rfl rfl, by unfold gw_np; decide +kernel, rfl, by decide⟩
set_option maxRecDepth 20000 in
theorem kX0_38 : gw_CV RX0 38 jX0_empty 0 0 := ⟨okX0_empty, gw_Tb_in (i := 362) rfl rfl, gw_Tb_in (i := 296) rfl rfl, gw_Tb_in (i := 297) rfl rfl, by unfold gw_np; decide +kernel, rfl, by decide⟩
set_option maxRecDepth 20000 in
theorem kX0_41 : gw_CV RX0 41 jX0_add 5 0 := ⟨okX0_add, gw_Tb_in (i := 363) rfl rfl, gw_Tb_in (i := 338) rfl rfl, gw_Tb_in (i := 339) rfl rfl, by unfold gw_np; decide +kernel, rfl, by decide⟩
set_option maxRecDepth 20000 in
theorem kX4_86 : gw_CV RX4 86 jX1_become 1 1 := ⟨okX1_become, gw_Tb_in (i := 364) rfl rfl, gw_Tb_in (i := 365) rfl rfl, gw_Tb_in (i := 366) rfl rfl, by unfold gw_np; decide +kernel, rfl, by decide⟩
set_option maxRecDepth 20000 in
theorem kL_27 : gw_CV RL 27 jX4_player 2 4 := ⟨okX4_player, gw_Tb_in (i := 368) rfl rfl, gw_Tb_in (i := 369) rfl rfl, gw_Tb_in (i := 370) rfl rfl, by unfold gw_np; decide +kernel, rfl, by decide⟩
set_option maxRecDepth 20000 in
theorem kX4_89 : gw_CV RX4 89 jX4_isPlayer 1 4 := ⟨okX4_isPlayer, gw_Tb_in (i := 372) rfl rfl, gw_Tb_in (i := 374) rfl rfl, gw_Tb_in (i := 9) rfl rfl, by unfold gw_np; decide +kernel, rfl, by decide⟩
set_option maxRecDepth 20000 in
theorem kL_32 : gw_CV RL 32 jX4_span 1 4 := ⟨okX4_span, gw_Tb_in (i := 376) rfl rfl, gw_Tb_in (i := 377) rfl rfl, gw_Tb_in (i := 378) rfl rfl, by unfold gw_np; decide +kernel, rfl, by decide⟩
set_option maxRecDepth 20000 in
theorem kL_36 : gw_CV RL 36 jX4_chord 2 4 := ⟨okX4_chord, gw_Tb_in (i := 380) rfl rfl, gw_Tb_in (i := 381) rfl rfl, gw_Tb_in (i := 382) rfl rfl, by unfold gw_np; decide +kernel, rfl, by decide⟩
set_option maxRecDepth 20000 in
theorem kX4_111 : gw_CV RX4 111 jX4_isChord 1 4 := ⟨okX4_isChord, gw_Tb_in (i := 384) rfl rfl, gw_Tb_in (i := 386) rfl rfl, gw_Tb_in (i := 10) rfl rfl, by unfold gw_np; decide +kernel, rfl, by decide⟩
set_option maxRecDepth 20000 in
theorem kX4_114 : gw_CV RX4 114 jX1_notesOf 1 1 := ⟨okX1_notesOf, gw_Tb_in (i := 388) rfl rfl, gw_Tb_in (i := 389) rfl rfl, gw_Tb_in (i := 390) rfl rfl, by unfold gw_np; decide +kernel, rfl, by decide⟩
set_option maxRecDepth 20000 in
theorem kX1_28 : gw_CV RX1 28 jX1_noteAt 2 1 := ⟨okX1_noteAt, gw_Tb_in (i := 392) rfl rfl, gw_Tb_in (i := 393) rfl rfl, gw_Tb_in (i := 394) rfl rfl, by unfold gw_np; decide +kernel, rfl, by decide⟩
set_option maxRecDepth 20000 in
theorem kX4_118 : gw_CV RX4 118 jX1_noteAt 2 1 := ⟨okX1_noteAt, gw_Tb_in (i := 396) rfl rfl, gw_Tb_in (i := 393) rfl rfl, gw_Tb_in (i := 394) rfl rfl, by unfold gw_np; decide +kernel, rfl, by decide⟩
set_option maxRecDepth 20000 in
theorem kL_40 : gw_CV RL 40 jX4_puts 4 4 := ⟨okX4_puts, gw_Tb_in (i := 397) rfl rfl, gw_Tb_in (i := 398) rfl rfl, gw_Tb_in (i := 399) rfl rfl, by unfold gw_np; decide +kernel, rfl, by decide⟩
set_option maxRecDepth 20000 in
theorem kX4_125 : gw_CS RX4 125 jX4_areNotes 3 := ⟨okX4_areNotes, gw_Tb_in (i := 401) rfl rfl, gw_Tb_in (i := 402) rfl rfl, by unfold gw_np; decide +kernel⟩
set_option maxRecDepth 20000 in
theorem kX4_143 : gw_CS RX4 143 jX4_isWithin 3 := ⟨okX4_isWithin, gw_Tb_in (i := 404) rfl rfl, gw_Tb_in (i := 335) rfl rfl, by unfold gw_np; decide +kernel⟩
set_option maxRecDepth 20000 in
theorem kX4_129 : gw_CV RX4 129 jX1_isThat 4 1 := ⟨okX1_isThat, gw_Tb_in (i := 405) rfl rfl, gw_Tb_in (i := 406) rfl rfl, gw_Tb_in (i := 407) rfl rfl, by unfold gw_np; decide +kernel, rfl, by decide⟩
set_option maxRecDepth 20000 in
theorem kX4_133 : gw_CV RX4 133 jX4_remember 0 4 := ⟨okX4_remember, gw_Tb_in (i := 409) rfl rfl, gw_Tb_in (i := 411) rfl rfl, gw_Tb_in (i := 11) rfl rfl, by unfold gw_np; decide +kernel, rfl, by decide⟩
set_option maxRecDepth 20000 in
theorem kX4_205 : gw_CV RX4 205 jX4_forgetOldest 0 4 := ⟨okX4_forgetOldest, gw_Tb_in (i := 413) rfl rfl, gw_Tb_in (i := 415) rfl rfl, gw_Tb_in (i := 12) rfl rfl, by unfold gw_np; decide +kernel, rfl, by decide⟩
set_option maxRecDepth 20000 in
theorem kX4_136 : gw_CV RX4 136 jX1_put 4 1 := ⟨okX1_put, gw_Tb_in (i := 417) rfl rfl, gw_Tb_in (i := 351) rfl rfl, gw_Tb_in (i := 352) rfl rfl, by unfold gw_np; decide +kernel, rfl, by decide⟩
set_option maxRecDepth 20000 in
theorem kL_45 : gw_CV RL 45 jX4_takes 1 4 := ⟨okX4_takes, gw_Tb_in (i := 418) rfl rfl, gw_Tb_in (i := 419) rfl rfl, gw_Tb_in (i := 420) rfl rfl, by unfold gw_np; decide +kernel, rfl, by decide⟩
set_option maxRecDepth 20000 in
theorem kX4_140 : gw_CV RX4 140 jX1_take 1 1 := ⟨okX1_take, gw_Tb_in (i := 422) rfl rfl, gw_Tb_in (i := 423) rfl rfl, gw_Tb_in (i := 424) rfl rfl, by unfold gw_np; decide +kernel, rfl, by decide⟩
set_option maxRecDepth 20000 in
theorem kL_49 : gw_CV RL 49 jX4_calls 1 4 := ⟨okX4_calls, gw_Tb_in (i := 426) rfl rfl, gw_Tb_in (i := 427) rfl rfl, gw_Tb_in (i := 428) rfl rfl, by unfold gw_np; decide +kernel, rfl, by decide⟩
set_option maxRecDepth 20000 in
theorem kL_53 : gw_CV RL 53 jX4_tells 2 4 := ⟨okX4_tells, gw_Tb_in (i := 430) rfl rfl, gw_Tb_in (i := 431) rfl rfl, gw_Tb_in (i := 432) rfl rfl, by unfold gw_np; decide +kernel, rfl, by decide⟩
set_option maxRecDepth 20000 in
theorem kL_57 : gw_CV RL 57 jX4_undo 0 4 := ⟨okX4_undo, gw_Tb_in (i := 434) rfl rfl, gw_Tb_in (i := 435) rfl rfl, gw_Tb_in (i := 436) rfl rfl, by unfold gw_np; decide +kernel, rfl, by decide⟩
set_option maxRecDepth 20000 in
theorem kL_61 : gw_CV RL 61 jX4_could 3 4 := ⟨okX4_could, gw_Tb_in (i := 438) rfl rfl, gw_Tb_in (i := 439) rfl rfl, gw_Tb_in (i := 440) rfl rfl, by unfold gw_np; decide +kernel, rfl, by decide⟩
set_option maxRecDepth 20000 in
theorem kX4_152 : gw_CV RX4 152 jX0_manages 4 0 := ⟨okX0_manages, gw_Tb_in (i := 442) rfl rfl, gw_Tb_in (i := 443) rfl rfl, gw_Tb_in (i := 444) rfl rfl, by unfold gw_np; decide +kernel, rfl, by decide⟩
set_option maxRecDepth 20000 in
theorem kX0_45 : gw_CS RX0 45 jJ6_bitCount_0f7a4 1 := ⟨okJ6_bitCount_0f7a4, gw_Tb_in (i := 446) rfl rfl, gw_Tb_in (i := 447) rfl rfl, by unfold gw_np; decide +kernel⟩
set_option maxRecDepth 20000 in
theorem kX0_51 : gw_CV RX0 51 jX1_lowestOf 2 1 := ⟨okX1_lowestOf, gw_Tb_in (i := 452) rfl rfl, gw_Tb_in (i := 453) rfl rfl, gw_Tb_in (i := 454) rfl rfl, by unfold gw_np; decide +kernel, rfl, by decide⟩
set_option maxRecDepth 20000 in
theorem kX0_57 : gw_CV RX0 57 jX1_highestOf 2 1 := ⟨okX1_highestOf, gw_Tb_in (i := 456) rfl rfl, gw_Tb_in (i := 457) rfl rfl, gw_Tb_in (i := 458) rfl rfl, by unfold gw_np; decide +kernel, rfl, by decide⟩
set_option maxRecDepth 20000 in
theorem kL_66 : gw_CV RL 66 jX4_spreads 1 4 := ⟨okX4_spreads, gw_Tb_in (i := 460) rfl rfl, gw_Tb_in (i := 461) rfl rfl, gw_Tb_in (i := 462) rfl rfl, by unfold gw_np; decide +kernel, rfl, by decide⟩
set_option maxRecDepth 20000 in
theorem kX4_156 : gw_CV RX4 156 jX3_evenSpreads 2 3 := ⟨okX3_evenSpreads, gw_Tb_in (i := 464) rfl rfl, gw_Tb_in (i := 465) rfl rfl, gw_Tb_in (i := 466) rfl rfl, by unfold gw_np; decide +kernel, rfl, by decide⟩
set_option maxRecDepth 20000 in
theorem kX3_59 : gw_CV RX3 59 jX3_offer 2 3 := ⟨okX3_offer, gw_Tb_in (i := 468) rfl rfl, gw_Tb_in (i := 470) rfl rfl, gw_Tb_in (i := 13) rfl rfl, by unfold gw_np; decide +kernel, rfl, by decide⟩
set_option maxRecDepth 20000 in
theorem kX3_70 : gw_CV RX3 70 jX1_notesOf 1 1 := ⟨okX1_notesOf, gw_Tb_in (i := 472) rfl rfl, gw_Tb_in (i := 389) rfl rfl, gw_Tb_in (i := 390) rfl rfl, by unfold gw_np; decide +kernel, rfl, by decide⟩
set_option maxRecDepth 20000 in
theorem mX3_73 : Cond.methodLink RX3 73 Lib.Math.min.name ∈ gw_Tb := gw_Tb_in (i := 473) rfl rfl
set_option maxRecDepth 20000 in
theorem kX3_82 : gw_CV RX3 82 jX0_manages 4 0 := ⟨okX0_manages, gw_Tb_in (i := 476) rfl rfl, gw_Tb_in (i := 443) rfl rfl, gw_Tb_in (i := 444) rfl rfl, by unfold gw_np; decide +kernel, rfl, by decide⟩
set_option maxRecDepth 20000 in
theorem kX3_63 : gw_CV RX3 63 jX3_findGaps 1 3 := ⟨okX3_findGaps, gw_Tb_in (i := 477) rfl rfl, gw_Tb_in (i := 479) rfl rfl, gw_Tb_in (i := 14) rfl rfl, by unfold gw_np; decide +kernel, rfl, by decide⟩
set_option maxRecDepth 20000 in
theorem kX3_86 : gw_CV RX3 86 jX3_packedLoud 2 3 := ⟨okX3_packedLoud, gw_Tb_in (i := 481) rfl rfl, gw_Tb_in (i := 483) rfl rfl, gw_Tb_in (i := 15) rfl rfl, by unfold gw_np; decide +kernel, rfl, by decide⟩
set_option maxRecDepth 20000 in
theorem kX3_96 : gw_CV RX3 96 jX0_strength 2 0 := ⟨okX0_strength, gw_Tb_in (i := 485) rfl rfl, gw_Tb_in (i := 486) rfl rfl, gw_Tb_in (i := 487) rfl rfl, by unfold gw_np; decide +kernel, rfl, by decide⟩
set_option maxRecDepth 20000 in
theorem kX3_89 : gw_CV RX3 89 jX3_widen 3 3 := ⟨okX3_widen, gw_Tb_in (i := 489) rfl rfl, gw_Tb_in (i := 491) rfl rfl, gw_Tb_in (i := 16) rfl rfl, by unfold gw_np; decide +kernel, rfl, by decide⟩
set_option maxRecDepth 20000 in
theorem kX3_93 : gw_CS RX3 93 jX3_gapOf 2 := ⟨okX3_gapOf, gw_Tb_in (i := 493) rfl rfl, gw_Tb_in (i := 494) rfl rfl, by unfold gw_np; decide +kernel⟩
set_option maxRecDepth 20000 in
theorem mX3_100 : Cond.methodLink RX3 100 Lib.Math.max.name ∈ gw_Tb := gw_Tb_in (i := 497) rfl rfl
set_option maxRecDepth 20000 in
theorem kL_70 : gw_CV RL 70 jX4_score 1 4 := ⟨okX4_score, gw_Tb_in (i := 500) rfl rfl, gw_Tb_in (i := 501) rfl rfl, gw_Tb_in (i := 502) rfl rfl, by unfold gw_np; decide +kernel, rfl, by decide⟩
set_option maxRecDepth 20000 in
theorem kX4_159 : gw_CV RX4 159 jX4_isThereAScore 0 4 := ⟨okX4_isThereAScore, gw_Tb_in (i := 504) rfl rfl, gw_Tb_in (i := 506) rfl rfl, gw_Tb_in (i := 17) rfl rfl, by unfold gw_np; decide +kernel, rfl, by decide⟩
set_option maxRecDepth 20000 in
theorem kX4_208 : gw_CV RX4 208 jX3_findCosts 0 3 := ⟨okX3_findCosts, gw_Tb_in (i := 508) rfl rfl, gw_Tb_in (i := 509) rfl rfl, gw_Tb_in (i := 510) rfl rfl, by unfold gw_np; decide +kernel, rfl, by decide⟩
set_option maxRecDepth 20000 in
theorem kX3_124 : gw_CS RX3 124 jX3_fill 3 := ⟨okX3_fill, gw_Tb_in (i := 512) rfl rfl, gw_Tb_in (i := 513) rfl rfl, by unfold gw_np; decide +kernel⟩
set_option maxRecDepth 20000 in
theorem kX3_137 : gw_CV RX3 137 jX3_carry 3 3 := ⟨okX3_carry, gw_Tb_in (i := 515) rfl rfl, gw_Tb_in (i := 517) rfl rfl, gw_Tb_in (i := 18) rfl rfl, by unfold gw_np; decide +kernel, rfl, by decide⟩
set_option maxRecDepth 20000 in
theorem kX3_120 : gw_CV RX3 120 jX3_carryPlayer 5 3 := ⟨okX3_carryPlayer, gw_Tb_in (i := 519) rfl rfl, gw_Tb_in (i := 521) rfl rfl, gw_Tb_in (i := 19) rfl rfl, by unfold gw_np; decide +kernel, rfl, by decide⟩
set_option maxRecDepth 20000 in
theorem kX3_128 : gw_CV RX3 128 jX3_way 5 3 := ⟨okX3_way, gw_Tb_in (i := 523) rfl rfl, gw_Tb_in (i := 524) rfl rfl, gw_Tb_in (i := 525) rfl rfl, by unfold gw_np; decide +kernel, rfl, by decide⟩
set_option maxRecDepth 20000 in
theorem kX3_106 : gw_CV RX3 106 jX1_lowestOf 2 1 := ⟨okX1_lowestOf, gw_Tb_in (i := 527) rfl rfl, gw_Tb_in (i := 453) rfl rfl, gw_Tb_in (i := 454) rfl rfl, by unfold gw_np; decide +kernel, rfl, by decide⟩
set_option maxRecDepth 20000 in
theorem mX3_109 : Cond.methodLink RX3 109 Lib.Math.abs.name ∈ gw_Tb := gw_Tb_in (i := 528) rfl rfl
set_option maxRecDepth 20000 in
theorem kX3_115 : gw_CS RX3 115 jJ6_bitCount_0f7a4 1 := ⟨okJ6_bitCount_0f7a4, gw_Tb_in (i := 531) rfl rfl, gw_Tb_in (i := 447) rfl rfl, by unfold gw_np; decide +kernel⟩
set_option maxRecDepth 20000 in
theorem kX3_132 : gw_CV RX3 132 jX3_lower 5 3 := ⟨okX3_lower, gw_Tb_in (i := 532) rfl rfl, gw_Tb_in (i := 534) rfl rfl, gw_Tb_in (i := 20) rfl rfl, by unfold gw_np; decide +kernel, rfl, by decide⟩
set_option maxRecDepth 20000 in
theorem kX4_211 : gw_CV RX4 211 jX3_chooseFirst 0 3 := ⟨okX3_chooseFirst, gw_Tb_in (i := 536) rfl rfl, gw_Tb_in (i := 537) rfl rfl, gw_Tb_in (i := 538) rfl rfl, by unfold gw_np; decide +kernel, rfl, by decide⟩
set_option maxRecDepth 20000 in
theorem kX3_141 : gw_CV RX3 141 jX3_firstBest 1 3 := ⟨okX3_firstBest, gw_Tb_in (i := 540) rfl rfl, gw_Tb_in (i := 542) rfl rfl, gw_Tb_in (i := 21) rfl rfl, by unfold gw_np; decide +kernel, rfl, by decide⟩
set_option maxRecDepth 20000 in
theorem kX3_150 : gw_CV RX3 150 jX3_handIn 2 3 := ⟨okX3_handIn, gw_Tb_in (i := 544) rfl rfl, gw_Tb_in (i := 545) rfl rfl, gw_Tb_in (i := 546) rfl rfl, by unfold gw_np; decide +kernel, rfl, by decide⟩
set_option maxRecDepth 20000 in
theorem kX3_144 : gw_CV RX3 144 jX3_choose 2 3 := ⟨okX3_choose, gw_Tb_in (i := 548) rfl rfl, gw_Tb_in (i := 550) rfl rfl, gw_Tb_in (i := 22) rfl rfl, by unfold gw_np; decide +kernel, rfl, by decide⟩
set_option maxRecDepth 20000 in
theorem kX4_166 : gw_CV RX4 166 jX3_handsThatPlay 0 3 := ⟨okX3_handsThatPlay, gw_Tb_in (i := 553) rfl rfl, gw_Tb_in (i := 554) rfl rfl, gw_Tb_in (i := 555) rfl rfl, by unfold gw_np; decide +kernel, rfl, by decide⟩
set_option maxRecDepth 20000 in
theorem kX4_169 : gw_CV RX4 169 jX3_doubledNotes 0 3 := ⟨okX3_doubledNotes, gw_Tb_in (i := 557) rfl rfl, gw_Tb_in (i := 558) rfl rfl, gw_Tb_in (i := 559) rfl rfl, by unfold gw_np; decide +kernel, rfl, by decide⟩
set_option maxRecDepth 20000 in
theorem kX3_153 : gw_CV RX3 153 jX3_playersOf 2 3 := ⟨okX3_playersOf, gw_Tb_in (i := 561) rfl rfl, gw_Tb_in (i := 563) rfl rfl, gw_Tb_in (i := 23) rfl rfl, by unfold gw_np; decide +kernel, rfl, by decide⟩
set_option maxRecDepth 20000 in
theorem kL_74 : gw_CV RL 74 jX4_hand 2 4 := ⟨okX4_hand, gw_Tb_in (i := 565) rfl rfl, gw_Tb_in (i := 566) rfl rfl, gw_Tb_in (i := 567) rfl rfl, by unfold gw_np; decide +kernel, rfl, by decide⟩
set_option maxRecDepth 20000 in
theorem kX4_172 : gw_CV RX4 172 jX3_handIn 2 3 := ⟨okX3_handIn, gw_Tb_in (i := 569) rfl rfl, gw_Tb_in (i := 545) rfl rfl, gw_Tb_in (i := 546) rfl rfl, by unfold gw_np; decide +kernel, rfl, by decide⟩
set_option maxRecDepth 20000 in
theorem kL_78 : gw_CV RL 78 jX4_loud 2 4 := ⟨okX4_loud, gw_Tb_in (i := 570) rfl rfl, gw_Tb_in (i := 571) rfl rfl, gw_Tb_in (i := 572) rfl rfl, by unfold gw_np; decide +kernel, rfl, by decide⟩
set_option maxRecDepth 20000 in
theorem kX4_175 : gw_CV RX4 175 jX3_loudWithout 3 3 := ⟨okX3_loudWithout, gw_Tb_in (i := 574) rfl rfl, gw_Tb_in (i := 575) rfl rfl, gw_Tb_in (i := 576) rfl rfl, by unfold gw_np; decide +kernel, rfl, by decide⟩
set_option maxRecDepth 20000 in
theorem kL_82 : gw_CV RL 82 jX4_couldRest 1 4 := ⟨okX4_couldRest, gw_Tb_in (i := 578) rfl rfl, gw_Tb_in (i := 579) rfl rfl, gw_Tb_in (i := 580) rfl rfl, by unfold gw_np; decide +kernel, rfl, by decide⟩
set_option maxRecDepth 20000 in
theorem kX4_180 : gw_CV RX4 180 jX3_isEvenWithout 2 3 := ⟨okX3_isEvenWithout, gw_Tb_in (i := 582) rfl rfl, gw_Tb_in (i := 583) rfl rfl, gw_Tb_in (i := 584) rfl rfl, by unfold gw_np; decide +kernel, rfl, by decide⟩
set_option maxRecDepth 20000 in
theorem kX3_156 : gw_CV RX3 156 jX3_loudWithout 3 3 := ⟨okX3_loudWithout, gw_Tb_in (i := 586) rfl rfl, gw_Tb_in (i := 575) rfl rfl, gw_Tb_in (i := 576) rfl rfl, by unfold gw_np; decide +kernel, rfl, by decide⟩
set_option maxRecDepth 20000 in
theorem kL_86 : gw_CV RL 86 jX4_move 2 4 := ⟨okX4_move, gw_Tb_in (i := 587) rfl rfl, gw_Tb_in (i := 588) rfl rfl, gw_Tb_in (i := 589) rfl rfl, by unfold gw_np; decide +kernel, rfl, by decide⟩
set_option maxRecDepth 20000 in
theorem kX4_184 : gw_CV RX4 184 jX3_way 5 3 := ⟨okX3_way, gw_Tb_in (i := 591) rfl rfl, gw_Tb_in (i := 524) rfl rfl, gw_Tb_in (i := 525) rfl rfl, by unfold gw_np; decide +kernel, rfl, by decide⟩
set_option maxRecDepth 20000 in
theorem kL_90 : gw_CV RL 90 jX4_reach 0 4 := ⟨okX4_reach, gw_Tb_in (i := 592) rfl rfl, gw_Tb_in (i := 593) rfl rfl, gw_Tb_in (i := 594) rfl rfl, by unfold gw_np; decide +kernel, rfl, by decide⟩
set_option maxRecDepth 20000 in
theorem kX4_188 : gw_CV RX4 188 jX3_measure 1 3 := ⟨okX3_measure, gw_Tb_in (i := 596) rfl rfl, gw_Tb_in (i := 597) rfl rfl, gw_Tb_in (i := 598) rfl rfl, by unfold gw_np; decide +kernel, rfl, by decide⟩
set_option maxRecDepth 20000 in
theorem kX4_191 : gw_CV RX4 191 jX3_needed 1 3 := ⟨okX3_needed, gw_Tb_in (i := 600) rfl rfl, gw_Tb_in (i := 601) rfl rfl, gw_Tb_in (i := 602) rfl rfl, by unfold gw_np; decide +kernel, rfl, by decide⟩
set_option maxRecDepth 20000 in
theorem kL_94 : gw_CV RL 94 jX4_fewest 0 4 := ⟨okX4_fewest, gw_Tb_in (i := 604) rfl rfl, gw_Tb_in (i := 605) rfl rfl, gw_Tb_in (i := 606) rfl rfl, by unfold gw_np; decide +kernel, rfl, by decide⟩
set_option maxRecDepth 20000 in
theorem kX4_194 : gw_CS RX4 194 jJ6_bitCount_0f7a4 1 := ⟨okJ6_bitCount_0f7a4, gw_Tb_in (i := 608) rfl rfl, gw_Tb_in (i := 447) rfl rfl, by unfold gw_np; decide +kernel⟩
set_option maxRecDepth 20000 in
theorem kX4_199 : gw_CV RX4 199 jX4_canPlayAll 1 4 := ⟨okX4_canPlayAll, gw_Tb_in (i := 609) rfl rfl, gw_Tb_in (i := 611) rfl rfl, gw_Tb_in (i := 24) rfl rfl, by unfold gw_np; decide +kernel, rfl, by decide⟩
set_option maxRecDepth 20000 in
theorem kL_98 : gw_CV RL 98 jX4_bear 0 4 := ⟨okX4_bear, gw_Tb_in (i := 613) rfl rfl, gw_Tb_in (i := 614) rfl rfl, gw_Tb_in (i := 615) rfl rfl, by unfold gw_np; decide +kernel, rfl, by decide⟩
set_option maxRecDepth 20000 in
theorem kL_102 : gw_CV RL 102 jX4_hears 2 4 := ⟨okX4_hears, gw_Tb_in (i := 617) rfl rfl, gw_Tb_in (i := 618) rfl rfl, gw_Tb_in (i := 619) rfl rfl, by unfold gw_np; decide +kernel, rfl, by decide⟩
set_option maxRecDepth 20000 in
theorem kL_106 : gw_CV RL 106 jX4_forget 0 4 := ⟨okX4_forget, gw_Tb_in (i := 621) rfl rfl, gw_Tb_in (i := 622) rfl rfl, gw_Tb_in (i := 623) rfl rfl, by unfold gw_np; decide +kernel, rfl, by decide⟩
set_option maxRecDepth 20000 in
theorem kL_110 : gw_CV RL 110 jX4_ill 0 4 := ⟨okX4_ill, gw_Tb_in (i := 625) rfl rfl, gw_Tb_in (i := 626) rfl rfl, gw_Tb_in (i := 627) rfl rfl, by unfold gw_np; decide +kernel, rfl, by decide⟩
set_option maxRecDepth 20000 in
theorem kX4_202 : gw_CV RX4 202 jX4_fitsAllHeard 1 4 := ⟨okX4_fitsAllHeard, gw_Tb_in (i := 629) rfl rfl, gw_Tb_in (i := 631) rfl rfl, gw_Tb_in (i := 25) rfl rfl, by unfold gw_np; decide +kernel, rfl, by decide⟩
set_option maxRecDepth 20000 in
theorem kL_114 : gw_CV RL 114 jX4_keep 1 4 := ⟨okX4_keep, gw_Tb_in (i := 633) rfl rfl, gw_Tb_in (i := 634) rfl rfl, gw_Tb_in (i := 635) rfl rfl, by unfold gw_np; decide +kernel, rfl, by decide⟩
set_option maxRecDepth 20000 in
theorem kL_118 : gw_CV RL 118 jX4_back 1 4 := ⟨okX4_back, gw_Tb_in (i := 637) rfl rfl, gw_Tb_in (i := 638) rfl rfl, gw_Tb_in (i := 639) rfl rfl, by unfold gw_np; decide +kernel, rfl, by decide⟩
set_option maxRecDepth 20000 in
theorem kL_122 : gw_CV RL 122 jX4_count 1 4 := ⟨okX4_count, gw_Tb_in (i := 641) rfl rfl, gw_Tb_in (i := 642) rfl rfl, gw_Tb_in (i := 643) rfl rfl, by unfold gw_np; decide +kernel, rfl, by decide⟩
set_option maxRecDepth 20000 in
theorem kL_12 : gw_CI RL 12 jX5_init 0 := ⟨okX5_init, gw_Tb_in (i := 647) rfl rfl, gw_Tb_in (i := 648) rfl rfl, by unfold gw_np; decide +kernel, by decide +kernel, rfl⟩
set_option maxRecDepth 20000 in
theorem oX5_1 : Cond.methodLink RX5 1 Lib.objectInit ∈ gw_Tb := gw_Tb_in (i := 650) rfl rfl
set_option maxRecDepth 20000 in
theorem kX5_53 : gw_CV RX5 53 jX5_begins 0 5 := ⟨okX5_begins, gw_Tb_in (i := 651) rfl rfl, gw_Tb_in (i := 653) rfl rfl, gw_Tb_in (i := 26) rfl rfl, by unfold gw_np; decide +kernel, rfl, by decide⟩
set_option maxRecDepth 20000 in
theorem kX5_56 : gw_CV RX5 56 jX5_becomes 0 5 := ⟨okX5_becomes, gw_Tb_in (i := 655) rfl rfl, gw_Tb_in (i := 657) rfl rfl, gw_Tb_in (i := 27) rfl rfl, by unfold gw_np; decide +kernel, rfl, by decide⟩
set_option maxRecDepth 20000 in
theorem kL_17 : gw_CV RL 17 jX5_type 1 5 := ⟨okX5_type, gw_Tb_in (i := 729) rfl rfl, gw_Tb_in (i := 730) rfl rfl, gw_Tb_in (i := 731) rfl rfl, by unfold gw_np; decide +kernel, rfl, by decide⟩
set_option maxRecDepth 20000 in
theorem kX5_72 : gw_CS RX5 72 jX5_in 3 := ⟨okX5_in, gw_Tb_in (i := 733) rfl rfl, gw_Tb_in (i := 734) rfl rfl, by unfold gw_np; decide +kernel⟩
set_option maxRecDepth 20000 in
theorem kL_22 : gw_CV RL 22 jX5_clear 0 5 := ⟨okX5_clear, gw_Tb_in (i := 736) rfl rfl, gw_Tb_in (i := 737) rfl rfl, gw_Tb_in (i := 738) rfl rfl, by unfold gw_np; decide +kernel, rfl, by decide⟩
set_option maxRecDepth 20000 in
theorem kL_26 : gw_CV RL 26 jX5_band 0 5 := ⟨okX5_band, gw_Tb_in (i := 740) rfl rfl, gw_Tb_in (i := 741) rfl rfl, gw_Tb_in (i := 742) rfl rfl, by unfold gw_np; decide +kernel, rfl, by decide⟩
set_option maxRecDepth 20000 in
theorem kX5_82 : gw_CV RX5 82 jX5_here 0 5 := ⟨okX5_here, gw_Tb_in (i := 744) rfl rfl, gw_Tb_in (i := 746) rfl rfl, gw_Tb_in (i := 28) rfl rfl, by unfold gw_np; decide +kernel, rfl, by decide⟩
set_option maxRecDepth 20000 in
theorem kX5_111 : gw_CV RX5 111 jX5_item 0 5 := ⟨okX5_item, gw_Tb_in (i := 748) rfl rfl, gw_Tb_in (i := 750) rfl rfl, gw_Tb_in (i := 29) rfl rfl, by unfold gw_np; decide +kernel, rfl, by decide⟩
set_option maxRecDepth 20000 in
theorem kX5_100 : gw_CV RX5 100 jX5_readsPlayer 1 5 := ⟨okX5_readsPlayer, gw_Tb_in (i := 752) rfl rfl, gw_Tb_in (i := 754) rfl rfl, gw_Tb_in (i := 30) rfl rfl, by unfold gw_np; decide +kernel, rfl, by decide⟩
set_option maxRecDepth 20000 in
theorem kX5_89 : gw_CV RX5 89 jX5_bows 0 5 := ⟨okX5_bows, gw_Tb_in (i := 756) rfl rfl, gw_Tb_in (i := 758) rfl rfl, gw_Tb_in (i := 31) rfl rfl, by unfold gw_np; decide +kernel, rfl, by decide⟩
set_option maxRecDepth 20000 in
theorem kX5_92 : gw_CV RX5 92 jX5_reads 2 5 := ⟨okX5_reads, gw_Tb_in (i := 760) rfl rfl, gw_Tb_in (i := 762) rfl rfl, gw_Tb_in (i := 32) rfl rfl, by unfold gw_np; decide +kernel, rfl, by decide⟩
set_option maxRecDepth 20000 in
theorem kX5_104 : gw_CV RX5 104 jX5_readsChord 0 5 := ⟨okX5_readsChord, gw_Tb_in (i := 764) rfl rfl, gw_Tb_in (i := 766) rfl rfl, gw_Tb_in (i := 33) rfl rfl, by unfold gw_np; decide +kernel, rfl, by decide⟩
set_option maxRecDepth 20000 in
theorem kX5_108 : gw_CV RX5 108 jX5_readsQuiet 0 5 := ⟨okX5_readsQuiet, gw_Tb_in (i := 768) rfl rfl, gw_Tb_in (i := 770) rfl rfl, gw_Tb_in (i := 34) rfl rfl, by unfold gw_np; decide +kernel, rfl, by decide⟩
set_option maxRecDepth 20000 in
theorem kL_31 : gw_CV RL 31 jX5_player 2 5 := ⟨okX5_player, gw_Tb_in (i := 772) rfl rfl, gw_Tb_in (i := 773) rfl rfl, gw_Tb_in (i := 774) rfl rfl, by unfold gw_np; decide +kernel, rfl, by decide⟩
set_option maxRecDepth 20000 in
theorem kX5_114 : gw_CV RX5 114 jX5_isPlayer 1 5 := ⟨okX5_isPlayer, gw_Tb_in (i := 776) rfl rfl, gw_Tb_in (i := 778) rfl rfl, gw_Tb_in (i := 35) rfl rfl, by unfold gw_np; decide +kernel, rfl, by decide⟩
set_option maxRecDepth 20000 in
theorem kX5_117 : gw_CV RX5 117 jX5_isIn 1 5 := ⟨okX5_isIn, gw_Tb_in (i := 780) rfl rfl, gw_Tb_in (i := 782) rfl rfl, gw_Tb_in (i := 36) rfl rfl, by unfold gw_np; decide +kernel, rfl, by decide⟩
set_option maxRecDepth 20000 in
theorem kL_35 : gw_CV RL 35 jX5_span 1 5 := ⟨okX5_span, gw_Tb_in (i := 784) rfl rfl, gw_Tb_in (i := 785) rfl rfl, gw_Tb_in (i := 786) rfl rfl, by unfold gw_np; decide +kernel, rfl, by decide⟩
set_option maxRecDepth 20000 in
theorem kX5_120 : gw_CV RX5 120 jX5_kind 1 5 := ⟨okX5_kind, gw_Tb_in (i := 788) rfl rfl, gw_Tb_in (i := 790) rfl rfl, gw_Tb_in (i := 37) rfl rfl, by unfold gw_np; decide +kernel, rfl, by decide⟩
set_option maxRecDepth 20000 in
theorem kL_39 : gw_CV RL 39 jX5_chord 2 5 := ⟨okX5_chord, gw_Tb_in (i := 792) rfl rfl, gw_Tb_in (i := 793) rfl rfl, gw_Tb_in (i := 794) rfl rfl, by unfold gw_np; decide +kernel, rfl, by decide⟩
set_option maxRecDepth 20000 in
theorem kX5_124 : gw_CV RX5 124 jX5_isChord 1 5 := ⟨okX5_isChord, gw_Tb_in (i := 796) rfl rfl, gw_Tb_in (i := 798) rfl rfl, gw_Tb_in (i := 38) rfl rfl, by unfold gw_np; decide +kernel, rfl, by decide⟩
set_option maxRecDepth 20000 in
theorem kX5_127 : gw_CV RX5 127 jX5_notes 1 5 := ⟨okX5_notes, gw_Tb_in (i := 800) rfl rfl, gw_Tb_in (i := 802) rfl rfl, gw_Tb_in (i := 39) rfl rfl, by unfold gw_np; decide +kernel, rfl, by decide⟩
set_option maxRecDepth 20000 in
theorem kX5_130 : gw_CV RX5 130 jX5_note 2 5 := ⟨okX5_note, gw_Tb_in (i := 804) rfl rfl, gw_Tb_in (i := 806) rfl rfl, gw_Tb_in (i := 40) rfl rfl, by unfold gw_np; decide +kernel, rfl, by decide⟩
set_option maxRecDepth 20000 in
theorem kL_44 : gw_CV RL 44 jX5_puts 4 5 := ⟨okX5_puts, gw_Tb_in (i := 808) rfl rfl, gw_Tb_in (i := 809) rfl rfl, gw_Tb_in (i := 810) rfl rfl, by unfold gw_np; decide +kernel, rfl, by decide⟩
set_option maxRecDepth 20000 in
theorem kX5_134 : gw_CS RX5 134 jX5_areNotes 3 := ⟨okX5_areNotes, gw_Tb_in (i := 812) rfl rfl, gw_Tb_in (i := 813) rfl rfl, by unfold gw_np; decide +kernel⟩
set_option maxRecDepth 20000 in
theorem kX5_137 : gw_CV RX5 137 jX5_remembers 0 5 := ⟨okX5_remembers, gw_Tb_in (i := 815) rfl rfl, gw_Tb_in (i := 817) rfl rfl, gw_Tb_in (i := 41) rfl rfl, by unfold gw_np; decide +kernel, rfl, by decide⟩
set_option maxRecDepth 20000 in
theorem kL_48 : gw_CV RL 48 jX5_takes 1 5 := ⟨okX5_takes, gw_Tb_in (i := 819) rfl rfl, gw_Tb_in (i := 820) rfl rfl, gw_Tb_in (i := 821) rfl rfl, by unfold gw_np; decide +kernel, rfl, by decide⟩
set_option maxRecDepth 20000 in
theorem kL_52 : gw_CV RL 52 jX5_calls 1 5 := ⟨okX5_calls, gw_Tb_in (i := 823) rfl rfl, gw_Tb_in (i := 824) rfl rfl, gw_Tb_in (i := 825) rfl rfl, by unfold gw_np; decide +kernel, rfl, by decide⟩
set_option maxRecDepth 20000 in
theorem kL_56 : gw_CV RL 56 jX5_tells 2 5 := ⟨okX5_tells, gw_Tb_in (i := 827) rfl rfl, gw_Tb_in (i := 828) rfl rfl, gw_Tb_in (i := 829) rfl rfl, by unfold gw_np; decide +kernel, rfl, by decide⟩
set_option maxRecDepth 20000 in
theorem kL_60 : gw_CV RL 60 jX5_undo 0 5 := ⟨okX5_undo, gw_Tb_in (i := 831) rfl rfl, gw_Tb_in (i := 832) rfl rfl, gw_Tb_in (i := 833) rfl rfl, by unfold gw_np; decide +kernel, rfl, by decide⟩
set_option maxRecDepth 20000 in
theorem kL_65 : gw_CV RL 65 jX5_could 3 5 := ⟨okX5_could, gw_Tb_in (i := 835) rfl rfl, gw_Tb_in (i := 836) rfl rfl, gw_Tb_in (i := 837) rfl rfl, by unfold gw_np; decide +kernel, rfl, by decide⟩
set_option maxRecDepth 20000 in
theorem kX5_149 : gw_CV RX5 149 jX5_isHand 3 5 := ⟨okX5_isHand, gw_Tb_in (i := 839) rfl rfl, gw_Tb_in (i := 841) rfl rfl, gw_Tb_in (i := 42) rfl rfl, by unfold gw_np; decide +kernel, rfl, by decide⟩
set_option maxRecDepth 20000 in
theorem kX5_140 : gw_CS RX5 140 jX5_lowest 1 := ⟨okX5_lowest, gw_Tb_in (i := 843) rfl rfl, gw_Tb_in (i := 844) rfl rfl, by unfold gw_np; decide +kernel⟩
set_option maxRecDepth 20000 in
theorem kX5_143 : gw_CS RX5 143 jX5_highest 1 := ⟨okX5_highest, gw_Tb_in (i := 846) rfl rfl, gw_Tb_in (i := 847) rfl rfl, by unfold gw_np; decide +kernel⟩
set_option maxRecDepth 20000 in
theorem kX5_146 : gw_CS RX5 146 jX5_ones 1 := ⟨okX5_ones, gw_Tb_in (i := 849) rfl rfl, gw_Tb_in (i := 850) rfl rfl, by unfold gw_np; decide +kernel⟩
set_option maxRecDepth 20000 in
theorem kL_69 : gw_CV RL 69 jX5_spreads 1 5 := ⟨okX5_spreads, gw_Tb_in (i := 852) rfl rfl, gw_Tb_in (i := 853) rfl rfl, gw_Tb_in (i := 854) rfl rfl, by unfold gw_np; decide +kernel, rfl, by decide⟩
set_option maxRecDepth 20000 in
theorem kX5_166 : gw_CV RX5 166 jX5_laysSpreads 3 5 := ⟨okX5_laysSpreads, gw_Tb_in (i := 856) rfl rfl, gw_Tb_in (i := 858) rfl rfl, gw_Tb_in (i := 43) rfl rfl, by unfold gw_np; decide +kernel, rfl, by decide⟩
set_option maxRecDepth 20000 in
theorem kX5_162 : gw_CV RX5 162 jX5_isSpread 4 5 := ⟨okX5_isSpread, gw_Tb_in (i := 860) rfl rfl, gw_Tb_in (i := 862) rfl rfl, gw_Tb_in (i := 44) rfl rfl, by unfold gw_np; decide +kernel, rfl, by decide⟩
set_option maxRecDepth 20000 in
theorem kX5_152 : gw_CS RX5 152 jX5_handOf 2 := ⟨okX5_handOf, gw_Tb_in (i := 864) rfl rfl, gw_Tb_in (i := 865) rfl rfl, by unfold gw_np; decide +kernel⟩
set_option maxRecDepth 20000 in
theorem kX5_159 : gw_CV RX5 159 jX5_isEven 3 5 := ⟨okX5_isEven, gw_Tb_in (i := 867) rfl rfl, gw_Tb_in (i := 869) rfl rfl, gw_Tb_in (i := 45) rfl rfl, by unfold gw_np; decide +kernel, rfl, by decide⟩
set_option maxRecDepth 20000 in
theorem kX5_156 : gw_CV RX5 156 jX5_loudOf 2 5 := ⟨okX5_loudOf, gw_Tb_in (i := 872) rfl rfl, gw_Tb_in (i := 874) rfl rfl, gw_Tb_in (i := 46) rfl rfl, by unfold gw_np; decide +kernel, rfl, by decide⟩
set_option maxRecDepth 20000 in
theorem kL_73 : gw_CV RL 73 jX5_score 1 5 := ⟨okX5_score, gw_Tb_in (i := 876) rfl rfl, gw_Tb_in (i := 877) rfl rfl, gw_Tb_in (i := 878) rfl rfl, by unfold gw_np; decide +kernel, rfl, by decide⟩
set_option maxRecDepth 20000 in
theorem kX5_186 : gw_CV RX5 186 jX5_laysFirst 0 5 := ⟨okX5_laysFirst, gw_Tb_in (i := 880) rfl rfl, gw_Tb_in (i := 882) rfl rfl, gw_Tb_in (i := 47) rfl rfl, by unfold gw_np; decide +kernel, rfl, by decide⟩
set_option maxRecDepth 20000 in
theorem kX5_180 : gw_CV RX5 180 jX5_laysScore 3 5 := ⟨okX5_laysScore, gw_Tb_in (i := 884) rfl rfl, gw_Tb_in (i := 886) rfl rfl, gw_Tb_in (i := 48) rfl rfl, by unfold gw_np; decide +kernel, rfl, by decide⟩
set_option maxRecDepth 20000 in
theorem kX5_177 : gw_CV RX5 177 jX5_leastBehind 3 5 := ⟨okX5_leastBehind, gw_Tb_in (i := 888) rfl rfl, gw_Tb_in (i := 890) rfl rfl, gw_Tb_in (i := 49) rfl rfl, by unfold gw_np; decide +kernel, rfl, by decide⟩
set_option maxRecDepth 20000 in
theorem kX5_174 : gw_CV RX5 174 jX5_movesOf 3 5 := ⟨okX5_movesOf, gw_Tb_in (i := 892) rfl rfl, gw_Tb_in (i := 894) rfl rfl, gw_Tb_in (i := 50) rfl rfl, by unfold gw_np; decide +kernel, rfl, by decide⟩
set_option maxRecDepth 20000 in
theorem kX5_170 : gw_CV RX5 170 jX5_moveOf 3 5 := ⟨okX5_moveOf, gw_Tb_in (i := 896) rfl rfl, gw_Tb_in (i := 898) rfl rfl, gw_Tb_in (i := 51) rfl rfl, by unfold gw_np; decide +kernel, rfl, by decide⟩
set_option maxRecDepth 20000 in
theorem kX5_189 : gw_CV RX5 189 jX5_playing 2 5 := ⟨okX5_playing, gw_Tb_in (i := 900) rfl rfl, gw_Tb_in (i := 902) rfl rfl, gw_Tb_in (i := 52) rfl rfl, by unfold gw_np; decide +kernel, rfl, by decide⟩
set_option maxRecDepth 20000 in
theorem kL_77 : gw_CV RL 77 jX5_hand 2 5 := ⟨okX5_hand, gw_Tb_in (i := 904) rfl rfl, gw_Tb_in (i := 905) rfl rfl, gw_Tb_in (i := 906) rfl rfl, by unfold gw_np; decide +kernel, rfl, by decide⟩
set_option maxRecDepth 20000 in
theorem kL_81 : gw_CV RL 81 jX5_loud 2 5 := ⟨okX5_loud, gw_Tb_in (i := 908) rfl rfl, gw_Tb_in (i := 909) rfl rfl, gw_Tb_in (i := 910) rfl rfl, by unfold gw_np; decide +kernel, rfl, by decide⟩
set_option maxRecDepth 20000 in
theorem kL_85 : gw_CV RL 85 jX5_couldRest 1 5 := ⟨okX5_couldRest, gw_Tb_in (i := 912) rfl rfl, gw_Tb_in (i := 913) rfl rfl, gw_Tb_in (i := 914) rfl rfl, by unfold gw_np; decide +kernel, rfl, by decide⟩
set_option maxRecDepth 20000 in
theorem kL_89 : gw_CV RL 89 jX5_move 2 5 := ⟨okX5_move, gw_Tb_in (i := 916) rfl rfl, gw_Tb_in (i := 917) rfl rfl, gw_Tb_in (i := 918) rfl rfl, by unfold gw_np; decide +kernel, rfl, by decide⟩
set_option maxRecDepth 20000 in
theorem kL_93 : gw_CV RL 93 jX5_reach 0 5 := ⟨okX5_reach, gw_Tb_in (i := 920) rfl rfl, gw_Tb_in (i := 921) rfl rfl, gw_Tb_in (i := 922) rfl rfl, by unfold gw_np; decide +kernel, rfl, by decide⟩
set_option maxRecDepth 20000 in
theorem kL_97 : gw_CV RL 97 jX5_fewest 0 5 := ⟨okX5_fewest, gw_Tb_in (i := 924) rfl rfl, gw_Tb_in (i := 925) rfl rfl, gw_Tb_in (i := 926) rfl rfl, by unfold gw_np; decide +kernel, rfl, by decide⟩
set_option maxRecDepth 20000 in
theorem kX5_192 : gw_CS RX5 192 jX5_bits 1 := ⟨okX5_bits, gw_Tb_in (i := 928) rfl rfl, gw_Tb_in (i := 929) rfl rfl, by unfold gw_np; decide +kernel⟩
set_option maxRecDepth 20000 in
theorem kL_101 : gw_CV RL 101 jX5_bear 0 5 := ⟨okX5_bear, gw_Tb_in (i := 931) rfl rfl, gw_Tb_in (i := 932) rfl rfl, gw_Tb_in (i := 933) rfl rfl, by unfold gw_np; decide +kernel, rfl, by decide⟩
set_option maxRecDepth 20000 in
theorem kL_105 : gw_CV RL 105 jX5_hears 2 5 := ⟨okX5_hears, gw_Tb_in (i := 935) rfl rfl, gw_Tb_in (i := 936) rfl rfl, gw_Tb_in (i := 937) rfl rfl, by unfold gw_np; decide +kernel, rfl, by decide⟩
set_option maxRecDepth 20000 in
theorem kL_109 : gw_CV RL 109 jX5_forget 0 5 := ⟨okX5_forget, gw_Tb_in (i := 939) rfl rfl, gw_Tb_in (i := 940) rfl rfl, gw_Tb_in (i := 941) rfl rfl, by unfold gw_np; decide +kernel, rfl, by decide⟩
set_option maxRecDepth 20000 in
theorem kL_113 : gw_CV RL 113 jX5_ill 0 5 := ⟨okX5_ill, gw_Tb_in (i := 943) rfl rfl, gw_Tb_in (i := 944) rfl rfl, gw_Tb_in (i := 945) rfl rfl, by unfold gw_np; decide +kernel, rfl, by decide⟩
set_option maxRecDepth 20000 in
theorem kL_117 : gw_CV RL 117 jX5_keep 1 5 := ⟨okX5_keep, gw_Tb_in (i := 947) rfl rfl, gw_Tb_in (i := 948) rfl rfl, gw_Tb_in (i := 949) rfl rfl, by unfold gw_np; decide +kernel, rfl, by decide⟩
set_option maxRecDepth 20000 in
theorem kL_121 : gw_CV RL 121 jX5_back 1 5 := ⟨okX5_back, gw_Tb_in (i := 951) rfl rfl, gw_Tb_in (i := 952) rfl rfl, gw_Tb_in (i := 953) rfl rfl, by unfold gw_np; decide +kernel, rfl, by decide⟩
set_option maxRecDepth 20000 in
theorem kL_125 : gw_CV RL 125 jX5_count 1 5 := ⟨okX5_count, gw_Tb_in (i := 955) rfl rfl, gw_Tb_in (i := 956) rfl rfl, gw_Tb_in (i := 957) rfl rfl, by unfold gw_np; decide +kernel, rfl, by decide⟩
set_option maxRecDepth 20000 in
theorem kX4_9 : gw_CIN RX4 9 jX2_init 0 := ⟨okX2_init, ⟨"ChordSpreads", List.mem_of_getElem? (i := 19) rfl⟩, gw_Tb_in (i := 73) rfl rfl, by unfold gw_np; decide +kernel, by decide +kernel, rfl⟩
set_option maxRecDepth 20000 in
theorem kX2_11 : gw_CIN RX2 11 jX0_init 0 := ⟨okX0_init, ⟨"ChordSpreads", List.mem_of_getElem? (i := 25) rfl⟩, gw_Tb_in (i := 79) rfl rfl, by unfold gw_np; decide +kernel, by decide +kernel, rfl⟩
set_option maxRecDepth 20000 in
theorem kX2_20 : gw_CIN RX2 20 jX1_init 0 := ⟨okX1_init, ⟨"ChordSpreads", List.mem_of_getElem? (i := 63) rfl⟩, gw_Tb_in (i := 117) rfl rfl, by unfold gw_np; decide +kernel, by decide +kernel, rfl⟩
set_option maxRecDepth 20000 in
theorem kX4_18 : gw_CIN RX4 18 jX3_init 0 := ⟨okX3_init, ⟨"ChordSpreads", List.mem_of_getElem? (i := 131) rfl⟩, gw_Tb_in (i := 185) rfl rfl, by unfold gw_np; decide +kernel, by decide +kernel, rfl⟩
set_option maxRecDepth 20000 in
theorem kX3_11 : gw_CIN RX3 11 jX0_init 0 := ⟨okX0_init, ⟨"ChordSpreads", List.mem_of_getElem? (i := 136) rfl⟩, gw_Tb_in (i := 79) rfl rfl, by unfold gw_np; decide +kernel, by decide +kernel, rfl⟩
set_option maxRecDepth 20000 in
theorem kX3_20 : gw_CIN RX3 20 jX1_init 0 := ⟨okX1_init, ⟨"ChordSpreads", List.mem_of_getElem? (i := 138) rfl⟩, gw_Tb_in (i := 117) rfl rfl, by unfold gw_np; decide +kernel, by decide +kernel, rfl⟩
set_option maxRecDepth 20000 in
theorem kX4_66 : gw_CIN RX4 66 jX1_init 0 := ⟨okX1_init, ⟨"ChordSpreads", List.mem_of_getElem? (i := 183) rfl⟩, gw_Tb_in (i := 117) rfl rfl, by unfold gw_np; decide +kernel, by decide +kernel, rfl⟩
set_option maxRecDepth 20000 in
theorem kX2_107 : gw_CSN RX2 107 jX4_isWithin 3 := ⟨okX4_isWithin, ⟨"ChordSpreads", List.mem_of_getElem? (i := 281) rfl⟩, gw_Tb_in (i := 335) rfl rfl, by unfold gw_np; decide +kernel⟩
set_option maxRecDepth 20000 in
theorem nJ6_265 : Cond.constant RJ6 265 (Int32.ofInt 1431655765) ∈ gw_Tb := gw_Tb_in (i := 449) rfl rfl
set_option maxRecDepth 20000 in
theorem nJ6_266 : Cond.constant RJ6 266 (Int32.ofInt 858993459) ∈ gw_Tb := gw_Tb_in (i := 450) rfl rfl
set_option maxRecDepth 20000 in
theorem nJ6_267 : Cond.constant RJ6 267 (Int32.ofInt 252645135) ∈ gw_Tb := gw_Tb_in (i := 451) rfl rfl
set_option maxRecDepth 20000 in
theorem nX3_99 : Cond.constant RX3 99 (Int32.ofInt 67108864) ∈ gw_Tb := gw_Tb_in (i := 496) rfl rfl
set_option maxRecDepth 20000 in
theorem nX4_214 : Cond.constant RX4 214 (Int32.ofInt 67108864) ∈ gw_Tb := gw_Tb_in (i := 552) rfl rfl
set_option maxRecDepth 20000 in
theorem nX5_155 : Cond.constant RX5 155 (Int32.ofInt 1000000) ∈ gw_Tb := gw_Tb_in (i := 871) rfl rfl
set_option maxRecDepth 20000 in
theorem lL_7 : Cond.classLink RL 7 RX4 ∈ gw_Tb := gw_Tb_in (i := 62) rfl rfl
set_option maxRecDepth 20000 in
theorem lX4_7 : Cond.classLink RX4 7 RX2 ∈ gw_Tb := gw_Tb_in (i := 70) rfl rfl
set_option maxRecDepth 20000 in
theorem lX2_9 : Cond.classLink RX2 9 RX0 ∈ gw_Tb := gw_Tb_in (i := 76) rfl rfl
set_option maxRecDepth 20000 in
theorem lX2_18 : Cond.classLink RX2 18 RX1 ∈ gw_Tb := gw_Tb_in (i := 114) rfl rfl
set_option maxRecDepth 20000 in
theorem lX4_16 : Cond.classLink RX4 16 RX3 ∈ gw_Tb := gw_Tb_in (i := 182) rfl rfl
set_option maxRecDepth 20000 in
theorem lX3_9 : Cond.classLink RX3 9 RX0 ∈ gw_Tb := gw_Tb_in (i := 188) rfl rfl
set_option maxRecDepth 20000 in
theorem lX3_18 : Cond.classLink RX3 18 RX1 ∈ gw_Tb := gw_Tb_in (i := 190) rfl rfl
set_option maxRecDepth 20000 in
theorem lX3_29 : Cond.classLink RX3 29 "[[I" ∈ gw_Tb := gw_Tb_in (i := 192) rfl rfl
set_option maxRecDepth 20000 in
theorem lX4_35 : Cond.classLink RX4 35 RX1 ∈ gw_Tb := gw_Tb_in (i := 234) rfl rfl
set_option maxRecDepth 20000 in
theorem lL_10 : Cond.classLink RL 10 RX5 ∈ gw_Tb := gw_Tb_in (i := 645) rfl rfl
set_option maxRecDepth 20000 in
theorem mm_max1 : Cond.static Lib.Math.max.name ∈ gw_Tb := gw_Tb_in (i := 498) rfl rfl
set_option maxRecDepth 20000 in
theorem mm_max2 : Cond.code Lib.Math.max.name Lib.Math.max.code 2 (some .int) ∈ gw_Tb := gw_Tb_in (i := 499) rfl rfl
set_option maxRecDepth 20000 in
theorem mm_min1 : Cond.static Lib.Math.min.name ∈ gw_Tb := gw_Tb_in (i := 474) rfl rfl
set_option maxRecDepth 20000 in
theorem mm_min2 : Cond.code Lib.Math.min.name Lib.Math.min.code 2 (some .int) ∈ gw_Tb := gw_Tb_in (i := 475) rfl rfl
set_option maxRecDepth 20000 in
theorem mm_abs1 : Cond.static Lib.Math.abs.name ∈ gw_Tb := gw_Tb_in (i := 529) rfl rfl
set_option maxRecDepth 20000 in
theorem mm_abs2 : Cond.code Lib.Math.abs.name Lib.Math.abs.code 1 (some .int) ∈ gw_Tb := gw_Tb_in (i := 530) rfl rfl
set_option maxRecDepth 20000 in
theorem mm_ini : Cond.initialized "java/lang/Math" ∈ gw_Tb := gw_Tb_in (i := 61) rfl rfl
set_option maxRecDepth 20000 in
theorem oo_1 : Cond.instanceMethod Lib.objectInit ∈ gw_Tb := gw_Tb_in (i := 68) rfl rfl
set_option maxRecDepth 20000 in
theorem oo_2 : Cond.code Lib.objectInit ⟨#[0xb1]⟩ 1 none ∈ gw_Tb := gw_Tb_in (i := 69) rfl rfl
set_option maxRecDepth 20000 in
theorem aa_i : Cond.arrayClass .int ∈ gw_Tb := gw_Tb_in (i := 113) rfl rfl
set_option maxRecDepth 20000 in
theorem aa_z : Cond.arrayClass .boolean ∈ gw_Tb := gw_Tb_in (i := 274) rfl rfl
