/-! ===== what the instructions link, by program ===== -/
theorem KX0 : KCl 0 (RX0, TX0, 4) tyX0 := ⟨rfl, by decide +kernel, tyX0_ok, nmX0⟩
theorem KX1 : KCl 1 (RX1, TX1, 9) tyX1 := ⟨rfl, by decide +kernel, tyX1_ok, nmX1⟩
theorem KX2 : KCl 2 (RX2, TX2, 2) tyX2 := ⟨rfl, by decide +kernel, tyX2_ok, nmX2⟩
theorem KX3 : KCl 3 (RX3, TX3, 6) tyX3 := ⟨rfl, by decide +kernel, tyX3_ok, nmX3⟩
theorem KX4 : KCl 4 (RX4, TX4, 2) tyX4 := ⟨rfl, by decide +kernel, tyX4_ok, nmX4⟩
theorem KX5 : KCl 5 (RX5, TX5, 3) tyX5 := ⟨rfl, by decide +kernel, tyX5_ok, nmX5⟩
theorem KX6 : KCl 6 (RX6, TX6, 5) tyX6 := ⟨rfl, by decide +kernel, tyX6_ok, nmX6⟩
theorem KX7 : KCl 7 (RX7, TX7, 20) tyX7 := ⟨rfl, by decide +kernel, tyX7_ok, nmX7⟩
abbrev XX6_init : MX := (RX6, cX6_init, 1, none, true)
theorem mX6_init : kM yX6_init XX6_init 0 := ⟨WT_of 70 (by decide +kernel) (by decide +kernel), WT_of 55 (by decide +kernel) (by decide +kernel), by decide +kernel, by decide +kernel, by decide +kernel⟩
abbrev XX1_init : MX := (RX1, cX1_init, 1, none, true)
theorem mX1_init : kM yX1_init XX1_init 0 := ⟨WT_of 78 (by decide +kernel) (by decide +kernel), WT_of 56 (by decide +kernel) (by decide +kernel), by decide +kernel, by decide +kernel, by decide +kernel⟩
abbrev XX0_init : MX := (RX0, cX0_init, 1, none, true)
theorem mX0_init : kM yX0_init XX0_init 0 := ⟨WT_of 84 (by decide +kernel) (by decide +kernel), WT_of 57 (by decide +kernel) (by decide +kernel), by decide +kernel, by decide +kernel, by decide +kernel⟩
abbrev XJ7_fill_53178 : MX := (RJ7, cJ7_fill_53178, 4, none, false)
theorem mJ7_fill_53178 : kM yJ7_fill_53178 XJ7_fill_53178 2 := ⟨WT_of 88 (by decide +kernel) (by decide +kernel), WT_of 58 (by decide +kernel) (by decide +kernel), by decide +kernel, by decide +kernel, by decide +kernel⟩
abbrev XX2_init : MX := (RX2, cX2_init, 1, none, true)
theorem mX2_init : kM yX2_init XX2_init 0 := ⟨WT_of 149 (by decide +kernel) (by decide +kernel), WT_of 59 (by decide +kernel) (by decide +kernel), by decide +kernel, by decide +kernel, by decide +kernel⟩
abbrev XX4_init : MX := (RX4, cX4_init, 1, none, true)
theorem mX4_init : kM yX4_init XX4_init 0 := ⟨WT_of 165 (by decide +kernel) (by decide +kernel), WT_of 60 (by decide +kernel) (by decide +kernel), by decide +kernel, by decide +kernel, by decide +kernel⟩
abbrev XX5_init : MX := (RX5, cX5_init, 2, none, true)
theorem mX5_init : kM yX5_init XX5_init 1 := ⟨WT_of 180 (by decide +kernel) (by decide +kernel), WT_of 61 (by decide +kernel) (by decide +kernel), by decide +kernel, by decide +kernel, by decide +kernel⟩
abbrev XX3_init : MX := (RX3, cX3_init, 1, none, true)
theorem mX3_init : kM yX3_init XX3_init 0 := ⟨WT_of 188 (by decide +kernel) (by decide +kernel), WT_of 62 (by decide +kernel) (by decide +kernel), by decide +kernel, by decide +kernel, by decide +kernel⟩
abbrev XX1_start : MX := (RX1, cX1_start, 2, none, false)
theorem mX1_start : kM yX1_start XX1_start 1 := ⟨WT_of 226 (by decide +kernel) (by decide +kernel), WT_of 56 (by decide +kernel) (by decide +kernel), by decide +kernel, by decide +kernel, by decide +kernel⟩
abbrev XX0_empty : MX := (RX0, cX0_empty, 1, none, false)
theorem mX0_empty : kM yX0_empty XX0_empty 0 := ⟨WT_of 230 (by decide +kernel) (by decide +kernel), WT_of 57 (by decide +kernel) (by decide +kernel), by decide +kernel, by decide +kernel, by decide +kernel⟩
abbrev XX0_fillRow : MX := (RX0, cX0_fillRow, 4, none, false)
theorem mX0_fillRow : kM yX0_fillRow XX0_fillRow 2 := ⟨WT_of 234 (by decide +kernel) (by decide +kernel), WT_of 57 (by decide +kernel) (by decide +kernel), by decide +kernel, by decide +kernel, by decide +kernel⟩
abbrev XX0_place : MX := (RX0, cX0_place, 3, none, false)
theorem mX0_place : kM yX0_place XX0_place 2 := ⟨WT_of 238 (by decide +kernel) (by decide +kernel), WT_of 57 (by decide +kernel) (by decide +kernel), by decide +kernel, by decide +kernel, by decide +kernel⟩
abbrev XX0_addToNumber : MX := (RX0, cX0_addToNumber, 3, none, false)
theorem mX0_addToNumber : kM yX0_addToNumber XX0_addToNumber 2 := ⟨WT_of 242 (by decide +kernel) (by decide +kernel), WT_of 57 (by decide +kernel) (by decide +kernel), by decide +kernel, by decide +kernel, by decide +kernel⟩
abbrev XX1_startFromHere : MX := (RX1, cX1_startFromHere, 1, none, false)
theorem mX1_startFromHere : kM yX1_startFromHere XX1_startFromHere 0 := ⟨WT_of 247 (by decide +kernel) (by decide +kernel), WT_of 56 (by decide +kernel) (by decide +kernel), by decide +kernel, by decide +kernel, by decide +kernel⟩
abbrev XX1_keepPosition : MX := (RX1, cX1_keepPosition, 3, none, false)
theorem mX1_keepPosition : kM yX1_keepPosition XX1_keepPosition 0 := ⟨WT_of 251 (by decide +kernel) (by decide +kernel), WT_of 56 (by decide +kernel) (by decide +kernel), by decide +kernel, by decide +kernel, by decide +kernel⟩
abbrev XX0_third : MX := (RX0, cX0_third, 7, some .long, false)
theorem mX0_third : kM yX0_third XX0_third 1 := ⟨WT_of 255 (by decide +kernel) (by decide +kernel), WT_of 57 (by decide +kernel) (by decide +kernel), by decide +kernel, by decide +kernel, by decide +kernel⟩
abbrev XX0_pieceAt : MX := (RX0, cX0_pieceAt, 2, some .int, false)
theorem mX0_pieceAt : kM yX0_pieceAt XX0_pieceAt 1 := ⟨WT_of 259 (by decide +kernel) (by decide +kernel), WT_of 57 (by decide +kernel) (by decide +kernel), by decide +kernel, by decide +kernel, by decide +kernel⟩
abbrev XX1_judge : MX := (RX1, cX1_judge, 1, none, false)
theorem mX1_judge : kM yX1_judge XX1_judge 0 := ⟨WT_of 263 (by decide +kernel) (by decide +kernel), WT_of 56 (by decide +kernel) (by decide +kernel), by decide +kernel, by decide +kernel, by decide +kernel⟩
abbrev XX0_hasHop : MX := (RX0, cX0_hasHop, 5, some .boolean, false)
theorem mX0_hasHop : kM yX0_hasHop XX0_hasHop 0 := ⟨WT_of 267 (by decide +kernel) (by decide +kernel), WT_of 57 (by decide +kernel) (by decide +kernel), by decide +kernel, by decide +kernel, by decide +kernel⟩
abbrev XX6_sideOf : MX := (RX6, cX6_sideOf, 1, some .int, false)
theorem mX6_sideOf : kM yX6_sideOf XX6_sideOf 1 := ⟨WT_of 270 (by decide +kernel) (by decide +kernel), WT_of 55 (by decide +kernel) (by decide +kernel), by decide +kernel, by decide +kernel, by decide +kernel⟩
abbrev XX6_mayGo : MX := (RX6, cX6_mayGo, 2, some .boolean, false)
theorem mX6_mayGo : kM yX6_mayGo XX6_mayGo 2 := ⟨WT_of 273 (by decide +kernel) (by decide +kernel), WT_of 55 (by decide +kernel) (by decide +kernel), by decide +kernel, by decide +kernel, by decide +kernel⟩
abbrev XX6_squareAfter : MX := (RX6, cX6_squareAfter, 5, some .int, false)
theorem mX6_squareAfter : kM yX6_squareAfter XX6_squareAfter 3 := ⟨WT_of 276 (by decide +kernel) (by decide +kernel), WT_of 55 (by decide +kernel) (by decide +kernel), by decide +kernel, by decide +kernel, by decide +kernel⟩
abbrev XX6_rowOf : MX := (RX6, cX6_rowOf, 1, some .int, false)
theorem mX6_rowOf : kM yX6_rowOf XX6_rowOf 1 := ⟨WT_of 279 (by decide +kernel) (by decide +kernel), WT_of 55 (by decide +kernel) (by decide +kernel), by decide +kernel, by decide +kernel, by decide +kernel⟩
abbrev XX6_columnOf : MX := (RX6, cX6_columnOf, 1, some .int, false)
theorem mX6_columnOf : kM yX6_columnOf XX6_columnOf 1 := ⟨WT_of 282 (by decide +kernel) (by decide +kernel), WT_of 55 (by decide +kernel) (by decide +kernel), by decide +kernel, by decide +kernel, by decide +kernel⟩
abbrev XJ9_floorMod_7cf53 : MX := (RJ9, cJ9_floorMod_7cf53, 3, some .int, false)
theorem mJ9_floorMod_7cf53 : kM yJ9_floorMod_7cf53 XJ9_floorMod_7cf53 2 := ⟨WT_of 285 (by decide +kernel) (by decide +kernel), WT_of 63 (by decide +kernel) (by decide +kernel), by decide +kernel, by decide +kernel, by decide +kernel⟩
abbrev XX0_stepsToPrey : MX := (RX0, cX0_stepsToPrey, 8, some .int, false)
theorem mX0_stepsToPrey : kM yX0_stepsToPrey XX0_stepsToPrey 2 := ⟨WT_of 289 (by decide +kernel) (by decide +kernel), WT_of 57 (by decide +kernel) (by decide +kernel), by decide +kernel, by decide +kernel, by decide +kernel⟩
abbrev XX6_isKing : MX := (RX6, cX6_isKing, 1, some .boolean, false)
theorem mX6_isKing : kM yX6_isKing XX6_isKing 1 := ⟨WT_of 292 (by decide +kernel) (by decide +kernel), WT_of 55 (by decide +kernel) (by decide +kernel), by decide +kernel, by decide +kernel, by decide +kernel⟩
abbrev XX6_wonBy : MX := (RX6, cX6_wonBy, 1, some .int, false)
theorem mX6_wonBy : kM yX6_wonBy XX6_wonBy 1 := ⟨WT_of 295 (by decide +kernel) (by decide +kernel), WT_of 55 (by decide +kernel) (by decide +kernel), by decide +kernel, by decide +kernel, by decide +kernel⟩
abbrev XX1_timesOfNow : MX := (RX1, cX1_timesOfNow, 3, some .int, false)
theorem mX1_timesOfNow : kM yX1_timesOfNow XX1_timesOfNow 0 := ⟨WT_of 299 (by decide +kernel) (by decide +kernel), WT_of 56 (by decide +kernel) (by decide +kernel), by decide +kernel, by decide +kernel, by decide +kernel⟩
abbrev XX1_isSamePosition : MX := (RX1, cX1_isSamePosition, 6, some .boolean, false)
theorem mX1_isSamePosition : kM yX1_isSamePosition XX1_isSamePosition 2 := ⟨WT_of 303 (by decide +kernel) (by decide +kernel), WT_of 56 (by decide +kernel) (by decide +kernel), by decide +kernel, by decide +kernel, by decide +kernel⟩
abbrev XJ9_min_7cf53 : MX := (RJ9, cJ9_min_7cf53, 2, some .int, false)
theorem mJ9_min_7cf53 : kM yJ9_min_7cf53 XJ9_min_7cf53 2 := ⟨WT_of 306 (by decide +kernel) (by decide +kernel), WT_of 63 (by decide +kernel) (by decide +kernel), by decide +kernel, by decide +kernel, by decide +kernel⟩
abbrev XJ9_max_7cf53 : MX := (RJ9, cJ9_max_7cf53, 2, some .int, false)
theorem mJ9_max_7cf53 : kM yJ9_max_7cf53 XJ9_max_7cf53 2 := ⟨WT_of 309 (by decide +kernel) (by decide +kernel), WT_of 63 (by decide +kernel) (by decide +kernel), by decide +kernel, by decide +kernel, by decide +kernel⟩
abbrev XX6_clock : MX := (RX6, cX6_clock, 3, some .int, false)
theorem mX6_clock : kM yX6_clock XX6_clock 1 := ⟨WT_of 329 (by decide +kernel) (by decide +kernel), WT_of 55 (by decide +kernel) (by decide +kernel), by decide +kernel, by decide +kernel, by decide +kernel⟩
abbrev XX2_keep : MX := (RX2, cX2_keep, 3, none, false)
theorem mX2_keep : kM yX2_keep XX2_keep 1 := ⟨WT_of 333 (by decide +kernel) (by decide +kernel), WT_of 59 (by decide +kernel) (by decide +kernel), by decide +kernel, by decide +kernel, by decide +kernel⟩
abbrev XX2_dropOldest : MX := (RX2, cX2_dropOldest, 3, none, false)
theorem mX2_dropOldest : kM yX2_dropOldest XX2_dropOldest 0 := ⟨WT_of 337 (by decide +kernel) (by decide +kernel), WT_of 59 (by decide +kernel) (by decide +kernel), by decide +kernel, by decide +kernel, by decide +kernel⟩
abbrev XX1_copyFrom : MX := (RX1, cX1_copyFrom, 2, none, false)
theorem mX1_copyFrom : kM yX1_copyFrom XX1_copyFrom 1 := ⟨WT_of 342 (by decide +kernel) (by decide +kernel), WT_of 56 (by decide +kernel) (by decide +kernel), by decide +kernel, by decide +kernel, by decide +kernel⟩
abbrev XX0_copyFrom : MX := (RX0, cX0_copyFrom, 2, none, false)
theorem mX0_copyFrom : kM yX0_copyFrom XX0_copyFrom 1 := ⟨WT_of 346 (by decide +kernel) (by decide +kernel), WT_of 57 (by decide +kernel) (by decide +kernel), by decide +kernel, by decide +kernel, by decide +kernel⟩
abbrev XX6_begin : MX := (RX6, cX6_begin, 2, some .int, false)
theorem mX6_begin : kM yX6_begin XX6_begin 1 := ⟨WT_of 354 (by decide +kernel) (by decide +kernel), WT_of 55 (by decide +kernel) (by decide +kernel), by decide +kernel, by decide +kernel, by decide +kernel⟩
abbrev XX0_piecesOf : MX := (RX0, cX0_piecesOf, 2, some .int, false)
theorem mX0_piecesOf : kM yX0_piecesOf XX0_piecesOf 1 := ⟨WT_of 358 (by decide +kernel) (by decide +kernel), WT_of 57 (by decide +kernel) (by decide +kernel), by decide +kernel, by decide +kernel, by decide +kernel⟩
abbrev XX0_menOf : MX := (RX0, cX0_menOf, 2, some .int, false)
theorem mX0_menOf : kM yX0_menOf XX0_menOf 1 := ⟨WT_of 362 (by decide +kernel) (by decide +kernel), WT_of 57 (by decide +kernel) (by decide +kernel), by decide +kernel, by decide +kernel, by decide +kernel⟩
abbrev XX0_numberOf : MX := (RX0, cX0_numberOf, 2, some .int, false)
theorem mX0_numberOf : kM yX0_numberOf XX0_numberOf 1 := ⟨WT_of 366 (by decide +kernel) (by decide +kernel), WT_of 57 (by decide +kernel) (by decide +kernel), by decide +kernel, by decide +kernel, by decide +kernel⟩
abbrev XX0_kingsOf : MX := (RX0, cX0_kingsOf, 2, some .int, false)
theorem mX0_kingsOf : kM yX0_kingsOf XX0_kingsOf 1 := ⟨WT_of 370 (by decide +kernel) (by decide +kernel), WT_of 57 (by decide +kernel) (by decide +kernel), by decide +kernel, by decide +kernel, by decide +kernel⟩
abbrev XX6_kingOf : MX := (RX6, cX6_kingOf, 1, some .int, false)
theorem mX6_kingOf : kM yX6_kingOf XX6_kingOf 1 := ⟨WT_of 373 (by decide +kernel) (by decide +kernel), WT_of 55 (by decide +kernel) (by decide +kernel), by decide +kernel, by decide +kernel, by decide +kernel⟩
abbrev XX6_set : MX := (RX6, cX6_set, 4, some .int, false)
theorem mX6_set : kM yX6_set XX6_set 2 := ⟨WT_of 377 (by decide +kernel) (by decide +kernel), WT_of 55 (by decide +kernel) (by decide +kernel), by decide +kernel, by decide +kernel, by decide +kernel⟩
abbrev XX6_isSquare : MX := (RX6, cX6_isSquare, 1, some .boolean, false)
theorem mX6_isSquare : kM yX6_isSquare XX6_isSquare 1 := ⟨WT_of 380 (by decide +kernel) (by decide +kernel), WT_of 55 (by decide +kernel) (by decide +kernel), by decide +kernel, by decide +kernel, by decide +kernel⟩
abbrev XX6_isPiece : MX := (RX6, cX6_isPiece, 1, some .boolean, false)
theorem mX6_isPiece : kM yX6_isPiece XX6_isPiece 1 := ⟨WT_of 383 (by decide +kernel) (by decide +kernel), WT_of 55 (by decide +kernel) (by decide +kernel), by decide +kernel, by decide +kernel, by decide +kernel⟩
abbrev XX6_isOneTooMany : MX := (RX6, cX6_isOneTooMany, 3, some .boolean, false)
theorem mX6_isOneTooMany : kM yX6_isOneTooMany XX6_isOneTooMany 2 := ⟨WT_of 388 (by decide +kernel) (by decide +kernel), WT_of 55 (by decide +kernel) (by decide +kernel), by decide +kernel, by decide +kernel, by decide +kernel⟩
abbrev XX6_turn : MX := (RX6, cX6_turn, 3, some .int, false)
theorem mX6_turn : kM yX6_turn XX6_turn 1 := ⟨WT_of 395 (by decide +kernel) (by decide +kernel), WT_of 55 (by decide +kernel) (by decide +kernel), by decide +kernel, by decide +kernel, by decide +kernel⟩
abbrev XX6_isSide : MX := (RX6, cX6_isSide, 1, some .boolean, false)
theorem mX6_isSide : kM yX6_isSide XX6_isSide 1 := ⟨WT_of 398 (by decide +kernel) (by decide +kernel), WT_of 55 (by decide +kernel) (by decide +kernel), by decide +kernel, by decide +kernel, by decide +kernel⟩
abbrev XX6_hop : MX := (RX6, cX6_hop, 4, some .int, false)
theorem mX6_hop : kM yX6_hop XX6_hop 2 := ⟨WT_of 402 (by decide +kernel) (by decide +kernel), WT_of 55 (by decide +kernel) (by decide +kernel), by decide +kernel, by decide +kernel, by decide +kernel⟩
abbrev XX6_hopsOfNow : MX := (RX6, cX6_hopsOfNow, 1, some (.object "RingDraughts$Hops"), false)
theorem mX6_hopsOfNow : kM yX6_hopsOfNow XX6_hopsOfNow 0 := ⟨WT_of 406 (by decide +kernel) (by decide +kernel), WT_of 55 (by decide +kernel) (by decide +kernel), by decide +kernel, by decide +kernel, by decide +kernel⟩
abbrev XX3_list : MX := (RX3, cX3_list, 2, none, false)
theorem mX3_list : kM yX3_list XX3_list 1 := ⟨WT_of 411 (by decide +kernel) (by decide +kernel), WT_of 62 (by decide +kernel) (by decide +kernel), by decide +kernel, by decide +kernel, by decide +kernel⟩
abbrev XX3_listJumps : MX := (RX3, cX3_listJumps, 9, none, false)
theorem mX3_listJumps : kM yX3_listJumps XX3_listJumps 3 := ⟨WT_of 415 (by decide +kernel) (by decide +kernel), WT_of 62 (by decide +kernel) (by decide +kernel), by decide +kernel, by decide +kernel, by decide +kernel⟩
abbrev XX3_addLandings : MX := (RX3, cX3_addLandings, 10, none, false)
theorem mX3_addLandings : kM yX3_addLandings XX3_addLandings 5 := ⟨WT_of 423 (by decide +kernel) (by decide +kernel), WT_of 62 (by decide +kernel) (by decide +kernel), by decide +kernel, by decide +kernel, by decide +kernel⟩
abbrev XX3_add : MX := (RX3, cX3_add, 6, none, false)
theorem mX3_add : kM yX3_add XX3_add 5 := ⟨WT_of 428 (by decide +kernel) (by decide +kernel), WT_of 62 (by decide +kernel) (by decide +kernel), by decide +kernel, by decide +kernel, by decide +kernel⟩
abbrev XX3_listPlainHops : MX := (RX3, cX3_listPlainHops, 6, none, false)
theorem mX3_listPlainHops : kM yX3_listPlainHops XX3_listPlainHops 1 := ⟨WT_of 432 (by decide +kernel) (by decide +kernel), WT_of 62 (by decide +kernel) (by decide +kernel), by decide +kernel, by decide +kernel, by decide +kernel⟩
abbrev XX3_has : MX := (RX3, cX3_has, 2, some .boolean, false)
theorem mX3_has : kM yX3_has XX3_has 1 := ⟨WT_of 437 (by decide +kernel) (by decide +kernel), WT_of 62 (by decide +kernel) (by decide +kernel), by decide +kernel, by decide +kernel, by decide +kernel⟩
abbrev XX1_makeHop : MX := (RX1, cX1_makeHop, 7, none, false)
theorem mX1_makeHop : kM yX1_makeHop XX1_makeHop 3 := ⟨WT_of 441 (by decide +kernel) (by decide +kernel), WT_of 56 (by decide +kernel) (by decide +kernel), by decide +kernel, by decide +kernel, by decide +kernel⟩
abbrev XX3_taken : MX := (RX3, cX3_taken, 2, some .int, false)
theorem mX3_taken : kM yX3_taken XX3_taken 1 := ⟨WT_of 446 (by decide +kernel) (by decide +kernel), WT_of 62 (by decide +kernel) (by decide +kernel), by decide +kernel, by decide +kernel, by decide +kernel⟩
abbrev XX3_from : MX := (RX3, cX3_from, 2, some .int, false)
theorem mX3_from : kM yX3_from XX3_from 1 := ⟨WT_of 451 (by decide +kernel) (by decide +kernel), WT_of 62 (by decide +kernel) (by decide +kernel), by decide +kernel, by decide +kernel, by decide +kernel⟩
abbrev XX0_make : MX := (RX0, cX0_make, 8, none, false)
theorem mX0_make : kM yX0_make XX0_make 2 := ⟨WT_of 457 (by decide +kernel) (by decide +kernel), WT_of 57 (by decide +kernel) (by decide +kernel), by decide +kernel, by decide +kernel, by decide +kernel⟩
abbrev XX3_to : MX := (RX3, cX3_to, 2, some .int, false)
theorem mX3_to : kM yX3_to XX3_to 1 := ⟨WT_of 462 (by decide +kernel) (by decide +kernel), WT_of 62 (by decide +kernel) (by decide +kernel), by decide +kernel, by decide +kernel, by decide +kernel⟩
abbrev XX3_steps : MX := (RX3, cX3_steps, 2, some .int, false)
theorem mX3_steps : kM yX3_steps XX3_steps 1 := ⟨WT_of 467 (by decide +kernel) (by decide +kernel), WT_of 62 (by decide +kernel) (by decide +kernel), by decide +kernel, by decide +kernel, by decide +kernel⟩
abbrev XX6_isCrowned : MX := (RX6, cX6_isCrowned, 3, some .boolean, false)
theorem mX6_isCrowned : kM yX6_isCrowned XX6_isCrowned 3 := ⟨WT_of 470 (by decide +kernel) (by decide +kernel), WT_of 55 (by decide +kernel) (by decide +kernel), by decide +kernel, by decide +kernel, by decide +kernel⟩
abbrev XX0_canJump : MX := (RX0, cX0_canJump, 3, some .boolean, false)
theorem mX0_canJump : kM yX0_canJump XX0_canJump 1 := ⟨WT_of 474 (by decide +kernel) (by decide +kernel), WT_of 57 (by decide +kernel) (by decide +kernel), by decide +kernel, by decide +kernel, by decide +kernel⟩
abbrev XX6_play : MX := (RX6, cX6_play, 5, some .int, false)
theorem mX6_play : kM yX6_play XX6_play 2 := ⟨WT_of 478 (by decide +kernel) (by decide +kernel), WT_of 55 (by decide +kernel) (by decide +kernel), by decide +kernel, by decide +kernel, by decide +kernel⟩
abbrev XX3_find : MX := (RX3, cX3_find, 4, some .int, false)
theorem mX3_find : kM yX3_find XX3_find 2 := ⟨WT_of 482 (by decide +kernel) (by decide +kernel), WT_of 62 (by decide +kernel) (by decide +kernel), by decide +kernel, by decide +kernel, by decide +kernel⟩
abbrev XX6_playAll : MX := (RX6, cX6_playAll, 7, some .int, false)
theorem mX6_playAll : kM yX6_playAll XX6_playAll 0 := ⟨WT_of 488 (by decide +kernel) (by decide +kernel), WT_of 55 (by decide +kernel) (by decide +kernel), by decide +kernel, by decide +kernel, by decide +kernel⟩
abbrev XX4_findFault : MX := (RX4, cX4_findFault, 6, some .int, false)
theorem mX4_findFault : kM yX4_findFault XX4_findFault 0 := ⟨WT_of 492 (by decide +kernel) (by decide +kernel), WT_of 60 (by decide +kernel) (by decide +kernel), by decide +kernel, by decide +kernel, by decide +kernel⟩
abbrev XX4_signAt : MX := (RX4, cX4_signAt, 2, some .char, false)
theorem mX4_signAt : kM yX4_signAt XX4_signAt 1 := ⟨WT_of 496 (by decide +kernel) (by decide +kernel), WT_of 60 (by decide +kernel) (by decide +kernel), by decide +kernel, by decide +kernel, by decide +kernel⟩
abbrev XX6_makeToldHop : MX := (RX6, cX6_makeToldHop, 6, some .boolean, false)
theorem mX6_makeToldHop : kM yX6_makeToldHop XX6_makeToldHop 3 := ⟨WT_of 502 (by decide +kernel) (by decide +kernel), WT_of 55 (by decide +kernel) (by decide +kernel), by decide +kernel, by decide +kernel, by decide +kernel⟩
abbrev XX6_giveUp : MX := (RX6, cX6_giveUp, 1, some .int, false)
theorem mX6_giveUp : kM yX6_giveUp XX6_giveUp 0 := ⟨WT_of 507 (by decide +kernel) (by decide +kernel), WT_of 55 (by decide +kernel) (by decide +kernel), by decide +kernel, by decide +kernel, by decide +kernel⟩
abbrev XX6_square : MX := (RX6, cX6_square, 3, some .int, false)
theorem mX6_square : kM yX6_square XX6_square 2 := ⟨WT_of 512 (by decide +kernel) (by decide +kernel), WT_of 55 (by decide +kernel) (by decide +kernel), by decide +kernel, by decide +kernel, by decide +kernel⟩
abbrev XX6_isInDanger : MX := (RX6, cX6_isInDanger, 3, some .boolean, false)
theorem mX6_isInDanger : kM yX6_isInDanger XX6_isInDanger 1 := ⟨WT_of 516 (by decide +kernel) (by decide +kernel), WT_of 55 (by decide +kernel) (by decide +kernel), by decide +kernel, by decide +kernel, by decide +kernel⟩
abbrev XX3_takes : MX := (RX3, cX3_takes, 3, some .boolean, false)
theorem mX3_takes : kM yX3_takes XX3_takes 1 := ⟨WT_of 521 (by decide +kernel) (by decide +kernel), WT_of 62 (by decide +kernel) (by decide +kernel), by decide +kernel, by decide +kernel, by decide +kernel⟩
abbrev XX6_oneIf : MX := (RX6, cX6_oneIf, 1, some .int, false)
theorem mX6_oneIf : kM yX6_oneIf XX6_oneIf 1 := ⟨WT_of 525 (by decide +kernel) (by decide +kernel), WT_of 55 (by decide +kernel) (by decide +kernel), by decide +kernel, by decide +kernel, by decide +kernel⟩
abbrev XX3_numberFrom : MX := (RX3, cX3_numberFrom, 4, some .int, false)
theorem mX3_numberFrom : kM yX3_numberFrom XX3_numberFrom 1 := ⟨WT_of 529 (by decide +kernel) (by decide +kernel), WT_of 62 (by decide +kernel) (by decide +kernel), by decide +kernel, by decide +kernel, by decide +kernel⟩
abbrev XX6_step : MX := (RX6, cX6_step, 3, some .int, false)
theorem mX6_step : kM yX6_step XX6_step 2 := ⟨WT_of 533 (by decide +kernel) (by decide +kernel), WT_of 55 (by decide +kernel) (by decide +kernel), by decide +kernel, by decide +kernel, by decide +kernel⟩
abbrev XX6_ofHop : MX := (RX6, cX6_ofHop, 4, some .int, false)
theorem mX6_ofHop : kM yX6_ofHop XX6_ofHop 2 := ⟨WT_of 538 (by decide +kernel) (by decide +kernel), WT_of 55 (by decide +kernel) (by decide +kernel), by decide +kernel, by decide +kernel, by decide +kernel⟩
abbrev XX3_way : MX := (RX3, cX3_way, 2, some .int, false)
theorem mX3_way : kM yX3_way XX3_way 1 := ⟨WT_of 544 (by decide +kernel) (by decide +kernel), WT_of 62 (by decide +kernel) (by decide +kernel), by decide +kernel, by decide +kernel, by decide +kernel⟩
abbrev XX6_isJumpedOnBehind : MX := (RX6, cX6_isJumpedOnBehind, 2, some .boolean, false)
theorem mX6_isJumpedOnBehind : kM yX6_isJumpedOnBehind XX6_isJumpedOnBehind 1 := ⟨WT_of 550 (by decide +kernel) (by decide +kernel), WT_of 55 (by decide +kernel) (by decide +kernel), by decide +kernel, by decide +kernel, by decide +kernel⟩
abbrev XX5_tryHop : MX := (RX5, cX5_tryHop, 2, none, false)
theorem mX5_tryHop : kM yX5_tryHop XX5_tryHop 1 := ⟨WT_of 554 (by decide +kernel) (by decide +kernel), WT_of 61 (by decide +kernel) (by decide +kernel), by decide +kernel, by decide +kernel, by decide +kernel⟩
abbrev XX6_side : MX := (RX6, cX6_side, 3, some .int, false)
theorem mX6_side : kM yX6_side XX6_side 2 := ⟨WT_of 561 (by decide +kernel) (by decide +kernel), WT_of 55 (by decide +kernel) (by decide +kernel), by decide +kernel, by decide +kernel, by decide +kernel⟩
abbrev XX0_worthOf : MX := (RX0, cX0_worthOf, 2, some .int, false)
theorem mX0_worthOf : kM yX0_worthOf XX0_worthOf 1 := ⟨WT_of 567 (by decide +kernel) (by decide +kernel), WT_of 57 (by decide +kernel) (by decide +kernel), by decide +kernel, by decide +kernel, by decide +kernel⟩
abbrev XX6_count : MX := (RX6, cX6_count, 2, some .int, false)
theorem mX6_count : kM yX6_count XX6_count 1 := ⟨WT_of 571 (by decide +kernel) (by decide +kernel), WT_of 55 (by decide +kernel) (by decide +kernel), by decide +kernel, by decide +kernel, by decide +kernel⟩
abbrev XX6_rows : MX := (RX6, cX6_rows, 2, some .int, false)
theorem mX6_rows : kM yX6_rows XX6_rows 1 := ⟨WT_of 576 (by decide +kernel) (by decide +kernel), WT_of 55 (by decide +kernel) (by decide +kernel), by decide +kernel, by decide +kernel, by decide +kernel⟩
abbrev XX6_numberOfRows : MX := (RX6, cX6_numberOfRows, 5, some .int, false)
theorem mX6_numberOfRows : kM yX6_numberOfRows XX6_numberOfRows 3 := ⟨WT_of 579 (by decide +kernel) (by decide +kernel), WT_of 55 (by decide +kernel) (by decide +kernel), by decide +kernel, by decide +kernel, by decide +kernel⟩
abbrev XX6_worth : MX := (RX6, cX6_worth, 2, some .int, false)
theorem mX6_worth : kM yX6_worth XX6_worth 1 := ⟨WT_of 584 (by decide +kernel) (by decide +kernel), WT_of 55 (by decide +kernel) (by decide +kernel), by decide +kernel, by decide +kernel, by decide +kernel⟩
abbrev XX6_worthBehind : MX := (RX6, cX6_worthBehind, 9, some .int, false)
theorem mX6_worthBehind : kM yX6_worthBehind XX6_worthBehind 3 := ⟨WT_of 587 (by decide +kernel) (by decide +kernel), WT_of 55 (by decide +kernel) (by decide +kernel), by decide +kernel, by decide +kernel, by decide +kernel⟩
abbrev XX6_best : MX := (RX6, cX6_best, 7, some .int, false)
theorem mX6_best : kM yX6_best XX6_best 1 := ⟨WT_of 591 (by decide +kernel) (by decide +kernel), WT_of 55 (by decide +kernel) (by decide +kernel), by decide +kernel, by decide +kernel, by decide +kernel⟩
abbrev XX6_put : MX := (RX6, cX6_put, 4, some .int, false)
theorem mX6_put : kM yX6_put XX6_put 1 := ⟨WT_of 595 (by decide +kernel) (by decide +kernel), WT_of 55 (by decide +kernel) (by decide +kernel), by decide +kernel, by decide +kernel, by decide +kernel⟩
abbrev XX4_numberOfSigns : MX := (RX4, cX4_numberOfSigns, 7, some .int, false)
theorem mX4_numberOfSigns : kM yX4_numberOfSigns XX4_numberOfSigns 1 := ⟨WT_of 598 (by decide +kernel) (by decide +kernel), WT_of 60 (by decide +kernel) (by decide +kernel), by decide +kernel, by decide +kernel, by decide +kernel⟩
abbrev XX4_append : MX := (RX4, cX4_append, 5, none, false)
theorem mX4_append : kM yX4_append XX4_append 2 := ⟨WT_of 605 (by decide +kernel) (by decide +kernel), WT_of 60 (by decide +kernel) (by decide +kernel), by decide +kernel, by decide +kernel, by decide +kernel⟩
abbrev XX6_wipe : MX := (RX6, cX6_wipe, 2, some .int, false)
theorem mX6_wipe : kM yX6_wipe XX6_wipe 0 := ⟨WT_of 609 (by decide +kernel) (by decide +kernel), WT_of 55 (by decide +kernel) (by decide +kernel), by decide +kernel, by decide +kernel, by decide +kernel⟩
abbrev XX6_fault : MX := (RX6, cX6_fault, 1, some .int, false)
theorem mX6_fault : kM yX6_fault XX6_fault 0 := ⟨WT_of 613 (by decide +kernel) (by decide +kernel), WT_of 55 (by decide +kernel) (by decide +kernel), by decide +kernel, by decide +kernel, by decide +kernel⟩
abbrev XX6_undo : MX := (RX6, cX6_undo, 1, some .int, false)
theorem mX6_undo : kM yX6_undo XX6_undo 0 := ⟨WT_of 617 (by decide +kernel) (by decide +kernel), WT_of 55 (by decide +kernel) (by decide +kernel), by decide +kernel, by decide +kernel, by decide +kernel⟩
abbrev XX2_takeBack : MX := (RX2, cX2_takeBack, 3, none, false)
theorem mX2_takeBack : kM yX2_takeBack XX2_takeBack 1 := ⟨WT_of 621 (by decide +kernel) (by decide +kernel), WT_of 59 (by decide +kernel) (by decide +kernel), by decide +kernel, by decide +kernel, by decide +kernel⟩
abbrev XX6_save : MX := (RX6, cX6_save, 3, some .int, false)
theorem mX6_save : kM yX6_save XX6_save 1 := ⟨WT_of 625 (by decide +kernel) (by decide +kernel), WT_of 55 (by decide +kernel) (by decide +kernel), by decide +kernel, by decide +kernel, by decide +kernel⟩
abbrev XX6_restore : MX := (RX6, cX6_restore, 3, some .int, false)
theorem mX6_restore : kM yX6_restore XX6_restore 1 := ⟨WT_of 630 (by decide +kernel) (by decide +kernel), WT_of 55 (by decide +kernel) (by decide +kernel), by decide +kernel, by decide +kernel, by decide +kernel⟩
abbrev XX7_init : MX := (RX7, cX7_init, 1, none, true)
theorem mX7_init : kM yX7_init XX7_init 0 := ⟨WT_of 635 (by decide +kernel) (by decide +kernel), WT_of 64 (by decide +kernel) (by decide +kernel), by decide +kernel, by decide +kernel, by decide +kernel⟩
abbrev XX7_start : MX := (RX7, cX7_start, 4, none, false)
theorem mX7_start : kM yX7_start XX7_start 1 := ⟨WT_of 640 (by decide +kernel) (by decide +kernel), WT_of 64 (by decide +kernel) (by decide +kernel), by decide +kernel, by decide +kernel, by decide +kernel⟩
abbrev XX7_rowOf : MX := (RX7, cX7_rowOf, 1, some .int, false)
theorem mX7_rowOf : kM yX7_rowOf XX7_rowOf 1 := ⟨WT_of 643 (by decide +kernel) (by decide +kernel), WT_of 64 (by decide +kernel) (by decide +kernel), by decide +kernel, by decide +kernel, by decide +kernel⟩
abbrev XX7_beginHere : MX := (RX7, cX7_beginHere, 1, none, false)
theorem mX7_beginHere : kM yX7_beginHere XX7_beginHere 0 := ⟨WT_of 647 (by decide +kernel) (by decide +kernel), WT_of 64 (by decide +kernel) (by decide +kernel), by decide +kernel, by decide +kernel, by decide +kernel⟩
abbrev XX7_forgetPositions : MX := (RX7, cX7_forgetPositions, 2, none, false)
theorem mX7_forgetPositions : kM yX7_forgetPositions XX7_forgetPositions 0 := ⟨WT_of 651 (by decide +kernel) (by decide +kernel), WT_of 64 (by decide +kernel) (by decide +kernel), by decide +kernel, by decide +kernel, by decide +kernel⟩
abbrev XX7_writePosition : MX := (RX7, cX7_writePosition, 3, none, false)
theorem mX7_writePosition : kM yX7_writePosition XX7_writePosition 0 := ⟨WT_of 655 (by decide +kernel) (by decide +kernel), WT_of 64 (by decide +kernel) (by decide +kernel), by decide +kernel, by decide +kernel, by decide +kernel⟩
abbrev XX7_squaresOf : MX := (RX7, cX7_squaresOf, 4, some .int, false)
theorem mX7_squaresOf : kM yX7_squaresOf XX7_squaresOf 1 := ⟨WT_of 659 (by decide +kernel) (by decide +kernel), WT_of 64 (by decide +kernel) (by decide +kernel), by decide +kernel, by decide +kernel, by decide +kernel⟩
abbrev XX7_judge : MX := (RX7, cX7_judge, 1, none, false)
theorem mX7_judge : kM yX7_judge XX7_judge 0 := ⟨WT_of 663 (by decide +kernel) (by decide +kernel), WT_of 64 (by decide +kernel) (by decide +kernel), by decide +kernel, by decide +kernel, by decide +kernel⟩
abbrev XX7_look : MX := (RX7, cX7_look, 2, none, false)
theorem mX7_look : kM yX7_look XX7_look 0 := ⟨WT_of 667 (by decide +kernel) (by decide +kernel), WT_of 64 (by decide +kernel) (by decide +kernel), by decide +kernel, by decide +kernel, by decide +kernel⟩
abbrev XX7_listHops : MX := (RX7, cX7_listHops, 5, none, false)
theorem mX7_listHops : kM yX7_listHops XX7_listHops 1 := ⟨WT_of 671 (by decide +kernel) (by decide +kernel), WT_of 64 (by decide +kernel) (by decide +kernel), by decide +kernel, by decide +kernel, by decide +kernel⟩
abbrev XX7_listAllJumps : MX := (RX7, cX7_listAllJumps, 7, none, false)
theorem mX7_listAllJumps : kM yX7_listAllJumps XX7_listAllJumps 3 := ⟨WT_of 675 (by decide +kernel) (by decide +kernel), WT_of 64 (by decide +kernel) (by decide +kernel), by decide +kernel, by decide +kernel, by decide +kernel⟩
abbrev XX7_pieceAt : MX := (RX7, cX7_pieceAt, 3, some .int, false)
theorem mX7_pieceAt : kM yX7_pieceAt XX7_pieceAt 2 := ⟨WT_of 679 (by decide +kernel) (by decide +kernel), WT_of 64 (by decide +kernel) (by decide +kernel), by decide +kernel, by decide +kernel, by decide +kernel⟩
abbrev XX7_sideOf : MX := (RX7, cX7_sideOf, 1, some .int, false)
theorem mX7_sideOf : kM yX7_sideOf XX7_sideOf 1 := ⟨WT_of 682 (by decide +kernel) (by decide +kernel), WT_of 64 (by decide +kernel) (by decide +kernel), by decide +kernel, by decide +kernel, by decide +kernel⟩
abbrev XX7_goesWay : MX := (RX7, cX7_goesWay, 3, some .boolean, false)
theorem mX7_goesWay : kM yX7_goesWay XX7_goesWay 2 := ⟨WT_of 686 (by decide +kernel) (by decide +kernel), WT_of 64 (by decide +kernel) (by decide +kernel), by decide +kernel, by decide +kernel, by decide +kernel⟩
abbrev XX7_isKing : MX := (RX7, cX7_isKing, 1, some .boolean, false)
theorem mX7_isKing : kM yX7_isKing XX7_isKing 1 := ⟨WT_of 689 (by decide +kernel) (by decide +kernel), WT_of 64 (by decide +kernel) (by decide +kernel), by decide +kernel, by decide +kernel, by decide +kernel⟩
abbrev XX7_listJumps : MX := (RX7, cX7_listJumps, 9, none, false)
theorem mX7_listJumps : kM yX7_listJumps XX7_listJumps 3 := ⟨WT_of 693 (by decide +kernel) (by decide +kernel), WT_of 64 (by decide +kernel) (by decide +kernel), by decide +kernel, by decide +kernel, by decide +kernel⟩
abbrev XX7_next : MX := (RX7, cX7_next, 4, some .int, false)
theorem mX7_next : kM yX7_next XX7_next 2 := ⟨WT_of 696 (by decide +kernel) (by decide +kernel), WT_of 64 (by decide +kernel) (by decide +kernel), by decide +kernel, by decide +kernel, by decide +kernel⟩
abbrev XX7_columnOf : MX := (RX7, cX7_columnOf, 1, some .int, false)
theorem mX7_columnOf : kM yX7_columnOf XX7_columnOf 1 := ⟨WT_of 699 (by decide +kernel) (by decide +kernel), WT_of 64 (by decide +kernel) (by decide +kernel), by decide +kernel, by decide +kernel, by decide +kernel⟩
abbrev XX7_isEmpty : MX := (RX7, cX7_isEmpty, 3, some .boolean, false)
theorem mX7_isEmpty : kM yX7_isEmpty XX7_isEmpty 2 := ⟨WT_of 703 (by decide +kernel) (by decide +kernel), WT_of 64 (by decide +kernel) (by decide +kernel), by decide +kernel, by decide +kernel, by decide +kernel⟩
abbrev XX7_list : MX := (RX7, cX7_list, 8, none, false)
theorem mX7_list : kM yX7_list XX7_list 6 := ⟨WT_of 707 (by decide +kernel) (by decide +kernel), WT_of 64 (by decide +kernel) (by decide +kernel), by decide +kernel, by decide +kernel, by decide +kernel⟩
abbrev XX7_listMoves : MX := (RX7, cX7_listMoves, 8, none, false)
theorem mX7_listMoves : kM yX7_listMoves XX7_listMoves 3 := ⟨WT_of 711 (by decide +kernel) (by decide +kernel), WT_of 64 (by decide +kernel) (by decide +kernel), by decide +kernel, by decide +kernel, by decide +kernel⟩
abbrev XX7_timesCome : MX := (RX7, cX7_timesCome, 6, some .int, false)
theorem mX7_timesCome : kM yX7_timesCome XX7_timesCome 0 := ⟨WT_of 715 (by decide +kernel) (by decide +kernel), WT_of 64 (by decide +kernel) (by decide +kernel), by decide +kernel, by decide +kernel, by decide +kernel⟩
abbrev XX7_undo : MX := (RX7, cX7_undo, 2, some .int, false)
theorem mX7_undo : kM yX7_undo XX7_undo 0 := ⟨WT_of 781 (by decide +kernel) (by decide +kernel), WT_of 64 (by decide +kernel) (by decide +kernel), by decide +kernel, by decide +kernel, by decide +kernel⟩
abbrev XX7_save : MX := (RX7, cX7_save, 3, some .int, false)
theorem mX7_save : kM yX7_save XX7_save 1 := ⟨WT_of 785 (by decide +kernel) (by decide +kernel), WT_of 64 (by decide +kernel) (by decide +kernel), by decide +kernel, by decide +kernel, by decide +kernel⟩
abbrev XX7_in : MX := (RX7, cX7_in, 3, some .boolean, false)
theorem mX7_in : kM yX7_in XX7_in 3 := ⟨WT_of 788 (by decide +kernel) (by decide +kernel), WT_of 64 (by decide +kernel) (by decide +kernel), by decide +kernel, by decide +kernel, by decide +kernel⟩
abbrev XX7_restore : MX := (RX7, cX7_restore, 3, some .int, false)
theorem mX7_restore : kM yX7_restore XX7_restore 1 := ⟨WT_of 792 (by decide +kernel) (by decide +kernel), WT_of 64 (by decide +kernel) (by decide +kernel), by decide +kernel, by decide +kernel, by decide +kernel⟩
abbrev XX7_record : MX := (RX7, cX7_record, 2, none, false)
theorem mX7_record : kM yX7_record XX7_record 0 := ⟨WT_of 796 (by decide +kernel) (by decide +kernel), WT_of 64 (by decide +kernel) (by decide +kernel), by decide +kernel, by decide +kernel, by decide +kernel⟩
abbrev XX7_clock : MX := (RX7, cX7_clock, 3, some .int, false)
theorem mX7_clock : kM yX7_clock XX7_clock 1 := ⟨WT_of 800 (by decide +kernel) (by decide +kernel), WT_of 64 (by decide +kernel) (by decide +kernel), by decide +kernel, by decide +kernel, by decide +kernel⟩
abbrev XX7_begin : MX := (RX7, cX7_begin, 2, some .int, false)
theorem mX7_begin : kM yX7_begin XX7_begin 1 := ⟨WT_of 804 (by decide +kernel) (by decide +kernel), WT_of 64 (by decide +kernel) (by decide +kernel), by decide +kernel, by decide +kernel, by decide +kernel⟩
abbrev XX7_all : MX := (RX7, cX7_all, 2, some .int, false)
theorem mX7_all : kM yX7_all XX7_all 1 := ⟨WT_of 808 (by decide +kernel) (by decide +kernel), WT_of 64 (by decide +kernel) (by decide +kernel), by decide +kernel, by decide +kernel, by decide +kernel⟩
abbrev XX7_pieces : MX := (RX7, cX7_pieces, 5, some .int, false)
theorem mX7_pieces : kM yX7_pieces XX7_pieces 2 := ⟨WT_of 812 (by decide +kernel) (by decide +kernel), WT_of 64 (by decide +kernel) (by decide +kernel), by decide +kernel, by decide +kernel, by decide +kernel⟩
abbrev XX7_set : MX := (RX7, cX7_set, 4, some .int, false)
theorem mX7_set : kM yX7_set XX7_set 2 := ⟨WT_of 816 (by decide +kernel) (by decide +kernel), WT_of 64 (by decide +kernel) (by decide +kernel), by decide +kernel, by decide +kernel, by decide +kernel⟩
abbrev XX7_isSquare : MX := (RX7, cX7_isSquare, 1, some .boolean, false)
theorem mX7_isSquare : kM yX7_isSquare XX7_isSquare 1 := ⟨WT_of 819 (by decide +kernel) (by decide +kernel), WT_of 64 (by decide +kernel) (by decide +kernel), by decide +kernel, by decide +kernel, by decide +kernel⟩
abbrev XX7_turn : MX := (RX7, cX7_turn, 3, some .int, false)
theorem mX7_turn : kM yX7_turn XX7_turn 1 := ⟨WT_of 823 (by decide +kernel) (by decide +kernel), WT_of 64 (by decide +kernel) (by decide +kernel), by decide +kernel, by decide +kernel, by decide +kernel⟩
abbrev XX7_hop : MX := (RX7, cX7_hop, 4, some .int, false)
theorem mX7_hop : kM yX7_hop XX7_hop 2 := ⟨WT_of 827 (by decide +kernel) (by decide +kernel), WT_of 64 (by decide +kernel) (by decide +kernel), by decide +kernel, by decide +kernel, by decide +kernel⟩
abbrev XX7_makeIt : MX := (RX7, cX7_makeIt, 5, none, false)
theorem mX7_makeIt : kM yX7_makeIt XX7_makeIt 1 := ⟨WT_of 831 (by decide +kernel) (by decide +kernel), WT_of 64 (by decide +kernel) (by decide +kernel), by decide +kernel, by decide +kernel, by decide +kernel⟩
abbrev XX7_go : MX := (RX7, cX7_go, 6, none, false)
theorem mX7_go : kM yX7_go XX7_go 2 := ⟨WT_of 835 (by decide +kernel) (by decide +kernel), WT_of 64 (by decide +kernel) (by decide +kernel), by decide +kernel, by decide +kernel, by decide +kernel⟩
abbrev XX7_becomesKing : MX := (RX7, cX7_becomesKing, 6, some .boolean, false)
theorem mX7_becomesKing : kM yX7_becomesKing XX7_becomesKing 2 := ⟨WT_of 839 (by decide +kernel) (by decide +kernel), WT_of 64 (by decide +kernel) (by decide +kernel), by decide +kernel, by decide +kernel, by decide +kernel⟩
abbrev XX7_play : MX := (RX7, cX7_play, 4, some .int, false)
theorem mX7_play : kM yX7_play XX7_play 2 := ⟨WT_of 843 (by decide +kernel) (by decide +kernel), WT_of 64 (by decide +kernel) (by decide +kernel), by decide +kernel, by decide +kernel, by decide +kernel⟩
abbrev XX7_hopFrom : MX := (RX7, cX7_hopFrom, 4, some .int, false)
theorem mX7_hopFrom : kM yX7_hopFrom XX7_hopFrom 2 := ⟨WT_of 847 (by decide +kernel) (by decide +kernel), WT_of 64 (by decide +kernel) (by decide +kernel), by decide +kernel, by decide +kernel, by decide +kernel⟩
abbrev XX7_giveUp : MX := (RX7, cX7_giveUp, 1, some .int, false)
theorem mX7_giveUp : kM yX7_giveUp XX7_giveUp 0 := ⟨WT_of 851 (by decide +kernel) (by decide +kernel), WT_of 64 (by decide +kernel) (by decide +kernel), by decide +kernel, by decide +kernel, by decide +kernel⟩
abbrev XX7_square : MX := (RX7, cX7_square, 3, some .int, false)
theorem mX7_square : kM yX7_square XX7_square 2 := ⟨WT_of 855 (by decide +kernel) (by decide +kernel), WT_of 64 (by decide +kernel) (by decide +kernel), by decide +kernel, by decide +kernel, by decide +kernel⟩
abbrev XX7_isInDanger : MX := (RX7, cX7_isInDanger, 4, some .boolean, false)
theorem mX7_isInDanger : kM yX7_isInDanger XX7_isInDanger 1 := ⟨WT_of 859 (by decide +kernel) (by decide +kernel), WT_of 64 (by decide +kernel) (by decide +kernel), by decide +kernel, by decide +kernel, by decide +kernel⟩
abbrev XX7_hopsFrom : MX := (RX7, cX7_hopsFrom, 4, some .int, false)
theorem mX7_hopsFrom : kM yX7_hopsFrom XX7_hopsFrom 1 := ⟨WT_of 863 (by decide +kernel) (by decide +kernel), WT_of 64 (by decide +kernel) (by decide +kernel), by decide +kernel, by decide +kernel, by decide +kernel⟩
abbrev XX7_step : MX := (RX7, cX7_step, 3, some .int, false)
theorem mX7_step : kM yX7_step XX7_step 2 := ⟨WT_of 867 (by decide +kernel) (by decide +kernel), WT_of 64 (by decide +kernel) (by decide +kernel), by decide +kernel, by decide +kernel, by decide +kernel⟩
abbrev XX7_ofHop : MX := (RX7, cX7_ofHop, 3, some .int, false)
theorem mX7_ofHop : kM yX7_ofHop XX7_ofHop 2 := ⟨WT_of 871 (by decide +kernel) (by decide +kernel), WT_of 64 (by decide +kernel) (by decide +kernel), by decide +kernel, by decide +kernel, by decide +kernel⟩
abbrev XX7_goesOn : MX := (RX7, cX7_goesOn, 2, some .int, false)
theorem mX7_goesOn : kM yX7_goesOn XX7_goesOn 1 := ⟨WT_of 875 (by decide +kernel) (by decide +kernel), WT_of 64 (by decide +kernel) (by decide +kernel), by decide +kernel, by decide +kernel, by decide +kernel⟩
abbrev XX7_side : MX := (RX7, cX7_side, 3, some .int, false)
theorem mX7_side : kM yX7_side XX7_side 2 := ⟨WT_of 879 (by decide +kernel) (by decide +kernel), WT_of 64 (by decide +kernel) (by decide +kernel), by decide +kernel, by decide +kernel, by decide +kernel⟩
abbrev XX7_count : MX := (RX7, cX7_count, 2, some .int, false)
theorem mX7_count : kM yX7_count XX7_count 1 := ⟨WT_of 883 (by decide +kernel) (by decide +kernel), WT_of 64 (by decide +kernel) (by decide +kernel), by decide +kernel, by decide +kernel, by decide +kernel⟩
abbrev XX7_hopsNow : MX := (RX7, cX7_hopsNow, 1, some .int, false)
theorem mX7_hopsNow : kM yX7_hopsNow XX7_hopsNow 0 := ⟨WT_of 887 (by decide +kernel) (by decide +kernel), WT_of 64 (by decide +kernel) (by decide +kernel), by decide +kernel, by decide +kernel, by decide +kernel⟩
abbrev XX7_rows : MX := (RX7, cX7_rows, 3, some .int, false)
theorem mX7_rows : kM yX7_rows XX7_rows 1 := ⟨WT_of 891 (by decide +kernel) (by decide +kernel), WT_of 64 (by decide +kernel) (by decide +kernel), by decide +kernel, by decide +kernel, by decide +kernel⟩
abbrev XX7_rowsOfTwo : MX := (RX7, cX7_rowsOfTwo, 5, some .int, false)
theorem mX7_rowsOfTwo : kM yX7_rowsOfTwo XX7_rowsOfTwo 2 := ⟨WT_of 895 (by decide +kernel) (by decide +kernel), WT_of 64 (by decide +kernel) (by decide +kernel), by decide +kernel, by decide +kernel, by decide +kernel⟩
abbrev XX7_rowsOfThree : MX := (RX7, cX7_rowsOfThree, 3, some .int, false)
theorem mX7_rowsOfThree : kM yX7_rowsOfThree XX7_rowsOfThree 0 := ⟨WT_of 899 (by decide +kernel) (by decide +kernel), WT_of 64 (by decide +kernel) (by decide +kernel), by decide +kernel, by decide +kernel, by decide +kernel⟩
abbrev XX7_worth : MX := (RX7, cX7_worth, 2, some .int, false)
theorem mX7_worth : kM yX7_worth XX7_worth 1 := ⟨WT_of 903 (by decide +kernel) (by decide +kernel), WT_of 64 (by decide +kernel) (by decide +kernel), by decide +kernel, by decide +kernel, by decide +kernel⟩
abbrev XX7_worthNow : MX := (RX7, cX7_worthNow, 6, some .int, false)
theorem mX7_worthNow : kM yX7_worthNow XX7_worthNow 1 := ⟨WT_of 907 (by decide +kernel) (by decide +kernel), WT_of 64 (by decide +kernel) (by decide +kernel), by decide +kernel, by decide +kernel, by decide +kernel⟩
abbrev XX7_worthOfOne : MX := (RX7, cX7_worthOfOne, 5, some .int, false)
theorem mX7_worthOfOne : kM yX7_worthOfOne XX7_worthOfOne 1 := ⟨WT_of 911 (by decide +kernel) (by decide +kernel), WT_of 64 (by decide +kernel) (by decide +kernel), by decide +kernel, by decide +kernel, by decide +kernel⟩
abbrev XX7_worthLost : MX := (RX7, cX7_worthLost, 2, some .int, false)
theorem mX7_worthLost : kM yX7_worthLost XX7_worthLost 1 := ⟨WT_of 915 (by decide +kernel) (by decide +kernel), WT_of 64 (by decide +kernel) (by decide +kernel), by decide +kernel, by decide +kernel, by decide +kernel⟩
abbrev XX7_isBetter : MX := (RX7, cX7_isBetter, 4, some .boolean, false)
theorem mX7_isBetter : kM yX7_isBetter XX7_isBetter 3 := ⟨WT_of 919 (by decide +kernel) (by decide +kernel), WT_of 64 (by decide +kernel) (by decide +kernel), by decide +kernel, by decide +kernel, by decide +kernel⟩
abbrev XX7_worthOfTwo : MX := (RX7, cX7_worthOfTwo, 4, some .int, false)
theorem mX7_worthOfTwo : kM yX7_worthOfTwo XX7_worthOfTwo 0 := ⟨WT_of 923 (by decide +kernel) (by decide +kernel), WT_of 64 (by decide +kernel) (by decide +kernel), by decide +kernel, by decide +kernel, by decide +kernel⟩
abbrev XX7_best : MX := (RX7, cX7_best, 7, some .int, false)
theorem mX7_best : kM yX7_best XX7_best 1 := ⟨WT_of 927 (by decide +kernel) (by decide +kernel), WT_of 64 (by decide +kernel) (by decide +kernel), by decide +kernel, by decide +kernel, by decide +kernel⟩
abbrev XX7_put : MX := (RX7, cX7_put, 8, some .int, false)
theorem mX7_put : kM yX7_put XX7_put 1 := ⟨WT_of 931 (by decide +kernel) (by decide +kernel), WT_of 64 (by decide +kernel) (by decide +kernel), by decide +kernel, by decide +kernel, by decide +kernel⟩
abbrev XX7_wipe : MX := (RX7, cX7_wipe, 2, some .int, false)
theorem mX7_wipe : kM yX7_wipe XX7_wipe 0 := ⟨WT_of 936 (by decide +kernel) (by decide +kernel), WT_of 64 (by decide +kernel) (by decide +kernel), by decide +kernel, by decide +kernel, by decide +kernel⟩
abbrev XX7_fault : MX := (RX7, cX7_fault, 1, some .int, false)
theorem mX7_fault : kM yX7_fault XX7_fault 0 := ⟨WT_of 940 (by decide +kernel) (by decide +kernel), WT_of 64 (by decide +kernel) (by decide +kernel), by decide +kernel, by decide +kernel, by decide +kernel⟩
abbrev XX7_readPad : MX := (RX7, cX7_readPad, 2, some .int, false)
theorem mX7_readPad : kM yX7_readPad XX7_readPad 0 := ⟨WT_of 944 (by decide +kernel) (by decide +kernel), WT_of 64 (by decide +kernel) (by decide +kernel), by decide +kernel, by decide +kernel, by decide +kernel⟩
abbrev XX7_readHop : MX := (RX7, cX7_readHop, 2, none, false)
theorem mX7_readHop : kM yX7_readHop XX7_readHop 0 := ⟨WT_of 948 (by decide +kernel) (by decide +kernel), WT_of 64 (by decide +kernel) (by decide +kernel), by decide +kernel, by decide +kernel, by decide +kernel⟩
abbrev XX7_number : MX := (RX7, cX7_number, 3, some .int, false)
theorem mX7_number : kM yX7_number XX7_number 0 := ⟨WT_of 952 (by decide +kernel) (by decide +kernel), WT_of 64 (by decide +kernel) (by decide +kernel), by decide +kernel, by decide +kernel, by decide +kernel⟩
abbrev XX7_letter : MX := (RX7, cX7_letter, 1, some .int, false)
theorem mX7_letter : kM yX7_letter XX7_letter 0 := ⟨WT_of 956 (by decide +kernel) (by decide +kernel), WT_of 64 (by decide +kernel) (by decide +kernel), by decide +kernel, by decide +kernel, by decide +kernel⟩
abbrev XX7_wants : MX := (RX7, cX7_wants, 2, none, false)
theorem mX7_wants : kM yX7_wants XX7_wants 1 := ⟨WT_of 960 (by decide +kernel) (by decide +kernel), WT_of 64 (by decide +kernel) (by decide +kernel), by decide +kernel, by decide +kernel, by decide +kernel⟩
abbrev XX7_playAll : MX := (RX7, cX7_playAll, 2, some .int, false)
theorem mX7_playAll : kM yX7_playAll XX7_playAll 0 := ⟨WT_of 964 (by decide +kernel) (by decide +kernel), WT_of 64 (by decide +kernel) (by decide +kernel), by decide +kernel, by decide +kernel, by decide +kernel⟩
abbrev XX7_plays : MX := (RX7, cX7_plays, 4, some .boolean, false)
theorem mX7_plays : kM yX7_plays XX7_plays 1 := ⟨WT_of 968 (by decide +kernel) (by decide +kernel), WT_of 64 (by decide +kernel) (by decide +kernel), by decide +kernel, by decide +kernel, by decide +kernel⟩
theorem cl_L_7 : Cond.classLink RL 7 RX6 ∈ WT := WT_of 66 (by decide +kernel) (by decide +kernel)
theorem n_L_7 : kN RL 7 6 5 [.null, .null, .null, .null, .null] := ⟨(RX6, TX6, 5), tyX6, KX6, rfl, cl_L_7, WT_of 67 (by decide +kernel) (by decide +kernel), WT_of 55 (by decide +kernel) (by decide +kernel), by decide +kernel⟩
theorem l_L_9 : kI RL 9 yX6_init := ⟨WT_of 68 (by decide +kernel) (by decide +kernel), WT_of 69 (by decide +kernel) (by decide +kernel), rfl⟩
theorem l_X6_1 : Cond.methodLink RX6 1 objectInit ∈ WT := WT_of 71 (by decide +kernel) (by decide +kernel)
theorem cl_X6_7 : Cond.classLink RX6 7 RX1 ∈ WT := WT_of 74 (by decide +kernel) (by decide +kernel)
theorem n_X6_7 : kN RX6 7 1 9 [.null, .null, .null, .null, .int 0, .int 0, .int 0, .int 0, .int 0] := ⟨(RX1, TX1, 9), tyX1, KX1, rfl, cl_X6_7, WT_of 75 (by decide +kernel) (by decide +kernel), WT_of 56 (by decide +kernel) (by decide +kernel), by decide +kernel⟩
theorem l_X6_9 : kIN RX6 9 yX1_init := ⟨⟨"RingDraughts", List.mem_of_getElem? (i := 76) (by decide +kernel)⟩, WT_of 77 (by decide +kernel) (by decide +kernel), rfl⟩
theorem l_X1_3 : Cond.methodLink RX1 3 objectInit ∈ WT := WT_of 79 (by decide +kernel) (by decide +kernel)
theorem cl_X1_9 : Cond.classLink RX1 9 RX0 ∈ WT := WT_of 80 (by decide +kernel) (by decide +kernel)
theorem n_X1_9 : kN RX1 9 0 4 [.null, .null, .int 0, .int 0] := ⟨(RX0, TX0, 4), tyX0, KX0, rfl, cl_X1_9, WT_of 81 (by decide +kernel) (by decide +kernel), WT_of 57 (by decide +kernel) (by decide +kernel), by decide +kernel⟩
theorem l_X1_11 : kI RX1 11 yX0_init := ⟨WT_of 82 (by decide +kernel) (by decide +kernel), WT_of 83 (by decide +kernel) (by decide +kernel), rfl⟩
theorem l_X0_3 : Cond.methodLink RX0 3 objectInit ∈ WT := WT_of 85 (by decide +kernel) (by decide +kernel)
theorem l_X0_25 : kS RX0 25 yJ7_fill_53178 := ⟨WT_of 86 (by decide +kernel) (by decide +kernel), WT_of 87 (by decide +kernel) (by decide +kernel)⟩
theorem f_X0_9 : FL RX0 9 0 0 (.array .int) true := ⟨(RX0, TX0, 4), tyX0, KX0, by decide, WT_of 89 (by decide +kernel) (by decide +kernel), rfl, rfl, fun h => by first | rfl | cases h⟩
theorem f_X0_15 : FL RX0 15 0 1 (.array .int) true := ⟨(RX0, TX0, 4), tyX0, KX0, by decide, WT_of 90 (by decide +kernel) (by decide +kernel), rfl, rfl, fun h => by first | rfl | cases h⟩
theorem f_X0_18 : FL RX0 18 0 2 .int false := ⟨(RX0, TX0, 4), tyX0, KX0, by decide, WT_of 91 (by decide +kernel) (by decide +kernel), rfl, rfl, fun h => by first | rfl | cases h⟩
theorem f_X1_80 : FL RX1 80 0 2 .int false := ⟨(RX0, TX0, 4), tyX0, KX0, by decide, WT_of 92 (by decide +kernel) (by decide +kernel), rfl, rfl, fun h => by first | rfl | cases h⟩
theorem f_X6_89 : FL RX6 89 0 2 .int false := ⟨(RX0, TX0, 4), tyX0, KX0, by decide, WT_of 93 (by decide +kernel) (by decide +kernel), rfl, rfl, fun h => by first | rfl | cases h⟩
theorem f_X3_45 : FL RX3 45 0 2 .int false := ⟨(RX0, TX0, 4), tyX0, KX0, by decide, WT_of 94 (by decide +kernel) (by decide +kernel), rfl, rfl, fun h => by first | rfl | cases h⟩
theorem f_X0_22 : FL RX0 22 0 3 .int false := ⟨(RX0, TX0, 4), tyX0, KX0, by decide, WT_of 95 (by decide +kernel) (by decide +kernel), rfl, rfl, fun h => by first | rfl | cases h⟩
theorem f_X1_71 : FL RX1 71 0 3 .int false := ⟨(RX0, TX0, 4), tyX0, KX0, by decide, WT_of 96 (by decide +kernel) (by decide +kernel), rfl, rfl, fun h => by first | rfl | cases h⟩
theorem f_X3_50 : FL RX3 50 0 3 .int false := ⟨(RX0, TX0, 4), tyX0, KX0, by decide, WT_of 97 (by decide +kernel) (by decide +kernel), rfl, rfl, fun h => by first | rfl | cases h⟩
theorem f_X6_194 : FL RX6 194 0 3 .int false := ⟨(RX0, TX0, 4), tyX0, KX0, by decide, WT_of 98 (by decide +kernel) (by decide +kernel), rfl, rfl, fun h => by first | rfl | cases h⟩
theorem f_X1_12 : FL RX1 12 1 0 (.object "RingDraughts$Board") true := ⟨(RX1, TX1, 9), tyX1, KX1, by decide, WT_of 109 (by decide +kernel) (by decide +kernel), rfl, rfl, fun h => by first | rfl | cases h⟩
theorem f_X6_55 : FLr RX6 55 1 0 := ⟨(RX1, TX1, 9), tyX1, KX1, by decide, WT_of 110 (by decide +kernel) (by decide +kernel)⟩
theorem f_X1_18 : FL RX1 18 1 1 (.array .int) true := ⟨(RX1, TX1, 9), tyX1, KX1, by decide, WT_of 111 (by decide +kernel) (by decide +kernel), rfl, rfl, fun h => by first | rfl | cases h⟩
theorem f_X6_178 : FLr RX6 178 1 1 := ⟨(RX1, TX1, 9), tyX1, KX1, by decide, WT_of 112 (by decide +kernel) (by decide +kernel)⟩
theorem f_X1_22 : FL RX1 22 1 2 (.array .int) true := ⟨(RX1, TX1, 9), tyX1, KX1, by decide, WT_of 113 (by decide +kernel) (by decide +kernel), rfl, rfl, fun h => by first | rfl | cases h⟩
theorem f_X6_182 : FLr RX6 182 1 2 := ⟨(RX1, TX1, 9), tyX1, KX1, by decide, WT_of 114 (by decide +kernel) (by decide +kernel)⟩
theorem f_X1_25 : FL RX1 25 1 3 (.array .long) true := ⟨(RX1, TX1, 9), tyX1, KX1, by decide, WT_of 115 (by decide +kernel) (by decide +kernel), rfl, rfl, fun h => by first | rfl | cases h⟩
theorem f_X1_29 : FL RX1 29 1 4 .int false := ⟨(RX1, TX1, 9), tyX1, KX1, by decide, WT_of 116 (by decide +kernel) (by decide +kernel), rfl, rfl, fun h => by first | rfl | cases h⟩
theorem f_X1_33 : FL RX1 33 1 5 .int false := ⟨(RX1, TX1, 9), tyX1, KX1, by decide, WT_of 117 (by decide +kernel) (by decide +kernel), rfl, rfl, fun h => by first | rfl | cases h⟩
theorem f_X6_51 : FL RX6 51 1 5 .int false := ⟨(RX1, TX1, 9), tyX1, KX1, by decide, WT_of 118 (by decide +kernel) (by decide +kernel), rfl, rfl, fun h => by first | rfl | cases h⟩
theorem f_X1_36 : FL RX1 36 1 6 .int false := ⟨(RX1, TX1, 9), tyX1, KX1, by decide, WT_of 119 (by decide +kernel) (by decide +kernel), rfl, rfl, fun h => by first | rfl | cases h⟩
theorem f_X6_191 : FL RX6 191 1 6 .int false := ⟨(RX1, TX1, 9), tyX1, KX1, by decide, WT_of 120 (by decide +kernel) (by decide +kernel), rfl, rfl, fun h => by first | rfl | cases h⟩
theorem f_X1_39 : FL RX1 39 1 7 .int false := ⟨(RX1, TX1, 9), tyX1, KX1, by decide, WT_of 121 (by decide +kernel) (by decide +kernel), rfl, rfl, fun h => by first | rfl | cases h⟩
theorem f_X6_200 : FL RX6 200 1 7 .int false := ⟨(RX1, TX1, 9), tyX1, KX1, by decide, WT_of 122 (by decide +kernel) (by decide +kernel), rfl, rfl, fun h => by first | rfl | cases h⟩
theorem f_X1_42 : FL RX1 42 1 8 .int false := ⟨(RX1, TX1, 9), tyX1, KX1, by decide, WT_of 123 (by decide +kernel) (by decide +kernel), rfl, rfl, fun h => by first | rfl | cases h⟩
theorem f_X6_105 : FL RX6 105 1 8 .int false := ⟨(RX1, TX1, 9), tyX1, KX1, by decide, WT_of 124 (by decide +kernel) (by decide +kernel), rfl, rfl, fun h => by first | rfl | cases h⟩
theorem cl_X6_16 : Cond.classLink RX6 16 RX2 ∈ WT := WT_of 145 (by decide +kernel) (by decide +kernel)
theorem n_X6_16 : kN RX6 16 2 2 [.null, .int 0] := ⟨(RX2, TX2, 2), tyX2, KX2, rfl, cl_X6_16, WT_of 146 (by decide +kernel) (by decide +kernel), WT_of 59 (by decide +kernel) (by decide +kernel), by decide +kernel⟩
theorem l_X6_18 : kIN RX6 18 yX2_init := ⟨⟨"RingDraughts", List.mem_of_getElem? (i := 147) (by decide +kernel)⟩, WT_of 148 (by decide +kernel) (by decide +kernel), rfl⟩
theorem l_X2_3 : Cond.methodLink RX2 3 objectInit ∈ WT := WT_of 150 (by decide +kernel) (by decide +kernel)
theorem cl_X2_9 : Cond.classLink RX2 9 RX1 ∈ WT := WT_of 151 (by decide +kernel) (by decide +kernel)
theorem n_X2_9 : kN RX2 9 1 9 [.null, .null, .null, .null, .int 0, .int 0, .int 0, .int 0, .int 0] := ⟨(RX1, TX1, 9), tyX1, KX1, rfl, cl_X2_9, WT_of 75 (by decide +kernel) (by decide +kernel), WT_of 56 (by decide +kernel) (by decide +kernel), by decide +kernel⟩
theorem f_X2_11 : FL RX2 11 2 0 (.array (.object "RingDraughts$Game")) true := ⟨(RX2, TX2, 2), tyX2, KX2, by decide, WT_of 153 (by decide +kernel) (by decide +kernel), rfl, rfl, fun h => by first | rfl | cases h⟩
theorem f_X2_17 : FL RX2 17 2 1 .int false := ⟨(RX2, TX2, 2), tyX2, KX2, by decide, WT_of 154 (by decide +kernel) (by decide +kernel), rfl, rfl, fun h => by first | rfl | cases h⟩
theorem f_X6_203 : FL RX6 203 2 1 .int false := ⟨(RX2, TX2, 2), tyX2, KX2, by decide, WT_of 155 (by decide +kernel) (by decide +kernel), rfl, rfl, fun h => by first | rfl | cases h⟩
theorem cl_X6_27 : Cond.classLink RX6 27 RX4 ∈ WT := WT_of 161 (by decide +kernel) (by decide +kernel)
theorem n_X6_27 : kN RX6 27 4 2 [.null, .int 0] := ⟨(RX4, TX4, 2), tyX4, KX4, rfl, cl_X6_27, WT_of 162 (by decide +kernel) (by decide +kernel), WT_of 60 (by decide +kernel) (by decide +kernel), by decide +kernel⟩
theorem l_X6_29 : kIN RX6 29 yX4_init := ⟨⟨"RingDraughts", List.mem_of_getElem? (i := 163) (by decide +kernel)⟩, WT_of 164 (by decide +kernel) (by decide +kernel), rfl⟩
theorem l_X4_3 : Cond.methodLink RX4 3 objectInit ∈ WT := WT_of 166 (by decide +kernel) (by decide +kernel)
theorem f_X4_11 : FL RX4 11 4 0 (.array .char) true := ⟨(RX4, TX4, 2), tyX4, KX4, by decide, WT_of 167 (by decide +kernel) (by decide +kernel), rfl, rfl, fun h => by first | rfl | cases h⟩
theorem f_X4_15 : FL RX4 15 4 1 .int false := ⟨(RX4, TX4, 2), tyX4, KX4, by decide, WT_of 168 (by decide +kernel) (by decide +kernel), rfl, rfl, fun h => by first | rfl | cases h⟩
theorem f_X6_116 : FL RX6 116 4 1 .int false := ⟨(RX4, TX4, 2), tyX4, KX4, by decide, WT_of 169 (by decide +kernel) (by decide +kernel), rfl, rfl, fun h => by first | rfl | cases h⟩
theorem cl_X6_34 : Cond.classLink RX6 34 RX5 ∈ WT := WT_of 176 (by decide +kernel) (by decide +kernel)
theorem n_X6_34 : kN RX6 34 5 3 [.null, .null, .null] := ⟨(RX5, TX5, 3), tyX5, KX5, rfl, cl_X6_34, WT_of 177 (by decide +kernel) (by decide +kernel), WT_of 61 (by decide +kernel) (by decide +kernel), by decide +kernel⟩
theorem l_X6_36 : kI RX6 36 yX5_init := ⟨WT_of 178 (by decide +kernel) (by decide +kernel), WT_of 179 (by decide +kernel) (by decide +kernel), rfl⟩
theorem l_X5_1 : Cond.methodLink RX5 1 objectInit ∈ WT := WT_of 181 (by decide +kernel) (by decide +kernel)
theorem cl_X5_7 : Cond.classLink RX5 7 RX0 ∈ WT := WT_of 182 (by decide +kernel) (by decide +kernel)
theorem n_X5_7 : kN RX5 7 0 4 [.null, .null, .int 0, .int 0] := ⟨(RX0, TX0, 4), tyX0, KX0, rfl, cl_X5_7, WT_of 81 (by decide +kernel) (by decide +kernel), WT_of 57 (by decide +kernel) (by decide +kernel), by decide +kernel⟩
theorem l_X5_9 : kI RX5 9 yX0_init := ⟨WT_of 183 (by decide +kernel) (by decide +kernel), WT_of 83 (by decide +kernel) (by decide +kernel), rfl⟩
theorem cl_X5_16 : Cond.classLink RX5 16 RX3 ∈ WT := WT_of 184 (by decide +kernel) (by decide +kernel)
theorem n_X5_16 : kN RX5 16 3 6 [.null, .null, .null, .null, .null, .int 0] := ⟨(RX3, TX3, 6), tyX3, KX3, rfl, cl_X5_16, WT_of 185 (by decide +kernel) (by decide +kernel), WT_of 62 (by decide +kernel) (by decide +kernel), by decide +kernel⟩
theorem l_X5_18 : kIN RX5 18 yX3_init := ⟨⟨"RingDraughts", List.mem_of_getElem? (i := 186) (by decide +kernel)⟩, WT_of 187 (by decide +kernel) (by decide +kernel), rfl⟩
theorem l_X3_3 : Cond.methodLink RX3 3 objectInit ∈ WT := WT_of 189 (by decide +kernel) (by decide +kernel)
theorem f_X3_11 : FL RX3 11 3 0 (.array .int) true := ⟨(RX3, TX3, 6), tyX3, KX3, by decide, WT_of 190 (by decide +kernel) (by decide +kernel), rfl, rfl, fun h => by first | rfl | cases h⟩
theorem f_X3_15 : FL RX3 15 3 1 (.array .int) true := ⟨(RX3, TX3, 6), tyX3, KX3, by decide, WT_of 191 (by decide +kernel) (by decide +kernel), rfl, rfl, fun h => by first | rfl | cases h⟩
theorem f_X3_18 : FL RX3 18 3 2 (.array .int) true := ⟨(RX3, TX3, 6), tyX3, KX3, by decide, WT_of 192 (by decide +kernel) (by decide +kernel), rfl, rfl, fun h => by first | rfl | cases h⟩
theorem f_X3_21 : FL RX3 21 3 3 (.array .int) true := ⟨(RX3, TX3, 6), tyX3, KX3, by decide, WT_of 193 (by decide +kernel) (by decide +kernel), rfl, rfl, fun h => by first | rfl | cases h⟩
theorem f_X3_24 : FL RX3 24 3 4 (.array .int) true := ⟨(RX3, TX3, 6), tyX3, KX3, by decide, WT_of 194 (by decide +kernel) (by decide +kernel), rfl, rfl, fun h => by first | rfl | cases h⟩
theorem f_X3_27 : FL RX3 27 3 5 .int false := ⟨(RX3, TX3, 6), tyX3, KX3, by decide, WT_of 195 (by decide +kernel) (by decide +kernel), rfl, rfl, fun h => by first | rfl | cases h⟩
theorem f_X6_188 : FL RX6 188 3 5 .int false := ⟨(RX3, TX3, 6), tyX3, KX3, by decide, WT_of 196 (by decide +kernel) (by decide +kernel), rfl, rfl, fun h => by first | rfl | cases h⟩
theorem f_X5_10 : FL RX5 10 5 0 (.object "RingDraughts$Board") true := ⟨(RX5, TX5, 3), tyX5, KX5, by decide, WT_of 210 (by decide +kernel) (by decide +kernel), rfl, rfl, fun h => by first | rfl | cases h⟩
theorem f_X6_204 : FLr RX6 204 5 0 := ⟨(RX5, TX5, 3), tyX5, KX5, by decide, WT_of 211 (by decide +kernel) (by decide +kernel)⟩
theorem f_X5_19 : FL RX5 19 5 1 (.object "RingDraughts$Hops") true := ⟨(RX5, TX5, 3), tyX5, KX5, by decide, WT_of 212 (by decide +kernel) (by decide +kernel), rfl, rfl, fun h => by first | rfl | cases h⟩
theorem f_X6_236 : FLr RX6 236 5 1 := ⟨(RX5, TX5, 3), tyX5, KX5, by decide, WT_of 213 (by decide +kernel) (by decide +kernel)⟩
theorem f_X5_23 : FL RX5 23 5 2 (.object "RingDraughts$Ply") true := ⟨(RX5, TX5, 3), tyX5, KX5, by decide, WT_of 214 (by decide +kernel) (by decide +kernel), rfl, rfl, fun h => by first | rfl | cases h⟩
theorem f_X6_220 : FLr RX6 220 5 2 := ⟨(RX5, TX5, 3), tyX5, KX5, by decide, WT_of 215 (by decide +kernel) (by decide +kernel)⟩
theorem l_X6_43 : kV RX6 43 yX1_start := ⟨WT_of 223 (by decide +kernel) (by decide +kernel), WT_of 224 (by decide +kernel) (by decide +kernel), WT_of 225 (by decide +kernel) (by decide +kernel)⟩
theorem l_X1_55 : kV RX1 55 yX0_empty := ⟨WT_of 227 (by decide +kernel) (by decide +kernel), WT_of 228 (by decide +kernel) (by decide +kernel), WT_of 229 (by decide +kernel) (by decide +kernel)⟩
theorem l_X1_58 : kV RX1 58 yX0_fillRow := ⟨WT_of 231 (by decide +kernel) (by decide +kernel), WT_of 232 (by decide +kernel) (by decide +kernel), WT_of 233 (by decide +kernel) (by decide +kernel)⟩
theorem l_X0_37 : kV RX0 37 yX0_place := ⟨WT_of 235 (by decide +kernel) (by decide +kernel), WT_of 236 (by decide +kernel) (by decide +kernel), WT_of 237 (by decide +kernel) (by decide +kernel)⟩
theorem l_X0_41 : kV RX0 41 yX0_addToNumber := ⟨WT_of 239 (by decide +kernel) (by decide +kernel), WT_of 241 (by decide +kernel) (by decide +kernel), WT_of 0 (by decide +kernel) (by decide +kernel)⟩
theorem l_X1_62 : kS RX1 62 yJ7_fill_53178 := ⟨WT_of 243 (by decide +kernel) (by decide +kernel), WT_of 87 (by decide +kernel) (by decide +kernel)⟩
theorem l_X1_68 : kV RX1 68 yX1_startFromHere := ⟨WT_of 244 (by decide +kernel) (by decide +kernel), WT_of 245 (by decide +kernel) (by decide +kernel), WT_of 246 (by decide +kernel) (by decide +kernel)⟩
theorem l_X1_74 : kV RX1 74 yX1_keepPosition := ⟨WT_of 248 (by decide +kernel) (by decide +kernel), WT_of 250 (by decide +kernel) (by decide +kernel), WT_of 1 (by decide +kernel) (by decide +kernel)⟩
theorem l_X1_117 : kV RX1 117 yX0_third := ⟨WT_of 252 (by decide +kernel) (by decide +kernel), WT_of 253 (by decide +kernel) (by decide +kernel), WT_of 254 (by decide +kernel) (by decide +kernel)⟩
theorem l_X0_57 : kV RX0 57 yX0_pieceAt := ⟨WT_of 256 (by decide +kernel) (by decide +kernel), WT_of 257 (by decide +kernel) (by decide +kernel), WT_of 258 (by decide +kernel) (by decide +kernel)⟩
theorem l_X1_77 : kV RX1 77 yX1_judge := ⟨WT_of 260 (by decide +kernel) (by decide +kernel), WT_of 262 (by decide +kernel) (by decide +kernel), WT_of 2 (by decide +kernel) (by decide +kernel)⟩
theorem l_X1_109 : kV RX1 109 yX0_hasHop := ⟨WT_of 264 (by decide +kernel) (by decide +kernel), WT_of 265 (by decide +kernel) (by decide +kernel), WT_of 266 (by decide +kernel) (by decide +kernel)⟩
theorem l_X0_72 : kSN RX0 72 yX6_sideOf := ⟨⟨"RingDraughts", List.mem_of_getElem? (i := 268) (by decide +kernel)⟩, WT_of 269 (by decide +kernel) (by decide +kernel)⟩
theorem l_X0_60 : kSN RX0 60 yX6_mayGo := ⟨⟨"RingDraughts", List.mem_of_getElem? (i := 271) (by decide +kernel)⟩, WT_of 272 (by decide +kernel) (by decide +kernel)⟩
theorem l_X0_68 : kSN RX0 68 yX6_squareAfter := ⟨⟨"RingDraughts", List.mem_of_getElem? (i := 274) (by decide +kernel)⟩, WT_of 275 (by decide +kernel) (by decide +kernel)⟩
theorem l_X6_133 : kS RX6 133 yX6_rowOf := ⟨WT_of 277 (by decide +kernel) (by decide +kernel), WT_of 278 (by decide +kernel) (by decide +kernel)⟩
theorem l_X6_130 : kS RX6 130 yX6_columnOf := ⟨WT_of 280 (by decide +kernel) (by decide +kernel), WT_of 281 (by decide +kernel) (by decide +kernel)⟩
theorem l_X6_258 : kS RX6 258 yJ9_floorMod_7cf53 := ⟨WT_of 283 (by decide +kernel) (by decide +kernel), WT_of 284 (by decide +kernel) (by decide +kernel)⟩
theorem l_X0_75 : kV RX0 75 yX0_stepsToPrey := ⟨WT_of 286 (by decide +kernel) (by decide +kernel), WT_of 287 (by decide +kernel) (by decide +kernel), WT_of 288 (by decide +kernel) (by decide +kernel)⟩
theorem l_X0_64 : kSN RX0 64 yX6_isKing := ⟨⟨"RingDraughts", List.mem_of_getElem? (i := 290) (by decide +kernel)⟩, WT_of 291 (by decide +kernel) (by decide +kernel)⟩
theorem l_X1_87 : kSN RX1 87 yX6_wonBy := ⟨⟨"RingDraughts", List.mem_of_getElem? (i := 293) (by decide +kernel)⟩, WT_of 294 (by decide +kernel) (by decide +kernel)⟩
theorem l_X1_113 : kV RX1 113 yX1_timesOfNow := ⟨WT_of 296 (by decide +kernel) (by decide +kernel), WT_of 297 (by decide +kernel) (by decide +kernel), WT_of 298 (by decide +kernel) (by decide +kernel)⟩
theorem l_X1_121 : kV RX1 121 yX1_isSamePosition := ⟨WT_of 300 (by decide +kernel) (by decide +kernel), WT_of 302 (by decide +kernel) (by decide +kernel), WT_of 3 (by decide +kernel) (by decide +kernel)⟩
theorem l_X1_125 : kS RX1 125 yJ9_min_7cf53 := ⟨WT_of 304 (by decide +kernel) (by decide +kernel), WT_of 305 (by decide +kernel) (by decide +kernel)⟩
theorem l_X1_131 : kS RX1 131 yJ9_max_7cf53 := ⟨WT_of 307 (by decide +kernel) (by decide +kernel), WT_of 308 (by decide +kernel) (by decide +kernel)⟩
theorem f_X6_10 : FL RX6 10 6 0 (.object "RingDraughts$Game") true := ⟨(RX6, TX6, 5), tyX6, KX6, by decide, WT_of 310 (by decide +kernel) (by decide +kernel), rfl, rfl, fun h => by first | rfl | cases h⟩
theorem f_X6_19 : FL RX6 19 6 1 (.object "RingDraughts$History") true := ⟨(RX6, TX6, 5), tyX6, KX6, by decide, WT_of 311 (by decide +kernel) (by decide +kernel), rfl, rfl, fun h => by first | rfl | cases h⟩
theorem f_X6_23 : FL RX6 23 6 2 (.array (.object "RingDraughts$Game")) true := ⟨(RX6, TX6, 5), tyX6, KX6, by decide, WT_of 312 (by decide +kernel) (by decide +kernel), rfl, rfl, fun h => by first | rfl | cases h⟩
theorem f_X6_30 : FL RX6 30 6 3 (.object "RingDraughts$Pad") true := ⟨(RX6, TX6, 5), tyX6, KX6, by decide, WT_of 313 (by decide +kernel) (by decide +kernel), rfl, rfl, fun h => by first | rfl | cases h⟩
theorem f_X6_39 : FL RX6 39 6 4 (.object "RingDraughts$Ply") true := ⟨(RX6, TX6, 5), tyX6, KX6, by decide, WT_of 314 (by decide +kernel) (by decide +kernel), rfl, rfl, fun h => by first | rfl | cases h⟩
theorem l_L_13 : kV RL 13 yX6_clock := ⟨WT_of 326 (by decide +kernel) (by decide +kernel), WT_of 327 (by decide +kernel) (by decide +kernel), WT_of 328 (by decide +kernel) (by decide +kernel)⟩
theorem l_X6_47 : kV RX6 47 yX2_keep := ⟨WT_of 330 (by decide +kernel) (by decide +kernel), WT_of 331 (by decide +kernel) (by decide +kernel), WT_of 332 (by decide +kernel) (by decide +kernel)⟩
theorem l_X2_21 : kV RX2 21 yX2_dropOldest := ⟨WT_of 334 (by decide +kernel) (by decide +kernel), WT_of 336 (by decide +kernel) (by decide +kernel), WT_of 4 (by decide +kernel) (by decide +kernel)⟩
theorem l_X2_24 : kIN RX2 24 yX1_init := ⟨⟨"RingDraughts", List.mem_of_getElem? (i := 338) (by decide +kernel)⟩, WT_of 77 (by decide +kernel) (by decide +kernel), rfl⟩
theorem l_X2_25 : kV RX2 25 yX1_copyFrom := ⟨WT_of 339 (by decide +kernel) (by decide +kernel), WT_of 340 (by decide +kernel) (by decide +kernel), WT_of 341 (by decide +kernel) (by decide +kernel)⟩
theorem l_X1_45 : kV RX1 45 yX0_copyFrom := ⟨WT_of 343 (by decide +kernel) (by decide +kernel), WT_of 344 (by decide +kernel) (by decide +kernel), WT_of 345 (by decide +kernel) (by decide +kernel)⟩
theorem l_X0_31 : Cond.methodLink RX0 31 arraycopyName ∈ WT := WT_of 347 (by decide +kernel) (by decide +kernel)
theorem l_X1_49 : Cond.methodLink RX1 49 arraycopyName ∈ WT := WT_of 350 (by decide +kernel) (by decide +kernel)
theorem l_L_18 : kV RL 18 yX6_begin := ⟨WT_of 351 (by decide +kernel) (by decide +kernel), WT_of 352 (by decide +kernel) (by decide +kernel), WT_of 353 (by decide +kernel) (by decide +kernel)⟩
theorem l_X6_59 : kV RX6 59 yX0_piecesOf := ⟨WT_of 355 (by decide +kernel) (by decide +kernel), WT_of 356 (by decide +kernel) (by decide +kernel), WT_of 357 (by decide +kernel) (by decide +kernel)⟩
theorem l_X0_51 : kV RX0 51 yX0_menOf := ⟨WT_of 359 (by decide +kernel) (by decide +kernel), WT_of 360 (by decide +kernel) (by decide +kernel), WT_of 361 (by decide +kernel) (by decide +kernel)⟩
theorem l_X0_44 : kV RX0 44 yX0_numberOf := ⟨WT_of 363 (by decide +kernel) (by decide +kernel), WT_of 365 (by decide +kernel) (by decide +kernel), WT_of 5 (by decide +kernel) (by decide +kernel)⟩
theorem l_X0_54 : kV RX0 54 yX0_kingsOf := ⟨WT_of 367 (by decide +kernel) (by decide +kernel), WT_of 368 (by decide +kernel) (by decide +kernel), WT_of 369 (by decide +kernel) (by decide +kernel)⟩
theorem l_X0_48 : kSN RX0 48 yX6_kingOf := ⟨⟨"RingDraughts", List.mem_of_getElem? (i := 371) (by decide +kernel)⟩, WT_of 372 (by decide +kernel) (by decide +kernel)⟩
theorem l_L_23 : kV RL 23 yX6_set := ⟨WT_of 374 (by decide +kernel) (by decide +kernel), WT_of 375 (by decide +kernel) (by decide +kernel), WT_of 376 (by decide +kernel) (by decide +kernel)⟩
theorem l_X6_65 : kS RX6 65 yX6_isSquare := ⟨WT_of 378 (by decide +kernel) (by decide +kernel), WT_of 379 (by decide +kernel) (by decide +kernel)⟩
theorem l_X6_69 : kS RX6 69 yX6_isPiece := ⟨WT_of 381 (by decide +kernel) (by decide +kernel), WT_of 382 (by decide +kernel) (by decide +kernel)⟩
theorem l_X6_72 : kV RX6 72 yX0_pieceAt := ⟨WT_of 384 (by decide +kernel) (by decide +kernel), WT_of 257 (by decide +kernel) (by decide +kernel), WT_of 258 (by decide +kernel) (by decide +kernel)⟩
theorem l_X6_75 : kV RX6 75 yX6_isOneTooMany := ⟨WT_of 385 (by decide +kernel) (by decide +kernel), WT_of 387 (by decide +kernel) (by decide +kernel), WT_of 6 (by decide +kernel) (by decide +kernel)⟩
theorem l_X6_243 : kS RX6 243 yX6_sideOf := ⟨WT_of 389 (by decide +kernel) (by decide +kernel), WT_of 269 (by decide +kernel) (by decide +kernel)⟩
theorem l_X6_79 : kV RX6 79 yX0_place := ⟨WT_of 390 (by decide +kernel) (by decide +kernel), WT_of 236 (by decide +kernel) (by decide +kernel), WT_of 237 (by decide +kernel) (by decide +kernel)⟩
theorem l_X6_83 : kV RX6 83 yX1_startFromHere := ⟨WT_of 391 (by decide +kernel) (by decide +kernel), WT_of 245 (by decide +kernel) (by decide +kernel), WT_of 246 (by decide +kernel) (by decide +kernel)⟩
theorem l_L_28 : kV RL 28 yX6_turn := ⟨WT_of 392 (by decide +kernel) (by decide +kernel), WT_of 393 (by decide +kernel) (by decide +kernel), WT_of 394 (by decide +kernel) (by decide +kernel)⟩
theorem l_X6_86 : kS RX6 86 yX6_isSide := ⟨WT_of 396 (by decide +kernel) (by decide +kernel), WT_of 397 (by decide +kernel) (by decide +kernel)⟩
theorem l_L_32 : kV RL 32 yX6_hop := ⟨WT_of 399 (by decide +kernel) (by decide +kernel), WT_of 400 (by decide +kernel) (by decide +kernel), WT_of 401 (by decide +kernel) (by decide +kernel)⟩
theorem l_X6_92 : kV RX6 92 yX6_hopsOfNow := ⟨WT_of 403 (by decide +kernel) (by decide +kernel), WT_of 405 (by decide +kernel) (by decide +kernel), WT_of 7 (by decide +kernel) (by decide +kernel)⟩
theorem l_X6_205 : kV RX6 205 yX0_copyFrom := ⟨WT_of 407 (by decide +kernel) (by decide +kernel), WT_of 344 (by decide +kernel) (by decide +kernel), WT_of 345 (by decide +kernel) (by decide +kernel)⟩
theorem l_X6_240 : kV RX6 240 yX3_list := ⟨WT_of 408 (by decide +kernel) (by decide +kernel), WT_of 409 (by decide +kernel) (by decide +kernel), WT_of 410 (by decide +kernel) (by decide +kernel)⟩
theorem l_X3_53 : kV RX3 53 yX3_listJumps := ⟨WT_of 412 (by decide +kernel) (by decide +kernel), WT_of 413 (by decide +kernel) (by decide +kernel), WT_of 414 (by decide +kernel) (by decide +kernel)⟩
theorem l_X3_61 : kV RX3 61 yX0_pieceAt := ⟨WT_of 416 (by decide +kernel) (by decide +kernel), WT_of 257 (by decide +kernel) (by decide +kernel), WT_of 258 (by decide +kernel) (by decide +kernel)⟩
theorem l_X3_64 : kSN RX3 64 yX6_sideOf := ⟨⟨"RingDraughts", List.mem_of_getElem? (i := 417) (by decide +kernel)⟩, WT_of 269 (by decide +kernel) (by decide +kernel)⟩
theorem l_X3_67 : kSN RX3 67 yX6_isKing := ⟨⟨"RingDraughts", List.mem_of_getElem? (i := 418) (by decide +kernel)⟩, WT_of 291 (by decide +kernel) (by decide +kernel)⟩
theorem l_X3_70 : kV RX3 70 yX0_stepsToPrey := ⟨WT_of 419 (by decide +kernel) (by decide +kernel), WT_of 287 (by decide +kernel) (by decide +kernel), WT_of 288 (by decide +kernel) (by decide +kernel)⟩
theorem l_X3_74 : kV RX3 74 yX3_addLandings := ⟨WT_of 420 (by decide +kernel) (by decide +kernel), WT_of 422 (by decide +kernel) (by decide +kernel), WT_of 8 (by decide +kernel) (by decide +kernel)⟩
theorem l_X3_82 : kSN RX3 82 yX6_squareAfter := ⟨⟨"RingDraughts", List.mem_of_getElem? (i := 424) (by decide +kernel)⟩, WT_of 275 (by decide +kernel) (by decide +kernel)⟩
theorem l_X3_86 : kV RX3 86 yX3_add := ⟨WT_of 425 (by decide +kernel) (by decide +kernel), WT_of 427 (by decide +kernel) (by decide +kernel), WT_of 9 (by decide +kernel) (by decide +kernel)⟩
theorem l_X3_57 : kV RX3 57 yX3_listPlainHops := ⟨WT_of 429 (by decide +kernel) (by decide +kernel), WT_of 431 (by decide +kernel) (by decide +kernel), WT_of 10 (by decide +kernel) (by decide +kernel)⟩
theorem l_X3_78 : kSN RX3 78 yX6_mayGo := ⟨⟨"RingDraughts", List.mem_of_getElem? (i := 433) (by decide +kernel)⟩, WT_of 272 (by decide +kernel) (by decide +kernel)⟩
theorem l_X6_96 : kV RX6 96 yX3_has := ⟨WT_of 434 (by decide +kernel) (by decide +kernel), WT_of 435 (by decide +kernel) (by decide +kernel), WT_of 436 (by decide +kernel) (by decide +kernel)⟩
theorem l_X6_101 : kV RX6 101 yX1_makeHop := ⟨WT_of 438 (by decide +kernel) (by decide +kernel), WT_of 439 (by decide +kernel) (by decide +kernel), WT_of 440 (by decide +kernel) (by decide +kernel)⟩
theorem l_X1_83 : kSN RX1 83 yX6_isSide := ⟨⟨"RingDraughts", List.mem_of_getElem? (i := 442) (by decide +kernel)⟩, WT_of 397 (by decide +kernel) (by decide +kernel)⟩
theorem l_X1_91 : kV RX1 91 yX3_taken := ⟨WT_of 443 (by decide +kernel) (by decide +kernel), WT_of 444 (by decide +kernel) (by decide +kernel), WT_of 445 (by decide +kernel) (by decide +kernel)⟩
theorem l_X3_31 : kV RX3 31 yX3_has := ⟨WT_of 447 (by decide +kernel) (by decide +kernel), WT_of 435 (by decide +kernel) (by decide +kernel), WT_of 436 (by decide +kernel) (by decide +kernel)⟩
theorem l_X1_96 : kV RX1 96 yX3_from := ⟨WT_of 448 (by decide +kernel) (by decide +kernel), WT_of 449 (by decide +kernel) (by decide +kernel), WT_of 450 (by decide +kernel) (by decide +kernel)⟩
theorem l_X1_99 : kV RX1 99 yX0_pieceAt := ⟨WT_of 452 (by decide +kernel) (by decide +kernel), WT_of 257 (by decide +kernel) (by decide +kernel), WT_of 258 (by decide +kernel) (by decide +kernel)⟩
theorem l_X1_102 : kSN RX1 102 yX6_isKing := ⟨⟨"RingDraughts", List.mem_of_getElem? (i := 453) (by decide +kernel)⟩, WT_of 291 (by decide +kernel) (by decide +kernel)⟩
theorem l_X1_105 : kV RX1 105 yX0_make := ⟨WT_of 454 (by decide +kernel) (by decide +kernel), WT_of 455 (by decide +kernel) (by decide +kernel), WT_of 456 (by decide +kernel) (by decide +kernel)⟩
theorem l_X0_79 : kV RX0 79 yX3_from := ⟨WT_of 458 (by decide +kernel) (by decide +kernel), WT_of 449 (by decide +kernel) (by decide +kernel), WT_of 450 (by decide +kernel) (by decide +kernel)⟩
theorem l_X0_84 : kV RX0 84 yX3_to := ⟨WT_of 459 (by decide +kernel) (by decide +kernel), WT_of 460 (by decide +kernel) (by decide +kernel), WT_of 461 (by decide +kernel) (by decide +kernel)⟩
theorem l_X0_87 : kV RX0 87 yX3_taken := ⟨WT_of 463 (by decide +kernel) (by decide +kernel), WT_of 444 (by decide +kernel) (by decide +kernel), WT_of 445 (by decide +kernel) (by decide +kernel)⟩
theorem l_X0_90 : kV RX0 90 yX3_steps := ⟨WT_of 464 (by decide +kernel) (by decide +kernel), WT_of 465 (by decide +kernel) (by decide +kernel), WT_of 466 (by decide +kernel) (by decide +kernel)⟩
theorem l_X0_93 : kSN RX0 93 yX6_isCrowned := ⟨⟨"RingDraughts", List.mem_of_getElem? (i := 468) (by decide +kernel)⟩, WT_of 469 (by decide +kernel) (by decide +kernel)⟩
theorem l_X0_97 : kV RX0 97 yX0_canJump := ⟨WT_of 471 (by decide +kernel) (by decide +kernel), WT_of 472 (by decide +kernel) (by decide +kernel), WT_of 473 (by decide +kernel) (by decide +kernel)⟩
theorem l_L_36 : kV RL 36 yX6_play := ⟨WT_of 475 (by decide +kernel) (by decide +kernel), WT_of 476 (by decide +kernel) (by decide +kernel), WT_of 477 (by decide +kernel) (by decide +kernel)⟩
theorem l_X6_108 : kV RX6 108 yX3_find := ⟨WT_of 479 (by decide +kernel) (by decide +kernel), WT_of 480 (by decide +kernel) (by decide +kernel), WT_of 481 (by decide +kernel) (by decide +kernel)⟩
theorem l_X3_35 : kV RX3 35 yX3_from := ⟨WT_of 483 (by decide +kernel) (by decide +kernel), WT_of 449 (by decide +kernel) (by decide +kernel), WT_of 450 (by decide +kernel) (by decide +kernel)⟩
theorem l_X3_39 : kV RX3 39 yX3_to := ⟨WT_of 484 (by decide +kernel) (by decide +kernel), WT_of 460 (by decide +kernel) (by decide +kernel), WT_of 461 (by decide +kernel) (by decide +kernel)⟩
theorem l_L_40 : kV RL 40 yX6_playAll := ⟨WT_of 485 (by decide +kernel) (by decide +kernel), WT_of 486 (by decide +kernel) (by decide +kernel), WT_of 487 (by decide +kernel) (by decide +kernel)⟩
theorem l_X6_112 : kV RX6 112 yX4_findFault := ⟨WT_of 489 (by decide +kernel) (by decide +kernel), WT_of 490 (by decide +kernel) (by decide +kernel), WT_of 491 (by decide +kernel) (by decide +kernel)⟩
theorem l_X4_25 : kV RX4 25 yX4_signAt := ⟨WT_of 493 (by decide +kernel) (by decide +kernel), WT_of 494 (by decide +kernel) (by decide +kernel), WT_of 495 (by decide +kernel) (by decide +kernel)⟩
theorem l_X4_29 : kSN RX4 29 yX6_isSquare := ⟨⟨"RingDraughts", List.mem_of_getElem? (i := 497) (by decide +kernel)⟩, WT_of 379 (by decide +kernel) (by decide +kernel)⟩
theorem l_X6_119 : kV RX6 119 yX4_signAt := ⟨WT_of 498 (by decide +kernel) (by decide +kernel), WT_of 494 (by decide +kernel) (by decide +kernel), WT_of 495 (by decide +kernel) (by decide +kernel)⟩
theorem l_X6_123 : kV RX6 123 yX6_makeToldHop := ⟨WT_of 499 (by decide +kernel) (by decide +kernel), WT_of 501 (by decide +kernel) (by decide +kernel), WT_of 11 (by decide +kernel) (by decide +kernel)⟩
theorem l_X6_162 : kV RX6 162 yX3_taken := ⟨WT_of 503 (by decide +kernel) (by decide +kernel), WT_of 444 (by decide +kernel) (by decide +kernel), WT_of 445 (by decide +kernel) (by decide +kernel)⟩
theorem l_L_45 : kV RL 45 yX6_giveUp := ⟨WT_of 504 (by decide +kernel) (by decide +kernel), WT_of 505 (by decide +kernel) (by decide +kernel), WT_of 506 (by decide +kernel) (by decide +kernel)⟩
theorem l_X6_127 : kS RX6 127 yX6_wonBy := ⟨WT_of 508 (by decide +kernel) (by decide +kernel), WT_of 294 (by decide +kernel) (by decide +kernel)⟩
theorem l_L_49 : kV RL 49 yX6_square := ⟨WT_of 509 (by decide +kernel) (by decide +kernel), WT_of 510 (by decide +kernel) (by decide +kernel), WT_of 511 (by decide +kernel) (by decide +kernel)⟩
theorem l_X6_136 : kV RX6 136 yX6_isInDanger := ⟨WT_of 513 (by decide +kernel) (by decide +kernel), WT_of 515 (by decide +kernel) (by decide +kernel), WT_of 12 (by decide +kernel) (by decide +kernel)⟩
theorem l_X6_246 : kV RX6 246 yX3_listJumps := ⟨WT_of 517 (by decide +kernel) (by decide +kernel), WT_of 413 (by decide +kernel) (by decide +kernel), WT_of 414 (by decide +kernel) (by decide +kernel)⟩
theorem l_X6_250 : kV RX6 250 yX3_takes := ⟨WT_of 518 (by decide +kernel) (by decide +kernel), WT_of 519 (by decide +kernel) (by decide +kernel), WT_of 520 (by decide +kernel) (by decide +kernel)⟩
theorem l_X3_42 : kV RX3 42 yX3_taken := ⟨WT_of 522 (by decide +kernel) (by decide +kernel), WT_of 444 (by decide +kernel) (by decide +kernel), WT_of 445 (by decide +kernel) (by decide +kernel)⟩
theorem l_X6_139 : kS RX6 139 yX6_oneIf := ⟨WT_of 523 (by decide +kernel) (by decide +kernel), WT_of 524 (by decide +kernel) (by decide +kernel)⟩
theorem l_X6_143 : kV RX6 143 yX3_numberFrom := ⟨WT_of 526 (by decide +kernel) (by decide +kernel), WT_of 527 (by decide +kernel) (by decide +kernel), WT_of 528 (by decide +kernel) (by decide +kernel)⟩
theorem l_L_53 : kV RL 53 yX6_step := ⟨WT_of 530 (by decide +kernel) (by decide +kernel), WT_of 531 (by decide +kernel) (by decide +kernel), WT_of 532 (by decide +kernel) (by decide +kernel)⟩
theorem l_X6_146 : kS RX6 146 yX6_squareAfter := ⟨WT_of 534 (by decide +kernel) (by decide +kernel), WT_of 275 (by decide +kernel) (by decide +kernel)⟩
theorem l_L_57 : kV RL 57 yX6_ofHop := ⟨WT_of 535 (by decide +kernel) (by decide +kernel), WT_of 536 (by decide +kernel) (by decide +kernel), WT_of 537 (by decide +kernel) (by decide +kernel)⟩
theorem l_X6_150 : kV RX6 150 yX3_from := ⟨WT_of 539 (by decide +kernel) (by decide +kernel), WT_of 449 (by decide +kernel) (by decide +kernel), WT_of 450 (by decide +kernel) (by decide +kernel)⟩
theorem l_X6_153 : kV RX6 153 yX3_to := ⟨WT_of 540 (by decide +kernel) (by decide +kernel), WT_of 460 (by decide +kernel) (by decide +kernel), WT_of 461 (by decide +kernel) (by decide +kernel)⟩
theorem l_X6_156 : kV RX6 156 yX3_way := ⟨WT_of 541 (by decide +kernel) (by decide +kernel), WT_of 542 (by decide +kernel) (by decide +kernel), WT_of 543 (by decide +kernel) (by decide +kernel)⟩
theorem l_X6_159 : kV RX6 159 yX3_steps := ⟨WT_of 545 (by decide +kernel) (by decide +kernel), WT_of 465 (by decide +kernel) (by decide +kernel), WT_of 466 (by decide +kernel) (by decide +kernel)⟩
theorem l_X6_165 : kS RX6 165 yX6_isCrowned := ⟨WT_of 546 (by decide +kernel) (by decide +kernel), WT_of 469 (by decide +kernel) (by decide +kernel)⟩
theorem l_X6_169 : kV RX6 169 yX6_isJumpedOnBehind := ⟨WT_of 547 (by decide +kernel) (by decide +kernel), WT_of 549 (by decide +kernel) (by decide +kernel), WT_of 13 (by decide +kernel) (by decide +kernel)⟩
theorem l_X6_216 : kV RX6 216 yX5_tryHop := ⟨WT_of 551 (by decide +kernel) (by decide +kernel), WT_of 552 (by decide +kernel) (by decide +kernel), WT_of 553 (by decide +kernel) (by decide +kernel)⟩
theorem l_X5_27 : kV RX5 27 yX3_has := ⟨WT_of 555 (by decide +kernel) (by decide +kernel), WT_of 435 (by decide +kernel) (by decide +kernel), WT_of 436 (by decide +kernel) (by decide +kernel)⟩
theorem l_X5_31 : kV RX5 31 yX0_copyFrom := ⟨WT_of 556 (by decide +kernel) (by decide +kernel), WT_of 344 (by decide +kernel) (by decide +kernel), WT_of 345 (by decide +kernel) (by decide +kernel)⟩
theorem l_X5_35 : kV RX5 35 yX0_make := ⟨WT_of 557 (by decide +kernel) (by decide +kernel), WT_of 455 (by decide +kernel) (by decide +kernel), WT_of 456 (by decide +kernel) (by decide +kernel)⟩
theorem l_L_61 : kV RL 61 yX6_side := ⟨WT_of 558 (by decide +kernel) (by decide +kernel), WT_of 559 (by decide +kernel) (by decide +kernel), WT_of 560 (by decide +kernel) (by decide +kernel)⟩
theorem l_X6_172 : kV RX6 172 yX0_menOf := ⟨WT_of 562 (by decide +kernel) (by decide +kernel), WT_of 360 (by decide +kernel) (by decide +kernel), WT_of 361 (by decide +kernel) (by decide +kernel)⟩
theorem l_X6_175 : kV RX6 175 yX0_kingsOf := ⟨WT_of 563 (by decide +kernel) (by decide +kernel), WT_of 368 (by decide +kernel) (by decide +kernel), WT_of 369 (by decide +kernel) (by decide +kernel)⟩
theorem l_X6_185 : kV RX6 185 yX0_worthOf := ⟨WT_of 564 (by decide +kernel) (by decide +kernel), WT_of 565 (by decide +kernel) (by decide +kernel), WT_of 566 (by decide +kernel) (by decide +kernel)⟩
theorem l_L_65 : kV RL 65 yX6_count := ⟨WT_of 568 (by decide +kernel) (by decide +kernel), WT_of 569 (by decide +kernel) (by decide +kernel), WT_of 570 (by decide +kernel) (by decide +kernel)⟩
theorem l_X6_197 : kV RX6 197 yX1_timesOfNow := ⟨WT_of 572 (by decide +kernel) (by decide +kernel), WT_of 297 (by decide +kernel) (by decide +kernel), WT_of 298 (by decide +kernel) (by decide +kernel)⟩
theorem l_L_69 : kV RL 69 yX6_rows := ⟨WT_of 573 (by decide +kernel) (by decide +kernel), WT_of 574 (by decide +kernel) (by decide +kernel), WT_of 575 (by decide +kernel) (by decide +kernel)⟩
theorem l_X6_209 : kS RX6 209 yX6_numberOfRows := ⟨WT_of 577 (by decide +kernel) (by decide +kernel), WT_of 578 (by decide +kernel) (by decide +kernel)⟩
theorem l_X6_253 : kS RX6 253 yJ9_min_7cf53 := ⟨WT_of 580 (by decide +kernel) (by decide +kernel), WT_of 305 (by decide +kernel) (by decide +kernel)⟩
theorem l_L_73 : kV RL 73 yX6_worth := ⟨WT_of 581 (by decide +kernel) (by decide +kernel), WT_of 582 (by decide +kernel) (by decide +kernel), WT_of 583 (by decide +kernel) (by decide +kernel)⟩
theorem l_X6_213 : kS RX6 213 yX6_worthBehind := ⟨WT_of 585 (by decide +kernel) (by decide +kernel), WT_of 586 (by decide +kernel) (by decide +kernel)⟩
theorem l_L_77 : kV RL 77 yX6_best := ⟨WT_of 588 (by decide +kernel) (by decide +kernel), WT_of 589 (by decide +kernel) (by decide +kernel), WT_of 590 (by decide +kernel) (by decide +kernel)⟩
theorem l_L_83 : kV RL 83 yX6_put := ⟨WT_of 592 (by decide +kernel) (by decide +kernel), WT_of 593 (by decide +kernel) (by decide +kernel), WT_of 594 (by decide +kernel) (by decide +kernel)⟩
theorem l_X6_223 : kS RX6 223 yX4_numberOfSigns := ⟨WT_of 596 (by decide +kernel) (by decide +kernel), WT_of 597 (by decide +kernel) (by decide +kernel)⟩
theorem k_X4_19 : Cond.constantLong RX4 19 255 ∈ WT := WT_of 599 (by decide +kernel) (by decide +kernel)
theorem k_X4_21 : Cond.constantLong RX4 21 33 ∈ WT := WT_of 600 (by decide +kernel) (by decide +kernel)
theorem k_X4_23 : Cond.constantLong RX4 23 126 ∈ WT := WT_of 601 (by decide +kernel) (by decide +kernel)
theorem l_X6_227 : kV RX6 227 yX4_append := ⟨WT_of 602 (by decide +kernel) (by decide +kernel), WT_of 603 (by decide +kernel) (by decide +kernel), WT_of 604 (by decide +kernel) (by decide +kernel)⟩
theorem l_L_88 : kV RL 88 yX6_wipe := ⟨WT_of 606 (by decide +kernel) (by decide +kernel), WT_of 607 (by decide +kernel) (by decide +kernel), WT_of 608 (by decide +kernel) (by decide +kernel)⟩
theorem l_L_92 : kV RL 92 yX6_fault := ⟨WT_of 610 (by decide +kernel) (by decide +kernel), WT_of 611 (by decide +kernel) (by decide +kernel), WT_of 612 (by decide +kernel) (by decide +kernel)⟩
theorem l_L_96 : kV RL 96 yX6_undo := ⟨WT_of 614 (by decide +kernel) (by decide +kernel), WT_of 615 (by decide +kernel) (by decide +kernel), WT_of 616 (by decide +kernel) (by decide +kernel)⟩
theorem l_X6_231 : kV RX6 231 yX2_takeBack := ⟨WT_of 618 (by decide +kernel) (by decide +kernel), WT_of 619 (by decide +kernel) (by decide +kernel), WT_of 620 (by decide +kernel) (by decide +kernel)⟩
theorem l_L_100 : kV RL 100 yX6_save := ⟨WT_of 622 (by decide +kernel) (by decide +kernel), WT_of 623 (by decide +kernel) (by decide +kernel), WT_of 624 (by decide +kernel) (by decide +kernel)⟩
theorem l_X6_234 : kV RX6 234 yX1_copyFrom := ⟨WT_of 626 (by decide +kernel) (by decide +kernel), WT_of 340 (by decide +kernel) (by decide +kernel), WT_of 341 (by decide +kernel) (by decide +kernel)⟩
theorem l_L_104 : kV RL 104 yX6_restore := ⟨WT_of 627 (by decide +kernel) (by decide +kernel), WT_of 628 (by decide +kernel) (by decide +kernel), WT_of 629 (by decide +kernel) (by decide +kernel)⟩
theorem cl_L_10 : Cond.classLink RL 10 RX7 ∈ WT := WT_of 631 (by decide +kernel) (by decide +kernel)
theorem n_L_10 : kN RL 10 7 20 [.null, .null, .null, .null, .int 0, .null, .int 0, .null, .null, .null, .null, .null, .null, .null, .null, .null, .null, .int 0, .int 0, .int 0] := ⟨(RX7, TX7, 20), tyX7, KX7, rfl, cl_L_10, WT_of 632 (by decide +kernel) (by decide +kernel), WT_of 64 (by decide +kernel) (by decide +kernel), by decide +kernel⟩
theorem l_L_12 : kI RL 12 yX7_init := ⟨WT_of 633 (by decide +kernel) (by decide +kernel), WT_of 634 (by decide +kernel) (by decide +kernel), rfl⟩
theorem l_X7_1 : Cond.methodLink RX7 1 objectInit ∈ WT := WT_of 636 (by decide +kernel) (by decide +kernel)
theorem l_X7_57 : kV RX7 57 yX7_start := ⟨WT_of 637 (by decide +kernel) (by decide +kernel), WT_of 639 (by decide +kernel) (by decide +kernel), WT_of 14 (by decide +kernel) (by decide +kernel)⟩
theorem l_X7_69 : kS RX7 69 yX7_rowOf := ⟨WT_of 641 (by decide +kernel) (by decide +kernel), WT_of 642 (by decide +kernel) (by decide +kernel)⟩
theorem l_X7_140 : kV RX7 140 yX7_beginHere := ⟨WT_of 644 (by decide +kernel) (by decide +kernel), WT_of 646 (by decide +kernel) (by decide +kernel), WT_of 15 (by decide +kernel) (by decide +kernel)⟩
theorem l_X7_131 : kV RX7 131 yX7_forgetPositions := ⟨WT_of 648 (by decide +kernel) (by decide +kernel), WT_of 650 (by decide +kernel) (by decide +kernel), WT_of 16 (by decide +kernel) (by decide +kernel)⟩
theorem l_X7_134 : kV RX7 134 yX7_writePosition := ⟨WT_of 652 (by decide +kernel) (by decide +kernel), WT_of 654 (by decide +kernel) (by decide +kernel), WT_of 17 (by decide +kernel) (by decide +kernel)⟩
theorem l_X7_121 : kV RX7 121 yX7_squaresOf := ⟨WT_of 656 (by decide +kernel) (by decide +kernel), WT_of 658 (by decide +kernel) (by decide +kernel), WT_of 18 (by decide +kernel) (by decide +kernel)⟩
theorem l_X7_137 : kV RX7 137 yX7_judge := ⟨WT_of 660 (by decide +kernel) (by decide +kernel), WT_of 662 (by decide +kernel) (by decide +kernel), WT_of 19 (by decide +kernel) (by decide +kernel)⟩
theorem l_X7_124 : kV RX7 124 yX7_look := ⟨WT_of 664 (by decide +kernel) (by decide +kernel), WT_of 666 (by decide +kernel) (by decide +kernel), WT_of 20 (by decide +kernel) (by decide +kernel)⟩
theorem l_X7_117 : kV RX7 117 yX7_listHops := ⟨WT_of 668 (by decide +kernel) (by decide +kernel), WT_of 670 (by decide +kernel) (by decide +kernel), WT_of 21 (by decide +kernel) (by decide +kernel)⟩
theorem l_X7_108 : kV RX7 108 yX7_listAllJumps := ⟨WT_of 672 (by decide +kernel) (by decide +kernel), WT_of 674 (by decide +kernel) (by decide +kernel), WT_of 22 (by decide +kernel) (by decide +kernel)⟩
theorem l_X7_79 : kV RX7 79 yX7_pieceAt := ⟨WT_of 676 (by decide +kernel) (by decide +kernel), WT_of 678 (by decide +kernel) (by decide +kernel), WT_of 23 (by decide +kernel) (by decide +kernel)⟩
theorem l_X7_87 : kS RX7 87 yX7_sideOf := ⟨WT_of 680 (by decide +kernel) (by decide +kernel), WT_of 681 (by decide +kernel) (by decide +kernel)⟩
theorem l_X7_101 : kV RX7 101 yX7_goesWay := ⟨WT_of 683 (by decide +kernel) (by decide +kernel), WT_of 685 (by decide +kernel) (by decide +kernel), WT_of 24 (by decide +kernel) (by decide +kernel)⟩
theorem l_X7_83 : kS RX7 83 yX7_isKing := ⟨WT_of 687 (by decide +kernel) (by decide +kernel), WT_of 688 (by decide +kernel) (by decide +kernel)⟩
theorem l_X7_104 : kV RX7 104 yX7_listJumps := ⟨WT_of 690 (by decide +kernel) (by decide +kernel), WT_of 692 (by decide +kernel) (by decide +kernel), WT_of 25 (by decide +kernel) (by decide +kernel)⟩
theorem l_X7_90 : kS RX7 90 yX7_next := ⟨WT_of 694 (by decide +kernel) (by decide +kernel), WT_of 695 (by decide +kernel) (by decide +kernel)⟩
theorem l_X7_65 : kS RX7 65 yX7_columnOf := ⟨WT_of 697 (by decide +kernel) (by decide +kernel), WT_of 698 (by decide +kernel) (by decide +kernel)⟩
theorem l_X7_93 : kV RX7 93 yX7_isEmpty := ⟨WT_of 700 (by decide +kernel) (by decide +kernel), WT_of 702 (by decide +kernel) (by decide +kernel), WT_of 26 (by decide +kernel) (by decide +kernel)⟩
theorem l_X7_97 : kV RX7 97 yX7_list := ⟨WT_of 704 (by decide +kernel) (by decide +kernel), WT_of 706 (by decide +kernel) (by decide +kernel), WT_of 27 (by decide +kernel) (by decide +kernel)⟩
theorem l_X7_111 : kV RX7 111 yX7_listMoves := ⟨WT_of 708 (by decide +kernel) (by decide +kernel), WT_of 710 (by decide +kernel) (by decide +kernel), WT_of 28 (by decide +kernel) (by decide +kernel)⟩
theorem l_X7_127 : kV RX7 127 yX7_timesCome := ⟨WT_of 712 (by decide +kernel) (by decide +kernel), WT_of 714 (by decide +kernel) (by decide +kernel), WT_of 29 (by decide +kernel) (by decide +kernel)⟩
theorem f_X7_7 : FL RX7 7 7 0 (.array .int) true := ⟨(RX7, TX7, 20), tyX7, KX7, by decide, WT_of 716 (by decide +kernel) (by decide +kernel), rfl, rfl, fun h => by first | rfl | cases h⟩
theorem f_X7_13 : FL RX7 13 7 1 (.array .int) true := ⟨(RX7, TX7, 20), tyX7, KX7, by decide, WT_of 717 (by decide +kernel) (by decide +kernel), rfl, rfl, fun h => by first | rfl | cases h⟩
theorem f_X7_16 : FL RX7 16 7 2 (.array .int) true := ⟨(RX7, TX7, 20), tyX7, KX7, by decide, WT_of 718 (by decide +kernel) (by decide +kernel), rfl, rfl, fun h => by first | rfl | cases h⟩
theorem f_X7_19 : FL RX7 19 7 3 (.array .boolean) true := ⟨(RX7, TX7, 20), tyX7, KX7, by decide, WT_of 719 (by decide +kernel) (by decide +kernel), rfl, rfl, fun h => by first | rfl | cases h⟩
theorem f_X7_72 : FL RX7 72 7 4 .int false := ⟨(RX7, TX7, 20), tyX7, KX7, by decide, WT_of 720 (by decide +kernel) (by decide +kernel), rfl, rfl, fun h => by first | rfl | cases h⟩
theorem f_X7_23 : FL RX7 23 7 5 (.array .char) true := ⟨(RX7, TX7, 20), tyX7, KX7, by decide, WT_of 721 (by decide +kernel) (by decide +kernel), rfl, rfl, fun h => by first | rfl | cases h⟩
theorem f_X7_174 : FL RX7 174 7 6 .int false := ⟨(RX7, TX7, 20), tyX7, KX7, by decide, WT_of 722 (by decide +kernel) (by decide +kernel), rfl, rfl, fun h => by first | rfl | cases h⟩
theorem f_X7_27 : FL RX7 27 7 7 (.array .int) true := ⟨(RX7, TX7, 20), tyX7, KX7, by decide, WT_of 723 (by decide +kernel) (by decide +kernel), rfl, rfl, fun h => by first | rfl | cases h⟩
theorem f_X7_30 : FL RX7 30 7 8 (.array .int) true := ⟨(RX7, TX7, 20), tyX7, KX7, by decide, WT_of 724 (by decide +kernel) (by decide +kernel), rfl, rfl, fun h => by first | rfl | cases h⟩
theorem f_X7_33 : FL RX7 33 7 9 (.array .int) true := ⟨(RX7, TX7, 20), tyX7, KX7, by decide, WT_of 725 (by decide +kernel) (by decide +kernel), rfl, rfl, fun h => by first | rfl | cases h⟩
theorem f_X7_36 : FL RX7 36 7 10 (.array .int) true := ⟨(RX7, TX7, 20), tyX7, KX7, by decide, WT_of 726 (by decide +kernel) (by decide +kernel), rfl, rfl, fun h => by first | rfl | cases h⟩
theorem f_X7_39 : FL RX7 39 7 11 (.array .int) true := ⟨(RX7, TX7, 20), tyX7, KX7, by decide, WT_of 727 (by decide +kernel) (by decide +kernel), rfl, rfl, fun h => by first | rfl | cases h⟩
theorem f_X7_42 : FL RX7 42 7 12 (.array .int) true := ⟨(RX7, TX7, 20), tyX7, KX7, by decide, WT_of 728 (by decide +kernel) (by decide +kernel), rfl, rfl, fun h => by first | rfl | cases h⟩
theorem f_X7_45 : FL RX7 45 7 13 (.array .int) true := ⟨(RX7, TX7, 20), tyX7, KX7, by decide, WT_of 729 (by decide +kernel) (by decide +kernel), rfl, rfl, fun h => by first | rfl | cases h⟩
theorem f_X7_48 : FL RX7 48 7 14 (.array .int) true := ⟨(RX7, TX7, 20), tyX7, KX7, by decide, WT_of 730 (by decide +kernel) (by decide +kernel), rfl, rfl, fun h => by first | rfl | cases h⟩
theorem f_X7_51 : FL RX7 51 7 15 (.array .int) true := ⟨(RX7, TX7, 20), tyX7, KX7, by decide, WT_of 731 (by decide +kernel) (by decide +kernel), rfl, rfl, fun h => by first | rfl | cases h⟩
theorem f_X7_54 : FL RX7 54 7 16 (.array .int) true := ⟨(RX7, TX7, 20), tyX7, KX7, by decide, WT_of 732 (by decide +kernel) (by decide +kernel), rfl, rfl, fun h => by first | rfl | cases h⟩
theorem f_X7_212 : FL RX7 212 7 17 .int false := ⟨(RX7, TX7, 20), tyX7, KX7, by decide, WT_of 733 (by decide +kernel) (by decide +kernel), rfl, rfl, fun h => by first | rfl | cases h⟩
theorem f_X7_200 : FL RX7 200 7 18 .int false := ⟨(RX7, TX7, 20), tyX7, KX7, by decide, WT_of 734 (by decide +kernel) (by decide +kernel), rfl, rfl, fun h => by first | rfl | cases h⟩
theorem f_X7_203 : FL RX7 203 7 19 .int false := ⟨(RX7, TX7, 20), tyX7, KX7, by decide, WT_of 735 (by decide +kernel) (by decide +kernel), rfl, rfl, fun h => by first | rfl | cases h⟩
theorem l_L_99 : kV RL 99 yX7_undo := ⟨WT_of 778 (by decide +kernel) (by decide +kernel), WT_of 779 (by decide +kernel) (by decide +kernel), WT_of 780 (by decide +kernel) (by decide +kernel)⟩
theorem l_L_103 : kV RL 103 yX7_save := ⟨WT_of 782 (by decide +kernel) (by decide +kernel), WT_of 783 (by decide +kernel) (by decide +kernel), WT_of 784 (by decide +kernel) (by decide +kernel)⟩
theorem l_X7_61 : kS RX7 61 yX7_in := ⟨WT_of 786 (by decide +kernel) (by decide +kernel), WT_of 787 (by decide +kernel) (by decide +kernel)⟩
theorem l_L_107 : kV RL 107 yX7_restore := ⟨WT_of 789 (by decide +kernel) (by decide +kernel), WT_of 790 (by decide +kernel) (by decide +kernel), WT_of 791 (by decide +kernel) (by decide +kernel)⟩
theorem l_X7_76 : kV RX7 76 yX7_record := ⟨WT_of 793 (by decide +kernel) (by decide +kernel), WT_of 795 (by decide +kernel) (by decide +kernel), WT_of 30 (by decide +kernel) (by decide +kernel)⟩
theorem l_L_17 : kV RL 17 yX7_clock := ⟨WT_of 797 (by decide +kernel) (by decide +kernel), WT_of 798 (by decide +kernel) (by decide +kernel), WT_of 799 (by decide +kernel) (by decide +kernel)⟩
theorem l_L_22 : kV RL 22 yX7_begin := ⟨WT_of 801 (by decide +kernel) (by decide +kernel), WT_of 802 (by decide +kernel) (by decide +kernel), WT_of 803 (by decide +kernel) (by decide +kernel)⟩
theorem l_X7_146 : kV RX7 146 yX7_all := ⟨WT_of 805 (by decide +kernel) (by decide +kernel), WT_of 807 (by decide +kernel) (by decide +kernel), WT_of 31 (by decide +kernel) (by decide +kernel)⟩
theorem l_X7_143 : kV RX7 143 yX7_pieces := ⟨WT_of 809 (by decide +kernel) (by decide +kernel), WT_of 811 (by decide +kernel) (by decide +kernel), WT_of 32 (by decide +kernel) (by decide +kernel)⟩
theorem l_L_27 : kV RL 27 yX7_set := ⟨WT_of 813 (by decide +kernel) (by decide +kernel), WT_of 814 (by decide +kernel) (by decide +kernel), WT_of 815 (by decide +kernel) (by decide +kernel)⟩
theorem l_X7_149 : kS RX7 149 yX7_isSquare := ⟨WT_of 817 (by decide +kernel) (by decide +kernel), WT_of 818 (by decide +kernel) (by decide +kernel)⟩
theorem l_L_31 : kV RL 31 yX7_turn := ⟨WT_of 820 (by decide +kernel) (by decide +kernel), WT_of 821 (by decide +kernel) (by decide +kernel), WT_of 822 (by decide +kernel) (by decide +kernel)⟩
theorem l_L_35 : kV RL 35 yX7_hop := ⟨WT_of 824 (by decide +kernel) (by decide +kernel), WT_of 825 (by decide +kernel) (by decide +kernel), WT_of 826 (by decide +kernel) (by decide +kernel)⟩
theorem l_X7_156 : kV RX7 156 yX7_makeIt := ⟨WT_of 828 (by decide +kernel) (by decide +kernel), WT_of 830 (by decide +kernel) (by decide +kernel), WT_of 33 (by decide +kernel) (by decide +kernel)⟩
theorem l_X7_152 : kV RX7 152 yX7_go := ⟨WT_of 832 (by decide +kernel) (by decide +kernel), WT_of 834 (by decide +kernel) (by decide +kernel), WT_of 34 (by decide +kernel) (by decide +kernel)⟩
theorem l_X7_114 : kV RX7 114 yX7_becomesKing := ⟨WT_of 836 (by decide +kernel) (by decide +kernel), WT_of 838 (by decide +kernel) (by decide +kernel), WT_of 35 (by decide +kernel) (by decide +kernel)⟩
theorem l_L_39 : kV RL 39 yX7_play := ⟨WT_of 840 (by decide +kernel) (by decide +kernel), WT_of 841 (by decide +kernel) (by decide +kernel), WT_of 842 (by decide +kernel) (by decide +kernel)⟩
theorem l_X7_159 : kV RX7 159 yX7_hopFrom := ⟨WT_of 844 (by decide +kernel) (by decide +kernel), WT_of 846 (by decide +kernel) (by decide +kernel), WT_of 36 (by decide +kernel) (by decide +kernel)⟩
theorem l_L_48 : kV RL 48 yX7_giveUp := ⟨WT_of 848 (by decide +kernel) (by decide +kernel), WT_of 849 (by decide +kernel) (by decide +kernel), WT_of 850 (by decide +kernel) (by decide +kernel)⟩
theorem l_L_52 : kV RL 52 yX7_square := ⟨WT_of 852 (by decide +kernel) (by decide +kernel), WT_of 853 (by decide +kernel) (by decide +kernel), WT_of 854 (by decide +kernel) (by decide +kernel)⟩
theorem l_X7_162 : kV RX7 162 yX7_isInDanger := ⟨WT_of 856 (by decide +kernel) (by decide +kernel), WT_of 858 (by decide +kernel) (by decide +kernel), WT_of 37 (by decide +kernel) (by decide +kernel)⟩
theorem l_X7_165 : kV RX7 165 yX7_hopsFrom := ⟨WT_of 860 (by decide +kernel) (by decide +kernel), WT_of 862 (by decide +kernel) (by decide +kernel), WT_of 38 (by decide +kernel) (by decide +kernel)⟩
theorem l_L_56 : kV RL 56 yX7_step := ⟨WT_of 864 (by decide +kernel) (by decide +kernel), WT_of 865 (by decide +kernel) (by decide +kernel), WT_of 866 (by decide +kernel) (by decide +kernel)⟩
theorem l_L_60 : kV RL 60 yX7_ofHop := ⟨WT_of 868 (by decide +kernel) (by decide +kernel), WT_of 869 (by decide +kernel) (by decide +kernel), WT_of 870 (by decide +kernel) (by decide +kernel)⟩
theorem l_X7_168 : kV RX7 168 yX7_goesOn := ⟨WT_of 872 (by decide +kernel) (by decide +kernel), WT_of 874 (by decide +kernel) (by decide +kernel), WT_of 39 (by decide +kernel) (by decide +kernel)⟩
theorem l_L_64 : kV RL 64 yX7_side := ⟨WT_of 876 (by decide +kernel) (by decide +kernel), WT_of 877 (by decide +kernel) (by decide +kernel), WT_of 878 (by decide +kernel) (by decide +kernel)⟩
theorem l_L_68 : kV RL 68 yX7_count := ⟨WT_of 880 (by decide +kernel) (by decide +kernel), WT_of 881 (by decide +kernel) (by decide +kernel), WT_of 882 (by decide +kernel) (by decide +kernel)⟩
theorem l_X7_171 : kV RX7 171 yX7_hopsNow := ⟨WT_of 884 (by decide +kernel) (by decide +kernel), WT_of 886 (by decide +kernel) (by decide +kernel), WT_of 40 (by decide +kernel) (by decide +kernel)⟩
theorem l_L_72 : kV RL 72 yX7_rows := ⟨WT_of 888 (by decide +kernel) (by decide +kernel), WT_of 889 (by decide +kernel) (by decide +kernel), WT_of 890 (by decide +kernel) (by decide +kernel)⟩
theorem l_X7_177 : kV RX7 177 yX7_rowsOfTwo := ⟨WT_of 892 (by decide +kernel) (by decide +kernel), WT_of 894 (by decide +kernel) (by decide +kernel), WT_of 41 (by decide +kernel) (by decide +kernel)⟩
theorem l_X7_180 : kV RX7 180 yX7_rowsOfThree := ⟨WT_of 896 (by decide +kernel) (by decide +kernel), WT_of 898 (by decide +kernel) (by decide +kernel), WT_of 42 (by decide +kernel) (by decide +kernel)⟩
theorem l_L_76 : kV RL 76 yX7_worth := ⟨WT_of 900 (by decide +kernel) (by decide +kernel), WT_of 901 (by decide +kernel) (by decide +kernel), WT_of 902 (by decide +kernel) (by decide +kernel)⟩
theorem l_X7_183 : kV RX7 183 yX7_worthNow := ⟨WT_of 904 (by decide +kernel) (by decide +kernel), WT_of 906 (by decide +kernel) (by decide +kernel), WT_of 43 (by decide +kernel) (by decide +kernel)⟩
theorem l_X7_192 : kV RX7 192 yX7_worthOfOne := ⟨WT_of 908 (by decide +kernel) (by decide +kernel), WT_of 910 (by decide +kernel) (by decide +kernel), WT_of 44 (by decide +kernel) (by decide +kernel)⟩
theorem l_X7_186 : kV RX7 186 yX7_worthLost := ⟨WT_of 912 (by decide +kernel) (by decide +kernel), WT_of 914 (by decide +kernel) (by decide +kernel), WT_of 45 (by decide +kernel) (by decide +kernel)⟩
theorem l_X7_189 : kV RX7 189 yX7_isBetter := ⟨WT_of 916 (by decide +kernel) (by decide +kernel), WT_of 918 (by decide +kernel) (by decide +kernel), WT_of 46 (by decide +kernel) (by decide +kernel)⟩
theorem l_X7_195 : kV RX7 195 yX7_worthOfTwo := ⟨WT_of 920 (by decide +kernel) (by decide +kernel), WT_of 922 (by decide +kernel) (by decide +kernel), WT_of 47 (by decide +kernel) (by decide +kernel)⟩
theorem l_L_80 : kV RL 80 yX7_best := ⟨WT_of 924 (by decide +kernel) (by decide +kernel), WT_of 925 (by decide +kernel) (by decide +kernel), WT_of 926 (by decide +kernel) (by decide +kernel)⟩
theorem l_L_87 : kV RL 87 yX7_put := ⟨WT_of 928 (by decide +kernel) (by decide +kernel), WT_of 929 (by decide +kernel) (by decide +kernel), WT_of 930 (by decide +kernel) (by decide +kernel)⟩
theorem k_X7_198 : Cond.constantLong RX7 198 255 ∈ WT := WT_of 932 (by decide +kernel) (by decide +kernel)
theorem l_L_91 : kV RL 91 yX7_wipe := ⟨WT_of 933 (by decide +kernel) (by decide +kernel), WT_of 934 (by decide +kernel) (by decide +kernel), WT_of 935 (by decide +kernel) (by decide +kernel)⟩
theorem l_L_95 : kV RL 95 yX7_fault := ⟨WT_of 937 (by decide +kernel) (by decide +kernel), WT_of 938 (by decide +kernel) (by decide +kernel), WT_of 939 (by decide +kernel) (by decide +kernel)⟩
theorem l_X7_221 : kV RX7 221 yX7_readPad := ⟨WT_of 941 (by decide +kernel) (by decide +kernel), WT_of 943 (by decide +kernel) (by decide +kernel), WT_of 48 (by decide +kernel) (by decide +kernel)⟩
theorem l_X7_218 : kV RX7 218 yX7_readHop := ⟨WT_of 945 (by decide +kernel) (by decide +kernel), WT_of 947 (by decide +kernel) (by decide +kernel), WT_of 49 (by decide +kernel) (by decide +kernel)⟩
theorem l_X7_215 : kV RX7 215 yX7_number := ⟨WT_of 949 (by decide +kernel) (by decide +kernel), WT_of 951 (by decide +kernel) (by decide +kernel), WT_of 50 (by decide +kernel) (by decide +kernel)⟩
theorem l_X7_206 : kV RX7 206 yX7_letter := ⟨WT_of 953 (by decide +kernel) (by decide +kernel), WT_of 955 (by decide +kernel) (by decide +kernel), WT_of 51 (by decide +kernel) (by decide +kernel)⟩
theorem l_X7_209 : kV RX7 209 yX7_wants := ⟨WT_of 957 (by decide +kernel) (by decide +kernel), WT_of 959 (by decide +kernel) (by decide +kernel), WT_of 52 (by decide +kernel) (by decide +kernel)⟩
theorem l_L_44 : kV RL 44 yX7_playAll := ⟨WT_of 961 (by decide +kernel) (by decide +kernel), WT_of 962 (by decide +kernel) (by decide +kernel), WT_of 963 (by decide +kernel) (by decide +kernel)⟩
theorem l_X7_224 : kV RX7 224 yX7_plays := ⟨WT_of 965 (by decide +kernel) (by decide +kernel), WT_of 967 (by decide +kernel) (by decide +kernel), WT_of 53 (by decide +kernel) (by decide +kernel)⟩
theorem k_L_81 : Cond.constantLong RL 81 4294967295 ∈ WT := WT_of 969 (by decide +kernel) (by decide +kernel)
theorem w_obj1 : Cond.instanceMethod objectInit ∈ WT := WT_of 72 (by decide +kernel) (by decide +kernel)
theorem w_obj2 : Cond.code objectInit ⟨#[0xb1]⟩ 1 none ∈ WT := WT_of 73 (by decide +kernel) (by decide +kernel)
theorem w_cp1 : Cond.native arraycopyName ∈ WT := WT_of 349 (by decide +kernel) (by decide +kernel)
theorem w_cp2 : Cond.static arraycopyName ∈ WT := WT_of 348 (by decide +kernel) (by decide +kernel)
theorem w_cp3 : Cond.initialized "java/lang/System" ∈ WT := WT_of 65 (by decide +kernel) (by decide +kernel)
theorem w_ar_int : Cond.arrayClass .int ∈ WT := WT_of 108 (by decide +kernel) (by decide +kernel)
theorem w_ar_long : Cond.arrayClass .long ∈ WT := WT_of 144 (by decide +kernel) (by decide +kernel)
theorem w_ar_char : Cond.arrayClass .char ∈ WT := WT_of 175 (by decide +kernel) (by decide +kernel)
theorem w_ar_boolean : Cond.arrayClass .boolean ∈ WT := WT_of 777 (by decide +kernel) (by decide +kernel)
