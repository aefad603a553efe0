theorem bigI (i : Nat) {w : Cond} (h : lw_tbl[i]? = some w) (g : goodWord w = true) : w ∈ bigW := List.mem_filter.mpr ⟨List.mem_of_getElem? h, g⟩
theorem nestI (i : Nat) {w : Cond} (h : lw_tbl[i]? = some w) (g : isNest w = true) : w ∈ nestW := List.mem_filter.mpr ⟨List.mem_of_getElem? h, g⟩
def yM_floorMod : MethodName := ⟨"java/lang/Math", "floorMod", "(II)I"⟩
abbrev cM_floorMod : ByteArray := prog_11_method_50_code
abbrev mX0_init : MI := (yX0_init, cX0_init, 3, none)
abbrev mX0_isFull : MI := (yX0_isFull, cX0_isFull, 1, some .boolean)
set_option maxRecDepth 20000 in
theorem kcX0_isFull : KC mX0_isFull 0 := ⟨bigI 51 (by decide +kernel) rfl, bigI 505 rfl rfl, by decide +kernel, ⟨by decide +kernel, by decide +kernel, by decide +kernel⟩, by decide⟩
abbrev mX0_size : MI := (yX0_size, cX0_size, 1, some .int)
set_option maxRecDepth 20000 in
theorem kcX0_size : KC mX0_size 0 := ⟨bigI 51 (by decide +kernel) rfl, bigI 599 rfl rfl, by decide +kernel, ⟨by decide +kernel, by decide +kernel, by decide +kernel⟩, by decide⟩
abbrev mX0_clear : MI := (yX0_clear, cX0_clear, 1, none)
set_option maxRecDepth 20000 in
theorem kcX0_clear : KC mX0_clear 0 := ⟨bigI 51 (by decide +kernel) rfl, bigI 350 rfl rfl, by decide +kernel, ⟨by decide +kernel, by decide +kernel, by decide +kernel⟩, by decide⟩
abbrev mX0_push : MI := (yX0_push, cX0_push, 3, none)
set_option maxRecDepth 20000 in
theorem kcX0_push : KC mX0_push 1 := ⟨bigI 51 (by decide +kernel) rfl, bigI 501 rfl rfl, by decide +kernel, ⟨by decide +kernel, by decide +kernel, by decide +kernel⟩, by decide⟩
abbrev mX0_pop : MI := (yX0_pop, cX0_pop, 3, some .boolean)
set_option maxRecDepth 20000 in
theorem kcX0_pop : KC mX0_pop 1 := ⟨bigI 51 (by decide +kernel) rfl, bigI 595 rfl rfl, by decide +kernel, ⟨by decide +kernel, by decide +kernel, by decide +kernel⟩, by decide⟩
abbrev mX0_standingAt : MI := (yX0_standingAt, cX0_standingAt, 2, some (.object "BirthdayRooms$Standing"))
set_option maxRecDepth 20000 in
theorem kcX0_standingAt : KC mX0_standingAt 1 := ⟨bigI 51 (by decide +kernel) rfl, bigI 513 rfl rfl, by decide +kernel, ⟨by decide +kernel, by decide +kernel, by decide +kernel⟩, by decide⟩
abbrev mX0_loseLowest : MI := (yX0_loseLowest, cX0_loseLowest, 4, none)
set_option maxRecDepth 20000 in
theorem kcX0_loseLowest : KC mX0_loseLowest 0 := ⟨bigI 51 (by decide +kernel) rfl, bigI 509 rfl rfl, by decide +kernel, ⟨by decide +kernel, by decide +kernel, by decide +kernel⟩, by decide⟩
abbrev mX1_init : MI := (yX1_init, cX1_init, 1, none)
abbrev mX1_clear : MI := (yX1_clear, cX1_clear, 1, none)
set_option maxRecDepth 20000 in
theorem kcX1_clear : KC mX1_clear 0 := ⟨bigI 49 (by decide +kernel) rfl, bigI 278 rfl rfl, by decide +kernel, ⟨by decide +kernel, by decide +kernel, by decide +kernel⟩, by decide⟩
abbrev mX1_addCousin : MI := (yX1_addCousin, cX1_addCousin, 4, some .boolean)
set_option maxRecDepth 20000 in
theorem kcX1_addCousin : KC mX1_addCousin 3 := ⟨bigI 49 (by decide +kernel) rfl, bigI 308 rfl rfl, by decide +kernel, ⟨by decide +kernel, by decide +kernel, by decide +kernel⟩, by decide⟩
abbrev mX1_addRoom : MI := (yX1_addRoom, cX1_addRoom, 3, some .boolean)
set_option maxRecDepth 20000 in
theorem kcX1_addRoom : KC mX1_addRoom 2 := ⟨bigI 49 (by decide +kernel) rfl, bigI 316 rfl rfl, by decide +kernel, ⟨by decide +kernel, by decide +kernel, by decide +kernel⟩, by decide⟩
abbrev mX1_canBeLaid : MI := (yX1_canBeLaid, cX1_canBeLaid, 1, some .boolean)
set_option maxRecDepth 20000 in
theorem kcX1_canBeLaid : KC mX1_canBeLaid 0 := ⟨bigI 49 (by decide +kernel) rfl, bigI 415 rfl rfl, by decide +kernel, ⟨by decide +kernel, by decide +kernel, by decide +kernel⟩, by decide⟩
abbrev mX1_copyFrom : MI := (yX1_copyFrom, cX1_copyFrom, 2, none)
set_option maxRecDepth 20000 in
theorem kcX1_copyFrom : KC mX1_copyFrom 1 := ⟨bigI 49 (by decide +kernel) rfl, bigI 324 rfl rfl, by decide +kernel, ⟨by decide +kernel, by decide +kernel, by decide +kernel⟩, by decide⟩
abbrev mX1_cousins : MI := (yX1_cousins, cX1_cousins, 1, some .int)
set_option maxRecDepth 20000 in
theorem kcX1_cousins : KC mX1_cousins 0 := ⟨bigI 49 (by decide +kernel) rfl, bigI 419 rfl rfl, by decide +kernel, ⟨by decide +kernel, by decide +kernel, by decide +kernel⟩, by decide⟩
abbrev mX1_rooms : MI := (yX1_rooms, cX1_rooms, 1, some .int)
set_option maxRecDepth 20000 in
theorem kcX1_rooms : KC mX1_rooms 0 := ⟨bigI 49 (by decide +kernel) rfl, bigI 477 rfl rfl, by decide +kernel, ⟨by decide +kernel, by decide +kernel, by decide +kernel⟩, by decide⟩
abbrev mX1_kindOf : MI := (yX1_kindOf, cX1_kindOf, 2, some .int)
set_option maxRecDepth 20000 in
theorem kcX1_kindOf : KC mX1_kindOf 1 := ⟨bigI 49 (by decide +kernel) rfl, bigI 431 rfl rfl, by decide +kernel, ⟨by decide +kernel, by decide +kernel, by decide +kernel⟩, by decide⟩
abbrev mX1_birthdayAtFirst : MI := (yX1_birthdayAtFirst, cX1_birthdayAtFirst, 2, some .int)
set_option maxRecDepth 20000 in
theorem kcX1_birthdayAtFirst : KC mX1_birthdayAtFirst 1 := ⟨bigI 49 (by decide +kernel) rfl, bigI 336 rfl rfl, by decide +kernel, ⟨by decide +kernel, by decide +kernel, by decide +kernel⟩, by decide⟩
abbrev mX1_wantOf : MI := (yX1_wantOf, cX1_wantOf, 2, some .int)
set_option maxRecDepth 20000 in
theorem kcX1_wantOf : KC mX1_wantOf 1 := ⟨bigI 49 (by decide +kernel) rfl, bigI 440 rfl rfl, by decide +kernel, ⟨by decide +kernel, by decide +kernel, by decide +kernel⟩, by decide⟩
abbrev mX1_winterSun : MI := (yX1_winterSun, cX1_winterSun, 2, some .int)
set_option maxRecDepth 20000 in
theorem kcX1_winterSun : KC mX1_winterSun 1 := ⟨bigI 49 (by decide +kernel) rfl, bigI 481 rfl rfl, by decide +kernel, ⟨by decide +kernel, by decide +kernel, by decide +kernel⟩, by decide⟩
abbrev mX1_summerSun : MI := (yX1_summerSun, cX1_summerSun, 2, some .int)
set_option maxRecDepth 20000 in
theorem kcX1_summerSun : KC mX1_summerSun 1 := ⟨bigI 49 (by decide +kernel) rfl, bigI 485 rfl rfl, by decide +kernel, ⟨by decide +kernel, by decide +kernel, by decide +kernel⟩, by decide⟩
abbrev mX1_sunsOn : MI := (yX1_sunsOn, cX1_sunsOn, 2, some (.array .int))
set_option maxRecDepth 20000 in
theorem kcX1_sunsOn : KC mX1_sunsOn 1 := ⟨bigI 49 (by decide +kernel) rfl, bigI 542 rfl rfl, by decide +kernel, ⟨by decide +kernel, by decide +kernel, by decide +kernel⟩, by decide⟩
abbrev mX2_init : MI := (yX2_init, cX2_init, 3, none)
abbrev mX2_best : MI := (yX2_best, cX2_best, 1, some .int)
set_option maxRecDepth 20000 in
theorem kcX2_best : KC mX2_best 0 := ⟨bigI 55 (by decide +kernel) rfl, bigI 666 rfl rfl, by decide +kernel, ⟨by decide +kernel, by decide +kernel, by decide +kernel⟩, by decide⟩
abbrev mX2_firstPair : MI := (yX2_firstPair, cX2_firstPair, 1, some .int)
set_option maxRecDepth 20000 in
theorem kcX2_firstPair : KC mX2_firstPair 0 := ⟨bigI 55 (by decide +kernel) rfl, bigI 670 rfl rfl, by decide +kernel, ⟨by decide +kernel, by decide +kernel, by decide +kernel⟩, by decide⟩
abbrev mX2_secondPair : MI := (yX2_secondPair, cX2_secondPair, 1, some .int)
set_option maxRecDepth 20000 in
theorem kcX2_secondPair : KC mX2_secondPair 0 := ⟨bigI 55 (by decide +kernel) rfl, bigI 674 rfl rfl, by decide +kernel, ⟨by decide +kernel, by decide +kernel, by decide +kernel⟩, by decide⟩
abbrev mX2_seekMostSun : MI := (yX2_seekMostSun, cX2_seekMostSun, 7, none)
set_option maxRecDepth 20000 in
theorem kcX2_seekMostSun : KC mX2_seekMostSun 3 := ⟨bigI 55 (by decide +kernel) rfl, bigI 644 rfl rfl, by decide +kernel, ⟨by decide +kernel, by decide +kernel, by decide +kernel⟩, by decide⟩
abbrev mX2_seekFewestCold : MI := (yX2_seekFewestCold, cX2_seekFewestCold, 4, none)
set_option maxRecDepth 20000 in
theorem kcX2_seekFewestCold : KC mX2_seekFewestCold 2 := ⟨bigI 55 (by decide +kernel) rfl, bigI 682 rfl rfl, by decide +kernel, ⟨by decide +kernel, by decide +kernel, by decide +kernel⟩, by decide⟩
abbrev mX2_ownersByOneSwap : MI := (yX2_ownersByOneSwap, cX2_ownersByOneSwap, 6, some .int)
set_option maxRecDepth 20000 in
theorem kcX2_ownersByOneSwap : KC mX2_ownersByOneSwap 3 := ⟨bigI 55 (by decide +kernel) rfl, bigI 691 rfl rfl, by decide +kernel, ⟨by decide +kernel, by decide +kernel, by decide +kernel⟩, by decide⟩
abbrev mX2_isPair : MI := (yX2_isPair, cX2_isPair, 2, some .boolean)
set_option maxRecDepth 20000 in
theorem kcX2_isPair : KC mX2_isPair 1 := ⟨bigI 55 (by decide +kernel) rfl, bigI 661 rfl rfl, by decide +kernel, ⟨by decide +kernel, by decide +kernel, by decide +kernel⟩, by decide⟩
abbrev mX2_beginBy : MI := (yX2_beginBy, cX2_beginBy, 4, none)
set_option maxRecDepth 20000 in
theorem kcX2_beginBy : KC mX2_beginBy 3 := ⟨bigI 55 (by decide +kernel) rfl, bigI 648 rfl rfl, by decide +kernel, ⟨by decide +kernel, by decide +kernel, by decide +kernel⟩, by decide⟩
abbrev mX2_take : MI := (yX2_take, cX2_take, 4, none)
set_option maxRecDepth 20000 in
theorem kcX2_take : KC mX2_take 3 := ⟨bigI 55 (by decide +kernel) rfl, bigI 657 rfl rfl, by decide +kernel, ⟨by decide +kernel, by decide +kernel, by decide +kernel⟩, by decide⟩
abbrev mX3_init : MI := (yX3_init, cX3_init, 1, none)
abbrev mX3_isFull : MI := (yX3_isFull, cX3_isFull, 1, some .boolean)
set_option maxRecDepth 20000 in
theorem kcX3_isFull : KC mX3_isFull 0 := ⟨bigI 53 (by decide +kernel) rfl, bigI 719 rfl rfl, by decide +kernel, ⟨by decide +kernel, by decide +kernel, by decide +kernel⟩, by decide⟩
abbrev mX3_size : MI := (yX3_size, cX3_size, 1, some .int)
set_option maxRecDepth 20000 in
theorem kcX3_size : KC mX3_size 0 := ⟨bigI 53 (by decide +kernel) rfl, bigI 733 rfl rfl, by decide +kernel, ⟨by decide +kernel, by decide +kernel, by decide +kernel⟩, by decide⟩
abbrev mX3_clear : MI := (yX3_clear, cX3_clear, 1, none)
set_option maxRecDepth 20000 in
theorem kcX3_clear : KC mX3_clear 0 := ⟨bigI 53 (by decide +kernel) rfl, bigI 346 rfl rfl, by decide +kernel, ⟨by decide +kernel, by decide +kernel, by decide +kernel⟩, by decide⟩
abbrev mX3_add : MI := (yX3_add, cX3_add, 5, none)
set_option maxRecDepth 20000 in
theorem kcX3_add : KC mX3_add 3 := ⟨bigI 53 (by decide +kernel) rfl, bigI 723 rfl rfl, by decide +kernel, ⟨by decide +kernel, by decide +kernel, by decide +kernel⟩, by decide⟩
abbrev mX3_set : MI := (yX3_set, cX3_set, 5, none)
set_option maxRecDepth 20000 in
theorem kcX3_set : KC mX3_set 4 := ⟨bigI 53 (by decide +kernel) rfl, bigI 728 rfl rfl, by decide +kernel, ⟨by decide +kernel, by decide +kernel, by decide +kernel⟩, by decide⟩
abbrev mX3_allHoldOn : MI := (yX3_allHoldOn, cX3_allHoldOn, 5, some .boolean)
set_option maxRecDepth 20000 in
theorem kcX3_allHoldOn : KC mX3_allHoldOn 1 := ⟨bigI 53 (by decide +kernel) rfl, bigI 750 rfl rfl, by decide +kernel, ⟨by decide +kernel, by decide +kernel, by decide +kernel⟩, by decide⟩
abbrev mX4_init : MI := (yX4_init, cX4_init, 1, none)
abbrev mX4_beginAs : MI := (yX4_beginAs, cX4_beginAs, 3, none)
set_option maxRecDepth 20000 in
theorem kcX4_beginAs : KC mX4_beginAs 1 := ⟨bigI 50 (by decide +kernel) rfl, bigI 331 rfl rfl, by decide +kernel, ⟨by decide +kernel, by decide +kernel, by decide +kernel⟩, by decide⟩
abbrev mX4_copyFrom : MI := (yX4_copyFrom, cX4_copyFrom, 2, none)
set_option maxRecDepth 20000 in
theorem kcX4_copyFrom : KC mX4_copyFrom 1 := ⟨bigI 50 (by decide +kernel) rfl, bigI 341 rfl rfl, by decide +kernel, ⟨by decide +kernel, by decide +kernel, by decide +kernel⟩, by decide⟩
abbrev mX4_day : MI := (yX4_day, cX4_day, 1, some .int)
set_option maxRecDepth 20000 in
theorem kcX4_day : KC mX4_day 0 := ⟨bigI 50 (by decide +kernel) rfl, bigI 497 rfl rfl, by decide +kernel, ⟨by decide +kernel, by decide +kernel, by decide +kernel⟩, by decide⟩
abbrev mX4_addDays : MI := (yX4_addDays, cX4_addDays, 2, none)
set_option maxRecDepth 20000 in
theorem kcX4_addDays : KC mX4_addDays 1 := ⟨bigI 50 (by decide +kernel) rfl, bigI 570 rfl rfl, by decide +kernel, ⟨by decide +kernel, by decide +kernel, by decide +kernel⟩, by decide⟩
abbrev mX4_roomOf : MI := (yX4_roomOf, cX4_roomOf, 2, some .int)
set_option maxRecDepth 20000 in
theorem kcX4_roomOf : KC mX4_roomOf 1 := ⟨bigI 50 (by decide +kernel) rfl, bigI 444 rfl rfl, by decide +kernel, ⟨by decide +kernel, by decide +kernel, by decide +kernel⟩, by decide⟩
abbrev mX4_ownerOf : MI := (yX4_ownerOf, cX4_ownerOf, 4, some .int)
set_option maxRecDepth 20000 in
theorem kcX4_ownerOf : KC mX4_ownerOf 2 := ⟨bigI 50 (by decide +kernel) rfl, bigI 489 rfl rfl, by decide +kernel, ⟨by decide +kernel, by decide +kernel, by decide +kernel⟩, by decide⟩
abbrev mX4_birthdayOf : MI := (yX4_birthdayOf, cX4_birthdayOf, 2, some .int)
set_option maxRecDepth 20000 in
theorem kcX4_birthdayOf : KC mX4_birthdayOf 1 := ⟨bigI 50 (by decide +kernel) rfl, bigI 435 rfl rfl, by decide +kernel, ⟨by decide +kernel, by decide +kernel, by decide +kernel⟩, by decide⟩
abbrev mX4_setBirthday : MI := (yX4_setBirthday, cX4_setBirthday, 3, none)
set_option maxRecDepth 20000 in
theorem kcX4_setBirthday : KC mX4_setBirthday 2 := ⟨bigI 50 (by decide +kernel) rfl, bigI 587 rfl rfl, by decide +kernel, ⟨by decide +kernel, by decide +kernel, by decide +kernel⟩, by decide⟩
abbrev mX4_exchange : MI := (yX4_exchange, cX4_exchange, 4, none)
set_option maxRecDepth 20000 in
theorem kcX4_exchange : KC mX4_exchange 2 := ⟨bigI 50 (by decide +kernel) rfl, bigI 547 rfl rfl, by decide +kernel, ⟨by decide +kernel, by decide +kernel, by decide +kernel⟩, by decide⟩
abbrev mX4_hasRoomsOf : MI := (yX4_hasRoomsOf, cX4_hasRoomsOf, 4, some .boolean)
set_option maxRecDepth 20000 in
theorem kcX4_hasRoomsOf : KC mX4_hasRoomsOf 2 := ⟨bigI 50 (by decide +kernel) rfl, bigI 700 rfl rfl, by decide +kernel, ⟨by decide +kernel, by decide +kernel, by decide +kernel⟩, by decide⟩
abbrev mX4_daysToBirthdayOf : MI := (yX4_daysToBirthdayOf, cX4_daysToBirthdayOf, 2, some .int)
set_option maxRecDepth 20000 in
theorem kcX4_daysToBirthdayOf : KC mX4_daysToBirthdayOf 1 := ⟨bigI 50 (by decide +kernel) rfl, bigI 555 rfl rfl, by decide +kernel, ⟨by decide +kernel, by decide +kernel, by decide +kernel⟩, by decide⟩
abbrev mX5_init : MI := (yX5_init, cX5_init, 1, none)
abbrev mX5_isFull : MI := (yX5_isFull, cX5_isFull, 1, some .boolean)
set_option maxRecDepth 20000 in
theorem kcX5_isFull : KC mX5_isFull 0 := ⟨bigI 48 (by decide +kernel) rfl, bigI 395 rfl rfl, by decide +kernel, ⟨by decide +kernel, by decide +kernel, by decide +kernel⟩, by decide⟩
abbrev mX5_size : MI := (yX5_size, cX5_size, 1, some .int)
set_option maxRecDepth 20000 in
theorem kcX5_size : KC mX5_size 0 := ⟨bigI 48 (by decide +kernel) rfl, bigI 399 rfl rfl, by decide +kernel, ⟨by decide +kernel, by decide +kernel, by decide +kernel⟩, by decide⟩
abbrev mX5_add : MI := (yX5_add, cX5_add, 2, none)
set_option maxRecDepth 20000 in
theorem kcX5_add : KC mX5_add 1 := ⟨bigI 48 (by decide +kernel) rfl, bigI 270 rfl rfl, by decide +kernel, ⟨by decide +kernel, by decide +kernel, by decide +kernel⟩, by decide⟩
abbrev mX5_clear : MI := (yX5_clear, cX5_clear, 1, none)
set_option maxRecDepth 20000 in
theorem kcX5_clear : KC mX5_clear 0 := ⟨bigI 48 (by decide +kernel) rfl, bigI 354 rfl rfl, by decide +kernel, ⟨by decide +kernel, by decide +kernel, by decide +kernel⟩, by decide⟩
abbrev mX5_readInto : MI := (yX5_readInto, cX5_readInto, 4, some .int)
set_option maxRecDepth 20000 in
theorem kcX5_readInto : KC mX5_readInto 1 := ⟨bigI 48 (by decide +kernel) rfl, bigI 274 rfl rfl, by decide +kernel, ⟨by decide +kernel, by decide +kernel, by decide +kernel⟩, by decide⟩
abbrev mX5_readItem : MI := (yX5_readItem, cX5_readItem, 3, some .boolean)
set_option maxRecDepth 20000 in
theorem kcX5_readItem : KC mX5_readItem 1 := ⟨bigI 48 (by decide +kernel) rfl, bigI 282 rfl rfl, by decide +kernel, ⟨by decide +kernel, by decide +kernel, by decide +kernel⟩, by decide⟩
abbrev mX5_readNumbers : MI := (yX5_readNumbers, cX5_readNumbers, 5, some .boolean)
set_option maxRecDepth 20000 in
theorem kcX5_readNumbers : KC mX5_readNumbers 1 := ⟨bigI 48 (by decide +kernel) rfl, bigI 290 rfl rfl, by decide +kernel, ⟨by decide +kernel, by decide +kernel, by decide +kernel⟩, by decide⟩
abbrev mX5_readNumber : MI := (yX5_readNumber, cX5_readNumber, 3, some .int)
set_option maxRecDepth 20000 in
theorem kcX5_readNumber : KC mX5_readNumber 0 := ⟨bigI 48 (by decide +kernel) rfl, bigI 294 rfl rfl, by decide +kernel, ⟨by decide +kernel, by decide +kernel, by decide +kernel⟩, by decide⟩
abbrev mX5_isFigure : MI := (yX5_isFigure, cX5_isFigure, 1, some .boolean)
set_option maxRecDepth 20000 in
theorem kcX5_isFigure : KC mX5_isFigure 1 := ⟨bigI 48 (by decide +kernel) rfl, bigI 297 rfl rfl, by decide +kernel, ⟨by decide +kernel, by decide +kernel, by decide +kernel⟩, by decide⟩
abbrev mX5_letterHere : MI := (yX5_letterHere, cX5_letterHere, 1, some .char)
set_option maxRecDepth 20000 in
theorem kcX5_letterHere : KC mX5_letterHere 0 := ⟨bigI 48 (by decide +kernel) rfl, bigI 286 rfl rfl, by decide +kernel, ⟨by decide +kernel, by decide +kernel, by decide +kernel⟩, by decide⟩
abbrev mX6_init : MI := (yX6_init, cX6_init, 2, none)
abbrev mX6_begin : MI := (yX6_begin, cX6_begin, 2, none)
set_option maxRecDepth 20000 in
theorem kcX6_begin : KC mX6_begin 1 := ⟨bigI 54 (by decide +kernel) rfl, bigI 448 rfl rfl, by decide +kernel, ⟨by decide +kernel, by decide +kernel, by decide +kernel⟩, by decide⟩
abbrev mX6_beginWith : MI := (yX6_beginWith, cX6_beginWith, 4, none)
set_option maxRecDepth 20000 in
theorem kcX6_beginWith : KC mX6_beginWith 3 := ⟨bigI 54 (by decide +kernel) rfl, bigI 745 rfl rfl, by decide +kernel, ⟨by decide +kernel, by decide +kernel, by decide +kernel⟩, by decide⟩
abbrev mX6_standing : MI := (yX6_standing, cX6_standing, 1, some (.object "BirthdayRooms$Standing"))
set_option maxRecDepth 20000 in
theorem kcX6_standing : KC mX6_standing 0 := ⟨bigI 54 (by decide +kernel) rfl, bigI 574 rfl rfl, by decide +kernel, ⟨by decide +kernel, by decide +kernel, by decide +kernel⟩, by decide⟩
abbrev mX6_listed : MI := (yX6_listed, cX6_listed, 2, some .int)
set_option maxRecDepth 20000 in
theorem kcX6_listed : KC mX6_listed 1 := ⟨bigI 54 (by decide +kernel) rfl, bigI 773 rfl rfl, by decide +kernel, ⟨by decide +kernel, by decide +kernel, by decide +kernel⟩, by decide⟩
abbrev mX6_placeOf : MI := (yX6_placeOf, cX6_placeOf, 3, some .int)
set_option maxRecDepth 20000 in
theorem kcX6_placeOf : KC mX6_placeOf 1 := ⟨bigI 54 (by decide +kernel) rfl, bigI 465 rfl rfl, by decide +kernel, ⟨by decide +kernel, by decide +kernel, by decide +kernel⟩, by decide⟩
abbrev mX6_sunTogether : MI := (yX6_sunTogether, cX6_sunTogether, 2, some .int)
set_option maxRecDepth 20000 in
theorem kcX6_sunTogether : KC mX6_sunTogether 1 := ⟨bigI 54 (by decide +kernel) rfl, bigI 615 rfl rfl, by decide +kernel, ⟨by decide +kernel, by decide +kernel, by decide +kernel⟩, by decide⟩
abbrev mX6_coldTogether : MI := (yX6_coldTogether, cX6_coldTogether, 1, some .int)
set_option maxRecDepth 20000 in
theorem kcX6_coldTogether : KC mX6_coldTogether 0 := ⟨bigI 54 (by decide +kernel) rfl, bigI 636 rfl rfl, by decide +kernel, ⟨by decide +kernel, by decide +kernel, by decide +kernel⟩, by decide⟩
abbrev mX6_coldBits : MI := (yX6_coldBits, cX6_coldBits, 3, some .int)
set_option maxRecDepth 20000 in
theorem kcX6_coldBits : KC mX6_coldBits 0 := ⟨bigI 54 (by decide +kernel) rfl, bigI 628 rfl rfl, by decide +kernel, ⟨by decide +kernel, by decide +kernel, by decide +kernel⟩, by decide⟩
abbrev mX6_go : MI := (yX6_go, cX6_go, 5, none)
set_option maxRecDepth 20000 in
theorem kcX6_go : KC mX6_go 1 := ⟨bigI 54 (by decide +kernel) rfl, bigI 518 rfl rfl, by decide +kernel, ⟨by decide +kernel, by decide +kernel, by decide +kernel⟩, by decide⟩
abbrev mX6_goBehind : MI := (yX6_goBehind, cX6_goBehind, 2, none)
set_option maxRecDepth 20000 in
theorem kcX6_goBehind : KC mX6_goBehind 1 := ⟨bigI 54 (by decide +kernel) rfl, bigI 623 rfl rfl, by decide +kernel, ⟨by decide +kernel, by decide +kernel, by decide +kernel⟩, by decide⟩
abbrev mX6_makeList : MI := (yX6_makeList, cX6_makeList, 3, none)
set_option maxRecDepth 20000 in
theorem kcX6_makeList : KC mX6_makeList 0 := ⟨bigI 54 (by decide +kernel) rfl, bigI 453 rfl rfl, by decide +kernel, ⟨by decide +kernel, by decide +kernel, by decide +kernel⟩, by decide⟩
abbrev mX6_clearCounts : MI := (yX6_clearCounts, cX6_clearCounts, 2, none)
set_option maxRecDepth 20000 in
theorem kcX6_clearCounts : KC mX6_clearCounts 0 := ⟨bigI 54 (by decide +kernel) rfl, bigI 461 rfl rfl, by decide +kernel, ⟨by decide +kernel, by decide +kernel, by decide +kernel⟩, by decide⟩
abbrev mX6_changeRooms : MI := (yX6_changeRooms, cX6_changeRooms, 4, none)
set_option maxRecDepth 20000 in
theorem kcX6_changeRooms : KC mX6_changeRooms 0 := ⟨bigI 54 (by decide +kernel) rfl, bigI 522 rfl rfl, by decide +kernel, ⟨by decide +kernel, by decide +kernel, by decide +kernel⟩, by decide⟩
abbrev mX6_changeRoomOf : MI := (yX6_changeRoomOf, cX6_changeRoomOf, 5, none)
set_option maxRecDepth 20000 in
theorem kcX6_changeRoomOf : KC mX6_changeRoomOf 2 := ⟨bigI 54 (by decide +kernel) rfl, bigI 527 rfl rfl, by decide +kernel, ⟨by decide +kernel, by decide +kernel, by decide +kernel⟩, by decide⟩
abbrev mX6_sunNow : MI := (yX6_sunNow, cX6_sunNow, 2, some .int)
set_option maxRecDepth 20000 in
theorem kcX6_sunNow : KC mX6_sunNow 1 := ⟨bigI 54 (by decide +kernel) rfl, bigI 538 rfl rfl, by decide +kernel, ⟨by decide +kernel, by decide +kernel, by decide +kernel⟩, by decide⟩
abbrev mX6_daysAlike : MI := (yX6_daysAlike, cX6_daysAlike, 4, some .int)
set_option maxRecDepth 20000 in
theorem kcX6_daysAlike : KC mX6_daysAlike 0 := ⟨bigI 54 (by decide +kernel) rfl, bigI 551 rfl rfl, by decide +kernel, ⟨by decide +kernel, by decide +kernel, by decide +kernel⟩, by decide⟩
abbrev mX6_countDays : MI := (yX6_countDays, cX6_countDays, 4, none)
set_option maxRecDepth 20000 in
theorem kcX6_countDays : KC mX6_countDays 1 := ⟨bigI 54 (by decide +kernel) rfl, bigI 565 rfl rfl, by decide +kernel, ⟨by decide +kernel, by decide +kernel, by decide +kernel⟩, by decide⟩
abbrev mX7_init : MI := (yX7_init, cX7_init, 2, none)
abbrev mX7_write : MI := (yX7_write, cX7_write, 2, some .int)
set_option maxRecDepth 20000 in
theorem kcX7_write : KC mX7_write 1 := ⟨bigI 47 (by decide +kernel) rfl, bigI 390 rfl rfl, by decide +kernel, ⟨by decide +kernel, by decide +kernel, by decide +kernel⟩, by decide⟩
abbrev mX7_wipe : MI := (yX7_wipe, cX7_wipe, 2, some .int)
set_option maxRecDepth 20000 in
theorem kcX7_wipe : KC mX7_wipe 0 := ⟨bigI 47 (by decide +kernel) rfl, bigI 403 rfl rfl, by decide +kernel, ⟨by decide +kernel, by decide +kernel, by decide +kernel⟩, by decide⟩
abbrev mX7_fault : MI := (yX7_fault, cX7_fault, 1, some .int)
set_option maxRecDepth 20000 in
theorem kcX7_fault : KC mX7_fault 0 := ⟨bigI 47 (by decide +kernel) rfl, bigI 407 rfl rfl, by decide +kernel, ⟨by decide +kernel, by decide +kernel, by decide +kernel⟩, by decide⟩
abbrev mX7_lay : MI := (yX7_lay, cX7_lay, 1, some .int)
set_option maxRecDepth 20000 in
theorem kcX7_lay : KC mX7_lay 0 := ⟨bigI 47 (by decide +kernel) rfl, bigI 411 rfl rfl, by decide +kernel, ⟨by decide +kernel, by decide +kernel, by decide +kernel⟩, by decide⟩
abbrev mX7_cousin : MI := (yX7_cousin, cX7_cousin, 3, some .int)
set_option maxRecDepth 20000 in
theorem kcX7_cousin : KC mX7_cousin 2 := ⟨bigI 47 (by decide +kernel) rfl, bigI 423 rfl rfl, by decide +kernel, ⟨by decide +kernel, by decide +kernel, by decide +kernel⟩, by decide⟩
abbrev mX7_room : MI := (yX7_room, cX7_room, 3, some .int)
set_option maxRecDepth 20000 in
theorem kcX7_room : KC mX7_room 2 := ⟨bigI 47 (by decide +kernel) rfl, bigI 469 rfl rfl, by decide +kernel, ⟨by decide +kernel, by decide +kernel, by decide +kernel⟩, by decide⟩
abbrev mX7_pass : MI := (yX7_pass, cX7_pass, 2, some .int)
set_option maxRecDepth 20000 in
theorem kcX7_pass : KC mX7_pass 1 := ⟨bigI 47 (by decide +kernel) rfl, bigI 493 rfl rfl, by decide +kernel, ⟨by decide +kernel, by decide +kernel, by decide +kernel⟩, by decide⟩
abbrev mX7_swap : MI := (yX7_swap, cX7_swap, 3, some .int)
set_option maxRecDepth 20000 in
theorem kcX7_swap : KC mX7_swap 2 := ⟨bigI 47 (by decide +kernel) rfl, bigI 578 rfl rfl, by decide +kernel, ⟨by decide +kernel, by decide +kernel, by decide +kernel⟩, by decide⟩
abbrev mX7_alter : MI := (yX7_alter, cX7_alter, 4, some .int)
set_option maxRecDepth 20000 in
theorem kcX7_alter : KC mX7_alter 2 := ⟨bigI 47 (by decide +kernel) rfl, bigI 583 rfl rfl, by decide +kernel, ⟨by decide +kernel, by decide +kernel, by decide +kernel⟩, by decide⟩
abbrev mX7_undo : MI := (yX7_undo, cX7_undo, 1, some .int)
set_option maxRecDepth 20000 in
theorem kcX7_undo : KC mX7_undo 0 := ⟨bigI 47 (by decide +kernel) rfl, bigI 591 rfl rfl, by decide +kernel, ⟨by decide +kernel, by decide +kernel, by decide +kernel⟩, by decide⟩
abbrev mX7_has : MI := (yX7_has, cX7_has, 3, some .int)
set_option maxRecDepth 20000 in
theorem kcX7_has : KC mX7_has 2 := ⟨bigI 47 (by decide +kernel) rfl, bigI 603 rfl rfl, by decide +kernel, ⟨by decide +kernel, by decide +kernel, by decide +kernel⟩, by decide⟩
abbrev mX7_whose : MI := (yX7_whose, cX7_whose, 3, some .int)
set_option maxRecDepth 20000 in
theorem kcX7_whose : KC mX7_whose 2 := ⟨bigI 47 (by decide +kernel) rfl, bigI 607 rfl rfl, by decide +kernel, ⟨by decide +kernel, by decide +kernel, by decide +kernel⟩, by decide⟩
abbrev mX7_sun : MI := (yX7_sun, cX7_sun, 3, some .int)
set_option maxRecDepth 20000 in
theorem kcX7_sun : KC mX7_sun 2 := ⟨bigI 47 (by decide +kernel) rfl, bigI 611 rfl rfl, by decide +kernel, ⟨by decide +kernel, by decide +kernel, by decide +kernel⟩, by decide⟩
abbrev mX7_cold : MI := (yX7_cold, cX7_cold, 2, some .int)
set_option maxRecDepth 20000 in
theorem kcX7_cold : KC mX7_cold 1 := ⟨bigI 47 (by decide +kernel) rfl, bigI 619 rfl rfl, by decide +kernel, ⟨by decide +kernel, by decide +kernel, by decide +kernel⟩, by decide⟩
abbrev mX7_want : MI := (yX7_want, cX7_want, 2, some .int)
set_option maxRecDepth 20000 in
theorem kcX7_want : KC mX7_want 1 := ⟨bigI 47 (by decide +kernel) rfl, bigI 632 rfl rfl, by decide +kernel, ⟨by decide +kernel, by decide +kernel, by decide +kernel⟩, by decide⟩
abbrev mX7_swaps : MI := (yX7_swaps, cX7_swaps, 4, some .int)
set_option maxRecDepth 20000 in
theorem kcX7_swaps : KC mX7_swaps 3 := ⟨bigI 47 (by decide +kernel) rfl, bigI 640 rfl rfl, by decide +kernel, ⟨by decide +kernel, by decide +kernel, by decide +kernel⟩, by decide⟩
abbrev mX7_warm : MI := (yX7_warm, cX7_warm, 3, some .int)
set_option maxRecDepth 20000 in
theorem kcX7_warm : KC mX7_warm 2 := ⟨bigI 47 (by decide +kernel) rfl, bigI 678 rfl rfl, by decide +kernel, ⟨by decide +kernel, by decide +kernel, by decide +kernel⟩, by decide⟩
abbrev mX7_canHave : MI := (yX7_canHave, cX7_canHave, 3, some .int)
set_option maxRecDepth 20000 in
theorem kcX7_canHave : KC mX7_canHave 2 := ⟨bigI 47 (by decide +kernel) rfl, bigI 687 rfl rfl, by decide +kernel, ⟨by decide +kernel, by decide +kernel, by decide +kernel⟩, by decide⟩
abbrev mX7_round : MI := (yX7_round, cX7_round, 3, some .int)
set_option maxRecDepth 20000 in
theorem kcX7_round : KC mX7_round 0 := ⟨bigI 47 (by decide +kernel) rfl, bigI 696 rfl rfl, by decide +kernel, ⟨by decide +kernel, by decide +kernel, by decide +kernel⟩, by decide⟩
abbrev mX7_way : MI := (yX7_way, cX7_way, 6, some .int)
set_option maxRecDepth 20000 in
theorem kcX7_way : KC mX7_way 3 := ⟨bigI 47 (by decide +kernel) rfl, bigI 705 rfl rfl, by decide +kernel, ⟨by decide +kernel, by decide +kernel, by decide +kernel⟩, by decide⟩
abbrev mX7_seen : MI := (yX7_seen, cX7_seen, 4, some .int)
set_option maxRecDepth 20000 in
theorem kcX7_seen : KC mX7_seen 3 := ⟨bigI 47 (by decide +kernel) rfl, bigI 715 rfl rfl, by decide +kernel, ⟨by decide +kernel, by decide +kernel, by decide +kernel⟩, by decide⟩
abbrev mX7_forget : MI := (yX7_forget, cX7_forget, 2, some .int)
set_option maxRecDepth 20000 in
theorem kcX7_forget : KC mX7_forget 0 := ⟨bigI 47 (by decide +kernel) rfl, bigI 737 rfl rfl, by decide +kernel, ⟨by decide +kernel, by decide +kernel, by decide +kernel⟩, by decide⟩
abbrev mX7_register : MI := (yX7_register, cX7_register, 6, some .int)
set_option maxRecDepth 20000 in
theorem kcX7_register : KC mX7_register 2 := ⟨bigI 47 (by decide +kernel) rfl, bigI 741 rfl rfl, by decide +kernel, ⟨by decide +kernel, by decide +kernel, by decide +kernel⟩, by decide⟩
abbrev mX7_foundling : MI := (yX7_foundling, cX7_foundling, 7, some .int)
set_option maxRecDepth 20000 in
theorem kcX7_foundling : KC mX7_foundling 4 := ⟨bigI 47 (by decide +kernel) rfl, bigI 757 rfl rfl, by decide +kernel, ⟨by decide +kernel, by decide +kernel, by decide +kernel⟩, by decide⟩
abbrev mX7_loses : MI := (yX7_loses, cX7_loses, 4, some .int)
set_option maxRecDepth 20000 in
theorem kcX7_loses : KC mX7_loses 1 := ⟨bigI 47 (by decide +kernel) rfl, bigI 765 rfl rfl, by decide +kernel, ⟨by decide +kernel, by decide +kernel, by decide +kernel⟩, by decide⟩
abbrev mX7_next : MI := (yX7_next, cX7_next, 5, some .int)
set_option maxRecDepth 20000 in
theorem kcX7_next : KC mX7_next 1 := ⟨bigI 47 (by decide +kernel) rfl, bigI 769 rfl rfl, by decide +kernel, ⟨by decide +kernel, by decide +kernel, by decide +kernel⟩, by decide⟩
abbrev mX7_year : MI := (yX7_year, cX7_year, 5, some .int)
set_option maxRecDepth 20000 in
theorem kcX7_year : KC mX7_year 3 := ⟨bigI 47 (by decide +kernel) rfl, bigI 778 rfl rfl, by decide +kernel, ⟨by decide +kernel, by decide +kernel, by decide +kernel⟩, by decide⟩
abbrev mX7_keep : MI := (yX7_keep, cX7_keep, 1, some .int)
set_option maxRecDepth 20000 in
theorem kcX7_keep : KC mX7_keep 0 := ⟨bigI 47 (by decide +kernel) rfl, bigI 793 rfl rfl, by decide +kernel, ⟨by decide +kernel, by decide +kernel, by decide +kernel⟩, by decide⟩
abbrev mX7_back : MI := (yX7_back, cX7_back, 1, some .int)
set_option maxRecDepth 20000 in
theorem kcX7_back : KC mX7_back 0 := ⟨bigI 47 (by decide +kernel) rfl, bigI 798 rfl rfl, by decide +kernel, ⟨by decide +kernel, by decide +kernel, by decide +kernel⟩, by decide⟩
abbrev mX7_count : MI := (yX7_count, cX7_count, 2, some .int)
set_option maxRecDepth 20000 in
theorem kcX7_count : KC mX7_count 1 := ⟨bigI 47 (by decide +kernel) rfl, bigI 802 rfl rfl, by decide +kernel, ⟨by decide +kernel, by decide +kernel, by decide +kernel⟩, by decide⟩
abbrev mX7_moveIn : MI := (yX7_moveIn, cX7_moveIn, 1, none)
set_option maxRecDepth 20000 in
theorem kcX7_moveIn : KC mX7_moveIn 0 := ⟨bigI 47 (by decide +kernel) rfl, bigI 320 rfl rfl, by decide +kernel, ⟨by decide +kernel, by decide +kernel, by decide +kernel⟩, by decide⟩
abbrev mX7_isCousin : MI := (yX7_isCousin, cX7_isCousin, 2, some .boolean)
set_option maxRecDepth 20000 in
theorem kcX7_isCousin : KC mX7_isCousin 1 := ⟨bigI 47 (by decide +kernel) rfl, bigI 427 rfl rfl, by decide +kernel, ⟨by decide +kernel, by decide +kernel, by decide +kernel⟩, by decide⟩
abbrev mX7_isRoom : MI := (yX7_isRoom, cX7_isRoom, 2, some .boolean)
set_option maxRecDepth 20000 in
theorem kcX7_isRoom : KC mX7_isRoom 1 := ⟨bigI 47 (by decide +kernel) rfl, bigI 473 rfl rfl, by decide +kernel, ⟨by decide +kernel, by decide +kernel, by decide +kernel⟩, by decide⟩
abbrev mX7_wantsBetween : MI := (yX7_wantsBetween, cX7_wantsBetween, 7, some .int)
set_option maxRecDepth 20000 in
theorem kcX7_wantsBetween : KC mX7_wantsBetween 2 := ⟨bigI 47 (by decide +kernel) rfl, bigI 709 rfl rfl, by decide +kernel, ⟨by decide +kernel, by decide +kernel, by decide +kernel⟩, by decide⟩
abbrev mX7_drawOf : MI := (yX7_drawOf, cX7_drawOf, 4, some .int)
set_option maxRecDepth 20000 in
theorem kcX7_drawOf : KC mX7_drawOf 2 := ⟨bigI 47 (by decide +kernel) rfl, bigI 781 rfl rfl, by decide +kernel, ⟨by decide +kernel, by decide +kernel, by decide +kernel⟩, by decide⟩
abbrev mX7_exchangeByDraw : MI := (yX7_exchangeByDraw, cX7_exchangeByDraw, 4, none)
set_option maxRecDepth 20000 in
theorem kcX7_exchangeByDraw : KC mX7_exchangeByDraw 1 := ⟨bigI 47 (by decide +kernel) rfl, bigI 789 rfl rfl, by decide +kernel, ⟨by decide +kernel, by decide +kernel, by decide +kernel⟩, by decide⟩
abbrev mX7_within : MI := (yX7_within, cX7_within, 3, some .boolean)
set_option maxRecDepth 20000 in
theorem kcX7_within : KC mX7_within 3 := ⟨bigI 47 (by decide +kernel) rfl, bigI 311 rfl rfl, by decide +kernel, ⟨by decide +kernel, by decide +kernel, by decide +kernel⟩, by decide⟩
abbrev mX7_wrapped : MI := (yX7_wrapped, cX7_wrapped, 2, some .int)
set_option maxRecDepth 20000 in
theorem kcX7_wrapped : KC mX7_wrapped 2 := ⟨bigI 47 (by decide +kernel) rfl, bigI 531 rfl rfl, by decide +kernel, ⟨by decide +kernel, by decide +kernel, by decide +kernel⟩, by decide⟩
abbrev mX7_commonDivisor : MI := (yX7_commonDivisor, cX7_commonDivisor, 6, some .int)
set_option maxRecDepth 20000 in
theorem kcX7_commonDivisor : KC mX7_commonDivisor 2 := ⟨bigI 47 (by decide +kernel) rfl, bigI 760 rfl rfl, by decide +kernel, ⟨by decide +kernel, by decide +kernel, by decide +kernel⟩, by decide⟩
abbrev mX7_at : MI := (yX7_at, cX7_at, 2, some .int)
set_option maxRecDepth 20000 in
theorem kcX7_at : KC mX7_at 2 := ⟨bigI 47 (by decide +kernel) rfl, bigI 304 rfl rfl, by decide +kernel, ⟨by decide +kernel, by decide +kernel, by decide +kernel⟩, by decide⟩
abbrev mX7_put : MI := (yX7_put, cX7_put, 3, none)
set_option maxRecDepth 20000 in
theorem kcX7_put : KC mX7_put 3 := ⟨bigI 47 (by decide +kernel) rfl, bigI 301 rfl rfl, by decide +kernel, ⟨by decide +kernel, by decide +kernel, by decide +kernel⟩, by decide⟩
abbrev mX7_copyRow : MI := (yX7_copyRow, cX7_copyRow, 3, none)
set_option maxRecDepth 20000 in
theorem kcX7_copyRow : KC mX7_copyRow 2 := ⟨bigI 47 (by decide +kernel) rfl, bigI 327 rfl rfl, by decide +kernel, ⟨by decide +kernel, by decide +kernel, by decide +kernel⟩, by decide⟩
abbrev mX8_init : MI := (yX8_init, cX8_init, 1, none)
abbrev mX8_tellsCousin : MI := (yX8_tellsCousin, cX8_tellsCousin, 4, none)
set_option maxRecDepth 20000 in
theorem kcX8_tellsCousin : KC mX8_tellsCousin 3 := ⟨bigI 60 (by decide +kernel) rfl, bigI 819 rfl rfl, by decide +kernel, ⟨by decide +kernel, by decide +kernel, by decide +kernel⟩, by decide⟩
abbrev mX8_tellsRoom : MI := (yX8_tellsRoom, cX8_tellsRoom, 3, none)
set_option maxRecDepth 20000 in
theorem kcX8_tellsRoom : KC mX8_tellsRoom 2 := ⟨bigI 60 (by decide +kernel) rfl, bigI 823 rfl rfl, by decide +kernel, ⟨by decide +kernel, by decide +kernel, by decide +kernel⟩, by decide⟩
abbrev mX8_in : MI := (yX8_in, cX8_in, 3, some .boolean)
set_option maxRecDepth 20000 in
theorem kcX8_in : KC mX8_in 3 := ⟨bigI 60 (by decide +kernel) rfl, bigI 815 rfl rfl, by decide +kernel, ⟨by decide +kernel, by decide +kernel, by decide +kernel⟩, by decide⟩
abbrev mX8_bits : MI := (yX8_bits, cX8_bits, 3, some .int)
set_option maxRecDepth 20000 in
theorem kcX8_bits : KC mX8_bits 1 := ⟨bigI 60 (by decide +kernel) rfl, bigI 1048 rfl rfl, by decide +kernel, ⟨by decide +kernel, by decide +kernel, by decide +kernel⟩, by decide⟩
abbrev mX8_isOne : MI := (yX8_isOne, cX8_isOne, 2, some .boolean)
set_option maxRecDepth 20000 in
theorem kcX8_isOne : KC mX8_isOne 1 := ⟨bigI 60 (by decide +kernel) rfl, bigI 958 rfl rfl, by decide +kernel, ⟨by decide +kernel, by decide +kernel, by decide +kernel⟩, by decide⟩
abbrev mX8_write : MI := (yX8_write, cX8_write, 2, some .int)
set_option maxRecDepth 20000 in
theorem kcX8_write : KC mX8_write 1 := ⟨bigI 60 (by decide +kernel) rfl, bigI 910 rfl rfl, by decide +kernel, ⟨by decide +kernel, by decide +kernel, by decide +kernel⟩, by decide⟩
abbrev mX8_wipe : MI := (yX8_wipe, cX8_wipe, 2, some .int)
set_option maxRecDepth 20000 in
theorem kcX8_wipe : KC mX8_wipe 0 := ⟨bigI 60 (by decide +kernel) rfl, bigI 914 rfl rfl, by decide +kernel, ⟨by decide +kernel, by decide +kernel, by decide +kernel⟩, by decide⟩
abbrev mX8_letterAt : MI := (yX8_letterAt, cX8_letterAt, 2, some .int)
set_option maxRecDepth 20000 in
theorem kcX8_letterAt : KC mX8_letterAt 1 := ⟨bigI 60 (by decide +kernel) rfl, bigI 926 rfl rfl, by decide +kernel, ⟨by decide +kernel, by decide +kernel, by decide +kernel⟩, by decide⟩
abbrev mX8_isFigure : MI := (yX8_isFigure, cX8_isFigure, 1, some .boolean)
set_option maxRecDepth 20000 in
theorem kcX8_isFigure : KC mX8_isFigure 1 := ⟨bigI 60 (by decide +kernel) rfl, bigI 937 rfl rfl, by decide +kernel, ⟨by decide +kernel, by decide +kernel, by decide +kernel⟩, by decide⟩
abbrev mX8_readNumbers : MI := (yX8_readNumbers, cX8_readNumbers, 3, some .boolean)
set_option maxRecDepth 20000 in
theorem kcX8_readNumbers : KC mX8_readNumbers 1 := ⟨bigI 60 (by decide +kernel) rfl, bigI 934 rfl rfl, by decide +kernel, ⟨by decide +kernel, by decide +kernel, by decide +kernel⟩, by decide⟩
abbrev mX8_isTold : MI := (yX8_isTold, cX8_isTold, 4, some .boolean)
set_option maxRecDepth 20000 in
theorem kcX8_isTold : KC mX8_isTold 3 := ⟨bigI 60 (by decide +kernel) rfl, bigI 941 rfl rfl, by decide +kernel, ⟨by decide +kernel, by decide +kernel, by decide +kernel⟩, by decide⟩
abbrev mX8_put : MI := (yX8_put, cX8_put, 5, none)
set_option maxRecDepth 20000 in
theorem kcX8_put : KC mX8_put 4 := ⟨bigI 60 (by decide +kernel) rfl, bigI 830 rfl rfl, by decide +kernel, ⟨by decide +kernel, by decide +kernel, by decide +kernel⟩, by decide⟩
abbrev mX8_clearTold : MI := (yX8_clearTold, cX8_clearTold, 2, none)
set_option maxRecDepth 20000 in
theorem kcX8_clearTold : KC mX8_clearTold 0 := ⟨bigI 60 (by decide +kernel) rfl, bigI 812 rfl rfl, by decide +kernel, ⟨by decide +kernel, by decide +kernel, by decide +kernel⟩, by decide⟩
abbrev mX8_readCousinOf : MI := (yX8_readCousinOf, cX8_readCousinOf, 1, some .boolean)
set_option maxRecDepth 20000 in
theorem kcX8_readCousinOf : KC mX8_readCousinOf 0 := ⟨bigI 60 (by decide +kernel) rfl, bigI 930 rfl rfl, by decide +kernel, ⟨by decide +kernel, by decide +kernel, by decide +kernel⟩, by decide⟩
abbrev mX8_readRoomOf : MI := (yX8_readRoomOf, cX8_readRoomOf, 1, some .boolean)
set_option maxRecDepth 20000 in
theorem kcX8_readRoomOf : KC mX8_readRoomOf 0 := ⟨bigI 60 (by decide +kernel) rfl, bigI 945 rfl rfl, by decide +kernel, ⟨by decide +kernel, by decide +kernel, by decide +kernel⟩, by decide⟩
abbrev mX8_readItem : MI := (yX8_readItem, cX8_readItem, 2, some .boolean)
set_option maxRecDepth 20000 in
theorem kcX8_readItem : KC mX8_readItem 0 := ⟨bigI 60 (by decide +kernel) rfl, bigI 922 rfl rfl, by decide +kernel, ⟨by decide +kernel, by decide +kernel, by decide +kernel⟩, by decide⟩
abbrev mX8_fault : MI := (yX8_fault, cX8_fault, 2, some .int)
set_option maxRecDepth 20000 in
theorem kcX8_fault : KC mX8_fault 0 := ⟨bigI 60 (by decide +kernel) rfl, bigI 918 rfl rfl, by decide +kernel, ⟨by decide +kernel, by decide +kernel, by decide +kernel⟩, by decide⟩
abbrev mX8_lay : MI := (yX8_lay, cX8_lay, 1, some .int)
set_option maxRecDepth 20000 in
theorem kcX8_lay : KC mX8_lay 0 := ⟨bigI 60 (by decide +kernel) rfl, bigI 949 rfl rfl, by decide +kernel, ⟨by decide +kernel, by decide +kernel, by decide +kernel⟩, by decide⟩
abbrev mX8_settles : MI := (yX8_settles, cX8_settles, 1, none)
set_option maxRecDepth 20000 in
theorem kcX8_settles : KC mX8_settles 0 := ⟨bigI 60 (by decide +kernel) rfl, bigI 827 rfl rfl, by decide +kernel, ⟨by decide +kernel, by decide +kernel, by decide +kernel⟩, by decide⟩
abbrev mX8_from : MI := (yX8_from, cX8_from, 2, none)
set_option maxRecDepth 20000 in
theorem kcX8_from : KC mX8_from 1 := ⟨bigI 60 (by decide +kernel) rfl, bigI 962 rfl rfl, by decide +kernel, ⟨by decide +kernel, by decide +kernel, by decide +kernel⟩, by decide⟩
abbrev mX8_findList : MI := (yX8_findList, cX8_findList, 2, none)
set_option maxRecDepth 20000 in
theorem kcX8_findList : KC mX8_findList 0 := ⟨bigI 60 (by decide +kernel) rfl, bigI 966 rfl rfl, by decide +kernel, ⟨by decide +kernel, by decide +kernel, by decide +kernel⟩, by decide⟩
abbrev mX8_placeOf : MI := (yX8_placeOf, cX8_placeOf, 4, some .int)
set_option maxRecDepth 20000 in
theorem kcX8_placeOf : KC mX8_placeOf 1 := ⟨bigI 60 (by decide +kernel) rfl, bigI 970 rfl rfl, by decide +kernel, ⟨by decide +kernel, by decide +kernel, by decide +kernel⟩, by decide⟩
abbrev mX8_sunIn : MI := (yX8_sunIn, cX8_sunIn, 3, some .int)
set_option maxRecDepth 20000 in
theorem kcX8_sunIn : KC mX8_sunIn 2 := ⟨bigI 60 (by decide +kernel) rfl, bigI 1005 rfl rfl, by decide +kernel, ⟨by decide +kernel, by decide +kernel, by decide +kernel⟩, by decide⟩
abbrev mX8_changes : MI := (yX8_changes, cX8_changes, 4, none)
set_option maxRecDepth 20000 in
theorem kcX8_changes : KC mX8_changes 1 := ⟨bigI 60 (by decide +kernel) rfl, bigI 998 rfl rfl, by decide +kernel, ⟨by decide +kernel, by decide +kernel, by decide +kernel⟩, by decide⟩
abbrev mX8_goes : MI := (yX8_goes, cX8_goes, 3, some .int)
set_option maxRecDepth 20000 in
theorem kcX8_goes : KC mX8_goes 0 := ⟨bigI 60 (by decide +kernel) rfl, bigI 994 rfl rfl, by decide +kernel, ⟨by decide +kernel, by decide +kernel, by decide +kernel⟩, by decide⟩
abbrev mX8_goesOn : MI := (yX8_goesOn, cX8_goesOn, 3, none)
set_option maxRecDepth 20000 in
theorem kcX8_goesOn : KC mX8_goesOn 1 := ⟨bigI 60 (by decide +kernel) rfl, bigI 990 rfl rfl, by decide +kernel, ⟨by decide +kernel, by decide +kernel, by decide +kernel⟩, by decide⟩
abbrev mX8_whoseNow : MI := (yX8_whoseNow, cX8_whoseNow, 3, some .int)
set_option maxRecDepth 20000 in
theorem kcX8_whoseNow : KC mX8_whoseNow 1 := ⟨bigI 60 (by decide +kernel) rfl, bigI 978 rfl rfl, by decide +kernel, ⟨by decide +kernel, by decide +kernel, by decide +kernel⟩, by decide⟩
abbrev mX8_sunOn : MI := (yX8_sunOn, cX8_sunOn, 5, some .int)
set_option maxRecDepth 20000 in
theorem kcX8_sunOn : KC mX8_sunOn 2 := ⟨bigI 60 (by decide +kernel) rfl, bigI 1033 rfl rfl, by decide +kernel, ⟨by decide +kernel, by decide +kernel, by decide +kernel⟩, by decide⟩
abbrev mX8_wantOn : MI := (yX8_wantOn, cX8_wantOn, 4, some .int)
set_option maxRecDepth 20000 in
theorem kcX8_wantOn : KC mX8_wantOn 1 := ⟨bigI 60 (by decide +kernel) rfl, bigI 1045 rfl rfl, by decide +kernel, ⟨by decide +kernel, by decide +kernel, by decide +kernel⟩, by decide⟩
abbrev mX8_cousin : MI := (yX8_cousin, cX8_cousin, 3, some .int)
set_option maxRecDepth 20000 in
theorem kcX8_cousin : KC mX8_cousin 2 := ⟨bigI 60 (by decide +kernel) rfl, bigI 954 rfl rfl, by decide +kernel, ⟨by decide +kernel, by decide +kernel, by decide +kernel⟩, by decide⟩
abbrev mX8_room : MI := (yX8_room, cX8_room, 3, some .int)
set_option maxRecDepth 20000 in
theorem kcX8_room : KC mX8_room 2 := ⟨bigI 60 (by decide +kernel) rfl, bigI 974 rfl rfl, by decide +kernel, ⟨by decide +kernel, by decide +kernel, by decide +kernel⟩, by decide⟩
abbrev mX8_remembers : MI := (yX8_remembers, cX8_remembers, 2, none)
set_option maxRecDepth 20000 in
theorem kcX8_remembers : KC mX8_remembers 0 := ⟨bigI 60 (by decide +kernel) rfl, bigI 986 rfl rfl, by decide +kernel, ⟨by decide +kernel, by decide +kernel, by decide +kernel⟩, by decide⟩
abbrev mX8_pass : MI := (yX8_pass, cX8_pass, 2, some .int)
set_option maxRecDepth 20000 in
theorem kcX8_pass : KC mX8_pass 1 := ⟨bigI 60 (by decide +kernel) rfl, bigI 982 rfl rfl, by decide +kernel, ⟨by decide +kernel, by decide +kernel, by decide +kernel⟩, by decide⟩
abbrev mX8_swap : MI := (yX8_swap, cX8_swap, 3, some .int)
set_option maxRecDepth 20000 in
theorem kcX8_swap : KC mX8_swap 2 := ⟨bigI 60 (by decide +kernel) rfl, bigI 1009 rfl rfl, by decide +kernel, ⟨by decide +kernel, by decide +kernel, by decide +kernel⟩, by decide⟩
abbrev mX8_swapped : MI := (yX8_swapped, cX8_swapped, 4, none)
set_option maxRecDepth 20000 in
theorem kcX8_swapped : KC mX8_swapped 3 := ⟨bigI 60 (by decide +kernel) rfl, bigI 1001 rfl rfl, by decide +kernel, ⟨by decide +kernel, by decide +kernel, by decide +kernel⟩, by decide⟩
abbrev mX8_alter : MI := (yX8_alter, cX8_alter, 4, some .int)
set_option maxRecDepth 20000 in
theorem kcX8_alter : KC mX8_alter 2 := ⟨bigI 60 (by decide +kernel) rfl, bigI 1013 rfl rfl, by decide +kernel, ⟨by decide +kernel, by decide +kernel, by decide +kernel⟩, by decide⟩
abbrev mX8_undo : MI := (yX8_undo, cX8_undo, 2, some .int)
set_option maxRecDepth 20000 in
theorem kcX8_undo : KC mX8_undo 0 := ⟨bigI 60 (by decide +kernel) rfl, bigI 1017 rfl rfl, by decide +kernel, ⟨by decide +kernel, by decide +kernel, by decide +kernel⟩, by decide⟩
abbrev mX8_has : MI := (yX8_has, cX8_has, 3, some .int)
set_option maxRecDepth 20000 in
theorem kcX8_has : KC mX8_has 2 := ⟨bigI 60 (by decide +kernel) rfl, bigI 1021 rfl rfl, by decide +kernel, ⟨by decide +kernel, by decide +kernel, by decide +kernel⟩, by decide⟩
abbrev mX8_whose : MI := (yX8_whose, cX8_whose, 3, some .int)
set_option maxRecDepth 20000 in
theorem kcX8_whose : KC mX8_whose 2 := ⟨bigI 60 (by decide +kernel) rfl, bigI 1025 rfl rfl, by decide +kernel, ⟨by decide +kernel, by decide +kernel, by decide +kernel⟩, by decide⟩
abbrev mX8_sun : MI := (yX8_sun, cX8_sun, 3, some .int)
set_option maxRecDepth 20000 in
theorem kcX8_sun : KC mX8_sun 2 := ⟨bigI 60 (by decide +kernel) rfl, bigI 1029 rfl rfl, by decide +kernel, ⟨by decide +kernel, by decide +kernel, by decide +kernel⟩, by decide⟩
abbrev mX8_cold : MI := (yX8_cold, cX8_cold, 2, some .int)
set_option maxRecDepth 20000 in
theorem kcX8_cold : KC mX8_cold 1 := ⟨bigI 60 (by decide +kernel) rfl, bigI 1037 rfl rfl, by decide +kernel, ⟨by decide +kernel, by decide +kernel, by decide +kernel⟩, by decide⟩
abbrev mX8_want : MI := (yX8_want, cX8_want, 2, some .int)
set_option maxRecDepth 20000 in
theorem kcX8_want : KC mX8_want 1 := ⟨bigI 60 (by decide +kernel) rfl, bigI 1041 rfl rfl, by decide +kernel, ⟨by decide +kernel, by decide +kernel, by decide +kernel⟩, by decide⟩
abbrev mX8_isPair : MI := (yX8_isPair, cX8_isPair, 2, some .boolean)
set_option maxRecDepth 20000 in
theorem kcX8_isPair : KC mX8_isPair 2 := ⟨bigI 60 (by decide +kernel) rfl, bigI 1059 rfl rfl, by decide +kernel, ⟨by decide +kernel, by decide +kernel, by decide +kernel⟩, by decide⟩
abbrev mX8_triesSwaps : MI := (yX8_triesSwaps, cX8_triesSwaps, 6, none)
set_option maxRecDepth 20000 in
theorem kcX8_triesSwaps : KC mX8_triesSwaps 4 := ⟨bigI 60 (by decide +kernel) rfl, bigI 1056 rfl rfl, by decide +kernel, ⟨by decide +kernel, by decide +kernel, by decide +kernel⟩, by decide⟩
abbrev mX8_swaps : MI := (yX8_swaps, cX8_swaps, 5, some .int)
set_option maxRecDepth 20000 in
theorem kcX8_swaps : KC mX8_swaps 3 := ⟨bigI 60 (by decide +kernel) rfl, bigI 1052 rfl rfl, by decide +kernel, ⟨by decide +kernel, by decide +kernel, by decide +kernel⟩, by decide⟩
abbrev mX8_warm : MI := (yX8_warm, cX8_warm, 7, some .int)
set_option maxRecDepth 20000 in
theorem kcX8_warm : KC mX8_warm 2 := ⟨bigI 60 (by decide +kernel) rfl, bigI 1063 rfl rfl, by decide +kernel, ⟨by decide +kernel, by decide +kernel, by decide +kernel⟩, by decide⟩
abbrev mX8_canHave : MI := (yX8_canHave, cX8_canHave, 5, some .int)
set_option maxRecDepth 20000 in
theorem kcX8_canHave : KC mX8_canHave 2 := ⟨bigI 60 (by decide +kernel) rfl, bigI 1067 rfl rfl, by decide +kernel, ⟨by decide +kernel, by decide +kernel, by decide +kernel⟩, by decide⟩
abbrev mX8_round : MI := (yX8_round, cX8_round, 4, some .int)
set_option maxRecDepth 20000 in
theorem kcX8_round : KC mX8_round 0 := ⟨bigI 60 (by decide +kernel) rfl, bigI 1071 rfl rfl, by decide +kernel, ⟨by decide +kernel, by decide +kernel, by decide +kernel⟩, by decide⟩
abbrev mX8_wayBy : MI := (yX8_wayBy, cX8_wayBy, 6, some .int)
set_option maxRecDepth 20000 in
theorem kcX8_wayBy : KC mX8_wayBy 3 := ⟨bigI 60 (by decide +kernel) rfl, bigI 1079 rfl rfl, by decide +kernel, ⟨by decide +kernel, by decide +kernel, by decide +kernel⟩, by decide⟩
abbrev mX8_way : MI := (yX8_way, cX8_way, 7, some .int)
set_option maxRecDepth 20000 in
theorem kcX8_way : KC mX8_way 3 := ⟨bigI 60 (by decide +kernel) rfl, bigI 1075 rfl rfl, by decide +kernel, ⟨by decide +kernel, by decide +kernel, by decide +kernel⟩, by decide⟩
abbrev mX8_seen : MI := (yX8_seen, cX8_seen, 4, some .int)
set_option maxRecDepth 20000 in
theorem kcX8_seen : KC mX8_seen 3 := ⟨bigI 60 (by decide +kernel) rfl, bigI 1083 rfl rfl, by decide +kernel, ⟨by decide +kernel, by decide +kernel, by decide +kernel⟩, by decide⟩
abbrev mX8_forget : MI := (yX8_forget, cX8_forget, 2, some .int)
set_option maxRecDepth 20000 in
theorem kcX8_forget : KC mX8_forget 0 := ⟨bigI 60 (by decide +kernel) rfl, bigI 1087 rfl rfl, by decide +kernel, ⟨by decide +kernel, by decide +kernel, by decide +kernel⟩, by decide⟩
abbrev mX8_register : MI := (yX8_register, cX8_register, 9, some .int)
set_option maxRecDepth 20000 in
theorem kcX8_register : KC mX8_register 2 := ⟨bigI 60 (by decide +kernel) rfl, bigI 1091 rfl rfl, by decide +kernel, ⟨by decide +kernel, by decide +kernel, by decide +kernel⟩, by decide⟩
abbrev mX8_foundling : MI := (yX8_foundling, cX8_foundling, 9, some .int)
set_option maxRecDepth 20000 in
theorem kcX8_foundling : KC mX8_foundling 4 := ⟨bigI 60 (by decide +kernel) rfl, bigI 1095 rfl rfl, by decide +kernel, ⟨by decide +kernel, by decide +kernel, by decide +kernel⟩, by decide⟩
abbrev mX8_loses : MI := (yX8_loses, cX8_loses, 7, some .int)
set_option maxRecDepth 20000 in
theorem kcX8_loses : KC mX8_loses 1 := ⟨bigI 60 (by decide +kernel) rfl, bigI 1099 rfl rfl, by decide +kernel, ⟨by decide +kernel, by decide +kernel, by decide +kernel⟩, by decide⟩
abbrev mX8_next : MI := (yX8_next, cX8_next, 8, some .int)
set_option maxRecDepth 20000 in
theorem kcX8_next : KC mX8_next 1 := ⟨bigI 60 (by decide +kernel) rfl, bigI 1103 rfl rfl, by decide +kernel, ⟨by decide +kernel, by decide +kernel, by decide +kernel⟩, by decide⟩
abbrev mX8_year : MI := (yX8_year, cX8_year, 9, some .int)
set_option maxRecDepth 20000 in
theorem kcX8_year : KC mX8_year 3 := ⟨bigI 60 (by decide +kernel) rfl, bigI 1107 rfl rfl, by decide +kernel, ⟨by decide +kernel, by decide +kernel, by decide +kernel⟩, by decide⟩
abbrev mX8_keep : MI := (yX8_keep, cX8_keep, 1, some .int)
set_option maxRecDepth 20000 in
theorem kcX8_keep : KC mX8_keep 0 := ⟨bigI 60 (by decide +kernel) rfl, bigI 1115 rfl rfl, by decide +kernel, ⟨by decide +kernel, by decide +kernel, by decide +kernel⟩, by decide⟩
abbrev mX8_back : MI := (yX8_back, cX8_back, 2, some .int)
set_option maxRecDepth 20000 in
theorem kcX8_back : KC mX8_back 0 := ⟨bigI 60 (by decide +kernel) rfl, bigI 1119 rfl rfl, by decide +kernel, ⟨by decide +kernel, by decide +kernel, by decide +kernel⟩, by decide⟩
abbrev mX8_count : MI := (yX8_count, cX8_count, 2, some .int)
set_option maxRecDepth 20000 in
theorem kcX8_count : KC mX8_count 1 := ⟨bigI 60 (by decide +kernel) rfl, bigI 1123 rfl rfl, by decide +kernel, ⟨by decide +kernel, by decide +kernel, by decide +kernel⟩, by decide⟩
abbrev mM_floorMod : MI := (yM_floorMod, cM_floorMod, 3, some .int)
set_option maxRecDepth 20000 in
theorem kcM_floorMod : KC mM_floorMod 2 := ⟨bigI 52 (by decide +kernel) rfl, bigI 534 rfl rfl, by decide +kernel, ⟨by decide +kernel, by decide +kernel, by decide +kernel⟩, by decide⟩
theorem inX0 : ∀ w ∈ u_ws RX0 TX0 2, w ∈ bigW := by decide +kernel
theorem inX1 : ∀ w ∈ u_ws RX1 TX1 7, w ∈ bigW := by decide +kernel
theorem inX2 : ∀ w ∈ u_ws RX2 TX2 5, w ∈ bigW := by decide +kernel
theorem inX3 : ∀ w ∈ u_ws RX3 TX3 4, w ∈ bigW := by decide +kernel
theorem inX4 : ∀ w ∈ u_ws RX4 TX4 3, w ∈ bigW := by decide +kernel
theorem inX5 : ∀ w ∈ u_ws RX5 TX5 4, w ∈ bigW := by decide +kernel
theorem inX6 : ∀ w ∈ u_ws RX6 TX6 5, w ∈ bigW := by decide +kernel
theorem inX7 : ∀ w ∈ u_ws RX7 TX7 10, w ∈ bigW := by decide +kernel
theorem inX8 : ∀ w ∈ u_ws RX8 TX8 25, w ∈ bigW := by decide +kernel
theorem fX5_9 : FL RX5 9 5 0 := ⟨RX5, TX5, 4, tyX5, rfl, by decide, bigI 75 (by decide +kernel) rfl, inX5, tyX5_ok, nmX5⟩
theorem fX5_15 : FL RX5 15 5 1 := ⟨RX5, TX5, 4, tyX5, rfl, by decide, bigI 76 (by decide +kernel) rfl, inX5, tyX5_ok, nmX5⟩
theorem fX5_19 : FL RX5 19 5 2 := ⟨RX5, TX5, 4, tyX5, rfl, by decide, bigI 77 (by decide +kernel) rfl, inX5, tyX5_ok, nmX5⟩
theorem gX5_19 : FW RX5 19 5 2 := ⟨RX5, TX5, 4, tyX5, rfl, by decide, bigI 77 (by decide +kernel) rfl, inX5, tyX5_ok, nmX5, rfl, rfl⟩
theorem fX5_28 : FL RX5 28 5 3 := ⟨RX5, TX5, 4, tyX5, rfl, by decide, bigI 78 (by decide +kernel) rfl, inX5, tyX5_ok, nmX5⟩
theorem gX5_28 : FW RX5 28 5 3 := ⟨RX5, TX5, 4, tyX5, rfl, by decide, bigI 78 (by decide +kernel) rfl, inX5, tyX5_ok, nmX5, rfl, rfl⟩
theorem fX1_9 : FL RX1 9 1 0 := ⟨RX1, TX1, 7, tyX1, rfl, by decide, bigI 96 (by decide +kernel) rfl, inX1, tyX1_ok, nmX1⟩
theorem fX1_15 : FL RX1 15 1 1 := ⟨RX1, TX1, 7, tyX1, rfl, by decide, bigI 97 (by decide +kernel) rfl, inX1, tyX1_ok, nmX1⟩
theorem fX1_18 : FL RX1 18 1 2 := ⟨RX1, TX1, 7, tyX1, rfl, by decide, bigI 98 (by decide +kernel) rfl, inX1, tyX1_ok, nmX1⟩
theorem fX1_21 : FL RX1 21 1 3 := ⟨RX1, TX1, 7, tyX1, rfl, by decide, bigI 99 (by decide +kernel) rfl, inX1, tyX1_ok, nmX1⟩
theorem fX1_24 : FL RX1 24 1 4 := ⟨RX1, TX1, 7, tyX1, rfl, by decide, bigI 100 (by decide +kernel) rfl, inX1, tyX1_ok, nmX1⟩
theorem fX1_27 : FL RX1 27 1 5 := ⟨RX1, TX1, 7, tyX1, rfl, by decide, bigI 101 (by decide +kernel) rfl, inX1, tyX1_ok, nmX1⟩
theorem gX1_27 : FW RX1 27 1 5 := ⟨RX1, TX1, 7, tyX1, rfl, by decide, bigI 101 (by decide +kernel) rfl, inX1, tyX1_ok, nmX1, rfl, rfl⟩
theorem fX1_31 : FL RX1 31 1 6 := ⟨RX1, TX1, 7, tyX1, rfl, by decide, bigI 102 (by decide +kernel) rfl, inX1, tyX1_ok, nmX1⟩
theorem gX1_31 : FW RX1 31 1 6 := ⟨RX1, TX1, 7, tyX1, rfl, by decide, bigI 102 (by decide +kernel) rfl, inX1, tyX1_ok, nmX1, rfl, rfl⟩
theorem fX4_9 : FL RX4 9 4 0 := ⟨RX4, TX4, 3, tyX4, rfl, by decide, bigI 124 (by decide +kernel) rfl, inX4, tyX4_ok, nmX4⟩
theorem fX4_15 : FL RX4 15 4 1 := ⟨RX4, TX4, 3, tyX4, rfl, by decide, bigI 125 (by decide +kernel) rfl, inX4, tyX4_ok, nmX4⟩
theorem fX4_18 : FL RX4 18 4 2 := ⟨RX4, TX4, 3, tyX4, rfl, by decide, bigI 126 (by decide +kernel) rfl, inX4, tyX4_ok, nmX4⟩
theorem gX4_18 : FW RX4 18 4 2 := ⟨RX4, TX4, 3, tyX4, rfl, by decide, bigI 126 (by decide +kernel) rfl, inX4, tyX4_ok, nmX4, rfl, rfl⟩
theorem fX0_15 : FL RX0 15 0 0 := ⟨RX0, TX0, 2, tyX0, rfl, by decide, bigI 146 (by decide +kernel) rfl, inX0, tyX0_ok, nmX0⟩
theorem fX0_22 : FL RX0 22 0 1 := ⟨RX0, TX0, 2, tyX0, rfl, by decide, bigI 147 (by decide +kernel) rfl, inX0, tyX0_ok, nmX0⟩
theorem gX0_22 : FW RX0 22 0 1 := ⟨RX0, TX0, 2, tyX0, rfl, by decide, bigI 147 (by decide +kernel) rfl, inX0, tyX0_ok, nmX0, rfl, rfl⟩
theorem fX3_9 : FL RX3 9 3 0 := ⟨RX3, TX3, 4, tyX3, rfl, by decide, bigI 159 (by decide +kernel) rfl, inX3, tyX3_ok, nmX3⟩
theorem fX3_15 : FL RX3 15 3 1 := ⟨RX3, TX3, 4, tyX3, rfl, by decide, bigI 160 (by decide +kernel) rfl, inX3, tyX3_ok, nmX3⟩
theorem fX3_18 : FL RX3 18 3 2 := ⟨RX3, TX3, 4, tyX3, rfl, by decide, bigI 161 (by decide +kernel) rfl, inX3, tyX3_ok, nmX3⟩
theorem fX3_21 : FL RX3 21 3 3 := ⟨RX3, TX3, 4, tyX3, rfl, by decide, bigI 162 (by decide +kernel) rfl, inX3, tyX3_ok, nmX3⟩
theorem gX3_21 : FW RX3 21 3 3 := ⟨RX3, TX3, 4, tyX3, rfl, by decide, bigI 162 (by decide +kernel) rfl, inX3, tyX3_ok, nmX3, rfl, rfl⟩
theorem fX6_25 : FL RX6 25 6 0 := ⟨RX6, TX6, 5, tyX6, rfl, by decide, bigI 180 (by decide +kernel) rfl, inX6, tyX6_ok, nmX6⟩
theorem fX6_12 : FL RX6 12 6 1 := ⟨RX6, TX6, 5, tyX6, rfl, by decide, bigI 181 (by decide +kernel) rfl, inX6, tyX6_ok, nmX6⟩
theorem fX6_18 : FL RX6 18 6 2 := ⟨RX6, TX6, 5, tyX6, rfl, by decide, bigI 182 (by decide +kernel) rfl, inX6, tyX6_ok, nmX6⟩
theorem fX6_22 : FL RX6 22 6 3 := ⟨RX6, TX6, 5, tyX6, rfl, by decide, bigI 183 (by decide +kernel) rfl, inX6, tyX6_ok, nmX6⟩
theorem fX6_53 : FL RX6 53 6 4 := ⟨RX6, TX6, 5, tyX6, rfl, by decide, bigI 184 (by decide +kernel) rfl, inX6, tyX6_ok, nmX6⟩
theorem gX6_53 : FW RX6 53 6 4 := ⟨RX6, TX6, 5, tyX6, rfl, by decide, bigI 184 (by decide +kernel) rfl, inX6, tyX6_ok, nmX6, rfl, rfl⟩
theorem fX2_9 : FL RX2 9 2 0 := ⟨RX2, TX2, 5, tyX2, rfl, by decide, bigI 202 (by decide +kernel) rfl, inX2, tyX2_ok, nmX2⟩
theorem fX2_15 : FL RX2 15 2 1 := ⟨RX2, TX2, 5, tyX2, rfl, by decide, bigI 203 (by decide +kernel) rfl, inX2, tyX2_ok, nmX2⟩
theorem fX2_19 : FL RX2 19 2 2 := ⟨RX2, TX2, 5, tyX2, rfl, by decide, bigI 204 (by decide +kernel) rfl, inX2, tyX2_ok, nmX2⟩
theorem gX2_19 : FW RX2 19 2 2 := ⟨RX2, TX2, 5, tyX2, rfl, by decide, bigI 204 (by decide +kernel) rfl, inX2, tyX2_ok, nmX2, rfl, rfl⟩
theorem fX2_23 : FL RX2 23 2 3 := ⟨RX2, TX2, 5, tyX2, rfl, by decide, bigI 205 (by decide +kernel) rfl, inX2, tyX2_ok, nmX2⟩
theorem gX2_23 : FW RX2 23 2 3 := ⟨RX2, TX2, 5, tyX2, rfl, by decide, bigI 205 (by decide +kernel) rfl, inX2, tyX2_ok, nmX2, rfl, rfl⟩
theorem fX2_26 : FL RX2 26 2 4 := ⟨RX2, TX2, 5, tyX2, rfl, by decide, bigI 206 (by decide +kernel) rfl, inX2, tyX2_ok, nmX2⟩
theorem gX2_26 : FW RX2 26 2 4 := ⟨RX2, TX2, 5, tyX2, rfl, by decide, bigI 206 (by decide +kernel) rfl, inX2, tyX2_ok, nmX2, rfl, rfl⟩
theorem fX7_12 : FL RX7 12 7 0 := ⟨RX7, TX7, 10, tyX7, rfl, by decide, bigI 355 (by decide +kernel) rfl, inX7, tyX7_ok, nmX7⟩
theorem fX7_19 : FL RX7 19 7 1 := ⟨RX7, TX7, 10, tyX7, rfl, by decide, bigI 356 (by decide +kernel) rfl, inX7, tyX7_ok, nmX7⟩
theorem fX7_23 : FL RX7 23 7 2 := ⟨RX7, TX7, 10, tyX7, rfl, by decide, bigI 357 (by decide +kernel) rfl, inX7, tyX7_ok, nmX7⟩
theorem fX7_29 : FL RX7 29 7 3 := ⟨RX7, TX7, 10, tyX7, rfl, by decide, bigI 358 (by decide +kernel) rfl, inX7, tyX7_ok, nmX7⟩
theorem fX7_33 : FL RX7 33 7 4 := ⟨RX7, TX7, 10, tyX7, rfl, by decide, bigI 359 (by decide +kernel) rfl, inX7, tyX7_ok, nmX7⟩
theorem fX7_41 : FL RX7 41 7 5 := ⟨RX7, TX7, 10, tyX7, rfl, by decide, bigI 360 (by decide +kernel) rfl, inX7, tyX7_ok, nmX7⟩
theorem fX7_45 : FL RX7 45 7 6 := ⟨RX7, TX7, 10, tyX7, rfl, by decide, bigI 361 (by decide +kernel) rfl, inX7, tyX7_ok, nmX7⟩
theorem fX7_51 : FL RX7 51 7 7 := ⟨RX7, TX7, 10, tyX7, rfl, by decide, bigI 362 (by decide +kernel) rfl, inX7, tyX7_ok, nmX7⟩
theorem fX7_60 : FL RX7 60 7 8 := ⟨RX7, TX7, 10, tyX7, rfl, by decide, bigI 363 (by decide +kernel) rfl, inX7, tyX7_ok, nmX7⟩
theorem fX7_69 : FL RX7 69 7 9 := ⟨RX7, TX7, 10, tyX7, rfl, by decide, bigI 364 (by decide +kernel) rfl, inX7, tyX7_ok, nmX7⟩
theorem fX8_73 : FL RX8 73 8 0 := ⟨RX8, TX8, 25, tyX8, rfl, by decide, bigI 831 (by decide +kernel) rfl, inX8, tyX8_ok, nmX8⟩
theorem gX8_73 : FW RX8 73 8 0 := ⟨RX8, TX8, 25, tyX8, rfl, by decide, bigI 831 (by decide +kernel) rfl, inX8, tyX8_ok, nmX8, rfl, rfl⟩
theorem fX8_7 : FL RX8 7 8 1 := ⟨RX8, TX8, 25, tyX8, rfl, by decide, bigI 832 (by decide +kernel) rfl, inX8, tyX8_ok, nmX8⟩
theorem fX8_13 : FL RX8 13 8 2 := ⟨RX8, TX8, 25, tyX8, rfl, by decide, bigI 833 (by decide +kernel) rfl, inX8, tyX8_ok, nmX8⟩
theorem fX8_16 : FL RX8 16 8 3 := ⟨RX8, TX8, 25, tyX8, rfl, by decide, bigI 834 (by decide +kernel) rfl, inX8, tyX8_ok, nmX8⟩
theorem fX8_19 : FL RX8 19 8 4 := ⟨RX8, TX8, 25, tyX8, rfl, by decide, bigI 835 (by decide +kernel) rfl, inX8, tyX8_ok, nmX8⟩
theorem fX8_118 : FL RX8 118 8 5 := ⟨RX8, TX8, 25, tyX8, rfl, by decide, bigI 836 (by decide +kernel) rfl, inX8, tyX8_ok, nmX8⟩
theorem gX8_118 : FW RX8 118 8 5 := ⟨RX8, TX8, 25, tyX8, rfl, by decide, bigI 836 (by decide +kernel) rfl, inX8, tyX8_ok, nmX8, rfl, rfl⟩
theorem fX8_22 : FL RX8 22 8 6 := ⟨RX8, TX8, 25, tyX8, rfl, by decide, bigI 837 (by decide +kernel) rfl, inX8, tyX8_ok, nmX8⟩
theorem fX8_121 : FL RX8 121 8 7 := ⟨RX8, TX8, 25, tyX8, rfl, by decide, bigI 838 (by decide +kernel) rfl, inX8, tyX8_ok, nmX8⟩
theorem gX8_121 : FW RX8 121 8 7 := ⟨RX8, TX8, 25, tyX8, rfl, by decide, bigI 838 (by decide +kernel) rfl, inX8, tyX8_ok, nmX8, rfl, rfl⟩
theorem fX8_25 : FL RX8 25 8 8 := ⟨RX8, TX8, 25, tyX8, rfl, by decide, bigI 839 (by decide +kernel) rfl, inX8, tyX8_ok, nmX8⟩
theorem fX8_124 : FL RX8 124 8 9 := ⟨RX8, TX8, 25, tyX8, rfl, by decide, bigI 840 (by decide +kernel) rfl, inX8, tyX8_ok, nmX8⟩
theorem gX8_124 : FW RX8 124 8 9 := ⟨RX8, TX8, 25, tyX8, rfl, by decide, bigI 840 (by decide +kernel) rfl, inX8, tyX8_ok, nmX8, rfl, rfl⟩
theorem fX8_28 : FL RX8 28 8 10 := ⟨RX8, TX8, 25, tyX8, rfl, by decide, bigI 841 (by decide +kernel) rfl, inX8, tyX8_ok, nmX8⟩
theorem fX8_31 : FL RX8 31 8 11 := ⟨RX8, TX8, 25, tyX8, rfl, by decide, bigI 842 (by decide +kernel) rfl, inX8, tyX8_ok, nmX8⟩
theorem fX8_80 : FL RX8 80 8 12 := ⟨RX8, TX8, 25, tyX8, rfl, by decide, bigI 843 (by decide +kernel) rfl, inX8, tyX8_ok, nmX8⟩
theorem gX8_80 : FW RX8 80 8 12 := ⟨RX8, TX8, 25, tyX8, rfl, by decide, bigI 843 (by decide +kernel) rfl, inX8, tyX8_ok, nmX8, rfl, rfl⟩
theorem fX8_83 : FL RX8 83 8 13 := ⟨RX8, TX8, 25, tyX8, rfl, by decide, bigI 844 (by decide +kernel) rfl, inX8, tyX8_ok, nmX8⟩
theorem gX8_83 : FW RX8 83 8 13 := ⟨RX8, TX8, 25, tyX8, rfl, by decide, bigI 844 (by decide +kernel) rfl, inX8, tyX8_ok, nmX8, rfl, rfl⟩
theorem fX8_34 : FL RX8 34 8 14 := ⟨RX8, TX8, 25, tyX8, rfl, by decide, bigI 845 (by decide +kernel) rfl, inX8, tyX8_ok, nmX8⟩
theorem fX8_66 : FL RX8 66 8 15 := ⟨RX8, TX8, 25, tyX8, rfl, by decide, bigI 846 (by decide +kernel) rfl, inX8, tyX8_ok, nmX8⟩
theorem gX8_66 : FW RX8 66 8 15 := ⟨RX8, TX8, 25, tyX8, rfl, by decide, bigI 846 (by decide +kernel) rfl, inX8, tyX8_ok, nmX8, rfl, rfl⟩
theorem fX8_37 : FL RX8 37 8 16 := ⟨RX8, TX8, 25, tyX8, rfl, by decide, bigI 847 (by decide +kernel) rfl, inX8, tyX8_ok, nmX8⟩
theorem fX8_70 : FL RX8 70 8 17 := ⟨RX8, TX8, 25, tyX8, rfl, by decide, bigI 848 (by decide +kernel) rfl, inX8, tyX8_ok, nmX8⟩
theorem gX8_70 : FW RX8 70 8 17 := ⟨RX8, TX8, 25, tyX8, rfl, by decide, bigI 848 (by decide +kernel) rfl, inX8, tyX8_ok, nmX8, rfl, rfl⟩
theorem fX8_40 : FL RX8 40 8 18 := ⟨RX8, TX8, 25, tyX8, rfl, by decide, bigI 849 (by decide +kernel) rfl, inX8, tyX8_ok, nmX8⟩
theorem fX8_43 : FL RX8 43 8 19 := ⟨RX8, TX8, 25, tyX8, rfl, by decide, bigI 850 (by decide +kernel) rfl, inX8, tyX8_ok, nmX8⟩
theorem fX8_46 : FL RX8 46 8 20 := ⟨RX8, TX8, 25, tyX8, rfl, by decide, bigI 851 (by decide +kernel) rfl, inX8, tyX8_ok, nmX8⟩
theorem fX8_49 : FL RX8 49 8 21 := ⟨RX8, TX8, 25, tyX8, rfl, by decide, bigI 852 (by decide +kernel) rfl, inX8, tyX8_ok, nmX8⟩
theorem fX8_176 : FL RX8 176 8 22 := ⟨RX8, TX8, 25, tyX8, rfl, by decide, bigI 853 (by decide +kernel) rfl, inX8, tyX8_ok, nmX8⟩
theorem gX8_176 : FW RX8 176 8 22 := ⟨RX8, TX8, 25, tyX8, rfl, by decide, bigI 853 (by decide +kernel) rfl, inX8, tyX8_ok, nmX8, rfl, rfl⟩
theorem fX8_179 : FL RX8 179 8 23 := ⟨RX8, TX8, 25, tyX8, rfl, by decide, bigI 854 (by decide +kernel) rfl, inX8, tyX8_ok, nmX8⟩
theorem gX8_179 : FW RX8 179 8 23 := ⟨RX8, TX8, 25, tyX8, rfl, by decide, bigI 854 (by decide +kernel) rfl, inX8, tyX8_ok, nmX8, rfl, rfl⟩
theorem fX8_173 : FL RX8 173 8 24 := ⟨RX8, TX8, 25, tyX8, rfl, by decide, bigI 855 (by decide +kernel) rfl, inX8, tyX8_ok, nmX8⟩
theorem gX8_173 : FW RX8 173 8 24 := ⟨RX8, TX8, 25, tyX8, rfl, by decide, bigI 855 (by decide +kernel) rfl, inX8, tyX8_ok, nmX8, rfl, rfl⟩
theorem kX7_85 : KV RX7 85 mX5_add 5 1 := ⟨kcX5_add, bigI 268 (by decide +kernel) rfl, bigI 269 (by decide +kernel) rfl, ⟨_, _, rfl⟩, Or.inl (bigI 267 (by decide +kernel) rfl)⟩
theorem kX7_89 : KV RX7 89 mX5_readInto 5 1 := ⟨kcX5_readInto, bigI 272 (by decide +kernel) rfl, bigI 273 (by decide +kernel) rfl, ⟨_, _, rfl⟩, Or.inl (bigI 271 (by decide +kernel) rfl)⟩
theorem kX5_23 : KV RX5 23 mX1_clear 1 0 := ⟨kcX1_clear, bigI 276 (by decide +kernel) rfl, bigI 277 (by decide +kernel) rfl, ⟨_, _, rfl⟩, Or.inl (bigI 275 (by decide +kernel) rfl)⟩
theorem kX5_31 : KV RX5 31 mX5_readItem 5 1 := ⟨kcX5_readItem, bigI 281 (by decide +kernel) rfl, bigI 0 (by decide +kernel) rfl, ⟨_, _, rfl⟩, Or.inl (bigI 279 (by decide +kernel) rfl)⟩
theorem kX5_35 : KV RX5 35 mX5_letterHere 5 0 := ⟨kcX5_letterHere, bigI 285 (by decide +kernel) rfl, bigI 1 (by decide +kernel) rfl, ⟨_, _, rfl⟩, Or.inl (bigI 283 (by decide +kernel) rfl)⟩
theorem kX5_39 : KV RX5 39 mX5_readNumbers 5 1 := ⟨kcX5_readNumbers, bigI 289 (by decide +kernel) rfl, bigI 2 (by decide +kernel) rfl, ⟨_, _, rfl⟩, Or.inl (bigI 287 (by decide +kernel) rfl)⟩
theorem kX5_55 : KV RX5 55 mX5_readNumber 5 0 := ⟨kcX5_readNumber, bigI 293 (by decide +kernel) rfl, bigI 3 (by decide +kernel) rfl, ⟨_, _, rfl⟩, Or.inl (bigI 291 (by decide +kernel) rfl)⟩
theorem kX5_63 : KS RX5 63 mX5_isFigure 1 := ⟨kcX5_isFigure, bigI 296 (by decide +kernel) rfl, Or.inl (bigI 295 (by decide +kernel) rfl)⟩
theorem kX5_59 : KS RX5 59 mX7_put 3 := ⟨kcX7_put, bigI 300 (by decide +kernel) rfl, Or.inr ⟨"BirthdayRooms", nestI 299 (by decide +kernel) rfl⟩⟩
theorem kX5_43 : KS RX5 43 mX7_at 2 := ⟨kcX7_at, bigI 303 (by decide +kernel) rfl, Or.inr ⟨"BirthdayRooms", nestI 302 (by decide +kernel) rfl⟩⟩
theorem kX5_47 : KV RX5 47 mX1_addCousin 1 3 := ⟨kcX1_addCousin, bigI 306 (by decide +kernel) rfl, bigI 307 (by decide +kernel) rfl, ⟨_, _, rfl⟩, Or.inl (bigI 305 (by decide +kernel) rfl)⟩
theorem kX1_34 : KS RX1 34 mX7_within 3 := ⟨kcX7_within, bigI 310 (by decide +kernel) rfl, Or.inr ⟨"BirthdayRooms", nestI 309 (by decide +kernel) rfl⟩⟩
theorem kX1_38 : KS RX1 38 mX7_put 3 := ⟨kcX7_put, bigI 300 (by decide +kernel) rfl, Or.inr ⟨"BirthdayRooms", nestI 312 (by decide +kernel) rfl⟩⟩
theorem kX5_51 : KV RX5 51 mX1_addRoom 1 2 := ⟨kcX1_addRoom, bigI 314 (by decide +kernel) rfl, bigI 315 (by decide +kernel) rfl, ⟨_, _, rfl⟩, Or.inl (bigI 313 (by decide +kernel) rfl)⟩
theorem kX7_93 : KV RX7 93 mX7_moveIn 7 0 := ⟨kcX7_moveIn, bigI 319 (by decide +kernel) rfl, bigI 4 (by decide +kernel) rfl, ⟨_, _, rfl⟩, Or.inl (bigI 317 (by decide +kernel) rfl)⟩
theorem kX7_256 : KV RX7 256 mX1_copyFrom 1 1 := ⟨kcX1_copyFrom, bigI 322 (by decide +kernel) rfl, bigI 323 (by decide +kernel) rfl, ⟨_, _, rfl⟩, Or.inl (bigI 321 (by decide +kernel) rfl)⟩
theorem kX1_42 : KS RX1 42 mX7_copyRow 2 := ⟨kcX7_copyRow, bigI 326 (by decide +kernel) rfl, Or.inr ⟨"BirthdayRooms", nestI 325 (by decide +kernel) rfl⟩⟩
theorem kX7_258 : KV RX7 258 mX4_beginAs 4 1 := ⟨kcX4_beginAs, bigI 329 (by decide +kernel) rfl, bigI 330 (by decide +kernel) rfl, ⟨_, _, rfl⟩, Or.inl (bigI 328 (by decide +kernel) rfl)⟩
theorem kX4_22 : KS RX4 22 mX7_put 3 := ⟨kcX7_put, bigI 300 (by decide +kernel) rfl, Or.inr ⟨"BirthdayRooms", nestI 332 (by decide +kernel) rfl⟩⟩
theorem kX4_26 : KV RX4 26 mX1_birthdayAtFirst 1 1 := ⟨kcX1_birthdayAtFirst, bigI 334 (by decide +kernel) rfl, bigI 335 (by decide +kernel) rfl, ⟨_, _, rfl⟩, Or.inl (bigI 333 (by decide +kernel) rfl)⟩
theorem kX1_46 : KS RX1 46 mX7_at 2 := ⟨kcX7_at, bigI 303 (by decide +kernel) rfl, Or.inr ⟨"BirthdayRooms", nestI 337 (by decide +kernel) rfl⟩⟩
theorem kX7_166 : KV RX7 166 mX4_copyFrom 4 1 := ⟨kcX4_copyFrom, bigI 339 (by decide +kernel) rfl, bigI 340 (by decide +kernel) rfl, ⟨_, _, rfl⟩, Or.inl (bigI 338 (by decide +kernel) rfl)⟩
theorem kX4_32 : KS RX4 32 mX7_copyRow 2 := ⟨kcX7_copyRow, bigI 326 (by decide +kernel) rfl, Or.inr ⟨"BirthdayRooms", nestI 342 (by decide +kernel) rfl⟩⟩
theorem kX7_231 : KV RX7 231 mX3_clear 3 0 := ⟨kcX3_clear, bigI 344 (by decide +kernel) rfl, bigI 345 (by decide +kernel) rfl, ⟨_, _, rfl⟩, Or.inl (bigI 343 (by decide +kernel) rfl)⟩
theorem kX7_255 : KV RX7 255 mX0_clear 0 0 := ⟨kcX0_clear, bigI 348 (by decide +kernel) rfl, bigI 349 (by decide +kernel) rfl, ⟨_, _, rfl⟩, Or.inl (bigI 347 (by decide +kernel) rfl)⟩
theorem kX7_96 : KV RX7 96 mX5_clear 5 0 := ⟨kcX5_clear, bigI 352 (by decide +kernel) rfl, bigI 353 (by decide +kernel) rfl, ⟨_, _, rfl⟩, Or.inl (bigI 351 (by decide +kernel) rfl)⟩
theorem kL_13 : KV RL 13 mX7_write 7 1 := ⟨kcX7_write, bigI 388 (by decide +kernel) rfl, bigI 389 (by decide +kernel) rfl, ⟨_, _, rfl⟩, Or.inl (bigI 387 (by decide +kernel) rfl)⟩
theorem kX7_99 : KS RX7 99 mX7_within 3 := ⟨kcX7_within, bigI 310 (by decide +kernel) rfl, Or.inl (bigI 391 (by decide +kernel) rfl)⟩
theorem kX7_103 : KV RX7 103 mX5_isFull 5 0 := ⟨kcX5_isFull, bigI 393 (by decide +kernel) rfl, bigI 394 (by decide +kernel) rfl, ⟨_, _, rfl⟩, Or.inl (bigI 392 (by decide +kernel) rfl)⟩
theorem kX7_107 : KV RX7 107 mX5_size 5 0 := ⟨kcX5_size, bigI 397 (by decide +kernel) rfl, bigI 398 (by decide +kernel) rfl, ⟨_, _, rfl⟩, Or.inl (bigI 396 (by decide +kernel) rfl)⟩
theorem kL_18 : KV RL 18 mX7_wipe 7 0 := ⟨kcX7_wipe, bigI 401 (by decide +kernel) rfl, bigI 402 (by decide +kernel) rfl, ⟨_, _, rfl⟩, Or.inl (bigI 400 (by decide +kernel) rfl)⟩
theorem kL_23 : KV RL 23 mX7_fault 7 0 := ⟨kcX7_fault, bigI 405 (by decide +kernel) rfl, bigI 406 (by decide +kernel) rfl, ⟨_, _, rfl⟩, Or.inl (bigI 404 (by decide +kernel) rfl)⟩
theorem kL_27 : KV RL 27 mX7_lay 7 0 := ⟨kcX7_lay, bigI 409 (by decide +kernel) rfl, bigI 410 (by decide +kernel) rfl, ⟨_, _, rfl⟩, Or.inl (bigI 408 (by decide +kernel) rfl)⟩
theorem kX7_110 : KV RX7 110 mX1_canBeLaid 1 0 := ⟨kcX1_canBeLaid, bigI 413 (by decide +kernel) rfl, bigI 414 (by decide +kernel) rfl, ⟨_, _, rfl⟩, Or.inl (bigI 412 (by decide +kernel) rfl)⟩
theorem kX7_113 : KV RX7 113 mX1_cousins 1 0 := ⟨kcX1_cousins, bigI 417 (by decide +kernel) rfl, bigI 418 (by decide +kernel) rfl, ⟨_, _, rfl⟩, Or.inl (bigI 416 (by decide +kernel) rfl)⟩
theorem kL_31 : KV RL 31 mX7_cousin 7 2 := ⟨kcX7_cousin, bigI 421 (by decide +kernel) rfl, bigI 422 (by decide +kernel) rfl, ⟨_, _, rfl⟩, Or.inl (bigI 420 (by decide +kernel) rfl)⟩
theorem kX7_116 : KV RX7 116 mX7_isCousin 7 1 := ⟨kcX7_isCousin, bigI 426 (by decide +kernel) rfl, bigI 5 (by decide +kernel) rfl, ⟨_, _, rfl⟩, Or.inl (bigI 424 (by decide +kernel) rfl)⟩
theorem kX7_120 : KV RX7 120 mX1_kindOf 1 1 := ⟨kcX1_kindOf, bigI 429 (by decide +kernel) rfl, bigI 430 (by decide +kernel) rfl, ⟨_, _, rfl⟩, Or.inl (bigI 428 (by decide +kernel) rfl)⟩
theorem kX7_124 : KV RX7 124 mX4_birthdayOf 4 1 := ⟨kcX4_birthdayOf, bigI 433 (by decide +kernel) rfl, bigI 434 (by decide +kernel) rfl, ⟨_, _, rfl⟩, Or.inl (bigI 432 (by decide +kernel) rfl)⟩
theorem kX4_36 : KS RX4 36 mX7_at 2 := ⟨kcX7_at, bigI 303 (by decide +kernel) rfl, Or.inr ⟨"BirthdayRooms", nestI 436 (by decide +kernel) rfl⟩⟩
theorem kX7_127 : KV RX7 127 mX1_wantOf 1 1 := ⟨kcX1_wantOf, bigI 438 (by decide +kernel) rfl, bigI 439 (by decide +kernel) rfl, ⟨_, _, rfl⟩, Or.inl (bigI 437 (by decide +kernel) rfl)⟩
theorem kX7_130 : KV RX7 130 mX4_roomOf 4 1 := ⟨kcX4_roomOf, bigI 442 (by decide +kernel) rfl, bigI 443 (by decide +kernel) rfl, ⟨_, _, rfl⟩, Or.inl (bigI 441 (by decide +kernel) rfl)⟩
theorem kX7_133 : KV RX7 133 mX6_begin 6 1 := ⟨kcX6_begin, bigI 446 (by decide +kernel) rfl, bigI 447 (by decide +kernel) rfl, ⟨_, _, rfl⟩, Or.inl (bigI 445 (by decide +kernel) rfl)⟩
theorem kX6_29 : KV RX6 29 mX4_copyFrom 4 1 := ⟨kcX4_copyFrom, bigI 339 (by decide +kernel) rfl, bigI 340 (by decide +kernel) rfl, ⟨_, _, rfl⟩, Or.inl (bigI 449 (by decide +kernel) rfl)⟩
theorem kX6_33 : KV RX6 33 mX6_makeList 6 0 := ⟨kcX6_makeList, bigI 452 (by decide +kernel) rfl, bigI 6 (by decide +kernel) rfl, ⟨_, _, rfl⟩, Or.inl (bigI 450 (by decide +kernel) rfl)⟩
theorem kX6_47 : KV RX6 47 mX1_cousins 1 0 := ⟨kcX1_cousins, bigI 417 (by decide +kernel) rfl, bigI 418 (by decide +kernel) rfl, ⟨_, _, rfl⟩, Or.inl (bigI 454 (by decide +kernel) rfl)⟩
theorem kX6_43 : KS RX6 43 mX7_at 2 := ⟨kcX7_at, bigI 303 (by decide +kernel) rfl, Or.inr ⟨"BirthdayRooms", nestI 455 (by decide +kernel) rfl⟩⟩
theorem kX6_86 : KV RX6 86 mX4_birthdayOf 4 1 := ⟨kcX4_birthdayOf, bigI 433 (by decide +kernel) rfl, bigI 434 (by decide +kernel) rfl, ⟨_, _, rfl⟩, Or.inl (bigI 456 (by decide +kernel) rfl)⟩
theorem kX6_89 : KS RX6 89 mX7_put 3 := ⟨kcX7_put, bigI 300 (by decide +kernel) rfl, Or.inr ⟨"BirthdayRooms", nestI 457 (by decide +kernel) rfl⟩⟩
theorem kX6_36 : KV RX6 36 mX6_clearCounts 6 0 := ⟨kcX6_clearCounts, bigI 460 (by decide +kernel) rfl, bigI 7 (by decide +kernel) rfl, ⟨_, _, rfl⟩, Or.inl (bigI 458 (by decide +kernel) rfl)⟩
theorem kX7_137 : KV RX7 137 mX6_placeOf 6 1 := ⟨kcX6_placeOf, bigI 463 (by decide +kernel) rfl, bigI 464 (by decide +kernel) rfl, ⟨_, _, rfl⟩, Or.inl (bigI 462 (by decide +kernel) rfl)⟩
theorem kL_36 : KV RL 36 mX7_room 7 2 := ⟨kcX7_room, bigI 467 (by decide +kernel) rfl, bigI 468 (by decide +kernel) rfl, ⟨_, _, rfl⟩, Or.inl (bigI 466 (by decide +kernel) rfl)⟩
theorem kX7_140 : KV RX7 140 mX7_isRoom 7 1 := ⟨kcX7_isRoom, bigI 472 (by decide +kernel) rfl, bigI 8 (by decide +kernel) rfl, ⟨_, _, rfl⟩, Or.inl (bigI 470 (by decide +kernel) rfl)⟩
theorem kX7_261 : KV RX7 261 mX1_rooms 1 0 := ⟨kcX1_rooms, bigI 475 (by decide +kernel) rfl, bigI 476 (by decide +kernel) rfl, ⟨_, _, rfl⟩, Or.inl (bigI 474 (by decide +kernel) rfl)⟩
theorem kX7_143 : KV RX7 143 mX1_winterSun 1 1 := ⟨kcX1_winterSun, bigI 479 (by decide +kernel) rfl, bigI 480 (by decide +kernel) rfl, ⟨_, _, rfl⟩, Or.inl (bigI 478 (by decide +kernel) rfl)⟩
theorem kX7_146 : KV RX7 146 mX1_summerSun 1 1 := ⟨kcX1_summerSun, bigI 483 (by decide +kernel) rfl, bigI 484 (by decide +kernel) rfl, ⟨_, _, rfl⟩, Or.inl (bigI 482 (by decide +kernel) rfl)⟩
theorem kX7_149 : KV RX7 149 mX4_ownerOf 4 2 := ⟨kcX4_ownerOf, bigI 487 (by decide +kernel) rfl, bigI 488 (by decide +kernel) rfl, ⟨_, _, rfl⟩, Or.inl (bigI 486 (by decide +kernel) rfl)⟩
theorem kL_40 : KV RL 40 mX7_pass 7 1 := ⟨kcX7_pass, bigI 491 (by decide +kernel) rfl, bigI 492 (by decide +kernel) rfl, ⟨_, _, rfl⟩, Or.inl (bigI 490 (by decide +kernel) rfl)⟩
theorem kX7_153 : KV RX7 153 mX4_day 4 0 := ⟨kcX4_day, bigI 495 (by decide +kernel) rfl, bigI 496 (by decide +kernel) rfl, ⟨_, _, rfl⟩, Or.inl (bigI 494 (by decide +kernel) rfl)⟩
theorem kX7_156 : KV RX7 156 mX0_push 0 1 := ⟨kcX0_push, bigI 499 (by decide +kernel) rfl, bigI 500 (by decide +kernel) rfl, ⟨_, _, rfl⟩, Or.inl (bigI 498 (by decide +kernel) rfl)⟩
theorem kX0_26 : KV RX0 26 mX0_isFull 0 0 := ⟨kcX0_isFull, bigI 503 (by decide +kernel) rfl, bigI 504 (by decide +kernel) rfl, ⟨_, _, rfl⟩, Or.inl (bigI 502 (by decide +kernel) rfl)⟩
theorem kX0_30 : KV RX0 30 mX0_loseLowest 0 0 := ⟨kcX0_loseLowest, bigI 508 (by decide +kernel) rfl, bigI 9 (by decide +kernel) rfl, ⟨_, _, rfl⟩, Or.inl (bigI 506 (by decide +kernel) rfl)⟩
theorem kX0_33 : KV RX0 33 mX0_standingAt 0 1 := ⟨kcX0_standingAt, bigI 512 (by decide +kernel) rfl, bigI 10 (by decide +kernel) rfl, ⟨_, _, rfl⟩, Or.inl (bigI 510 (by decide +kernel) rfl)⟩
theorem kX0_37 : KV RX0 37 mX4_copyFrom 4 1 := ⟨kcX4_copyFrom, bigI 339 (by decide +kernel) rfl, bigI 340 (by decide +kernel) rfl, ⟨_, _, rfl⟩, Or.inl (bigI 514 (by decide +kernel) rfl)⟩
theorem kX7_159 : KV RX7 159 mX6_go 6 1 := ⟨kcX6_go, bigI 516 (by decide +kernel) rfl, bigI 517 (by decide +kernel) rfl, ⟨_, _, rfl⟩, Or.inl (bigI 515 (by decide +kernel) rfl)⟩
theorem kX6_64 : KV RX6 64 mX6_changeRooms 6 0 := ⟨kcX6_changeRooms, bigI 521 (by decide +kernel) rfl, bigI 11 (by decide +kernel) rfl, ⟨_, _, rfl⟩, Or.inl (bigI 519 (by decide +kernel) rfl)⟩
theorem kX6_93 : KV RX6 93 mX4_day 4 0 := ⟨kcX4_day, bigI 495 (by decide +kernel) rfl, bigI 496 (by decide +kernel) rfl, ⟨_, _, rfl⟩, Or.inl (bigI 523 (by decide +kernel) rfl)⟩
theorem kX6_96 : KV RX6 96 mX6_changeRoomOf 6 2 := ⟨kcX6_changeRoomOf, bigI 526 (by decide +kernel) rfl, bigI 12 (by decide +kernel) rfl, ⟨_, _, rfl⟩, Or.inl (bigI 524 (by decide +kernel) rfl)⟩
theorem kX6_99 : KV RX6 99 mX1_kindOf 1 1 := ⟨kcX1_kindOf, bigI 429 (by decide +kernel) rfl, bigI 430 (by decide +kernel) rfl, ⟨_, _, rfl⟩, Or.inl (bigI 528 (by decide +kernel) rfl)⟩
theorem kX6_102 : KS RX6 102 mX7_wrapped 2 := ⟨kcX7_wrapped, bigI 530 (by decide +kernel) rfl, Or.inr ⟨"BirthdayRooms", nestI 529 (by decide +kernel) rfl⟩⟩
theorem kX7_275 : KS RX7 275 mM_floorMod 2 := ⟨kcM_floorMod, bigI 533 (by decide +kernel) rfl, Or.inl (bigI 532 (by decide +kernel) rfl)⟩
theorem kX6_57 : KV RX6 57 mX6_sunNow 6 1 := ⟨kcX6_sunNow, bigI 537 (by decide +kernel) rfl, bigI 13 (by decide +kernel) rfl, ⟨_, _, rfl⟩, Or.inl (bigI 535 (by decide +kernel) rfl)⟩
theorem kX6_108 : KV RX6 108 mX1_sunsOn 1 1 := ⟨kcX1_sunsOn, bigI 540 (by decide +kernel) rfl, bigI 541 (by decide +kernel) rfl, ⟨_, _, rfl⟩, Or.inl (bigI 539 (by decide +kernel) rfl)⟩
theorem kX6_112 : KV RX6 112 mX4_roomOf 4 1 := ⟨kcX4_roomOf, bigI 442 (by decide +kernel) rfl, bigI 443 (by decide +kernel) rfl, ⟨_, _, rfl⟩, Or.inl (bigI 543 (by decide +kernel) rfl)⟩
theorem kX6_105 : KV RX6 105 mX4_exchange 4 2 := ⟨kcX4_exchange, bigI 545 (by decide +kernel) rfl, bigI 546 (by decide +kernel) rfl, ⟨_, _, rfl⟩, Or.inl (bigI 544 (by decide +kernel) rfl)⟩
theorem kX6_67 : KV RX6 67 mX6_daysAlike 6 0 := ⟨kcX6_daysAlike, bigI 550 (by decide +kernel) rfl, bigI 14 (by decide +kernel) rfl, ⟨_, _, rfl⟩, Or.inl (bigI 548 (by decide +kernel) rfl)⟩
theorem kX6_115 : KV RX6 115 mX4_daysToBirthdayOf 4 1 := ⟨kcX4_daysToBirthdayOf, bigI 553 (by decide +kernel) rfl, bigI 554 (by decide +kernel) rfl, ⟨_, _, rfl⟩, Or.inl (bigI 552 (by decide +kernel) rfl)⟩
theorem kX4_43 : KV RX4 43 mX4_birthdayOf 4 1 := ⟨kcX4_birthdayOf, bigI 433 (by decide +kernel) rfl, bigI 434 (by decide +kernel) rfl, ⟨_, _, rfl⟩, Or.inl (bigI 556 (by decide +kernel) rfl)⟩
theorem kX4_46 : KS RX4 46 mM_floorMod 2 := ⟨kcM_floorMod, bigI 533 (by decide +kernel) rfl, Or.inl (bigI 557 (by decide +kernel) rfl)⟩
theorem kX6_76 : KV RX6 76 mX6_countDays 6 1 := ⟨kcX6_countDays, bigI 564 (by decide +kernel) rfl, bigI 15 (by decide +kernel) rfl, ⟨_, _, rfl⟩, Or.inl (bigI 562 (by decide +kernel) rfl)⟩
theorem kX6_61 : KV RX6 61 mX1_wantOf 1 1 := ⟨kcX1_wantOf, bigI 438 (by decide +kernel) rfl, bigI 439 (by decide +kernel) rfl, ⟨_, _, rfl⟩, Or.inl (bigI 566 (by decide +kernel) rfl)⟩
theorem kX6_80 : KV RX6 80 mX4_addDays 4 1 := ⟨kcX4_addDays, bigI 568 (by decide +kernel) rfl, bigI 569 (by decide +kernel) rfl, ⟨_, _, rfl⟩, Or.inl (bigI 567 (by decide +kernel) rfl)⟩
theorem kX7_162 : KV RX7 162 mX6_standing 6 0 := ⟨kcX6_standing, bigI 572 (by decide +kernel) rfl, bigI 573 (by decide +kernel) rfl, ⟨_, _, rfl⟩, Or.inl (bigI 571 (by decide +kernel) rfl)⟩
theorem kL_44 : KV RL 44 mX7_swap 7 2 := ⟨kcX7_swap, bigI 576 (by decide +kernel) rfl, bigI 577 (by decide +kernel) rfl, ⟨_, _, rfl⟩, Or.inl (bigI 575 (by decide +kernel) rfl)⟩
theorem kX7_169 : KV RX7 169 mX4_exchange 4 2 := ⟨kcX4_exchange, bigI 545 (by decide +kernel) rfl, bigI 546 (by decide +kernel) rfl, ⟨_, _, rfl⟩, Or.inl (bigI 579 (by decide +kernel) rfl)⟩
theorem kL_48 : KV RL 48 mX7_alter 7 2 := ⟨kcX7_alter, bigI 581 (by decide +kernel) rfl, bigI 582 (by decide +kernel) rfl, ⟨_, _, rfl⟩, Or.inl (bigI 580 (by decide +kernel) rfl)⟩
theorem kX7_173 : KV RX7 173 mX4_setBirthday 4 2 := ⟨kcX4_setBirthday, bigI 585 (by decide +kernel) rfl, bigI 586 (by decide +kernel) rfl, ⟨_, _, rfl⟩, Or.inl (bigI 584 (by decide +kernel) rfl)⟩
theorem kL_52 : KV RL 52 mX7_undo 7 0 := ⟨kcX7_undo, bigI 589 (by decide +kernel) rfl, bigI 590 (by decide +kernel) rfl, ⟨_, _, rfl⟩, Or.inl (bigI 588 (by decide +kernel) rfl)⟩
theorem kX7_176 : KV RX7 176 mX0_pop 0 1 := ⟨kcX0_pop, bigI 593 (by decide +kernel) rfl, bigI 594 (by decide +kernel) rfl, ⟨_, _, rfl⟩, Or.inl (bigI 592 (by decide +kernel) rfl)⟩
theorem kX7_180 : KV RX7 180 mX0_size 0 0 := ⟨kcX0_size, bigI 597 (by decide +kernel) rfl, bigI 598 (by decide +kernel) rfl, ⟨_, _, rfl⟩, Or.inl (bigI 596 (by decide +kernel) rfl)⟩
theorem kL_56 : KV RL 56 mX7_has 7 2 := ⟨kcX7_has, bigI 601 (by decide +kernel) rfl, bigI 602 (by decide +kernel) rfl, ⟨_, _, rfl⟩, Or.inl (bigI 600 (by decide +kernel) rfl)⟩
theorem kL_60 : KV RL 60 mX7_whose 7 2 := ⟨kcX7_whose, bigI 605 (by decide +kernel) rfl, bigI 606 (by decide +kernel) rfl, ⟨_, _, rfl⟩, Or.inl (bigI 604 (by decide +kernel) rfl)⟩
theorem kL_64 : KV RL 64 mX7_sun 7 2 := ⟨kcX7_sun, bigI 609 (by decide +kernel) rfl, bigI 610 (by decide +kernel) rfl, ⟨_, _, rfl⟩, Or.inl (bigI 608 (by decide +kernel) rfl)⟩
theorem kX7_181 : KV RX7 181 mX6_sunTogether 6 1 := ⟨kcX6_sunTogether, bigI 613 (by decide +kernel) rfl, bigI 614 (by decide +kernel) rfl, ⟨_, _, rfl⟩, Or.inl (bigI 612 (by decide +kernel) rfl)⟩
theorem kL_68 : KV RL 68 mX7_cold 7 1 := ⟨kcX7_cold, bigI 617 (by decide +kernel) rfl, bigI 618 (by decide +kernel) rfl, ⟨_, _, rfl⟩, Or.inl (bigI 616 (by decide +kernel) rfl)⟩
theorem kX7_184 : KV RX7 184 mX6_goBehind 6 1 := ⟨kcX6_goBehind, bigI 621 (by decide +kernel) rfl, bigI 622 (by decide +kernel) rfl, ⟨_, _, rfl⟩, Or.inl (bigI 620 (by decide +kernel) rfl)⟩
theorem kX6_83 : KV RX6 83 mX6_go 6 1 := ⟨kcX6_go, bigI 516 (by decide +kernel) rfl, bigI 517 (by decide +kernel) rfl, ⟨_, _, rfl⟩, Or.inl (bigI 624 (by decide +kernel) rfl)⟩
theorem kX7_187 : KV RX7 187 mX6_coldBits 6 0 := ⟨kcX6_coldBits, bigI 626 (by decide +kernel) rfl, bigI 627 (by decide +kernel) rfl, ⟨_, _, rfl⟩, Or.inl (bigI 625 (by decide +kernel) rfl)⟩
theorem kL_72 : KV RL 72 mX7_want 7 1 := ⟨kcX7_want, bigI 630 (by decide +kernel) rfl, bigI 631 (by decide +kernel) rfl, ⟨_, _, rfl⟩, Or.inl (bigI 629 (by decide +kernel) rfl)⟩
theorem kX7_190 : KV RX7 190 mX6_coldTogether 6 0 := ⟨kcX6_coldTogether, bigI 634 (by decide +kernel) rfl, bigI 635 (by decide +kernel) rfl, ⟨_, _, rfl⟩, Or.inl (bigI 633 (by decide +kernel) rfl)⟩
theorem kL_76 : KV RL 76 mX7_swaps 7 3 := ⟨kcX7_swaps, bigI 638 (by decide +kernel) rfl, bigI 639 (by decide +kernel) rfl, ⟨_, _, rfl⟩, Or.inl (bigI 637 (by decide +kernel) rfl)⟩
theorem kX7_193 : KV RX7 193 mX2_seekMostSun 2 3 := ⟨kcX2_seekMostSun, bigI 642 (by decide +kernel) rfl, bigI 643 (by decide +kernel) rfl, ⟨_, _, rfl⟩, Or.inl (bigI 641 (by decide +kernel) rfl)⟩
theorem kX2_29 : KV RX2 29 mX2_beginBy 2 3 := ⟨kcX2_beginBy, bigI 647 (by decide +kernel) rfl, bigI 16 (by decide +kernel) rfl, ⟨_, _, rfl⟩, Or.inl (bigI 645 (by decide +kernel) rfl)⟩
theorem kX2_70 : KV RX2 70 mX6_begin 6 1 := ⟨kcX6_begin, bigI 446 (by decide +kernel) rfl, bigI 447 (by decide +kernel) rfl, ⟨_, _, rfl⟩, Or.inl (bigI 649 (by decide +kernel) rfl)⟩
theorem kX2_55 : KV RX2 55 mX6_standing 6 0 := ⟨kcX6_standing, bigI 572 (by decide +kernel) rfl, bigI 573 (by decide +kernel) rfl, ⟨_, _, rfl⟩, Or.inl (bigI 650 (by decide +kernel) rfl)⟩
theorem kX2_74 : KV RX2 74 mX4_exchange 4 2 := ⟨kcX4_exchange, bigI 545 (by decide +kernel) rfl, bigI 546 (by decide +kernel) rfl, ⟨_, _, rfl⟩, Or.inl (bigI 651 (by decide +kernel) rfl)⟩
theorem kX2_33 : KV RX2 33 mX6_go 6 1 := ⟨kcX6_go, bigI 516 (by decide +kernel) rfl, bigI 517 (by decide +kernel) rfl, ⟨_, _, rfl⟩, Or.inl (bigI 652 (by decide +kernel) rfl)⟩
theorem kX2_39 : KV RX2 39 mX6_sunTogether 6 1 := ⟨kcX6_sunTogether, bigI 613 (by decide +kernel) rfl, bigI 614 (by decide +kernel) rfl, ⟨_, _, rfl⟩, Or.inl (bigI 653 (by decide +kernel) rfl)⟩
theorem kX2_43 : KV RX2 43 mX2_take 2 3 := ⟨kcX2_take, bigI 656 (by decide +kernel) rfl, bigI 17 (by decide +kernel) rfl, ⟨_, _, rfl⟩, Or.inl (bigI 654 (by decide +kernel) rfl)⟩
theorem kX2_47 : KV RX2 47 mX2_isPair 2 1 := ⟨kcX2_isPair, bigI 660 (by decide +kernel) rfl, bigI 18 (by decide +kernel) rfl, ⟨_, _, rfl⟩, Or.inl (bigI 658 (by decide +kernel) rfl)⟩
theorem kX2_59 : KV RX2 59 mX1_cousins 1 0 := ⟨kcX1_cousins, bigI 417 (by decide +kernel) rfl, bigI 418 (by decide +kernel) rfl, ⟨_, _, rfl⟩, Or.inl (bigI 662 (by decide +kernel) rfl)⟩
theorem kX7_197 : KV RX7 197 mX2_best 2 0 := ⟨kcX2_best, bigI 664 (by decide +kernel) rfl, bigI 665 (by decide +kernel) rfl, ⟨_, _, rfl⟩, Or.inl (bigI 663 (by decide +kernel) rfl)⟩
theorem kX7_200 : KV RX7 200 mX2_firstPair 2 0 := ⟨kcX2_firstPair, bigI 668 (by decide +kernel) rfl, bigI 669 (by decide +kernel) rfl, ⟨_, _, rfl⟩, Or.inl (bigI 667 (by decide +kernel) rfl)⟩
theorem kX7_203 : KV RX7 203 mX2_secondPair 2 0 := ⟨kcX2_secondPair, bigI 672 (by decide +kernel) rfl, bigI 673 (by decide +kernel) rfl, ⟨_, _, rfl⟩, Or.inl (bigI 671 (by decide +kernel) rfl)⟩
theorem kL_81 : KV RL 81 mX7_warm 7 2 := ⟨kcX7_warm, bigI 676 (by decide +kernel) rfl, bigI 677 (by decide +kernel) rfl, ⟨_, _, rfl⟩, Or.inl (bigI 675 (by decide +kernel) rfl)⟩
theorem kX7_206 : KV RX7 206 mX2_seekFewestCold 2 2 := ⟨kcX2_seekFewestCold, bigI 680 (by decide +kernel) rfl, bigI 681 (by decide +kernel) rfl, ⟨_, _, rfl⟩, Or.inl (bigI 679 (by decide +kernel) rfl)⟩
theorem kX2_51 : KV RX2 51 mX6_coldTogether 6 0 := ⟨kcX6_coldTogether, bigI 634 (by decide +kernel) rfl, bigI 635 (by decide +kernel) rfl, ⟨_, _, rfl⟩, Or.inl (bigI 683 (by decide +kernel) rfl)⟩
theorem kL_85 : KV RL 85 mX7_canHave 7 2 := ⟨kcX7_canHave, bigI 685 (by decide +kernel) rfl, bigI 686 (by decide +kernel) rfl, ⟨_, _, rfl⟩, Or.inl (bigI 684 (by decide +kernel) rfl)⟩
theorem kX7_210 : KV RX7 210 mX2_ownersByOneSwap 2 3 := ⟨kcX2_ownersByOneSwap, bigI 689 (by decide +kernel) rfl, bigI 690 (by decide +kernel) rfl, ⟨_, _, rfl⟩, Or.inl (bigI 688 (by decide +kernel) rfl)⟩
theorem kX2_64 : KV RX2 64 mX4_ownerOf 4 2 := ⟨kcX4_ownerOf, bigI 487 (by decide +kernel) rfl, bigI 488 (by decide +kernel) rfl, ⟨_, _, rfl⟩, Or.inl (bigI 692 (by decide +kernel) rfl)⟩
theorem kL_89 : KV RL 89 mX7_round 7 0 := ⟨kcX7_round, bigI 694 (by decide +kernel) rfl, bigI 695 (by decide +kernel) rfl, ⟨_, _, rfl⟩, Or.inl (bigI 693 (by decide +kernel) rfl)⟩
theorem kX7_214 : KV RX7 214 mX4_hasRoomsOf 4 2 := ⟨kcX4_hasRoomsOf, bigI 698 (by decide +kernel) rfl, bigI 699 (by decide +kernel) rfl, ⟨_, _, rfl⟩, Or.inl (bigI 697 (by decide +kernel) rfl)⟩
theorem kX4_40 : KV RX4 40 mX4_roomOf 4 1 := ⟨kcX4_roomOf, bigI 442 (by decide +kernel) rfl, bigI 443 (by decide +kernel) rfl, ⟨_, _, rfl⟩, Or.inl (bigI 701 (by decide +kernel) rfl)⟩
theorem kL_93 : KV RL 93 mX7_way 7 3 := ⟨kcX7_way, bigI 703 (by decide +kernel) rfl, bigI 704 (by decide +kernel) rfl, ⟨_, _, rfl⟩, Or.inl (bigI 702 (by decide +kernel) rfl)⟩
theorem kX7_218 : KV RX7 218 mX7_wantsBetween 7 2 := ⟨kcX7_wantsBetween, bigI 708 (by decide +kernel) rfl, bigI 19 (by decide +kernel) rfl, ⟨_, _, rfl⟩, Or.inl (bigI 706 (by decide +kernel) rfl)⟩
theorem kX7_264 : KS RX7 264 mX7_wrapped 2 := ⟨kcX7_wrapped, bigI 530 (by decide +kernel) rfl, Or.inl (bigI 710 (by decide +kernel) rfl)⟩
theorem kL_97 : KV RL 97 mX7_seen 7 3 := ⟨kcX7_seen, bigI 713 (by decide +kernel) rfl, bigI 714 (by decide +kernel) rfl, ⟨_, _, rfl⟩, Or.inl (bigI 712 (by decide +kernel) rfl)⟩
theorem kX7_226 : KV RX7 226 mX3_isFull 3 0 := ⟨kcX3_isFull, bigI 717 (by decide +kernel) rfl, bigI 718 (by decide +kernel) rfl, ⟨_, _, rfl⟩, Or.inl (bigI 716 (by decide +kernel) rfl)⟩
theorem kX7_227 : KV RX7 227 mX3_add 3 3 := ⟨kcX3_add, bigI 721 (by decide +kernel) rfl, bigI 722 (by decide +kernel) rfl, ⟨_, _, rfl⟩, Or.inl (bigI 720 (by decide +kernel) rfl)⟩
theorem kX3_25 : KS RX3 25 mX7_at 2 := ⟨kcX7_at, bigI 303 (by decide +kernel) rfl, Or.inr ⟨"BirthdayRooms", nestI 724 (by decide +kernel) rfl⟩⟩
theorem kX3_29 : KV RX3 29 mX3_set 3 4 := ⟨kcX3_set, bigI 727 (by decide +kernel) rfl, bigI 20 (by decide +kernel) rfl, ⟨_, _, rfl⟩, Or.inl (bigI 725 (by decide +kernel) rfl)⟩
theorem kX3_33 : KS RX3 33 mX7_put 3 := ⟨kcX7_put, bigI 300 (by decide +kernel) rfl, Or.inr ⟨"BirthdayRooms", nestI 729 (by decide +kernel) rfl⟩⟩
theorem kX7_230 : KV RX7 230 mX3_size 3 0 := ⟨kcX3_size, bigI 731 (by decide +kernel) rfl, bigI 732 (by decide +kernel) rfl, ⟨_, _, rfl⟩, Or.inl (bigI 730 (by decide +kernel) rfl)⟩
theorem kL_101 : KV RL 101 mX7_forget 7 0 := ⟨kcX7_forget, bigI 735 (by decide +kernel) rfl, bigI 736 (by decide +kernel) rfl, ⟨_, _, rfl⟩, Or.inl (bigI 734 (by decide +kernel) rfl)⟩
theorem kL_105 : KV RL 105 mX7_register 7 2 := ⟨kcX7_register, bigI 739 (by decide +kernel) rfl, bigI 740 (by decide +kernel) rfl, ⟨_, _, rfl⟩, Or.inl (bigI 738 (by decide +kernel) rfl)⟩
theorem kX7_232 : KV RX7 232 mX6_beginWith 6 3 := ⟨kcX6_beginWith, bigI 743 (by decide +kernel) rfl, bigI 744 (by decide +kernel) rfl, ⟨_, _, rfl⟩, Or.inl (bigI 742 (by decide +kernel) rfl)⟩
theorem kX6_39 : KV RX6 39 mX4_setBirthday 4 2 := ⟨kcX4_setBirthday, bigI 585 (by decide +kernel) rfl, bigI 586 (by decide +kernel) rfl, ⟨_, _, rfl⟩, Or.inl (bigI 746 (by decide +kernel) rfl)⟩
theorem kX7_235 : KV RX7 235 mX3_allHoldOn 3 1 := ⟨kcX3_allHoldOn, bigI 748 (by decide +kernel) rfl, bigI 749 (by decide +kernel) rfl, ⟨_, _, rfl⟩, Or.inl (bigI 747 (by decide +kernel) rfl)⟩
theorem kX3_37 : KV RX3 37 mX6_go 6 1 := ⟨kcX6_go, bigI 516 (by decide +kernel) rfl, bigI 517 (by decide +kernel) rfl, ⟨_, _, rfl⟩, Or.inl (bigI 751 (by decide +kernel) rfl)⟩
theorem kX3_43 : KV RX3 43 mX6_standing 6 0 := ⟨kcX6_standing, bigI 572 (by decide +kernel) rfl, bigI 573 (by decide +kernel) rfl, ⟨_, _, rfl⟩, Or.inl (bigI 752 (by decide +kernel) rfl)⟩
theorem kX3_47 : KV RX3 47 mX4_roomOf 4 1 := ⟨kcX4_roomOf, bigI 442 (by decide +kernel) rfl, bigI 443 (by decide +kernel) rfl, ⟨_, _, rfl⟩, Or.inl (bigI 753 (by decide +kernel) rfl)⟩
theorem kL_109 : KV RL 109 mX7_foundling 7 4 := ⟨kcX7_foundling, bigI 755 (by decide +kernel) rfl, bigI 756 (by decide +kernel) rfl, ⟨_, _, rfl⟩, Or.inl (bigI 754 (by decide +kernel) rfl)⟩
theorem kX7_239 : KS RX7 239 mX7_commonDivisor 2 := ⟨kcX7_commonDivisor, bigI 759 (by decide +kernel) rfl, Or.inl (bigI 758 (by decide +kernel) rfl)⟩
theorem kL_114 : KV RL 114 mX7_loses 7 1 := ⟨kcX7_loses, bigI 763 (by decide +kernel) rfl, bigI 764 (by decide +kernel) rfl, ⟨_, _, rfl⟩, Or.inl (bigI 762 (by decide +kernel) rfl)⟩
theorem kL_118 : KV RL 118 mX7_next 7 1 := ⟨kcX7_next, bigI 767 (by decide +kernel) rfl, bigI 768 (by decide +kernel) rfl, ⟨_, _, rfl⟩, Or.inl (bigI 766 (by decide +kernel) rfl)⟩
theorem kX7_242 : KV RX7 242 mX6_listed 6 1 := ⟨kcX6_listed, bigI 771 (by decide +kernel) rfl, bigI 772 (by decide +kernel) rfl, ⟨_, _, rfl⟩, Or.inl (bigI 770 (by decide +kernel) rfl)⟩
theorem kX7_245 : KV RX7 245 mX4_daysToBirthdayOf 4 1 := ⟨kcX4_daysToBirthdayOf, bigI 553 (by decide +kernel) rfl, bigI 554 (by decide +kernel) rfl, ⟨_, _, rfl⟩, Or.inl (bigI 774 (by decide +kernel) rfl)⟩
theorem kL_122 : KV RL 122 mX7_year 7 3 := ⟨kcX7_year, bigI 776 (by decide +kernel) rfl, bigI 777 (by decide +kernel) rfl, ⟨_, _, rfl⟩, Or.inl (bigI 775 (by decide +kernel) rfl)⟩
theorem kX7_248 : KS RX7 248 mX7_drawOf 2 := ⟨kcX7_drawOf, bigI 780 (by decide +kernel) rfl, Or.inl (bigI 779 (by decide +kernel) rfl)⟩
theorem kX7_251 : KV RX7 251 mX7_exchangeByDraw 7 1 := ⟨kcX7_exchangeByDraw, bigI 788 (by decide +kernel) rfl, bigI 21 (by decide +kernel) rfl, ⟨_, _, rfl⟩, Or.inl (bigI 786 (by decide +kernel) rfl)⟩
theorem kL_126 : KV RL 126 mX7_keep 7 0 := ⟨kcX7_keep, bigI 791 (by decide +kernel) rfl, bigI 792 (by decide +kernel) rfl, ⟨_, _, rfl⟩, Or.inl (bigI 790 (by decide +kernel) rfl)⟩
theorem kX7_254 : KV RX7 254 mX0_isFull 0 0 := ⟨kcX0_isFull, bigI 503 (by decide +kernel) rfl, bigI 504 (by decide +kernel) rfl, ⟨_, _, rfl⟩, Or.inl (bigI 794 (by decide +kernel) rfl)⟩
theorem kL_130 : KV RL 130 mX7_back 7 0 := ⟨kcX7_back, bigI 796 (by decide +kernel) rfl, bigI 797 (by decide +kernel) rfl, ⟨_, _, rfl⟩, Or.inl (bigI 795 (by decide +kernel) rfl)⟩
theorem kL_134 : KV RL 134 mX7_count 7 1 := ⟨kcX7_count, bigI 800 (by decide +kernel) rfl, bigI 801 (by decide +kernel) rfl, ⟨_, _, rfl⟩, Or.inl (bigI 799 (by decide +kernel) rfl)⟩
theorem kX8_52 : KV RX8 52 mX8_clearTold 8 0 := ⟨kcX8_clearTold, bigI 811 (by decide +kernel) rfl, bigI 22 (by decide +kernel) rfl, ⟨_, _, rfl⟩, Or.inl (bigI 809 (by decide +kernel) rfl)⟩
theorem kX8_76 : KS RX8 76 mX8_in 3 := ⟨kcX8_in, bigI 814 (by decide +kernel) rfl, Or.inl (bigI 813 (by decide +kernel) rfl)⟩
theorem kX8_55 : KV RX8 55 mX8_tellsCousin 8 3 := ⟨kcX8_tellsCousin, bigI 818 (by decide +kernel) rfl, bigI 23 (by decide +kernel) rfl, ⟨_, _, rfl⟩, Or.inl (bigI 816 (by decide +kernel) rfl)⟩
theorem kX8_59 : KV RX8 59 mX8_tellsRoom 8 2 := ⟨kcX8_tellsRoom, bigI 822 (by decide +kernel) rfl, bigI 24 (by decide +kernel) rfl, ⟨_, _, rfl⟩, Or.inl (bigI 820 (by decide +kernel) rfl)⟩
theorem kX8_63 : KV RX8 63 mX8_settles 8 0 := ⟨kcX8_settles, bigI 826 (by decide +kernel) rfl, bigI 25 (by decide +kernel) rfl, ⟨_, _, rfl⟩, Or.inl (bigI 824 (by decide +kernel) rfl)⟩
theorem kX8_114 : KS RX8 114 mX8_put 4 := ⟨kcX8_put, bigI 829 (by decide +kernel) rfl, Or.inl (bigI 828 (by decide +kernel) rfl)⟩
theorem kL_17 : KV RL 17 mX8_write 8 1 := ⟨kcX8_write, bigI 908 (by decide +kernel) rfl, bigI 909 (by decide +kernel) rfl, ⟨_, _, rfl⟩, Or.inl (bigI 907 (by decide +kernel) rfl)⟩
theorem kL_22 : KV RL 22 mX8_wipe 8 0 := ⟨kcX8_wipe, bigI 912 (by decide +kernel) rfl, bigI 913 (by decide +kernel) rfl, ⟨_, _, rfl⟩, Or.inl (bigI 911 (by decide +kernel) rfl)⟩
theorem kL_26 : KV RL 26 mX8_fault 8 0 := ⟨kcX8_fault, bigI 916 (by decide +kernel) rfl, bigI 917 (by decide +kernel) rfl, ⟨_, _, rfl⟩, Or.inl (bigI 915 (by decide +kernel) rfl)⟩
theorem kX8_107 : KV RX8 107 mX8_readItem 8 0 := ⟨kcX8_readItem, bigI 921 (by decide +kernel) rfl, bigI 26 (by decide +kernel) rfl, ⟨_, _, rfl⟩, Or.inl (bigI 919 (by decide +kernel) rfl)⟩
theorem kX8_86 : KV RX8 86 mX8_letterAt 8 1 := ⟨kcX8_letterAt, bigI 925 (by decide +kernel) rfl, bigI 27 (by decide +kernel) rfl, ⟨_, _, rfl⟩, Or.inl (bigI 923 (by decide +kernel) rfl)⟩
theorem kX8_100 : KV RX8 100 mX8_readCousinOf 8 0 := ⟨kcX8_readCousinOf, bigI 929 (by decide +kernel) rfl, bigI 28 (by decide +kernel) rfl, ⟨_, _, rfl⟩, Or.inl (bigI 927 (by decide +kernel) rfl)⟩
theorem kX8_94 : KV RX8 94 mX8_readNumbers 8 1 := ⟨kcX8_readNumbers, bigI 933 (by decide +kernel) rfl, bigI 29 (by decide +kernel) rfl, ⟨_, _, rfl⟩, Or.inl (bigI 931 (by decide +kernel) rfl)⟩
theorem kX8_90 : KS RX8 90 mX8_isFigure 1 := ⟨kcX8_isFigure, bigI 936 (by decide +kernel) rfl, Or.inl (bigI 935 (by decide +kernel) rfl)⟩
theorem kX8_97 : KV RX8 97 mX8_isTold 8 3 := ⟨kcX8_isTold, bigI 940 (by decide +kernel) rfl, bigI 30 (by decide +kernel) rfl, ⟨_, _, rfl⟩, Or.inl (bigI 938 (by decide +kernel) rfl)⟩
theorem kX8_104 : KV RX8 104 mX8_readRoomOf 8 0 := ⟨kcX8_readRoomOf, bigI 944 (by decide +kernel) rfl, bigI 31 (by decide +kernel) rfl, ⟨_, _, rfl⟩, Or.inl (bigI 942 (by decide +kernel) rfl)⟩
theorem kL_30 : KV RL 30 mX8_lay 8 0 := ⟨kcX8_lay, bigI 947 (by decide +kernel) rfl, bigI 948 (by decide +kernel) rfl, ⟨_, _, rfl⟩, Or.inl (bigI 946 (by decide +kernel) rfl)⟩
theorem kX8_110 : KV RX8 110 mX8_fault 8 0 := ⟨kcX8_fault, bigI 916 (by decide +kernel) rfl, bigI 917 (by decide +kernel) rfl, ⟨_, _, rfl⟩, Or.inl (bigI 950 (by decide +kernel) rfl)⟩
theorem kL_35 : KV RL 35 mX8_cousin 8 2 := ⟨kcX8_cousin, bigI 952 (by decide +kernel) rfl, bigI 953 (by decide +kernel) rfl, ⟨_, _, rfl⟩, Or.inl (bigI 951 (by decide +kernel) rfl)⟩
theorem kX8_151 : KV RX8 151 mX8_isOne 8 1 := ⟨kcX8_isOne, bigI 957 (by decide +kernel) rfl, bigI 32 (by decide +kernel) rfl, ⟨_, _, rfl⟩, Or.inl (bigI 955 (by decide +kernel) rfl)⟩
theorem kX8_154 : KV RX8 154 mX8_from 8 1 := ⟨kcX8_from, bigI 961 (by decide +kernel) rfl, bigI 33 (by decide +kernel) rfl, ⟨_, _, rfl⟩, Or.inl (bigI 959 (by decide +kernel) rfl)⟩
theorem kX8_127 : KV RX8 127 mX8_findList 8 0 := ⟨kcX8_findList, bigI 965 (by decide +kernel) rfl, bigI 34 (by decide +kernel) rfl, ⟨_, _, rfl⟩, Or.inl (bigI 963 (by decide +kernel) rfl)⟩
theorem kX8_130 : KV RX8 130 mX8_placeOf 8 1 := ⟨kcX8_placeOf, bigI 969 (by decide +kernel) rfl, bigI 35 (by decide +kernel) rfl, ⟨_, _, rfl⟩, Or.inl (bigI 967 (by decide +kernel) rfl)⟩
theorem kL_39 : KV RL 39 mX8_room 8 2 := ⟨kcX8_room, bigI 972 (by decide +kernel) rfl, bigI 973 (by decide +kernel) rfl, ⟨_, _, rfl⟩, Or.inl (bigI 971 (by decide +kernel) rfl)⟩
theorem kX8_158 : KV RX8 158 mX8_whoseNow 8 1 := ⟨kcX8_whoseNow, bigI 977 (by decide +kernel) rfl, bigI 36 (by decide +kernel) rfl, ⟨_, _, rfl⟩, Or.inl (bigI 975 (by decide +kernel) rfl)⟩
theorem kL_43 : KV RL 43 mX8_pass 8 1 := ⟨kcX8_pass, bigI 980 (by decide +kernel) rfl, bigI 981 (by decide +kernel) rfl, ⟨_, _, rfl⟩, Or.inl (bigI 979 (by decide +kernel) rfl)⟩
theorem kX8_161 : KV RX8 161 mX8_remembers 8 0 := ⟨kcX8_remembers, bigI 985 (by decide +kernel) rfl, bigI 37 (by decide +kernel) rfl, ⟨_, _, rfl⟩, Or.inl (bigI 983 (by decide +kernel) rfl)⟩
theorem kX8_164 : KV RX8 164 mX8_goesOn 8 1 := ⟨kcX8_goesOn, bigI 989 (by decide +kernel) rfl, bigI 38 (by decide +kernel) rfl, ⟨_, _, rfl⟩, Or.inl (bigI 987 (by decide +kernel) rfl)⟩
theorem kX8_145 : KV RX8 145 mX8_goes 8 0 := ⟨kcX8_goes, bigI 993 (by decide +kernel) rfl, bigI 39 (by decide +kernel) rfl, ⟨_, _, rfl⟩, Or.inl (bigI 991 (by decide +kernel) rfl)⟩
theorem kX8_141 : KV RX8 141 mX8_changes 8 1 := ⟨kcX8_changes, bigI 997 (by decide +kernel) rfl, bigI 40 (by decide +kernel) rfl, ⟨_, _, rfl⟩, Or.inl (bigI 995 (by decide +kernel) rfl)⟩
theorem kX8_133 : KS RX8 133 mX8_swapped 3 := ⟨kcX8_swapped, bigI 1000 (by decide +kernel) rfl, Or.inl (bigI 999 (by decide +kernel) rfl)⟩
theorem kX8_137 : KV RX8 137 mX8_sunIn 8 2 := ⟨kcX8_sunIn, bigI 1004 (by decide +kernel) rfl, bigI 41 (by decide +kernel) rfl, ⟨_, _, rfl⟩, Or.inl (bigI 1002 (by decide +kernel) rfl)⟩
theorem kL_47 : KV RL 47 mX8_swap 8 2 := ⟨kcX8_swap, bigI 1007 (by decide +kernel) rfl, bigI 1008 (by decide +kernel) rfl, ⟨_, _, rfl⟩, Or.inl (bigI 1006 (by decide +kernel) rfl)⟩
theorem kL_51 : KV RL 51 mX8_alter 8 2 := ⟨kcX8_alter, bigI 1011 (by decide +kernel) rfl, bigI 1012 (by decide +kernel) rfl, ⟨_, _, rfl⟩, Or.inl (bigI 1010 (by decide +kernel) rfl)⟩
theorem kL_55 : KV RL 55 mX8_undo 8 0 := ⟨kcX8_undo, bigI 1015 (by decide +kernel) rfl, bigI 1016 (by decide +kernel) rfl, ⟨_, _, rfl⟩, Or.inl (bigI 1014 (by decide +kernel) rfl)⟩
theorem kL_59 : KV RL 59 mX8_has 8 2 := ⟨kcX8_has, bigI 1019 (by decide +kernel) rfl, bigI 1020 (by decide +kernel) rfl, ⟨_, _, rfl⟩, Or.inl (bigI 1018 (by decide +kernel) rfl)⟩
theorem kL_63 : KV RL 63 mX8_whose 8 2 := ⟨kcX8_whose, bigI 1023 (by decide +kernel) rfl, bigI 1024 (by decide +kernel) rfl, ⟨_, _, rfl⟩, Or.inl (bigI 1022 (by decide +kernel) rfl)⟩
theorem kL_67 : KV RL 67 mX8_sun 8 2 := ⟨kcX8_sun, bigI 1027 (by decide +kernel) rfl, bigI 1028 (by decide +kernel) rfl, ⟨_, _, rfl⟩, Or.inl (bigI 1026 (by decide +kernel) rfl)⟩
theorem kX8_167 : KV RX8 167 mX8_sunOn 8 2 := ⟨kcX8_sunOn, bigI 1032 (by decide +kernel) rfl, bigI 42 (by decide +kernel) rfl, ⟨_, _, rfl⟩, Or.inl (bigI 1030 (by decide +kernel) rfl)⟩
theorem kL_71 : KV RL 71 mX8_cold 8 1 := ⟨kcX8_cold, bigI 1035 (by decide +kernel) rfl, bigI 1036 (by decide +kernel) rfl, ⟨_, _, rfl⟩, Or.inl (bigI 1034 (by decide +kernel) rfl)⟩
theorem kL_75 : KV RL 75 mX8_want 8 1 := ⟨kcX8_want, bigI 1039 (by decide +kernel) rfl, bigI 1040 (by decide +kernel) rfl, ⟨_, _, rfl⟩, Or.inl (bigI 1038 (by decide +kernel) rfl)⟩
theorem kX8_170 : KV RX8 170 mX8_wantOn 8 1 := ⟨kcX8_wantOn, bigI 1044 (by decide +kernel) rfl, bigI 43 (by decide +kernel) rfl, ⟨_, _, rfl⟩, Or.inl (bigI 1042 (by decide +kernel) rfl)⟩
theorem kX8_148 : KS RX8 148 mX8_bits 1 := ⟨kcX8_bits, bigI 1047 (by decide +kernel) rfl, Or.inl (bigI 1046 (by decide +kernel) rfl)⟩
theorem kL_80 : KV RL 80 mX8_swaps 8 3 := ⟨kcX8_swaps, bigI 1050 (by decide +kernel) rfl, bigI 1051 (by decide +kernel) rfl, ⟨_, _, rfl⟩, Or.inl (bigI 1049 (by decide +kernel) rfl)⟩
theorem kX8_182 : KV RX8 182 mX8_triesSwaps 8 4 := ⟨kcX8_triesSwaps, bigI 1055 (by decide +kernel) rfl, bigI 44 (by decide +kernel) rfl, ⟨_, _, rfl⟩, Or.inl (bigI 1053 (by decide +kernel) rfl)⟩
theorem kX8_186 : KS RX8 186 mX8_isPair 2 := ⟨kcX8_isPair, bigI 1058 (by decide +kernel) rfl, Or.inl (bigI 1057 (by decide +kernel) rfl)⟩
theorem kL_84 : KV RL 84 mX8_warm 8 2 := ⟨kcX8_warm, bigI 1061 (by decide +kernel) rfl, bigI 1062 (by decide +kernel) rfl, ⟨_, _, rfl⟩, Or.inl (bigI 1060 (by decide +kernel) rfl)⟩
theorem kL_88 : KV RL 88 mX8_canHave 8 2 := ⟨kcX8_canHave, bigI 1065 (by decide +kernel) rfl, bigI 1066 (by decide +kernel) rfl, ⟨_, _, rfl⟩, Or.inl (bigI 1064 (by decide +kernel) rfl)⟩
theorem kL_92 : KV RL 92 mX8_round 8 0 := ⟨kcX8_round, bigI 1069 (by decide +kernel) rfl, bigI 1070 (by decide +kernel) rfl, ⟨_, _, rfl⟩, Or.inl (bigI 1068 (by decide +kernel) rfl)⟩
theorem kL_96 : KV RL 96 mX8_way 8 3 := ⟨kcX8_way, bigI 1073 (by decide +kernel) rfl, bigI 1074 (by decide +kernel) rfl, ⟨_, _, rfl⟩, Or.inl (bigI 1072 (by decide +kernel) rfl)⟩
theorem kX8_190 : KV RX8 190 mX8_wayBy 8 3 := ⟨kcX8_wayBy, bigI 1078 (by decide +kernel) rfl, bigI 45 (by decide +kernel) rfl, ⟨_, _, rfl⟩, Or.inl (bigI 1076 (by decide +kernel) rfl)⟩
theorem kL_100 : KV RL 100 mX8_seen 8 3 := ⟨kcX8_seen, bigI 1081 (by decide +kernel) rfl, bigI 1082 (by decide +kernel) rfl, ⟨_, _, rfl⟩, Or.inl (bigI 1080 (by decide +kernel) rfl)⟩
theorem kL_104 : KV RL 104 mX8_forget 8 0 := ⟨kcX8_forget, bigI 1085 (by decide +kernel) rfl, bigI 1086 (by decide +kernel) rfl, ⟨_, _, rfl⟩, Or.inl (bigI 1084 (by decide +kernel) rfl)⟩
theorem kL_108 : KV RL 108 mX8_register 8 2 := ⟨kcX8_register, bigI 1089 (by decide +kernel) rfl, bigI 1090 (by decide +kernel) rfl, ⟨_, _, rfl⟩, Or.inl (bigI 1088 (by decide +kernel) rfl)⟩
theorem kL_113 : KV RL 113 mX8_foundling 8 4 := ⟨kcX8_foundling, bigI 1093 (by decide +kernel) rfl, bigI 1094 (by decide +kernel) rfl, ⟨_, _, rfl⟩, Or.inl (bigI 1092 (by decide +kernel) rfl)⟩
theorem kL_117 : KV RL 117 mX8_loses 8 1 := ⟨kcX8_loses, bigI 1097 (by decide +kernel) rfl, bigI 1098 (by decide +kernel) rfl, ⟨_, _, rfl⟩, Or.inl (bigI 1096 (by decide +kernel) rfl)⟩
theorem kL_121 : KV RL 121 mX8_next 8 1 := ⟨kcX8_next, bigI 1101 (by decide +kernel) rfl, bigI 1102 (by decide +kernel) rfl, ⟨_, _, rfl⟩, Or.inl (bigI 1100 (by decide +kernel) rfl)⟩
theorem kL_125 : KV RL 125 mX8_year 8 3 := ⟨kcX8_year, bigI 1105 (by decide +kernel) rfl, bigI 1106 (by decide +kernel) rfl, ⟨_, _, rfl⟩, Or.inl (bigI 1104 (by decide +kernel) rfl)⟩
theorem kL_129 : KV RL 129 mX8_keep 8 0 := ⟨kcX8_keep, bigI 1113 (by decide +kernel) rfl, bigI 1114 (by decide +kernel) rfl, ⟨_, _, rfl⟩, Or.inl (bigI 1112 (by decide +kernel) rfl)⟩
theorem kL_133 : KV RL 133 mX8_back 8 0 := ⟨kcX8_back, bigI 1117 (by decide +kernel) rfl, bigI 1118 (by decide +kernel) rfl, ⟨_, _, rfl⟩, Or.inl (bigI 1116 (by decide +kernel) rfl)⟩
theorem kL_137 : KV RL 137 mX8_count 8 1 := ⟨kcX8_count, bigI 1121 (by decide +kernel) rfl, bigI 1122 (by decide +kernel) rfl, ⟨_, _, rfl⟩, Or.inl (bigI 1120 (by decide +kernel) rfl)⟩
theorem qX7_267 : Cond.constantLong RX7 267 7919 ∈ bigW := bigI 782 (by decide +kernel) rfl
theorem qX7_269 : Cond.constantLong RX7 269 6151 ∈ bigW := bigI 783 (by decide +kernel) rfl
theorem qX7_271 : Cond.constantLong RX7 271 65521 ∈ bigW := bigI 784 (by decide +kernel) rfl
theorem qX7_273 : Cond.constantLong RX7 273 2 ∈ bigW := bigI 785 (by decide +kernel) rfl
theorem qX8_194 : Cond.constantLong RX8 194 7919 ∈ bigW := bigI 1108 (by decide +kernel) rfl
theorem qX8_196 : Cond.constantLong RX8 196 6151 ∈ bigW := bigI 1109 (by decide +kernel) rfl
theorem qX8_198 : Cond.constantLong RX8 198 65521 ∈ bigW := bigI 1110 (by decide +kernel) rfl
theorem qX8_200 : Cond.constantLong RX8 200 2 ∈ bigW := bigI 1111 (by decide +kernel) rfl
set_option maxRecDepth 20000 in
theorem kX0_7 : Cond.methodLink RX0 7 Lib.Math.max.name ∈ bigW ∧ Cond.static Lib.Math.max.name ∈ bigW ∧ Cond.initialized "java/lang/Math" ∈ bigW ∧ Cond.code Lib.Math.max.name Lib.Math.max.code 2 (some .int) ∈ bigW := ⟨bigI 140 (by decide +kernel) rfl, bigI 141 (by decide +kernel) rfl, bigI 52 (by decide +kernel) rfl, bigI 142 rfl rfl⟩
set_option maxRecDepth 20000 in
theorem kX5_67 : Cond.methodLink RX5 67 Lib.Math.max.name ∈ bigW ∧ Cond.static Lib.Math.max.name ∈ bigW ∧ Cond.initialized "java/lang/Math" ∈ bigW ∧ Cond.code Lib.Math.max.name Lib.Math.max.code 2 (some .int) ∈ bigW := ⟨bigI 298 (by decide +kernel) rfl, bigI 141 (by decide +kernel) rfl, bigI 52 (by decide +kernel) rfl, bigI 142 rfl rfl⟩
set_option maxRecDepth 20000 in
theorem kX6_118 : Cond.methodLink RX6 118 Lib.Math.max.name ∈ bigW ∧ Cond.static Lib.Math.max.name ∈ bigW ∧ Cond.initialized "java/lang/Math" ∈ bigW ∧ Cond.code Lib.Math.max.name Lib.Math.max.code 2 (some .int) ∈ bigW := ⟨bigI 558 (by decide +kernel) rfl, bigI 141 (by decide +kernel) rfl, bigI 52 (by decide +kernel) rfl, bigI 142 rfl rfl⟩
set_option maxRecDepth 20000 in
theorem kX6_70 : Cond.methodLink RX6 70 Lib.Math.min.name ∈ bigW ∧ Cond.static Lib.Math.min.name ∈ bigW ∧ Cond.initialized "java/lang/Math" ∈ bigW ∧ Cond.code Lib.Math.min.name Lib.Math.min.code 2 (some .int) ∈ bigW := ⟨bigI 559 (by decide +kernel) rfl, bigI 560 (by decide +kernel) rfl, bigI 52 (by decide +kernel) rfl, bigI 561 rfl rfl⟩
set_option maxRecDepth 20000 in
theorem kX7_221 : Cond.methodLink RX7 221 Lib.Math.min.name ∈ bigW ∧ Cond.static Lib.Math.min.name ∈ bigW ∧ Cond.initialized "java/lang/Math" ∈ bigW ∧ Cond.code Lib.Math.min.name Lib.Math.min.code 2 (some .int) ∈ bigW := ⟨bigI 711 (by decide +kernel) rfl, bigI 560 (by decide +kernel) rfl, bigI 52 (by decide +kernel) rfl, bigI 561 rfl rfl⟩
set_option maxRecDepth 20000 in
theorem kX7_278 : Cond.methodLink RX7 278 Lib.Math.max.name ∈ bigW ∧ Cond.static Lib.Math.max.name ∈ bigW ∧ Cond.initialized "java/lang/Math" ∈ bigW ∧ Cond.code Lib.Math.max.name Lib.Math.max.code 2 (some .int) ∈ bigW := ⟨bigI 761 (by decide +kernel) rfl, bigI 141 (by decide +kernel) rfl, bigI 52 (by decide +kernel) rfl, bigI 142 rfl rfl⟩
theorem dM_floorMod_0 : decode cM_floorMod 0 = .ok (.iload_n 0, 1) := by decide +kernel
theorem dM_floorMod_1 : decode cM_floorMod 1 = .ok (.iload_n 1, 1) := by decide +kernel
theorem dM_floorMod_2 : decode cM_floorMod 2 = .ok (.irem, 1) := by decide +kernel
theorem dM_floorMod_3 : decode cM_floorMod 3 = .ok (.istore_n 2, 1) := by decide +kernel
theorem dM_floorMod_4 : decode cM_floorMod 4 = .ok (.iload_n 0, 1) := by decide +kernel
theorem dM_floorMod_5 : decode cM_floorMod 5 = .ok (.iload_n 1, 1) := by decide +kernel
theorem dM_floorMod_6 : decode cM_floorMod 6 = .ok (.ixor, 1) := by decide +kernel
theorem dM_floorMod_7 : decode cM_floorMod 7 = .ok (.ifCond .ge 11, 3) := by decide +kernel
theorem dM_floorMod_10 : decode cM_floorMod 10 = .ok (.iload_n 2, 1) := by decide +kernel
theorem dM_floorMod_11 : decode cM_floorMod 11 = .ok (.ifCond .eq 7, 3) := by decide +kernel
theorem dM_floorMod_14 : decode cM_floorMod 14 = .ok (.iload_n 2, 1) := by decide +kernel
theorem dM_floorMod_15 : decode cM_floorMod 15 = .ok (.iload_n 1, 1) := by decide +kernel
theorem dM_floorMod_16 : decode cM_floorMod 16 = .ok (.iadd, 1) := by decide +kernel
theorem dM_floorMod_17 : decode cM_floorMod 17 = .ok (.ireturn, 1) := by decide +kernel
theorem dM_floorMod_18 : decode cM_floorMod 18 = .ok (.iload_n 2, 1) := by decide +kernel
theorem dM_floorMod_19 : decode cM_floorMod 19 = .ok (.ireturn, 1) := by decide +kernel
