/-! ===== printed by wip/whole/gen_links.py: methods, and what the tables say of them ===== -/
def mX0_init : mMe := (yX0_init, cX0_init, 2, none)
def mX0_clear : mMe := (yX0_clear, cX0_clear, 1, none)
def mX0_remember : mMe := (yX0_remember, cX0_remember, 2, none)
def mX0_takeBack : mMe := (yX0_takeBack, cX0_takeBack, 2, some .int)
def mX1_init : mMe := (yX1_init, cX1_init, 1, none)
def mX1_add : mMe := (yX1_add, cX1_add, 3, some .int)
def mX1_clear : mMe := (yX1_clear, cX1_clear, 2, some .int)
def mX1_isSo : mMe := (yX1_isSo, cX1_isSo, 4, some .boolean)
def mX2_init : mMe := (yX2_init, cX2_init, 2, none)
def mX2_clear : mMe := (yX2_clear, cX2_clear, 1, none)
def mX2_add : mMe := (yX2_add, cX2_add, 2, none)
def mX2_setTo : mMe := (yX2_setTo, cX2_setTo, 3, none)
def mX2_setFigures : mMe := (yX2_setFigures, cX2_setFigures, 7, none)
def mX2_figures : mMe := (yX2_figures, cX2_figures, 4, some .long)
def mX2_loseLast : mMe := (yX2_loseLast, cX2_loseLast, 1, none)
def mX2_loseFirst : mMe := (yX2_loseFirst, cX2_loseFirst, 2, none)
def mX2_reverse : mMe := (yX2_reverse, cX2_reverse, 3, none)
def mX2_overlapWith : mMe := (yX2_overlapWith, cX2_overlapWith, 3, some .int)
def mX2_endsAs : mMe := (yX2_endsAs, cX2_endsAs, 4, some .boolean)
def mX2_addBehind : mMe := (yX2_addBehind, cX2_addBehind, 3, none)
def mX2_bearsAt : mMe := (yX2_bearsAt, cX2_bearsAt, 4, some .boolean)
def mX2_firstPlaceOf : mMe := (yX2_firstPlaceOf, cX2_firstPlaceOf, 3, some .int)
def mX2_bitsAt : mMe := (yX2_bitsAt, cX2_bitsAt, 2, some .int)
def mX2_placesUnder : mMe := (yX2_placesUnder, cX2_placesUnder, 4, some .int)
def mX3_init : mMe := (yX3_init, cX3_init, 2, none)
def mX3_clear : mMe := (yX3_clear, cX3_clear, 1, none)
def mX3_put : mMe := (yX3_put, cX3_put, 3, some .int)
def mX3_bringBack : mMe := (yX3_bringBack, cX3_bringBack, 3, some .int)
def mX4_init : mMe := (yX4_init, cX4_init, 1, none)
def mX4_setTo : mMe := (yX4_setTo, cX4_setTo, 2, none)
def mX5_init : mMe := (yX5_init, cX5_init, 1, none)
def mX5_add : mMe := (yX5_add, cX5_add, 2, some .int)
def mX5_clear : mMe := (yX5_clear, cX5_clear, 2, some .int)
def mX5_firstFault : mMe := (yX5_firstFault, cX5_firstFault, 4, some .int)
def mX5_stateAfter : mMe := (yX5_stateAfter, cX5_stateAfter, 3, some .int)
def mX5_isFigure : mMe := (yX5_isFigure, cX5_isFigure, 2, some .boolean)
def mX5_isBend : mMe := (yX5_isBend, cX5_isBend, 1, some .boolean)
def mX5_tellTo : mMe := (yX5_tellTo, cX5_tellTo, 3, none)
def mX6_init : mMe := (yX6_init, cX6_init, 2, none)
def mX6_clear : mMe := (yX6_clear, cX6_clear, 1, none)
def mX6_setTo : mMe := (yX6_setTo, cX6_setTo, 3, none)
def mX6_begin : mMe := (yX6_begin, cX6_begin, 3, none)
def mX6_bendLast : mMe := (yX6_bendLast, cX6_bendLast, 2, none)
def mX6_has : mMe := (yX6_has, cX6_has, 2, some .boolean)
def mX6_whoIsThere : mMe := (yX6_whoIsThere, cX6_whoIsThere, 3, some .int)
def mX6_bendsFrom : mMe := (yX6_bendsFrom, cX6_bendsFrom, 4, some .int)
def mX6_housesInUse : mMe := (yX6_housesInUse, cX6_housesInUse, 3, some .int)
def mX6_countIn : mMe := (yX6_countIn, cX6_countIn, 4, some .int)
def mX6_passWinter : mMe := (yX6_passWinter, cX6_passWinter, 3, some .int)
def mX6_winterOf : mMe := (yX6_winterOf, cX6_winterOf, 3, none)
def mX6_floodFrom : mMe := (yX6_floodFrom, cX6_floodFrom, 3, none)
def mX6_hangIn : mMe := (yX6_hangIn, cX6_hangIn, 3, some .int)
def mX6_turnAbout : mMe := (yX6_turnAbout, cX6_turnAbout, 2, some .int)
def mX6_snipEnd : mMe := (yX6_snipEnd, cX6_snipEnd, 3, some .int)
def mX6_joinTo : mMe := (yX6_joinTo, cX6_joinTo, 5, some .int)
def mX7_init : mMe := (yX7_init, cX7_init, 1, none)
def mX7_write : mMe := (yX7_write, cX7_write, 2, some .int)
def mX7_wipe : mMe := (yX7_wipe, cX7_wipe, 1, some .int)
def mX7_fault : mMe := (yX7_fault, cX7_fault, 1, some .int)
def mX7_valley : mMe := (yX7_valley, cX7_valley, 1, some .int)
def mX7_bed : mMe := (yX7_bed, cX7_bed, 5, some .int)
def mX7_strand : mMe := (yX7_strand, cX7_strand, 4, some .int)
def mX7_bends : mMe := (yX7_bends, cX7_bends, 2, some .long)
def mX7_isRowOfBends : mMe := (yX7_isRowOfBends, cX7_isRowOfBends, 8, some .boolean)
def mX7_winter : mMe := (yX7_winter, cX7_winter, 1, some .int)
def mX7_hang : mMe := (yX7_hang, cX7_hang, 3, some .int)
def mX7_turn : mMe := (yX7_turn, cX7_turn, 2, some .int)
def mX7_snip : mMe := (yX7_snip, cX7_snip, 2, some .int)
def mX7_join : mMe := (yX7_join, cX7_join, 3, some .int)
def mX7_undo : mMe := (yX7_undo, cX7_undo, 1, some .int)
def mX7_take : mMe := (yX7_take, cX7_take, 2, some .int)
def mX7_later : mMe := (yX7_later, cX7_later, 4, some .int)
def mX7_lasts : mMe := (yX7_lasts, cX7_lasts, 3, some .int)
def mX7_overlap : mMe := (yX7_overlap, cX7_overlap, 3, some .int)
def mX7_river : mMe := (yX7_river, cX7_river, 7, some .int)
def mX7_isOrder : mMe := (yX7_isOrder, cX7_isOrder, 5, some .boolean)
def mX7_flow : mMe := (yX7_flow, cX7_flow, 6, some .int)
def mX7_figureOf : mMe := (yX7_figureOf, cX7_figureOf, 3, some .int)
def mX7_covered : mMe := (yX7_covered, cX7_covered, 3, some .int)
def mX7_findCovers : mMe := (yX7_findCovers, cX7_findCovers, 2, none)
def mX7_wholeBed : mMe := (yX7_wholeBed, cX7_wholeBed, 1, some .int)
def mX7_ways : mMe := (yX7_ways, cX7_ways, 1, some .int)
def mX7_waysFrom : mMe := (yX7_waysFrom, cX7_waysFrom, 7, some .int)
def mX7_judge : mMe := (yX7_judge, cX7_judge, 9, some .int)
def mX7_canBe : mMe := (yX7_canBe, cX7_canBe, 4, some .boolean)
def mX7_lay : mMe := (yX7_lay, cX7_lay, 3, some .int)
def mX7_unlay : mMe := (yX7_unlay, cX7_unlay, 1, some .int)
def mX7_which : mMe := (yX7_which, cX7_which, 5, some .int)
def mX7_guessRow : mMe := (yX7_guessRow, cX7_guessRow, 4, none)
def mX7_share : mMe := (yX7_share, cX7_share, 5, some .int)
def mX7_coversOn : mMe := (yX7_coversOn, cX7_coversOn, 4, some .int)
def mX7_rests : mMe := (yX7_rests, cX7_rests, 6, some .int)
def mX7_findGains : mMe := (yX7_findGains, cX7_findGains, 4, none)
def mX7_gainOf : mMe := (yX7_gainOf, cX7_gainOf, 3, some .int)
def mX7_isRest : mMe := (yX7_isRest, cX7_isRest, 5, some .boolean)
def mX7_lost : mMe := (yX7_lost, cX7_lost, 7, some .int)
def mX7_coveredBy : mMe := (yX7_coveredBy, cX7_coveredBy, 4, some .int)
def mX7_chanceOf : mMe := (yX7_chanceOf, cX7_chanceOf, 5, some .int)
def mX7_partOfFraction : mMe := (yX7_partOfFraction, cX7_partOfFraction, 4, some .int)
def mX7_commonDivisor : mMe := (yX7_commonDivisor, cX7_commonDivisor, 6, some .int)
def mX7_seed : mMe := (yX7_seed, cX7_seed, 5, some .long)
def mX7_years : mMe := (yX7_years, cX7_years, 4, some .int)
def mX7_doByChance : mMe := (yX7_doByChance, cX7_doByChance, 2, none)
def mX7_keep : mMe := (yX7_keep, cX7_keep, 2, some .int)
def mX7_again : mMe := (yX7_again, cX7_again, 3, some .int)
def mX7_count : mMe := (yX7_count, cX7_count, 2, some .int)
def mX8_init : mMe := (yX8_init, cX8_init, 1, none)
def mX8_in : mMe := (yX8_in, cX8_in, 6, some .boolean)
def mX8_has : mMe := (yX8_has, cX8_has, 2, some .boolean)
def mX8_ones : mMe := (yX8_ones, cX8_ones, 3, some .int)
def mX8_write : mMe := (yX8_write, cX8_write, 2, some .int)
def mX8_wipe : mMe := (yX8_wipe, cX8_wipe, 2, some .int)
def mX8_nextOf : mMe := (yX8_nextOf, cX8_nextOf, 5, some .int)
def mX8_isBend : mMe := (yX8_isBend, cX8_isBend, 1, some .boolean)
def mX8_readText : mMe := (yX8_readText, cX8_readText, 1, some .int)
def mX8_readPart : mMe := (yX8_readPart, cX8_readPart, 3, none)
def mX8_fault : mMe := (yX8_fault, cX8_fault, 1, some .int)
def mX8_valley : mMe := (yX8_valley, cX8_valley, 3, some .int)
def mX8_isThere : mMe := (yX8_isThere, cX8_isThere, 3, some .boolean)
def mX8_bendAt : mMe := (yX8_bendAt, cX8_bendAt, 4, some .int)
def mX8_loseLast : mMe := (yX8_loseLast, cX8_loseLast, 4, none)
def mX8_loseFirst : mMe := (yX8_loseFirst, cX8_loseFirst, 5, none)
def mX8_inHouse : mMe := (yX8_inHouse, cX8_inHouse, 5, some .int)
def mX8_hurt : mMe := (yX8_hurt, cX8_hurt, 5, none)
def mX8_whoIs : mMe := (yX8_whoIs, cX8_whoIs, 4, some .int)
def mX8_passOn : mMe := (yX8_passOn, cX8_passOn, 4, some .int)
def mX8_turnOn : mMe := (yX8_turnOn, cX8_turnOn, 7, none)
def mX8_overlapOf : mMe := (yX8_overlapOf, cX8_overlapOf, 9, some .int)
def mX8_joinedMany : mMe := (yX8_joinedMany, cX8_joinedMany, 4, some .int)
def mX8_isOneHouse : mMe := (yX8_isOneHouse, cX8_isOneHouse, 4, some .boolean)
def mX8_canJoin : mMe := (yX8_canJoin, cX8_canJoin, 4, some .boolean)
def mX8_joinOn : mMe := (yX8_joinOn, cX8_joinOn, 8, none)
def mX8_tenTo : mMe := (yX8_tenTo, cX8_tenTo, 4, some .long)
def mX8_bed : mMe := (yX8_bed, cX8_bed, 6, some .int)
def mX8_liesAt : mMe := (yX8_liesAt, cX8_liesAt, 7, some .boolean)
def mX8_firstPlace : mMe := (yX8_firstPlace, cX8_firstPlace, 4, some .int)
def mX8_coverOf : mMe := (yX8_coverOf, cX8_coverOf, 5, some .int)
def mX8_strand : mMe := (yX8_strand, cX8_strand, 3, some .int)
def mX8_bends : mMe := (yX8_bends, cX8_bends, 5, some .long)
def mX8_keepAct : mMe := (yX8_keepAct, cX8_keepAct, 2, none)
def mX8_winter : mMe := (yX8_winter, cX8_winter, 1, some .int)
def mX8_hang : mMe := (yX8_hang, cX8_hang, 3, some .int)
def mX8_turn : mMe := (yX8_turn, cX8_turn, 2, some .int)
def mX8_snip : mMe := (yX8_snip, cX8_snip, 2, some .int)
def mX8_join : mMe := (yX8_join, cX8_join, 3, some .int)
def mX8_undo : mMe := (yX8_undo, cX8_undo, 2, some .int)
def mX8_layTrial : mMe := (yX8_layTrial, cX8_layTrial, 2, none)
def mX8_later : mMe := (yX8_later, cX8_later, 4, some .int)
def mX8_lasts : mMe := (yX8_lasts, cX8_lasts, 3, some .int)
def mX8_overlap : mMe := (yX8_overlap, cX8_overlap, 3, some .int)
def mX8_flowOn : mMe := (yX8_flowOn, cX8_flowOn, 5, none)
def mX8_goesOn : mMe := (yX8_goesOn, cX8_goesOn, 5, some .boolean)
def mX8_riverBy : mMe := (yX8_riverBy, cX8_riverBy, 7, some .int)
def mX8_river : mMe := (yX8_river, cX8_river, 10, some .int)
def mX8_covered : mMe := (yX8_covered, cX8_covered, 1, some .int)
def mX8_ways : mMe := (yX8_ways, cX8_ways, 3, some .int)
def mX8_isWay : mMe := (yX8_isWay, cX8_isWay, 6, some .boolean)
def mX8_tryThing : mMe := (yX8_tryThing, cX8_tryThing, 8, some .boolean)
def mX8_thousandTo : mMe := (yX8_thousandTo, cX8_thousandTo, 1, some .long)
def mX8_judge : mMe := (yX8_judge, cX8_judge, 6, some .int)
def mX8_lay : mMe := (yX8_lay, cX8_lay, 3, some .int)
def mX8_unlay : mMe := (yX8_unlay, cX8_unlay, 2, some .int)
def mX8_fitsAt : mMe := (yX8_fitsAt, cX8_fitsAt, 7, some .boolean)
def mX8_mayBeLaid : mMe := (yX8_mayBeLaid, cX8_mayBeLaid, 5, some .boolean)
def mX8_areBends : mMe := (yX8_areBends, cX8_areBends, 3, some .boolean)
def mX8_which : mMe := (yX8_which, cX8_which, 6, some .int)
def mX8_factorial : mMe := (yX8_factorial, cX8_factorial, 3, some .int)
def mX8_common : mMe := (yX8_common, cX8_common, 5, some .int)
def mX8_share : mMe := (yX8_share, cX8_share, 8, some .int)
def mX8_gain : mMe := (yX8_gain, cX8_gain, 6, some .int)
def mX8_isRest : mMe := (yX8_isRest, cX8_isRest, 7, some .boolean)
def mX8_rests : mMe := (yX8_rests, cX8_rests, 7, some .int)
def mX8_power : mMe := (yX8_power, cX8_power, 4, some .int)
def mX8_lost : mMe := (yX8_lost, cX8_lost, 8, some .int)
def mX8_seed : mMe := (yX8_seed, cX8_seed, 5, some .long)
def mX8_bendsOfAll : mMe := (yX8_bendsOfAll, cX8_bendsOfAll, 4, some .int)
def mX8_years : mMe := (yX8_years, cX8_years, 5, some .int)
def mX8_keep : mMe := (yX8_keep, cX8_keep, 3, some .int)
def mX8_again : mMe := (yX8_again, cX8_again, 3, some .int)
def mX8_usedHouses : mMe := (yX8_usedHouses, cX8_usedHouses, 3, some .int)
def mX8_count : mMe := (yX8_count, cX8_count, 2, some .int)
def mJ6_bitCount_0f7a4 : mMe := (yJ6_bitCount_0f7a4, cJ6_bitCount_0f7a4, 1, some .int)
def mJ9_max_7cf53 : mMe := (yJ9_max_7cf53, cJ9_max_7cf53, 2, some .int)
def mJ9_max_f86c9 : mMe := (yJ9_max_f86c9, cJ9_max_f86c9, 4, some .long)
def mJ9_min_7cf53 : mMe := (yJ9_min_7cf53, cJ9_min_7cf53, 2, some .int)
def mL_law : mMe := (yL_law, cL_law, 4, some .boolean)
theorem md_oi1 : Cond.instanceMethod Lib.objectInit ∈ mT0 := mT0_tbl (i := 18) (by decide +kernel) (by decide +kernel)
theorem md_oi2 : Cond.code Lib.objectInit ⟨#[0xb1]⟩ 1 none ∈ mT0 := mT0_tbl (i := 19) (by decide +kernel) (by decide +kernel)
theorem mdX0_init : mMi mX0_init 0 := ⟨⟨mT0_tbl (i := 101) (by decide +kernel) (by decide +kernel), mT0_tbl (i := 7) (by decide +kernel) (by decide +kernel), (by decide +kernel), (by decide +kernel)⟩, mT0_tbl (i := 100) (by decide +kernel) (by decide +kernel), rfl, rfl⟩
theorem pnX0_init : plainName mX0_init.1.cls = true := (by decide +kernel)
theorem mdX0_clear : mMv mX0_clear 0 := ⟨⟨mT0_tbl (i := 256) (by decide +kernel) (by decide +kernel), mT0_tbl (i := 7) (by decide +kernel) (by decide +kernel), (by decide +kernel), (by decide +kernel)⟩, mT0_tbl (i := 254) (by decide +kernel) (by decide +kernel), mT0_tbl (i := 255) (by decide +kernel) (by decide +kernel)⟩
theorem pnX0_clear : plainName mX0_clear.1.cls = true := (by decide +kernel)
theorem mdX0_remember : mMv mX0_remember 1 := ⟨⟨mT0_tbl (i := 361) (by decide +kernel) (by decide +kernel), mT0_tbl (i := 7) (by decide +kernel) (by decide +kernel), (by decide +kernel), (by decide +kernel)⟩, mT0_tbl (i := 359) (by decide +kernel) (by decide +kernel), mT0_tbl (i := 360) (by decide +kernel) (by decide +kernel)⟩
theorem pnX0_remember : plainName mX0_remember.1.cls = true := (by decide +kernel)
theorem mdX0_takeBack : mMv mX0_takeBack 1 := ⟨⟨mT0_tbl (i := 420) (by decide +kernel) (by decide +kernel), mT0_tbl (i := 7) (by decide +kernel) (by decide +kernel), (by decide +kernel), (by decide +kernel)⟩, mT0_tbl (i := 418) (by decide +kernel) (by decide +kernel), mT0_tbl (i := 419) (by decide +kernel) (by decide +kernel)⟩
theorem pnX0_takeBack : plainName mX0_takeBack.1.cls = true := (by decide +kernel)
theorem mdX1_init : mMi mX1_init 0 := ⟨⟨mT0_tbl (i := 136) (by decide +kernel) (by decide +kernel), mT0_tbl (i := 9) (by decide +kernel) (by decide +kernel), (by decide +kernel), (by decide +kernel)⟩, mT0_tbl (i := 135) (by decide +kernel) (by decide +kernel), rfl, rfl⟩
theorem pnX1_init : plainName mX1_init.1.cls = true := (by decide +kernel)
theorem mdX1_add : mMv mX1_add 2 := ⟨⟨mT0_tbl (i := 502) (by decide +kernel) (by decide +kernel), mT0_tbl (i := 9) (by decide +kernel) (by decide +kernel), (by decide +kernel), (by decide +kernel)⟩, mT0_tbl (i := 500) (by decide +kernel) (by decide +kernel), mT0_tbl (i := 501) (by decide +kernel) (by decide +kernel)⟩
theorem pnX1_add : plainName mX1_add.1.cls = true := (by decide +kernel)
theorem mdX1_clear : mMv mX1_clear 0 := ⟨⟨mT0_tbl (i := 510) (by decide +kernel) (by decide +kernel), mT0_tbl (i := 9) (by decide +kernel) (by decide +kernel), (by decide +kernel), (by decide +kernel)⟩, mT0_tbl (i := 508) (by decide +kernel) (by decide +kernel), mT0_tbl (i := 509) (by decide +kernel) (by decide +kernel)⟩
theorem pnX1_clear : plainName mX1_clear.1.cls = true := (by decide +kernel)
theorem mdX1_isSo : mMv mX1_isSo 2 := ⟨⟨mT0_tbl (i := 523) (by decide +kernel) (by decide +kernel), mT0_tbl (i := 9) (by decide +kernel) (by decide +kernel), (by decide +kernel), (by decide +kernel)⟩, mT0_tbl (i := 521) (by decide +kernel) (by decide +kernel), mT0_tbl (i := 522) (by decide +kernel) (by decide +kernel)⟩
theorem pnX1_isSo : plainName mX1_isSo.1.cls = true := (by decide +kernel)
theorem mdX2_init : mMi mX2_init 1 := ⟨⟨mT0_tbl (i := 52) (by decide +kernel) (by decide +kernel), mT0_tbl (i := 5) (by decide +kernel) (by decide +kernel), (by decide +kernel), (by decide +kernel)⟩, mT0_tbl (i := 51) (by decide +kernel) (by decide +kernel), rfl, rfl⟩
theorem pnX2_init : plainName mX2_init.1.cls = true := (by decide +kernel)
theorem mdX2_clear : mMv mX2_clear 0 := ⟨⟨mT0_tbl (i := 252) (by decide +kernel) (by decide +kernel), mT0_tbl (i := 5) (by decide +kernel) (by decide +kernel), (by decide +kernel), (by decide +kernel)⟩, mT0_tbl (i := 250) (by decide +kernel) (by decide +kernel), mT0_tbl (i := 251) (by decide +kernel) (by decide +kernel)⟩
theorem pnX2_clear : plainName mX2_clear.1.cls = true := (by decide +kernel)
theorem mdX2_add : mMv mX2_add 1 := ⟨⟨mT0_tbl (i := 244) (by decide +kernel) (by decide +kernel), mT0_tbl (i := 5) (by decide +kernel) (by decide +kernel), (by decide +kernel), (by decide +kernel)⟩, mT0_tbl (i := 242) (by decide +kernel) (by decide +kernel), mT0_tbl (i := 243) (by decide +kernel) (by decide +kernel)⟩
theorem pnX2_add : plainName mX2_add.1.cls = true := (by decide +kernel)
theorem mdX2_setTo : mMv mX2_setTo 1 := ⟨⟨mT0_tbl (i := 318) (by decide +kernel) (by decide +kernel), mT0_tbl (i := 5) (by decide +kernel) (by decide +kernel), (by decide +kernel), (by decide +kernel)⟩, mT0_tbl (i := 316) (by decide +kernel) (by decide +kernel), mT0_tbl (i := 317) (by decide +kernel) (by decide +kernel)⟩
theorem pnX2_setTo : plainName mX2_setTo.1.cls = true := (by decide +kernel)
theorem mdX2_setFigures : mMv mX2_setFigures 2 := ⟨⟨mT0_tbl (i := 273) (by decide +kernel) (by decide +kernel), mT0_tbl (i := 5) (by decide +kernel) (by decide +kernel), (by decide +kernel), (by decide +kernel)⟩, mT0_tbl (i := 271) (by decide +kernel) (by decide +kernel), mT0_tbl (i := 272) (by decide +kernel) (by decide +kernel)⟩
theorem pnX2_setFigures : plainName mX2_setFigures.1.cls = true := (by decide +kernel)
theorem mdX2_figures : mMv mX2_figures 0 := ⟨⟨mT0_tbl (i := 301) (by decide +kernel) (by decide +kernel), mT0_tbl (i := 5) (by decide +kernel) (by decide +kernel), (by decide +kernel), (by decide +kernel)⟩, mT0_tbl (i := 299) (by decide +kernel) (by decide +kernel), mT0_tbl (i := 300) (by decide +kernel) (by decide +kernel)⟩
theorem pnX2_figures : plainName mX2_figures.1.cls = true := (by decide +kernel)
theorem mdX2_loseLast : mMv mX2_loseLast 0 := ⟨⟨mT0_tbl (i := 353) (by decide +kernel) (by decide +kernel), mT0_tbl (i := 5) (by decide +kernel) (by decide +kernel), (by decide +kernel), (by decide +kernel)⟩, mT0_tbl (i := 351) (by decide +kernel) (by decide +kernel), mT0_tbl (i := 352) (by decide +kernel) (by decide +kernel)⟩
theorem pnX2_loseLast : plainName mX2_loseLast.1.cls = true := (by decide +kernel)
theorem mdX2_loseFirst : mMv mX2_loseFirst 0 := ⟨⟨mT0_tbl (i := 345) (by decide +kernel) (by decide +kernel), mT0_tbl (i := 5) (by decide +kernel) (by decide +kernel), (by decide +kernel), (by decide +kernel)⟩, mT0_tbl (i := 343) (by decide +kernel) (by decide +kernel), mT0_tbl (i := 344) (by decide +kernel) (by decide +kernel)⟩
theorem pnX2_loseFirst : plainName mX2_loseFirst.1.cls = true := (by decide +kernel)
theorem mdX2_reverse : mMv mX2_reverse 0 := ⟨⟨mT0_tbl (i := 382) (by decide +kernel) (by decide +kernel), mT0_tbl (i := 5) (by decide +kernel) (by decide +kernel), (by decide +kernel), (by decide +kernel)⟩, mT0_tbl (i := 380) (by decide +kernel) (by decide +kernel), mT0_tbl (i := 381) (by decide +kernel) (by decide +kernel)⟩
theorem pnX2_reverse : plainName mX2_reverse.1.cls = true := (by decide +kernel)
theorem mdX2_overlapWith : mMv mX2_overlapWith 1 := ⟨⟨mT0_tbl (i := 402) (by decide +kernel) (by decide +kernel), mT0_tbl (i := 5) (by decide +kernel) (by decide +kernel), (by decide +kernel), (by decide +kernel)⟩, mT0_tbl (i := 400) (by decide +kernel) (by decide +kernel), mT0_tbl (i := 401) (by decide +kernel) (by decide +kernel)⟩
theorem pnX2_overlapWith : plainName mX2_overlapWith.1.cls = true := (by decide +kernel)
theorem mdX2_endsAs : mMv mX2_endsAs 2 := ⟨⟨mT0_tbl (i := 406) (by decide +kernel) (by decide +kernel), mT0_tbl (i := 5) (by decide +kernel) (by decide +kernel), (by decide +kernel), (by decide +kernel)⟩, mT0_tbl (i := 405) (by decide +kernel) (by decide +kernel), mT0_prv (i := 4) (by decide +kernel) (by decide +kernel)⟩
theorem pnX2_endsAs : plainName mX2_endsAs.1.cls = true := (by decide +kernel)
theorem mdX2_addBehind : mMv mX2_addBehind 1 := ⟨⟨mT0_tbl (i := 410) (by decide +kernel) (by decide +kernel), mT0_tbl (i := 5) (by decide +kernel) (by decide +kernel), (by decide +kernel), (by decide +kernel)⟩, mT0_tbl (i := 408) (by decide +kernel) (by decide +kernel), mT0_tbl (i := 409) (by decide +kernel) (by decide +kernel)⟩
theorem pnX2_addBehind : plainName mX2_addBehind.1.cls = true := (by decide +kernel)
theorem mdX2_bearsAt : mMv mX2_bearsAt 2 := ⟨⟨mT0_tbl (i := 293) (by decide +kernel) (by decide +kernel), mT0_tbl (i := 5) (by decide +kernel) (by decide +kernel), (by decide +kernel), (by decide +kernel)⟩, mT0_tbl (i := 291) (by decide +kernel) (by decide +kernel), mT0_tbl (i := 292) (by decide +kernel) (by decide +kernel)⟩
theorem pnX2_bearsAt : plainName mX2_bearsAt.1.cls = true := (by decide +kernel)
theorem mdX2_firstPlaceOf : mMv mX2_firstPlaceOf 1 := ⟨⟨mT0_tbl (i := 289) (by decide +kernel) (by decide +kernel), mT0_tbl (i := 5) (by decide +kernel) (by decide +kernel), (by decide +kernel), (by decide +kernel)⟩, mT0_tbl (i := 287) (by decide +kernel) (by decide +kernel), mT0_tbl (i := 288) (by decide +kernel) (by decide +kernel)⟩
theorem pnX2_firstPlaceOf : plainName mX2_firstPlaceOf.1.cls = true := (by decide +kernel)
theorem mdX2_bitsAt : mMv mX2_bitsAt 1 := ⟨⟨mT0_tbl (i := 468) (by decide +kernel) (by decide +kernel), mT0_tbl (i := 5) (by decide +kernel) (by decide +kernel), (by decide +kernel), (by decide +kernel)⟩, mT0_tbl (i := 466) (by decide +kernel) (by decide +kernel), mT0_tbl (i := 467) (by decide +kernel) (by decide +kernel)⟩
theorem pnX2_bitsAt : plainName mX2_bitsAt.1.cls = true := (by decide +kernel)
theorem mdX2_placesUnder : mMv mX2_placesUnder 1 := ⟨⟨mT0_tbl (i := 464) (by decide +kernel) (by decide +kernel), mT0_tbl (i := 5) (by decide +kernel) (by decide +kernel), (by decide +kernel), (by decide +kernel)⟩, mT0_tbl (i := 462) (by decide +kernel) (by decide +kernel), mT0_tbl (i := 463) (by decide +kernel) (by decide +kernel)⟩
theorem pnX2_placesUnder : plainName mX2_placesUnder.1.cls = true := (by decide +kernel)
theorem mdX3_init : mMi mX3_init 0 := ⟨⟨mT0_tbl (i := 121) (by decide +kernel) (by decide +kernel), mT0_tbl (i := 8) (by decide +kernel) (by decide +kernel), (by decide +kernel), (by decide +kernel)⟩, mT0_tbl (i := 120) (by decide +kernel) (by decide +kernel), rfl, rfl⟩
theorem pnX3_init : plainName mX3_init.1.cls = true := (by decide +kernel)
theorem mdX3_clear : mMv mX3_clear 0 := ⟨⟨mT0_tbl (i := 260) (by decide +kernel) (by decide +kernel), mT0_tbl (i := 8) (by decide +kernel) (by decide +kernel), (by decide +kernel), (by decide +kernel)⟩, mT0_tbl (i := 258) (by decide +kernel) (by decide +kernel), mT0_tbl (i := 259) (by decide +kernel) (by decide +kernel)⟩
theorem pnX3_clear : plainName mX3_clear.1.cls = true := (by decide +kernel)
theorem mdX3_put : mMv mX3_put 2 := ⟨⟨mT0_tbl (i := 592) (by decide +kernel) (by decide +kernel), mT0_tbl (i := 8) (by decide +kernel) (by decide +kernel), (by decide +kernel), (by decide +kernel)⟩, mT0_tbl (i := 590) (by decide +kernel) (by decide +kernel), mT0_tbl (i := 591) (by decide +kernel) (by decide +kernel)⟩
theorem pnX3_put : plainName mX3_put.1.cls = true := (by decide +kernel)
theorem mdX3_bringBack : mMv mX3_bringBack 2 := ⟨⟨mT0_tbl (i := 601) (by decide +kernel) (by decide +kernel), mT0_tbl (i := 8) (by decide +kernel) (by decide +kernel), (by decide +kernel), (by decide +kernel)⟩, mT0_tbl (i := 599) (by decide +kernel) (by decide +kernel), mT0_tbl (i := 600) (by decide +kernel) (by decide +kernel)⟩
theorem pnX3_bringBack : plainName mX3_bringBack.1.cls = true := (by decide +kernel)
theorem mdX4_init : mMi mX4_init 0 := ⟨⟨mT0_tbl (i := 46) (by decide +kernel) (by decide +kernel), mT0_tbl (i := 4) (by decide +kernel) (by decide +kernel), (by decide +kernel), (by decide +kernel)⟩, mT0_tbl (i := 45) (by decide +kernel) (by decide +kernel), rfl, rfl⟩
theorem pnX4_init : plainName mX4_init.1.cls = true := (by decide +kernel)
theorem mdX4_setTo : mMv mX4_setTo 1 := ⟨⟨mT0_tbl (i := 314) (by decide +kernel) (by decide +kernel), mT0_tbl (i := 4) (by decide +kernel) (by decide +kernel), (by decide +kernel), (by decide +kernel)⟩, mT0_tbl (i := 312) (by decide +kernel) (by decide +kernel), mT0_tbl (i := 313) (by decide +kernel) (by decide +kernel)⟩
theorem pnX4_setTo : plainName mX4_setTo.1.cls = true := (by decide +kernel)
theorem mdX5_init : mMi mX5_init 0 := ⟨⟨mT0_tbl (i := 24) (by decide +kernel) (by decide +kernel), mT0_tbl (i := 2) (by decide +kernel) (by decide +kernel), (by decide +kernel), (by decide +kernel)⟩, mT0_tbl (i := 23) (by decide +kernel) (by decide +kernel), rfl, rfl⟩
theorem pnX5_init : plainName mX5_init.1.cls = true := (by decide +kernel)
theorem mdX5_add : mMv mX5_add 1 := ⟨⟨mT0_tbl (i := 199) (by decide +kernel) (by decide +kernel), mT0_tbl (i := 2) (by decide +kernel) (by decide +kernel), (by decide +kernel), (by decide +kernel)⟩, mT0_tbl (i := 197) (by decide +kernel) (by decide +kernel), mT0_tbl (i := 198) (by decide +kernel) (by decide +kernel)⟩
theorem pnX5_add : plainName mX5_add.1.cls = true := (by decide +kernel)
theorem mdX5_clear : mMv mX5_clear 0 := ⟨⟨mT0_tbl (i := 207) (by decide +kernel) (by decide +kernel), mT0_tbl (i := 2) (by decide +kernel) (by decide +kernel), (by decide +kernel), (by decide +kernel)⟩, mT0_tbl (i := 205) (by decide +kernel) (by decide +kernel), mT0_tbl (i := 206) (by decide +kernel) (by decide +kernel)⟩
theorem pnX5_clear : plainName mX5_clear.1.cls = true := (by decide +kernel)
theorem mdX5_firstFault : mMv mX5_firstFault 0 := ⟨⟨mT0_tbl (i := 215) (by decide +kernel) (by decide +kernel), mT0_tbl (i := 2) (by decide +kernel) (by decide +kernel), (by decide +kernel), (by decide +kernel)⟩, mT0_tbl (i := 213) (by decide +kernel) (by decide +kernel), mT0_tbl (i := 214) (by decide +kernel) (by decide +kernel)⟩
theorem pnX5_firstFault : plainName mX5_firstFault.1.cls = true := (by decide +kernel)
theorem mdX5_stateAfter : mMs mX5_stateAfter 3 := ⟨⟨mT0_tbl (i := 218) (by decide +kernel) (by decide +kernel), mT0_tbl (i := 2) (by decide +kernel) (by decide +kernel), (by decide +kernel), (by decide +kernel)⟩, mT0_tbl (i := 217) (by decide +kernel) (by decide +kernel)⟩
theorem pnX5_stateAfter : plainName mX5_stateAfter.1.cls = true := (by decide +kernel)
theorem mdX5_isFigure : mMs mX5_isFigure 2 := ⟨⟨mT0_tbl (i := 221) (by decide +kernel) (by decide +kernel), mT0_tbl (i := 2) (by decide +kernel) (by decide +kernel), (by decide +kernel), (by decide +kernel)⟩, mT0_tbl (i := 220) (by decide +kernel) (by decide +kernel)⟩
theorem pnX5_isFigure : plainName mX5_isFigure.1.cls = true := (by decide +kernel)
theorem mdX5_isBend : mMs mX5_isBend 1 := ⟨⟨mT0_tbl (i := 224) (by decide +kernel) (by decide +kernel), mT0_tbl (i := 2) (by decide +kernel) (by decide +kernel), (by decide +kernel), (by decide +kernel)⟩, mT0_tbl (i := 223) (by decide +kernel) (by decide +kernel)⟩
theorem pnX5_isBend : plainName mX5_isBend.1.cls = true := (by decide +kernel)
theorem mdX5_tellTo : mMv mX5_tellTo 1 := ⟨⟨mT0_tbl (i := 232) (by decide +kernel) (by decide +kernel), mT0_tbl (i := 2) (by decide +kernel) (by decide +kernel), (by decide +kernel), (by decide +kernel)⟩, mT0_tbl (i := 230) (by decide +kernel) (by decide +kernel), mT0_tbl (i := 231) (by decide +kernel) (by decide +kernel)⟩
theorem pnX5_tellTo : plainName mX5_tellTo.1.cls = true := (by decide +kernel)
theorem mdX6_init : mMi mX6_init 0 := ⟨⟨mT0_tbl (i := 39) (by decide +kernel) (by decide +kernel), mT0_tbl (i := 3) (by decide +kernel) (by decide +kernel), (by decide +kernel), (by decide +kernel)⟩, mT0_tbl (i := 38) (by decide +kernel) (by decide +kernel), rfl, rfl⟩
theorem pnX6_init : plainName mX6_init.1.cls = true := (by decide +kernel)
theorem mdX6_clear : mMv mX6_clear 0 := ⟨⟨mT0_tbl (i := 236) (by decide +kernel) (by decide +kernel), mT0_tbl (i := 3) (by decide +kernel) (by decide +kernel), (by decide +kernel), (by decide +kernel)⟩, mT0_tbl (i := 234) (by decide +kernel) (by decide +kernel), mT0_tbl (i := 235) (by decide +kernel) (by decide +kernel)⟩
theorem pnX6_clear : plainName mX6_clear.1.cls = true := (by decide +kernel)
theorem mdX6_setTo : mMv mX6_setTo 1 := ⟨⟨mT0_tbl (i := 310) (by decide +kernel) (by decide +kernel), mT0_tbl (i := 3) (by decide +kernel) (by decide +kernel), (by decide +kernel), (by decide +kernel)⟩, mT0_tbl (i := 308) (by decide +kernel) (by decide +kernel), mT0_tbl (i := 309) (by decide +kernel) (by decide +kernel)⟩
theorem pnX6_setTo : plainName mX6_setTo.1.cls = true := (by decide +kernel)
theorem mdX6_begin : mMv mX6_begin 2 := ⟨⟨mT0_tbl (i := 248) (by decide +kernel) (by decide +kernel), mT0_tbl (i := 3) (by decide +kernel) (by decide +kernel), (by decide +kernel), (by decide +kernel)⟩, mT0_tbl (i := 246) (by decide +kernel) (by decide +kernel), mT0_tbl (i := 247) (by decide +kernel) (by decide +kernel)⟩
theorem pnX6_begin : plainName mX6_begin.1.cls = true := (by decide +kernel)
theorem mdX6_bendLast : mMv mX6_bendLast 1 := ⟨⟨mT0_tbl (i := 240) (by decide +kernel) (by decide +kernel), mT0_tbl (i := 3) (by decide +kernel) (by decide +kernel), (by decide +kernel), (by decide +kernel)⟩, mT0_tbl (i := 238) (by decide +kernel) (by decide +kernel), mT0_tbl (i := 239) (by decide +kernel) (by decide +kernel)⟩
theorem pnX6_bendLast : plainName mX6_bendLast.1.cls = true := (by decide +kernel)
theorem mdX6_has : mMv mX6_has 1 := ⟨⟨mT0_tbl (i := 285) (by decide +kernel) (by decide +kernel), mT0_tbl (i := 3) (by decide +kernel) (by decide +kernel), (by decide +kernel), (by decide +kernel)⟩, mT0_tbl (i := 283) (by decide +kernel) (by decide +kernel), mT0_tbl (i := 284) (by decide +kernel) (by decide +kernel)⟩
theorem pnX6_has : plainName mX6_has.1.cls = true := (by decide +kernel)
theorem mdX6_whoIsThere : mMv mX6_whoIsThere 0 := ⟨⟨mT0_tbl (i := 326) (by decide +kernel) (by decide +kernel), mT0_tbl (i := 3) (by decide +kernel) (by decide +kernel), (by decide +kernel), (by decide +kernel)⟩, mT0_tbl (i := 324) (by decide +kernel) (by decide +kernel), mT0_tbl (i := 325) (by decide +kernel) (by decide +kernel)⟩
theorem pnX6_whoIsThere : plainName mX6_whoIsThere.1.cls = true := (by decide +kernel)
theorem mdX6_bendsFrom : mMv mX6_bendsFrom 1 := ⟨⟨mT0_tbl (i := 479) (by decide +kernel) (by decide +kernel), mT0_tbl (i := 3) (by decide +kernel) (by decide +kernel), (by decide +kernel), (by decide +kernel)⟩, mT0_tbl (i := 477) (by decide +kernel) (by decide +kernel), mT0_tbl (i := 478) (by decide +kernel) (by decide +kernel)⟩
theorem pnX6_bendsFrom : plainName mX6_bendsFrom.1.cls = true := (by decide +kernel)
theorem mdX6_housesInUse : mMv mX6_housesInUse 0 := ⟨⟨mT0_tbl (i := 609) (by decide +kernel) (by decide +kernel), mT0_tbl (i := 3) (by decide +kernel) (by decide +kernel), (by decide +kernel), (by decide +kernel)⟩, mT0_tbl (i := 607) (by decide +kernel) (by decide +kernel), mT0_tbl (i := 608) (by decide +kernel) (by decide +kernel)⟩
theorem pnX6_housesInUse : plainName mX6_housesInUse.1.cls = true := (by decide +kernel)
theorem mdX6_countIn : mMv mX6_countIn 1 := ⟨⟨mT0_tbl (i := 349) (by decide +kernel) (by decide +kernel), mT0_tbl (i := 3) (by decide +kernel) (by decide +kernel), (by decide +kernel), (by decide +kernel)⟩, mT0_tbl (i := 348) (by decide +kernel) (by decide +kernel), mT0_prv (i := 2) (by decide +kernel) (by decide +kernel)⟩
theorem pnX6_countIn : plainName mX6_countIn.1.cls = true := (by decide +kernel)
theorem mdX6_passWinter : mMv mX6_passWinter 0 := ⟨⟨mT0_tbl (i := 322) (by decide +kernel) (by decide +kernel), mT0_tbl (i := 3) (by decide +kernel) (by decide +kernel), (by decide +kernel), (by decide +kernel)⟩, mT0_tbl (i := 320) (by decide +kernel) (by decide +kernel), mT0_tbl (i := 321) (by decide +kernel) (by decide +kernel)⟩
theorem pnX6_passWinter : plainName mX6_passWinter.1.cls = true := (by decide +kernel)
theorem mdX6_winterOf : mMv mX6_winterOf 1 := ⟨⟨mT0_tbl (i := 337) (by decide +kernel) (by decide +kernel), mT0_tbl (i := 3) (by decide +kernel) (by decide +kernel), (by decide +kernel), (by decide +kernel)⟩, mT0_tbl (i := 336) (by decide +kernel) (by decide +kernel), mT0_prv (i := 0) (by decide +kernel) (by decide +kernel)⟩
theorem pnX6_winterOf : plainName mX6_winterOf.1.cls = true := (by decide +kernel)
theorem mdX6_floodFrom : mMv mX6_floodFrom 1 := ⟨⟨mT0_tbl (i := 341) (by decide +kernel) (by decide +kernel), mT0_tbl (i := 3) (by decide +kernel) (by decide +kernel), (by decide +kernel), (by decide +kernel)⟩, mT0_tbl (i := 340) (by decide +kernel) (by decide +kernel), mT0_prv (i := 1) (by decide +kernel) (by decide +kernel)⟩
theorem pnX6_floodFrom : plainName mX6_floodFrom.1.cls = true := (by decide +kernel)
theorem mdX6_hangIn : mMv mX6_hangIn 2 := ⟨⟨mT0_tbl (i := 370) (by decide +kernel) (by decide +kernel), mT0_tbl (i := 3) (by decide +kernel) (by decide +kernel), (by decide +kernel), (by decide +kernel)⟩, mT0_tbl (i := 368) (by decide +kernel) (by decide +kernel), mT0_tbl (i := 369) (by decide +kernel) (by decide +kernel)⟩
theorem pnX6_hangIn : plainName mX6_hangIn.1.cls = true := (by decide +kernel)
theorem mdX6_turnAbout : mMv mX6_turnAbout 1 := ⟨⟨mT0_tbl (i := 378) (by decide +kernel) (by decide +kernel), mT0_tbl (i := 3) (by decide +kernel) (by decide +kernel), (by decide +kernel), (by decide +kernel)⟩, mT0_tbl (i := 376) (by decide +kernel) (by decide +kernel), mT0_tbl (i := 377) (by decide +kernel) (by decide +kernel)⟩
theorem pnX6_turnAbout : plainName mX6_turnAbout.1.cls = true := (by decide +kernel)
theorem mdX6_snipEnd : mMv mX6_snipEnd 1 := ⟨⟨mT0_tbl (i := 390) (by decide +kernel) (by decide +kernel), mT0_tbl (i := 3) (by decide +kernel) (by decide +kernel), (by decide +kernel), (by decide +kernel)⟩, mT0_tbl (i := 388) (by decide +kernel) (by decide +kernel), mT0_tbl (i := 389) (by decide +kernel) (by decide +kernel)⟩
theorem pnX6_snipEnd : plainName mX6_snipEnd.1.cls = true := (by decide +kernel)
theorem mdX6_joinTo : mMv mX6_joinTo 2 := ⟨⟨mT0_tbl (i := 398) (by decide +kernel) (by decide +kernel), mT0_tbl (i := 3) (by decide +kernel) (by decide +kernel), (by decide +kernel), (by decide +kernel)⟩, mT0_tbl (i := 396) (by decide +kernel) (by decide +kernel), mT0_tbl (i := 397) (by decide +kernel) (by decide +kernel)⟩
theorem pnX6_joinTo : plainName mX6_joinTo.1.cls = true := (by decide +kernel)
theorem mdX7_init : mMi mX7_init 0 := ⟨⟨mT0_tbl (i := 16) (by decide +kernel) (by decide +kernel), mT0_tbl (i := 1) (by decide +kernel) (by decide +kernel), (by decide +kernel), (by decide +kernel)⟩, mT0_tbl (i := 15) (by decide +kernel) (by decide +kernel), rfl, rfl⟩
theorem pnX7_init : plainName mX7_init.1.cls = true := (by decide +kernel)
theorem mdX7_write : mMv mX7_write 1 := ⟨⟨mT0_tbl (i := 195) (by decide +kernel) (by decide +kernel), mT0_tbl (i := 1) (by decide +kernel) (by decide +kernel), (by decide +kernel), (by decide +kernel)⟩, mT0_tbl (i := 193) (by decide +kernel) (by decide +kernel), mT0_tbl (i := 194) (by decide +kernel) (by decide +kernel)⟩
theorem pnX7_write : plainName mX7_write.1.cls = true := (by decide +kernel)
theorem mdX7_wipe : mMv mX7_wipe 0 := ⟨⟨mT0_tbl (i := 203) (by decide +kernel) (by decide +kernel), mT0_tbl (i := 1) (by decide +kernel) (by decide +kernel), (by decide +kernel), (by decide +kernel)⟩, mT0_tbl (i := 201) (by decide +kernel) (by decide +kernel), mT0_tbl (i := 202) (by decide +kernel) (by decide +kernel)⟩
theorem pnX7_wipe : plainName mX7_wipe.1.cls = true := (by decide +kernel)
theorem mdX7_fault : mMv mX7_fault 0 := ⟨⟨mT0_tbl (i := 211) (by decide +kernel) (by decide +kernel), mT0_tbl (i := 1) (by decide +kernel) (by decide +kernel), (by decide +kernel), (by decide +kernel)⟩, mT0_tbl (i := 209) (by decide +kernel) (by decide +kernel), mT0_tbl (i := 210) (by decide +kernel) (by decide +kernel)⟩
theorem pnX7_fault : plainName mX7_fault.1.cls = true := (by decide +kernel)
theorem mdX7_valley : mMv mX7_valley 0 := ⟨⟨mT0_tbl (i := 228) (by decide +kernel) (by decide +kernel), mT0_tbl (i := 1) (by decide +kernel) (by decide +kernel), (by decide +kernel), (by decide +kernel)⟩, mT0_tbl (i := 226) (by decide +kernel) (by decide +kernel), mT0_tbl (i := 227) (by decide +kernel) (by decide +kernel)⟩
theorem pnX7_valley : plainName mX7_valley.1.cls = true := (by decide +kernel)
theorem mdX7_bed : mMv mX7_bed 2 := ⟨⟨mT0_tbl (i := 264) (by decide +kernel) (by decide +kernel), mT0_tbl (i := 1) (by decide +kernel) (by decide +kernel), (by decide +kernel), (by decide +kernel)⟩, mT0_tbl (i := 262) (by decide +kernel) (by decide +kernel), mT0_tbl (i := 263) (by decide +kernel) (by decide +kernel)⟩
theorem pnX7_bed : plainName mX7_bed.1.cls = true := (by decide +kernel)
theorem mdX7_strand : mMv mX7_strand 2 := ⟨⟨mT0_tbl (i := 281) (by decide +kernel) (by decide +kernel), mT0_tbl (i := 1) (by decide +kernel) (by decide +kernel), (by decide +kernel), (by decide +kernel)⟩, mT0_tbl (i := 279) (by decide +kernel) (by decide +kernel), mT0_tbl (i := 280) (by decide +kernel) (by decide +kernel)⟩
theorem pnX7_strand : plainName mX7_strand.1.cls = true := (by decide +kernel)
theorem mdX7_bends : mMv mX7_bends 1 := ⟨⟨mT0_tbl (i := 297) (by decide +kernel) (by decide +kernel), mT0_tbl (i := 1) (by decide +kernel) (by decide +kernel), (by decide +kernel), (by decide +kernel)⟩, mT0_tbl (i := 295) (by decide +kernel) (by decide +kernel), mT0_tbl (i := 296) (by decide +kernel) (by decide +kernel)⟩
theorem pnX7_bends : plainName mX7_bends.1.cls = true := (by decide +kernel)
theorem mdX7_isRowOfBends : mMs mX7_isRowOfBends 2 := ⟨⟨mT0_tbl (i := 267) (by decide +kernel) (by decide +kernel), mT0_tbl (i := 1) (by decide +kernel) (by decide +kernel), (by decide +kernel), (by decide +kernel)⟩, mT0_tbl (i := 266) (by decide +kernel) (by decide +kernel)⟩
theorem pnX7_isRowOfBends : plainName mX7_isRowOfBends.1.cls = true := (by decide +kernel)
theorem mdX7_winter : mMv mX7_winter 0 := ⟨⟨mT0_tbl (i := 306) (by decide +kernel) (by decide +kernel), mT0_tbl (i := 1) (by decide +kernel) (by decide +kernel), (by decide +kernel), (by decide +kernel)⟩, mT0_tbl (i := 304) (by decide +kernel) (by decide +kernel), mT0_tbl (i := 305) (by decide +kernel) (by decide +kernel)⟩
theorem pnX7_winter : plainName mX7_winter.1.cls = true := (by decide +kernel)
theorem mdX7_hang : mMv mX7_hang 2 := ⟨⟨mT0_tbl (i := 366) (by decide +kernel) (by decide +kernel), mT0_tbl (i := 1) (by decide +kernel) (by decide +kernel), (by decide +kernel), (by decide +kernel)⟩, mT0_tbl (i := 364) (by decide +kernel) (by decide +kernel), mT0_tbl (i := 365) (by decide +kernel) (by decide +kernel)⟩
theorem pnX7_hang : plainName mX7_hang.1.cls = true := (by decide +kernel)
theorem mdX7_turn : mMv mX7_turn 1 := ⟨⟨mT0_tbl (i := 374) (by decide +kernel) (by decide +kernel), mT0_tbl (i := 1) (by decide +kernel) (by decide +kernel), (by decide +kernel), (by decide +kernel)⟩, mT0_tbl (i := 372) (by decide +kernel) (by decide +kernel), mT0_tbl (i := 373) (by decide +kernel) (by decide +kernel)⟩
theorem pnX7_turn : plainName mX7_turn.1.cls = true := (by decide +kernel)
theorem mdX7_snip : mMv mX7_snip 1 := ⟨⟨mT0_tbl (i := 386) (by decide +kernel) (by decide +kernel), mT0_tbl (i := 1) (by decide +kernel) (by decide +kernel), (by decide +kernel), (by decide +kernel)⟩, mT0_tbl (i := 384) (by decide +kernel) (by decide +kernel), mT0_tbl (i := 385) (by decide +kernel) (by decide +kernel)⟩
theorem pnX7_snip : plainName mX7_snip.1.cls = true := (by decide +kernel)
theorem mdX7_join : mMv mX7_join 2 := ⟨⟨mT0_tbl (i := 394) (by decide +kernel) (by decide +kernel), mT0_tbl (i := 1) (by decide +kernel) (by decide +kernel), (by decide +kernel), (by decide +kernel)⟩, mT0_tbl (i := 392) (by decide +kernel) (by decide +kernel), mT0_tbl (i := 393) (by decide +kernel) (by decide +kernel)⟩
theorem pnX7_join : plainName mX7_join.1.cls = true := (by decide +kernel)
theorem mdX7_undo : mMv mX7_undo 0 := ⟨⟨mT0_tbl (i := 416) (by decide +kernel) (by decide +kernel), mT0_tbl (i := 1) (by decide +kernel) (by decide +kernel), (by decide +kernel), (by decide +kernel)⟩, mT0_tbl (i := 414) (by decide +kernel) (by decide +kernel), mT0_tbl (i := 415) (by decide +kernel) (by decide +kernel)⟩
theorem pnX7_undo : plainName mX7_undo.1.cls = true := (by decide +kernel)
theorem mdX7_take : mMv mX7_take 1 := ⟨⟨mT0_tbl (i := 357) (by decide +kernel) (by decide +kernel), mT0_tbl (i := 1) (by decide +kernel) (by decide +kernel), (by decide +kernel), (by decide +kernel)⟩, mT0_tbl (i := 356) (by decide +kernel) (by decide +kernel), mT0_prv (i := 3) (by decide +kernel) (by decide +kernel)⟩
theorem pnX7_take : plainName mX7_take.1.cls = true := (by decide +kernel)
theorem mdX7_later : mMv mX7_later 2 := ⟨⟨mT0_tbl (i := 424) (by decide +kernel) (by decide +kernel), mT0_tbl (i := 1) (by decide +kernel) (by decide +kernel), (by decide +kernel), (by decide +kernel)⟩, mT0_tbl (i := 422) (by decide +kernel) (by decide +kernel), mT0_tbl (i := 423) (by decide +kernel) (by decide +kernel)⟩
theorem pnX7_later : plainName mX7_later.1.cls = true := (by decide +kernel)
theorem mdX7_lasts : mMv mX7_lasts 1 := ⟨⟨mT0_tbl (i := 428) (by decide +kernel) (by decide +kernel), mT0_tbl (i := 1) (by decide +kernel) (by decide +kernel), (by decide +kernel), (by decide +kernel)⟩, mT0_tbl (i := 426) (by decide +kernel) (by decide +kernel), mT0_tbl (i := 427) (by decide +kernel) (by decide +kernel)⟩
theorem pnX7_lasts : plainName mX7_lasts.1.cls = true := (by decide +kernel)
theorem mdX7_overlap : mMv mX7_overlap 2 := ⟨⟨mT0_tbl (i := 432) (by decide +kernel) (by decide +kernel), mT0_tbl (i := 1) (by decide +kernel) (by decide +kernel), (by decide +kernel), (by decide +kernel)⟩, mT0_tbl (i := 430) (by decide +kernel) (by decide +kernel), mT0_tbl (i := 431) (by decide +kernel) (by decide +kernel)⟩
theorem pnX7_overlap : plainName mX7_overlap.1.cls = true := (by decide +kernel)
theorem mdX7_river : mMv mX7_river 1 := ⟨⟨mT0_tbl (i := 437) (by decide +kernel) (by decide +kernel), mT0_tbl (i := 1) (by decide +kernel) (by decide +kernel), (by decide +kernel), (by decide +kernel)⟩, mT0_tbl (i := 435) (by decide +kernel) (by decide +kernel), mT0_tbl (i := 436) (by decide +kernel) (by decide +kernel)⟩
theorem pnX7_river : plainName mX7_river.1.cls = true := (by decide +kernel)
theorem mdX7_isOrder : mMv mX7_isOrder 2 := ⟨⟨mT0_tbl (i := 443) (by decide +kernel) (by decide +kernel), mT0_tbl (i := 1) (by decide +kernel) (by decide +kernel), (by decide +kernel), (by decide +kernel)⟩, mT0_tbl (i := 442) (by decide +kernel) (by decide +kernel), mT0_prv (i := 5) (by decide +kernel) (by decide +kernel)⟩
theorem pnX7_isOrder : plainName mX7_isOrder.1.cls = true := (by decide +kernel)
theorem mdX7_flow : mMv mX7_flow 2 := ⟨⟨mT0_tbl (i := 450) (by decide +kernel) (by decide +kernel), mT0_tbl (i := 1) (by decide +kernel) (by decide +kernel), (by decide +kernel), (by decide +kernel)⟩, mT0_tbl (i := 449) (by decide +kernel) (by decide +kernel), mT0_prv (i := 6) (by decide +kernel) (by decide +kernel)⟩
theorem pnX7_flow : plainName mX7_flow.1.cls = true := (by decide +kernel)
theorem mdX7_figureOf : mMs mX7_figureOf 3 := ⟨⟨mT0_tbl (i := 446) (by decide +kernel) (by decide +kernel), mT0_tbl (i := 1) (by decide +kernel) (by decide +kernel), (by decide +kernel), (by decide +kernel)⟩, mT0_tbl (i := 445) (by decide +kernel) (by decide +kernel)⟩
theorem pnX7_figureOf : plainName mX7_figureOf.1.cls = true := (by decide +kernel)
theorem mdX7_covered : mMv mX7_covered 0 := ⟨⟨mT0_tbl (i := 456) (by decide +kernel) (by decide +kernel), mT0_tbl (i := 1) (by decide +kernel) (by decide +kernel), (by decide +kernel), (by decide +kernel)⟩, mT0_tbl (i := 454) (by decide +kernel) (by decide +kernel), mT0_tbl (i := 455) (by decide +kernel) (by decide +kernel)⟩
theorem pnX7_covered : plainName mX7_covered.1.cls = true := (by decide +kernel)
theorem mdX7_findCovers : mMv mX7_findCovers 0 := ⟨⟨mT0_tbl (i := 460) (by decide +kernel) (by decide +kernel), mT0_tbl (i := 1) (by decide +kernel) (by decide +kernel), (by decide +kernel), (by decide +kernel)⟩, mT0_tbl (i := 459) (by decide +kernel) (by decide +kernel), mT0_prv (i := 7) (by decide +kernel) (by decide +kernel)⟩
theorem pnX7_findCovers : plainName mX7_findCovers.1.cls = true := (by decide +kernel)
theorem mdX7_wholeBed : mMv mX7_wholeBed 0 := ⟨⟨mT0_tbl (i := 567) (by decide +kernel) (by decide +kernel), mT0_tbl (i := 1) (by decide +kernel) (by decide +kernel), (by decide +kernel), (by decide +kernel)⟩, mT0_tbl (i := 566) (by decide +kernel) (by decide +kernel), mT0_prv (i := 15) (by decide +kernel) (by decide +kernel)⟩
theorem pnX7_wholeBed : plainName mX7_wholeBed.1.cls = true := (by decide +kernel)
theorem mdX7_ways : mMv mX7_ways 0 := ⟨⟨mT0_tbl (i := 472) (by decide +kernel) (by decide +kernel), mT0_tbl (i := 1) (by decide +kernel) (by decide +kernel), (by decide +kernel), (by decide +kernel)⟩, mT0_tbl (i := 470) (by decide +kernel) (by decide +kernel), mT0_tbl (i := 471) (by decide +kernel) (by decide +kernel)⟩
theorem pnX7_ways : plainName mX7_ways.1.cls = true := (by decide +kernel)
theorem mdX7_waysFrom : mMs mX7_waysFrom 4 := ⟨⟨mT0_tbl (i := 475) (by decide +kernel) (by decide +kernel), mT0_tbl (i := 1) (by decide +kernel) (by decide +kernel), (by decide +kernel), (by decide +kernel)⟩, mT0_tbl (i := 474) (by decide +kernel) (by decide +kernel)⟩
theorem pnX7_waysFrom : plainName mX7_waysFrom.1.cls = true := (by decide +kernel)
theorem mdX7_judge : mMv mX7_judge 2 := ⟨⟨mT0_tbl (i := 486) (by decide +kernel) (by decide +kernel), mT0_tbl (i := 1) (by decide +kernel) (by decide +kernel), (by decide +kernel), (by decide +kernel)⟩, mT0_tbl (i := 484) (by decide +kernel) (by decide +kernel), mT0_tbl (i := 485) (by decide +kernel) (by decide +kernel)⟩
theorem pnX7_judge : plainName mX7_judge.1.cls = true := (by decide +kernel)
theorem mdX7_canBe : mMv mX7_canBe 1 := ⟨⟨mT0_tbl (i := 494) (by decide +kernel) (by decide +kernel), mT0_tbl (i := 1) (by decide +kernel) (by decide +kernel), (by decide +kernel), (by decide +kernel)⟩, mT0_tbl (i := 493) (by decide +kernel) (by decide +kernel), mT0_prv (i := 8) (by decide +kernel) (by decide +kernel)⟩
theorem pnX7_canBe : plainName mX7_canBe.1.cls = true := (by decide +kernel)
theorem mdX7_lay : mMv mX7_lay 2 := ⟨⟨mT0_tbl (i := 498) (by decide +kernel) (by decide +kernel), mT0_tbl (i := 1) (by decide +kernel) (by decide +kernel), (by decide +kernel), (by decide +kernel)⟩, mT0_tbl (i := 496) (by decide +kernel) (by decide +kernel), mT0_tbl (i := 497) (by decide +kernel) (by decide +kernel)⟩
theorem pnX7_lay : plainName mX7_lay.1.cls = true := (by decide +kernel)
theorem mdX7_unlay : mMv mX7_unlay 0 := ⟨⟨mT0_tbl (i := 506) (by decide +kernel) (by decide +kernel), mT0_tbl (i := 1) (by decide +kernel) (by decide +kernel), (by decide +kernel), (by decide +kernel)⟩, mT0_tbl (i := 504) (by decide +kernel) (by decide +kernel), mT0_tbl (i := 505) (by decide +kernel) (by decide +kernel)⟩
theorem pnX7_unlay : plainName mX7_unlay.1.cls = true := (by decide +kernel)
theorem mdX7_which : mMv mX7_which 1 := ⟨⟨mT0_tbl (i := 514) (by decide +kernel) (by decide +kernel), mT0_tbl (i := 1) (by decide +kernel) (by decide +kernel), (by decide +kernel), (by decide +kernel)⟩, mT0_tbl (i := 512) (by decide +kernel) (by decide +kernel), mT0_tbl (i := 513) (by decide +kernel) (by decide +kernel)⟩
theorem pnX7_which : plainName mX7_which.1.cls = true := (by decide +kernel)
theorem mdX7_guessRow : mMv mX7_guessRow 2 := ⟨⟨mT0_tbl (i := 518) (by decide +kernel) (by decide +kernel), mT0_tbl (i := 1) (by decide +kernel) (by decide +kernel), (by decide +kernel), (by decide +kernel)⟩, mT0_tbl (i := 517) (by decide +kernel) (by decide +kernel), mT0_prv (i := 9) (by decide +kernel) (by decide +kernel)⟩
theorem pnX7_guessRow : plainName mX7_guessRow.1.cls = true := (by decide +kernel)
theorem mdX7_share : mMv mX7_share 2 := ⟨⟨mT0_tbl (i := 528) (by decide +kernel) (by decide +kernel), mT0_tbl (i := 1) (by decide +kernel) (by decide +kernel), (by decide +kernel), (by decide +kernel)⟩, mT0_tbl (i := 526) (by decide +kernel) (by decide +kernel), mT0_tbl (i := 527) (by decide +kernel) (by decide +kernel)⟩
theorem pnX7_share : plainName mX7_share.1.cls = true := (by decide +kernel)
theorem mdX7_coversOn : mMv mX7_coversOn 1 := ⟨⟨mT0_tbl (i := 532) (by decide +kernel) (by decide +kernel), mT0_tbl (i := 1) (by decide +kernel) (by decide +kernel), (by decide +kernel), (by decide +kernel)⟩, mT0_tbl (i := 531) (by decide +kernel) (by decide +kernel), mT0_prv (i := 10) (by decide +kernel) (by decide +kernel)⟩
theorem pnX7_coversOn : plainName mX7_coversOn.1.cls = true := (by decide +kernel)
theorem mdX7_rests : mMv mX7_rests 3 := ⟨⟨mT0_tbl (i := 543) (by decide +kernel) (by decide +kernel), mT0_tbl (i := 1) (by decide +kernel) (by decide +kernel), (by decide +kernel), (by decide +kernel)⟩, mT0_tbl (i := 541) (by decide +kernel) (by decide +kernel), mT0_tbl (i := 542) (by decide +kernel) (by decide +kernel)⟩
theorem pnX7_rests : plainName mX7_rests.1.cls = true := (by decide +kernel)
theorem mdX7_findGains : mMv mX7_findGains 2 := ⟨⟨mT0_tbl (i := 547) (by decide +kernel) (by decide +kernel), mT0_tbl (i := 1) (by decide +kernel) (by decide +kernel), (by decide +kernel), (by decide +kernel)⟩, mT0_tbl (i := 546) (by decide +kernel) (by decide +kernel), mT0_prv (i := 11) (by decide +kernel) (by decide +kernel)⟩
theorem pnX7_findGains : plainName mX7_findGains.1.cls = true := (by decide +kernel)
theorem mdX7_gainOf : mMv mX7_gainOf 1 := ⟨⟨mT0_tbl (i := 551) (by decide +kernel) (by decide +kernel), mT0_tbl (i := 1) (by decide +kernel) (by decide +kernel), (by decide +kernel), (by decide +kernel)⟩, mT0_tbl (i := 550) (by decide +kernel) (by decide +kernel), mT0_prv (i := 12) (by decide +kernel) (by decide +kernel)⟩
theorem pnX7_gainOf : plainName mX7_gainOf.1.cls = true := (by decide +kernel)
theorem mdX7_isRest : mMv mX7_isRest 1 := ⟨⟨mT0_tbl (i := 555) (by decide +kernel) (by decide +kernel), mT0_tbl (i := 1) (by decide +kernel) (by decide +kernel), (by decide +kernel), (by decide +kernel)⟩, mT0_tbl (i := 554) (by decide +kernel) (by decide +kernel), mT0_prv (i := 13) (by decide +kernel) (by decide +kernel)⟩
theorem pnX7_isRest : plainName mX7_isRest.1.cls = true := (by decide +kernel)
theorem mdX7_lost : mMv mX7_lost 2 := ⟨⟨mT0_tbl (i := 559) (by decide +kernel) (by decide +kernel), mT0_tbl (i := 1) (by decide +kernel) (by decide +kernel), (by decide +kernel), (by decide +kernel)⟩, mT0_tbl (i := 557) (by decide +kernel) (by decide +kernel), mT0_tbl (i := 558) (by decide +kernel) (by decide +kernel)⟩
theorem pnX7_lost : plainName mX7_lost.1.cls = true := (by decide +kernel)
theorem mdX7_coveredBy : mMv mX7_coveredBy 1 := ⟨⟨mT0_tbl (i := 563) (by decide +kernel) (by decide +kernel), mT0_tbl (i := 1) (by decide +kernel) (by decide +kernel), (by decide +kernel), (by decide +kernel)⟩, mT0_tbl (i := 562) (by decide +kernel) (by decide +kernel), mT0_prv (i := 14) (by decide +kernel) (by decide +kernel)⟩
theorem pnX7_coveredBy : plainName mX7_coveredBy.1.cls = true := (by decide +kernel)
theorem mdX7_chanceOf : mMs mX7_chanceOf 3 := ⟨⟨mT0_tbl (i := 570) (by decide +kernel) (by decide +kernel), mT0_tbl (i := 1) (by decide +kernel) (by decide +kernel), (by decide +kernel), (by decide +kernel)⟩, mT0_tbl (i := 569) (by decide +kernel) (by decide +kernel)⟩
theorem pnX7_chanceOf : plainName mX7_chanceOf.1.cls = true := (by decide +kernel)
theorem mdX7_partOfFraction : mMs mX7_partOfFraction 3 := ⟨⟨mT0_tbl (i := 536) (by decide +kernel) (by decide +kernel), mT0_tbl (i := 1) (by decide +kernel) (by decide +kernel), (by decide +kernel), (by decide +kernel)⟩, mT0_tbl (i := 535) (by decide +kernel) (by decide +kernel)⟩
theorem pnX7_partOfFraction : plainName mX7_partOfFraction.1.cls = true := (by decide +kernel)
theorem mdX7_commonDivisor : mMs mX7_commonDivisor 2 := ⟨⟨mT0_tbl (i := 539) (by decide +kernel) (by decide +kernel), mT0_tbl (i := 1) (by decide +kernel) (by decide +kernel), (by decide +kernel), (by decide +kernel)⟩, mT0_tbl (i := 538) (by decide +kernel) (by decide +kernel)⟩
theorem pnX7_commonDivisor : plainName mX7_commonDivisor.1.cls = true := (by decide +kernel)
theorem mdX7_seed : mMv mX7_seed 1 := ⟨⟨mT0_tbl (i := 574) (by decide +kernel) (by decide +kernel), mT0_tbl (i := 1) (by decide +kernel) (by decide +kernel), (by decide +kernel), (by decide +kernel)⟩, mT0_tbl (i := 572) (by decide +kernel) (by decide +kernel), mT0_tbl (i := 573) (by decide +kernel) (by decide +kernel)⟩
theorem pnX7_seed : plainName mX7_seed.1.cls = true := (by decide +kernel)
theorem mdX7_years : mMv mX7_years 1 := ⟨⟨mT0_tbl (i := 578) (by decide +kernel) (by decide +kernel), mT0_tbl (i := 1) (by decide +kernel) (by decide +kernel), (by decide +kernel), (by decide +kernel)⟩, mT0_tbl (i := 576) (by decide +kernel) (by decide +kernel), mT0_tbl (i := 577) (by decide +kernel) (by decide +kernel)⟩
theorem pnX7_years : plainName mX7_years.1.cls = true := (by decide +kernel)
theorem mdX7_doByChance : mMv mX7_doByChance 1 := ⟨⟨mT0_tbl (i := 584) (by decide +kernel) (by decide +kernel), mT0_tbl (i := 1) (by decide +kernel) (by decide +kernel), (by decide +kernel), (by decide +kernel)⟩, mT0_tbl (i := 583) (by decide +kernel) (by decide +kernel), mT0_prv (i := 16) (by decide +kernel) (by decide +kernel)⟩
theorem pnX7_doByChance : plainName mX7_doByChance.1.cls = true := (by decide +kernel)
theorem mdX7_keep : mMv mX7_keep 1 := ⟨⟨mT0_tbl (i := 588) (by decide +kernel) (by decide +kernel), mT0_tbl (i := 1) (by decide +kernel) (by decide +kernel), (by decide +kernel), (by decide +kernel)⟩, mT0_tbl (i := 586) (by decide +kernel) (by decide +kernel), mT0_tbl (i := 587) (by decide +kernel) (by decide +kernel)⟩
theorem pnX7_keep : plainName mX7_keep.1.cls = true := (by decide +kernel)
theorem mdX7_again : mMv mX7_again 1 := ⟨⟨mT0_tbl (i := 597) (by decide +kernel) (by decide +kernel), mT0_tbl (i := 1) (by decide +kernel) (by decide +kernel), (by decide +kernel), (by decide +kernel)⟩, mT0_tbl (i := 595) (by decide +kernel) (by decide +kernel), mT0_tbl (i := 596) (by decide +kernel) (by decide +kernel)⟩
theorem pnX7_again : plainName mX7_again.1.cls = true := (by decide +kernel)
theorem mdX7_count : mMv mX7_count 1 := ⟨⟨mT0_tbl (i := 605) (by decide +kernel) (by decide +kernel), mT0_tbl (i := 1) (by decide +kernel) (by decide +kernel), (by decide +kernel), (by decide +kernel)⟩, mT0_tbl (i := 603) (by decide +kernel) (by decide +kernel), mT0_tbl (i := 604) (by decide +kernel) (by decide +kernel)⟩
theorem pnX7_count : plainName mX7_count.1.cls = true := (by decide +kernel)
theorem mdX8_init : mMi mX8_init 0 := ⟨⟨mT0_tbl (i := 614) (by decide +kernel) (by decide +kernel), mT0_tbl (i := 10) (by decide +kernel) (by decide +kernel), (by decide +kernel), (by decide +kernel)⟩, mT0_tbl (i := 613) (by decide +kernel) (by decide +kernel), rfl, rfl⟩
theorem pnX8_init : plainName mX8_init.1.cls = true := (by decide +kernel)
theorem mdX8_in : mMs mX8_in 3 := ⟨⟨mT0_tbl (i := 696) (by decide +kernel) (by decide +kernel), mT0_tbl (i := 10) (by decide +kernel) (by decide +kernel), (by decide +kernel), (by decide +kernel)⟩, mT0_tbl (i := 695) (by decide +kernel) (by decide +kernel)⟩
theorem pnX8_in : plainName mX8_in.1.cls = true := (by decide +kernel)
theorem mdX8_has : mMs mX8_has 2 := ⟨⟨mT0_tbl (i := 788) (by decide +kernel) (by decide +kernel), mT0_tbl (i := 10) (by decide +kernel) (by decide +kernel), (by decide +kernel), (by decide +kernel)⟩, mT0_tbl (i := 787) (by decide +kernel) (by decide +kernel)⟩
theorem pnX8_has : plainName mX8_has.1.cls = true := (by decide +kernel)
theorem mdX8_ones : mMs mX8_ones 1 := ⟨⟨mT0_tbl (i := 799) (by decide +kernel) (by decide +kernel), mT0_tbl (i := 10) (by decide +kernel) (by decide +kernel), (by decide +kernel), (by decide +kernel)⟩, mT0_tbl (i := 798) (by decide +kernel) (by decide +kernel)⟩
theorem pnX8_ones : plainName mX8_ones.1.cls = true := (by decide +kernel)
theorem mdX8_write : mMv mX8_write 1 := ⟨⟨mT0_tbl (i := 692) (by decide +kernel) (by decide +kernel), mT0_tbl (i := 10) (by decide +kernel) (by decide +kernel), (by decide +kernel), (by decide +kernel)⟩, mT0_tbl (i := 690) (by decide +kernel) (by decide +kernel), mT0_tbl (i := 691) (by decide +kernel) (by decide +kernel)⟩
theorem pnX8_write : plainName mX8_write.1.cls = true := (by decide +kernel)
theorem mdX8_wipe : mMv mX8_wipe 0 := ⟨⟨mT0_tbl (i := 700) (by decide +kernel) (by decide +kernel), mT0_tbl (i := 10) (by decide +kernel) (by decide +kernel), (by decide +kernel), (by decide +kernel)⟩, mT0_tbl (i := 698) (by decide +kernel) (by decide +kernel), mT0_tbl (i := 699) (by decide +kernel) (by decide +kernel)⟩
theorem pnX8_wipe : plainName mX8_wipe.1.cls = true := (by decide +kernel)
theorem mdX8_nextOf : mMv mX8_nextOf 2 := ⟨⟨mT0_tbl (i := 716) (by decide +kernel) (by decide +kernel), mT0_tbl (i := 10) (by decide +kernel) (by decide +kernel), (by decide +kernel), (by decide +kernel)⟩, mT0_tbl (i := 715) (by decide +kernel) (by decide +kernel), mT0_prv (i := 19) (by decide +kernel) (by decide +kernel)⟩
theorem pnX8_nextOf : plainName mX8_nextOf.1.cls = true := (by decide +kernel)
theorem mdX8_isBend : mMv mX8_isBend 0 := ⟨⟨mT0_tbl (i := 720) (by decide +kernel) (by decide +kernel), mT0_tbl (i := 10) (by decide +kernel) (by decide +kernel), (by decide +kernel), (by decide +kernel)⟩, mT0_tbl (i := 719) (by decide +kernel) (by decide +kernel), mT0_prv (i := 20) (by decide +kernel) (by decide +kernel)⟩
theorem pnX8_isBend : plainName mX8_isBend.1.cls = true := (by decide +kernel)
theorem mdX8_readText : mMv mX8_readText 0 := ⟨⟨mT0_tbl (i := 708) (by decide +kernel) (by decide +kernel), mT0_tbl (i := 10) (by decide +kernel) (by decide +kernel), (by decide +kernel), (by decide +kernel)⟩, mT0_tbl (i := 707) (by decide +kernel) (by decide +kernel), mT0_prv (i := 17) (by decide +kernel) (by decide +kernel)⟩
theorem pnX8_readText : plainName mX8_readText.1.cls = true := (by decide +kernel)
theorem mdX8_readPart : mMv mX8_readPart 1 := ⟨⟨mT0_tbl (i := 712) (by decide +kernel) (by decide +kernel), mT0_tbl (i := 10) (by decide +kernel) (by decide +kernel), (by decide +kernel), (by decide +kernel)⟩, mT0_tbl (i := 711) (by decide +kernel) (by decide +kernel), mT0_prv (i := 18) (by decide +kernel) (by decide +kernel)⟩
theorem pnX8_readPart : plainName mX8_readPart.1.cls = true := (by decide +kernel)
theorem mdX8_fault : mMv mX8_fault 0 := ⟨⟨mT0_tbl (i := 704) (by decide +kernel) (by decide +kernel), mT0_tbl (i := 10) (by decide +kernel) (by decide +kernel), (by decide +kernel), (by decide +kernel)⟩, mT0_tbl (i := 702) (by decide +kernel) (by decide +kernel), mT0_tbl (i := 703) (by decide +kernel) (by decide +kernel)⟩
theorem pnX8_fault : plainName mX8_fault.1.cls = true := (by decide +kernel)
theorem mdX8_valley : mMv mX8_valley 0 := ⟨⟨mT0_tbl (i := 726) (by decide +kernel) (by decide +kernel), mT0_tbl (i := 10) (by decide +kernel) (by decide +kernel), (by decide +kernel), (by decide +kernel)⟩, mT0_tbl (i := 724) (by decide +kernel) (by decide +kernel), mT0_tbl (i := 725) (by decide +kernel) (by decide +kernel)⟩
theorem pnX8_valley : plainName mX8_valley.1.cls = true := (by decide +kernel)
theorem mdX8_isThere : mMv mX8_isThere 2 := ⟨⟨mT0_tbl (i := 744) (by decide +kernel) (by decide +kernel), mT0_tbl (i := 10) (by decide +kernel) (by decide +kernel), (by decide +kernel), (by decide +kernel)⟩, mT0_tbl (i := 743) (by decide +kernel) (by decide +kernel), mT0_prv (i := 21) (by decide +kernel) (by decide +kernel)⟩
theorem pnX8_isThere : plainName mX8_isThere.1.cls = true := (by decide +kernel)
theorem mdX8_bendAt : mMv mX8_bendAt 3 := ⟨⟨mT0_tbl (i := 756) (by decide +kernel) (by decide +kernel), mT0_tbl (i := 10) (by decide +kernel) (by decide +kernel), (by decide +kernel), (by decide +kernel)⟩, mT0_tbl (i := 755) (by decide +kernel) (by decide +kernel), mT0_prv (i := 24) (by decide +kernel) (by decide +kernel)⟩
theorem pnX8_bendAt : plainName mX8_bendAt.1.cls = true := (by decide +kernel)
theorem mdX8_loseLast : mMv mX8_loseLast 2 := ⟨⟨mT0_tbl (i := 796) (by decide +kernel) (by decide +kernel), mT0_tbl (i := 10) (by decide +kernel) (by decide +kernel), (by decide +kernel), (by decide +kernel)⟩, mT0_tbl (i := 795) (by decide +kernel) (by decide +kernel), mT0_prv (i := 31) (by decide +kernel) (by decide +kernel)⟩
theorem pnX8_loseLast : plainName mX8_loseLast.1.cls = true := (by decide +kernel)
theorem mdX8_loseFirst : mMv mX8_loseFirst 2 := ⟨⟨mT0_tbl (i := 792) (by decide +kernel) (by decide +kernel), mT0_tbl (i := 10) (by decide +kernel) (by decide +kernel), (by decide +kernel), (by decide +kernel)⟩, mT0_tbl (i := 791) (by decide +kernel) (by decide +kernel), mT0_prv (i := 30) (by decide +kernel) (by decide +kernel)⟩
theorem pnX8_loseFirst : plainName mX8_loseFirst.1.cls = true := (by decide +kernel)
theorem mdX8_inHouse : mMv mX8_inHouse 2 := ⟨⟨mT0_tbl (i := 785) (by decide +kernel) (by decide +kernel), mT0_tbl (i := 10) (by decide +kernel) (by decide +kernel), (by decide +kernel), (by decide +kernel)⟩, mT0_tbl (i := 784) (by decide +kernel) (by decide +kernel), mT0_prv (i := 29) (by decide +kernel) (by decide +kernel)⟩
theorem pnX8_inHouse : plainName mX8_inHouse.1.cls = true := (by decide +kernel)
theorem mdX8_hurt : mMv mX8_hurt 2 := ⟨⟨mT0_tbl (i := 781) (by decide +kernel) (by decide +kernel), mT0_tbl (i := 10) (by decide +kernel) (by decide +kernel), (by decide +kernel), (by decide +kernel)⟩, mT0_tbl (i := 780) (by decide +kernel) (by decide +kernel), mT0_prv (i := 28) (by decide +kernel) (by decide +kernel)⟩
theorem pnX8_hurt : plainName mX8_hurt.1.cls = true := (by decide +kernel)
theorem mdX8_whoIs : mMv mX8_whoIs 1 := ⟨⟨mT0_tbl (i := 777) (by decide +kernel) (by decide +kernel), mT0_tbl (i := 10) (by decide +kernel) (by decide +kernel), (by decide +kernel), (by decide +kernel)⟩, mT0_tbl (i := 776) (by decide +kernel) (by decide +kernel), mT0_prv (i := 27) (by decide +kernel) (by decide +kernel)⟩
theorem pnX8_whoIs : plainName mX8_whoIs.1.cls = true := (by decide +kernel)
theorem mdX8_passOn : mMv mX8_passOn 1 := ⟨⟨mT0_tbl (i := 773) (by decide +kernel) (by decide +kernel), mT0_tbl (i := 10) (by decide +kernel) (by decide +kernel), (by decide +kernel), (by decide +kernel)⟩, mT0_tbl (i := 772) (by decide +kernel) (by decide +kernel), mT0_prv (i := 26) (by decide +kernel) (by decide +kernel)⟩
theorem pnX8_passOn : plainName mX8_passOn.1.cls = true := (by decide +kernel)
theorem mdX8_turnOn : mMv mX8_turnOn 2 := ⟨⟨mT0_tbl (i := 812) (by decide +kernel) (by decide +kernel), mT0_tbl (i := 10) (by decide +kernel) (by decide +kernel), (by decide +kernel), (by decide +kernel)⟩, mT0_tbl (i := 811) (by decide +kernel) (by decide +kernel), mT0_prv (i := 32) (by decide +kernel) (by decide +kernel)⟩
theorem pnX8_turnOn : plainName mX8_turnOn.1.cls = true := (by decide +kernel)
theorem mdX8_overlapOf : mMv mX8_overlapOf 3 := ⟨⟨mT0_tbl (i := 836) (by decide +kernel) (by decide +kernel), mT0_tbl (i := 10) (by decide +kernel) (by decide +kernel), (by decide +kernel), (by decide +kernel)⟩, mT0_tbl (i := 835) (by decide +kernel) (by decide +kernel), mT0_prv (i := 36) (by decide +kernel) (by decide +kernel)⟩
theorem pnX8_overlapOf : plainName mX8_overlapOf.1.cls = true := (by decide +kernel)
theorem mdX8_joinedMany : mMv mX8_joinedMany 3 := ⟨⟨mT0_tbl (i := 832) (by decide +kernel) (by decide +kernel), mT0_tbl (i := 10) (by decide +kernel) (by decide +kernel), (by decide +kernel), (by decide +kernel)⟩, mT0_tbl (i := 831) (by decide +kernel) (by decide +kernel), mT0_prv (i := 35) (by decide +kernel) (by decide +kernel)⟩
theorem pnX8_joinedMany : plainName mX8_joinedMany.1.cls = true := (by decide +kernel)
theorem mdX8_isOneHouse : mMv mX8_isOneHouse 3 := ⟨⟨mT0_tbl (i := 824) (by decide +kernel) (by decide +kernel), mT0_tbl (i := 10) (by decide +kernel) (by decide +kernel), (by decide +kernel), (by decide +kernel)⟩, mT0_tbl (i := 823) (by decide +kernel) (by decide +kernel), mT0_prv (i := 33) (by decide +kernel) (by decide +kernel)⟩
theorem pnX8_isOneHouse : plainName mX8_isOneHouse.1.cls = true := (by decide +kernel)
theorem mdX8_canJoin : mMv mX8_canJoin 3 := ⟨⟨mT0_tbl (i := 828) (by decide +kernel) (by decide +kernel), mT0_tbl (i := 10) (by decide +kernel) (by decide +kernel), (by decide +kernel), (by decide +kernel)⟩, mT0_tbl (i := 827) (by decide +kernel) (by decide +kernel), mT0_prv (i := 34) (by decide +kernel) (by decide +kernel)⟩
theorem pnX8_canJoin : plainName mX8_canJoin.1.cls = true := (by decide +kernel)
theorem mdX8_joinOn : mMv mX8_joinOn 3 := ⟨⟨mT0_tbl (i := 840) (by decide +kernel) (by decide +kernel), mT0_tbl (i := 10) (by decide +kernel) (by decide +kernel), (by decide +kernel), (by decide +kernel)⟩, mT0_tbl (i := 839) (by decide +kernel) (by decide +kernel), mT0_prv (i := 37) (by decide +kernel) (by decide +kernel)⟩
theorem pnX8_joinOn : plainName mX8_joinOn.1.cls = true := (by decide +kernel)
theorem mdX8_tenTo : mMs mX8_tenTo 1 := ⟨⟨mT0_tbl (i := 734) (by decide +kernel) (by decide +kernel), mT0_tbl (i := 10) (by decide +kernel) (by decide +kernel), (by decide +kernel), (by decide +kernel)⟩, mT0_tbl (i := 733) (by decide +kernel) (by decide +kernel)⟩
theorem pnX8_tenTo : plainName mX8_tenTo.1.cls = true := (by decide +kernel)
theorem mdX8_bed : mMv mX8_bed 2 := ⟨⟨mT0_tbl (i := 730) (by decide +kernel) (by decide +kernel), mT0_tbl (i := 10) (by decide +kernel) (by decide +kernel), (by decide +kernel), (by decide +kernel)⟩, mT0_tbl (i := 728) (by decide +kernel) (by decide +kernel), mT0_tbl (i := 729) (by decide +kernel) (by decide +kernel)⟩
theorem pnX8_bed : plainName mX8_bed.1.cls = true := (by decide +kernel)
theorem mdX8_liesAt : mMv mX8_liesAt 3 := ⟨⟨mT0_tbl (i := 752) (by decide +kernel) (by decide +kernel), mT0_tbl (i := 10) (by decide +kernel) (by decide +kernel), (by decide +kernel), (by decide +kernel)⟩, mT0_tbl (i := 751) (by decide +kernel) (by decide +kernel), mT0_prv (i := 23) (by decide +kernel) (by decide +kernel)⟩
theorem pnX8_liesAt : plainName mX8_liesAt.1.cls = true := (by decide +kernel)
theorem mdX8_firstPlace : mMv mX8_firstPlace 2 := ⟨⟨mT0_tbl (i := 748) (by decide +kernel) (by decide +kernel), mT0_tbl (i := 10) (by decide +kernel) (by decide +kernel), (by decide +kernel), (by decide +kernel)⟩, mT0_tbl (i := 747) (by decide +kernel) (by decide +kernel), mT0_prv (i := 22) (by decide +kernel) (by decide +kernel)⟩
theorem pnX8_firstPlace : plainName mX8_firstPlace.1.cls = true := (by decide +kernel)
theorem mdX8_coverOf : mMv mX8_coverOf 1 := ⟨⟨mT0_tbl (i := 885) (by decide +kernel) (by decide +kernel), mT0_tbl (i := 10) (by decide +kernel) (by decide +kernel), (by decide +kernel), (by decide +kernel)⟩, mT0_tbl (i := 884) (by decide +kernel) (by decide +kernel), mT0_prv (i := 42) (by decide +kernel) (by decide +kernel)⟩
theorem pnX8_coverOf : plainName mX8_coverOf.1.cls = true := (by decide +kernel)
theorem mdX8_strand : mMv mX8_strand 2 := ⟨⟨mT0_tbl (i := 740) (by decide +kernel) (by decide +kernel), mT0_tbl (i := 10) (by decide +kernel) (by decide +kernel), (by decide +kernel), (by decide +kernel)⟩, mT0_tbl (i := 738) (by decide +kernel) (by decide +kernel), mT0_tbl (i := 739) (by decide +kernel) (by decide +kernel)⟩
theorem pnX8_strand : plainName mX8_strand.1.cls = true := (by decide +kernel)
theorem mdX8_bends : mMv mX8_bends 1 := ⟨⟨mT0_tbl (i := 760) (by decide +kernel) (by decide +kernel), mT0_tbl (i := 10) (by decide +kernel) (by decide +kernel), (by decide +kernel), (by decide +kernel)⟩, mT0_tbl (i := 758) (by decide +kernel) (by decide +kernel), mT0_tbl (i := 759) (by decide +kernel) (by decide +kernel)⟩
theorem pnX8_bends : plainName mX8_bends.1.cls = true := (by decide +kernel)
theorem mdX8_keepAct : mMv mX8_keepAct 0 := ⟨⟨mT0_tbl (i := 769) (by decide +kernel) (by decide +kernel), mT0_tbl (i := 10) (by decide +kernel) (by decide +kernel), (by decide +kernel), (by decide +kernel)⟩, mT0_tbl (i := 768) (by decide +kernel) (by decide +kernel), mT0_prv (i := 25) (by decide +kernel) (by decide +kernel)⟩
theorem pnX8_keepAct : plainName mX8_keepAct.1.cls = true := (by decide +kernel)
theorem mdX8_winter : mMv mX8_winter 0 := ⟨⟨mT0_tbl (i := 765) (by decide +kernel) (by decide +kernel), mT0_tbl (i := 10) (by decide +kernel) (by decide +kernel), (by decide +kernel), (by decide +kernel)⟩, mT0_tbl (i := 763) (by decide +kernel) (by decide +kernel), mT0_tbl (i := 764) (by decide +kernel) (by decide +kernel)⟩
theorem pnX8_winter : plainName mX8_winter.1.cls = true := (by decide +kernel)
theorem mdX8_hang : mMv mX8_hang 2 := ⟨⟨mT0_tbl (i := 803) (by decide +kernel) (by decide +kernel), mT0_tbl (i := 10) (by decide +kernel) (by decide +kernel), (by decide +kernel), (by decide +kernel)⟩, mT0_tbl (i := 801) (by decide +kernel) (by decide +kernel), mT0_tbl (i := 802) (by decide +kernel) (by decide +kernel)⟩
theorem pnX8_hang : plainName mX8_hang.1.cls = true := (by decide +kernel)
theorem mdX8_turn : mMv mX8_turn 1 := ⟨⟨mT0_tbl (i := 808) (by decide +kernel) (by decide +kernel), mT0_tbl (i := 10) (by decide +kernel) (by decide +kernel), (by decide +kernel), (by decide +kernel)⟩, mT0_tbl (i := 806) (by decide +kernel) (by decide +kernel), mT0_tbl (i := 807) (by decide +kernel) (by decide +kernel)⟩
theorem pnX8_turn : plainName mX8_turn.1.cls = true := (by decide +kernel)
theorem mdX8_snip : mMv mX8_snip 1 := ⟨⟨mT0_tbl (i := 816) (by decide +kernel) (by decide +kernel), mT0_tbl (i := 10) (by decide +kernel) (by decide +kernel), (by decide +kernel), (by decide +kernel)⟩, mT0_tbl (i := 814) (by decide +kernel) (by decide +kernel), mT0_tbl (i := 815) (by decide +kernel) (by decide +kernel)⟩
theorem pnX8_snip : plainName mX8_snip.1.cls = true := (by decide +kernel)
theorem mdX8_join : mMv mX8_join 2 := ⟨⟨mT0_tbl (i := 820) (by decide +kernel) (by decide +kernel), mT0_tbl (i := 10) (by decide +kernel) (by decide +kernel), (by decide +kernel), (by decide +kernel)⟩, mT0_tbl (i := 818) (by decide +kernel) (by decide +kernel), mT0_tbl (i := 819) (by decide +kernel) (by decide +kernel)⟩
theorem pnX8_join : plainName mX8_join.1.cls = true := (by decide +kernel)
theorem mdX8_undo : mMv mX8_undo 0 := ⟨⟨mT0_tbl (i := 844) (by decide +kernel) (by decide +kernel), mT0_tbl (i := 10) (by decide +kernel) (by decide +kernel), (by decide +kernel), (by decide +kernel)⟩, mT0_tbl (i := 842) (by decide +kernel) (by decide +kernel), mT0_tbl (i := 843) (by decide +kernel) (by decide +kernel)⟩
theorem pnX8_undo : plainName mX8_undo.1.cls = true := (by decide +kernel)
theorem mdX8_layTrial : mMv mX8_layTrial 0 := ⟨⟨mT0_tbl (i := 853) (by decide +kernel) (by decide +kernel), mT0_tbl (i := 10) (by decide +kernel) (by decide +kernel), (by decide +kernel), (by decide +kernel)⟩, mT0_tbl (i := 852) (by decide +kernel) (by decide +kernel), mT0_prv (i := 38) (by decide +kernel) (by decide +kernel)⟩
theorem pnX8_layTrial : plainName mX8_layTrial.1.cls = true := (by decide +kernel)
theorem mdX8_later : mMv mX8_later 2 := ⟨⟨mT0_tbl (i := 848) (by decide +kernel) (by decide +kernel), mT0_tbl (i := 10) (by decide +kernel) (by decide +kernel), (by decide +kernel), (by decide +kernel)⟩, mT0_tbl (i := 846) (by decide +kernel) (by decide +kernel), mT0_tbl (i := 847) (by decide +kernel) (by decide +kernel)⟩
theorem pnX8_later : plainName mX8_later.1.cls = true := (by decide +kernel)
theorem mdX8_lasts : mMv mX8_lasts 1 := ⟨⟨mT0_tbl (i := 857) (by decide +kernel) (by decide +kernel), mT0_tbl (i := 10) (by decide +kernel) (by decide +kernel), (by decide +kernel), (by decide +kernel)⟩, mT0_tbl (i := 855) (by decide +kernel) (by decide +kernel), mT0_tbl (i := 856) (by decide +kernel) (by decide +kernel)⟩
theorem pnX8_lasts : plainName mX8_lasts.1.cls = true := (by decide +kernel)
theorem mdX8_overlap : mMv mX8_overlap 2 := ⟨⟨mT0_tbl (i := 861) (by decide +kernel) (by decide +kernel), mT0_tbl (i := 10) (by decide +kernel) (by decide +kernel), (by decide +kernel), (by decide +kernel)⟩, mT0_tbl (i := 859) (by decide +kernel) (by decide +kernel), mT0_tbl (i := 860) (by decide +kernel) (by decide +kernel)⟩
theorem pnX8_overlap : plainName mX8_overlap.1.cls = true := (by decide +kernel)
theorem mdX8_flowOn : mMv mX8_flowOn 1 := ⟨⟨mT0_tbl (i := 873) (by decide +kernel) (by decide +kernel), mT0_tbl (i := 10) (by decide +kernel) (by decide +kernel), (by decide +kernel), (by decide +kernel)⟩, mT0_tbl (i := 872) (by decide +kernel) (by decide +kernel), mT0_prv (i := 40) (by decide +kernel) (by decide +kernel)⟩
theorem pnX8_flowOn : plainName mX8_flowOn.1.cls = true := (by decide +kernel)
theorem mdX8_goesOn : mMv mX8_goesOn 2 := ⟨⟨mT0_tbl (i := 877) (by decide +kernel) (by decide +kernel), mT0_tbl (i := 10) (by decide +kernel) (by decide +kernel), (by decide +kernel), (by decide +kernel)⟩, mT0_tbl (i := 876) (by decide +kernel) (by decide +kernel), mT0_prv (i := 41) (by decide +kernel) (by decide +kernel)⟩
theorem pnX8_goesOn : plainName mX8_goesOn.1.cls = true := (by decide +kernel)
theorem mdX8_riverBy : mMv mX8_riverBy 2 := ⟨⟨mT0_tbl (i := 869) (by decide +kernel) (by decide +kernel), mT0_tbl (i := 10) (by decide +kernel) (by decide +kernel), (by decide +kernel), (by decide +kernel)⟩, mT0_tbl (i := 868) (by decide +kernel) (by decide +kernel), mT0_prv (i := 39) (by decide +kernel) (by decide +kernel)⟩
theorem pnX8_riverBy : plainName mX8_riverBy.1.cls = true := (by decide +kernel)
theorem mdX8_river : mMv mX8_river 1 := ⟨⟨mT0_tbl (i := 865) (by decide +kernel) (by decide +kernel), mT0_tbl (i := 10) (by decide +kernel) (by decide +kernel), (by decide +kernel), (by decide +kernel)⟩, mT0_tbl (i := 863) (by decide +kernel) (by decide +kernel), mT0_tbl (i := 864) (by decide +kernel) (by decide +kernel)⟩
theorem pnX8_river : plainName mX8_river.1.cls = true := (by decide +kernel)
theorem mdX8_covered : mMv mX8_covered 0 := ⟨⟨mT0_tbl (i := 881) (by decide +kernel) (by decide +kernel), mT0_tbl (i := 10) (by decide +kernel) (by decide +kernel), (by decide +kernel), (by decide +kernel)⟩, mT0_tbl (i := 879) (by decide +kernel) (by decide +kernel), mT0_tbl (i := 880) (by decide +kernel) (by decide +kernel)⟩
theorem pnX8_covered : plainName mX8_covered.1.cls = true := (by decide +kernel)
theorem mdX8_ways : mMv mX8_ways 0 := ⟨⟨mT0_tbl (i := 889) (by decide +kernel) (by decide +kernel), mT0_tbl (i := 10) (by decide +kernel) (by decide +kernel), (by decide +kernel), (by decide +kernel)⟩, mT0_tbl (i := 887) (by decide +kernel) (by decide +kernel), mT0_tbl (i := 888) (by decide +kernel) (by decide +kernel)⟩
theorem pnX8_ways : plainName mX8_ways.1.cls = true := (by decide +kernel)
theorem mdX8_isWay : mMv mX8_isWay 1 := ⟨⟨mT0_tbl (i := 893) (by decide +kernel) (by decide +kernel), mT0_tbl (i := 10) (by decide +kernel) (by decide +kernel), (by decide +kernel), (by decide +kernel)⟩, mT0_tbl (i := 892) (by decide +kernel) (by decide +kernel), mT0_prv (i := 43) (by decide +kernel) (by decide +kernel)⟩
theorem pnX8_isWay : plainName mX8_isWay.1.cls = true := (by decide +kernel)
theorem mdX8_tryThing : mMv mX8_tryThing 3 := ⟨⟨mT0_tbl (i := 905) (by decide +kernel) (by decide +kernel), mT0_tbl (i := 10) (by decide +kernel) (by decide +kernel), (by decide +kernel), (by decide +kernel)⟩, mT0_tbl (i := 904) (by decide +kernel) (by decide +kernel), mT0_prv (i := 44) (by decide +kernel) (by decide +kernel)⟩
theorem pnX8_tryThing : plainName mX8_tryThing.1.cls = true := (by decide +kernel)
theorem mdX8_thousandTo : mMs mX8_thousandTo 1 := ⟨⟨mT0_tbl (i := 900) (by decide +kernel) (by decide +kernel), mT0_tbl (i := 10) (by decide +kernel) (by decide +kernel), (by decide +kernel), (by decide +kernel)⟩, mT0_tbl (i := 899) (by decide +kernel) (by decide +kernel)⟩
theorem pnX8_thousandTo : plainName mX8_thousandTo.1.cls = true := (by decide +kernel)
theorem mdX8_judge : mMv mX8_judge 2 := ⟨⟨mT0_tbl (i := 897) (by decide +kernel) (by decide +kernel), mT0_tbl (i := 10) (by decide +kernel) (by decide +kernel), (by decide +kernel), (by decide +kernel)⟩, mT0_tbl (i := 895) (by decide +kernel) (by decide +kernel), mT0_tbl (i := 896) (by decide +kernel) (by decide +kernel)⟩
theorem pnX8_judge : plainName mX8_judge.1.cls = true := (by decide +kernel)
theorem mdX8_lay : mMv mX8_lay 2 := ⟨⟨mT0_tbl (i := 909) (by decide +kernel) (by decide +kernel), mT0_tbl (i := 10) (by decide +kernel) (by decide +kernel), (by decide +kernel), (by decide +kernel)⟩, mT0_tbl (i := 907) (by decide +kernel) (by decide +kernel), mT0_tbl (i := 908) (by decide +kernel) (by decide +kernel)⟩
theorem pnX8_lay : plainName mX8_lay.1.cls = true := (by decide +kernel)
theorem mdX8_unlay : mMv mX8_unlay 0 := ⟨⟨mT0_tbl (i := 914) (by decide +kernel) (by decide +kernel), mT0_tbl (i := 10) (by decide +kernel) (by decide +kernel), (by decide +kernel), (by decide +kernel)⟩, mT0_tbl (i := 912) (by decide +kernel) (by decide +kernel), mT0_tbl (i := 913) (by decide +kernel) (by decide +kernel)⟩
theorem pnX8_unlay : plainName mX8_unlay.1.cls = true := (by decide +kernel)
theorem mdX8_fitsAt : mMv mX8_fitsAt 3 := ⟨⟨mT0_tbl (i := 929) (by decide +kernel) (by decide +kernel), mT0_tbl (i := 10) (by decide +kernel) (by decide +kernel), (by decide +kernel), (by decide +kernel)⟩, mT0_tbl (i := 928) (by decide +kernel) (by decide +kernel), mT0_prv (i := 46) (by decide +kernel) (by decide +kernel)⟩
theorem pnX8_fitsAt : plainName mX8_fitsAt.1.cls = true := (by decide +kernel)
theorem mdX8_mayBeLaid : mMv mX8_mayBeLaid 2 := ⟨⟨mT0_tbl (i := 925) (by decide +kernel) (by decide +kernel), mT0_tbl (i := 10) (by decide +kernel) (by decide +kernel), (by decide +kernel), (by decide +kernel)⟩, mT0_tbl (i := 924) (by decide +kernel) (by decide +kernel), mT0_prv (i := 45) (by decide +kernel) (by decide +kernel)⟩
theorem pnX8_mayBeLaid : plainName mX8_mayBeLaid.1.cls = true := (by decide +kernel)
theorem mdX8_areBends : mMs mX8_areBends 1 := ⟨⟨mT0_tbl (i := 921) (by decide +kernel) (by decide +kernel), mT0_tbl (i := 10) (by decide +kernel) (by decide +kernel), (by decide +kernel), (by decide +kernel)⟩, mT0_tbl (i := 920) (by decide +kernel) (by decide +kernel)⟩
theorem pnX8_areBends : plainName mX8_areBends.1.cls = true := (by decide +kernel)
theorem mdX8_which : mMv mX8_which 1 := ⟨⟨mT0_tbl (i := 918) (by decide +kernel) (by decide +kernel), mT0_tbl (i := 10) (by decide +kernel) (by decide +kernel), (by decide +kernel), (by decide +kernel)⟩, mT0_tbl (i := 916) (by decide +kernel) (by decide +kernel), mT0_tbl (i := 917) (by decide +kernel) (by decide +kernel)⟩
theorem pnX8_which : plainName mX8_which.1.cls = true := (by decide +kernel)
theorem mdX8_factorial : mMs mX8_factorial 1 := ⟨⟨mT0_tbl (i := 936) (by decide +kernel) (by decide +kernel), mT0_tbl (i := 10) (by decide +kernel) (by decide +kernel), (by decide +kernel), (by decide +kernel)⟩, mT0_tbl (i := 935) (by decide +kernel) (by decide +kernel)⟩
theorem pnX8_factorial : plainName mX8_factorial.1.cls = true := (by decide +kernel)
theorem mdX8_common : mMs mX8_common 2 := ⟨⟨mT0_tbl (i := 939) (by decide +kernel) (by decide +kernel), mT0_tbl (i := 10) (by decide +kernel) (by decide +kernel), (by decide +kernel), (by decide +kernel)⟩, mT0_tbl (i := 938) (by decide +kernel) (by decide +kernel)⟩
theorem pnX8_common : plainName mX8_common.1.cls = true := (by decide +kernel)
theorem mdX8_share : mMv mX8_share 2 := ⟨⟨mT0_tbl (i := 933) (by decide +kernel) (by decide +kernel), mT0_tbl (i := 10) (by decide +kernel) (by decide +kernel), (by decide +kernel), (by decide +kernel)⟩, mT0_tbl (i := 931) (by decide +kernel) (by decide +kernel), mT0_tbl (i := 932) (by decide +kernel) (by decide +kernel)⟩
theorem pnX8_share : plainName mX8_share.1.cls = true := (by decide +kernel)
theorem mdX8_gain : mMv mX8_gain 5 := ⟨⟨mT0_tbl (i := 951) (by decide +kernel) (by decide +kernel), mT0_tbl (i := 10) (by decide +kernel) (by decide +kernel), (by decide +kernel), (by decide +kernel)⟩, mT0_tbl (i := 950) (by decide +kernel) (by decide +kernel), mT0_prv (i := 48) (by decide +kernel) (by decide +kernel)⟩
theorem pnX8_gain : plainName mX8_gain.1.cls = true := (by decide +kernel)
theorem mdX8_isRest : mMv mX8_isRest 4 := ⟨⟨mT0_tbl (i := 947) (by decide +kernel) (by decide +kernel), mT0_tbl (i := 10) (by decide +kernel) (by decide +kernel), (by decide +kernel), (by decide +kernel)⟩, mT0_tbl (i := 946) (by decide +kernel) (by decide +kernel), mT0_prv (i := 47) (by decide +kernel) (by decide +kernel)⟩
theorem pnX8_isRest : plainName mX8_isRest.1.cls = true := (by decide +kernel)
theorem mdX8_rests : mMv mX8_rests 3 := ⟨⟨mT0_tbl (i := 943) (by decide +kernel) (by decide +kernel), mT0_tbl (i := 10) (by decide +kernel) (by decide +kernel), (by decide +kernel), (by decide +kernel)⟩, mT0_tbl (i := 941) (by decide +kernel) (by decide +kernel), mT0_tbl (i := 942) (by decide +kernel) (by decide +kernel)⟩
theorem pnX8_rests : plainName mX8_rests.1.cls = true := (by decide +kernel)
theorem mdX8_power : mMs mX8_power 2 := ⟨⟨mT0_tbl (i := 958) (by decide +kernel) (by decide +kernel), mT0_tbl (i := 10) (by decide +kernel) (by decide +kernel), (by decide +kernel), (by decide +kernel)⟩, mT0_tbl (i := 957) (by decide +kernel) (by decide +kernel)⟩
theorem pnX8_power : plainName mX8_power.1.cls = true := (by decide +kernel)
theorem mdX8_lost : mMv mX8_lost 2 := ⟨⟨mT0_tbl (i := 955) (by decide +kernel) (by decide +kernel), mT0_tbl (i := 10) (by decide +kernel) (by decide +kernel), (by decide +kernel), (by decide +kernel)⟩, mT0_tbl (i := 953) (by decide +kernel) (by decide +kernel), mT0_tbl (i := 954) (by decide +kernel) (by decide +kernel)⟩
theorem pnX8_lost : plainName mX8_lost.1.cls = true := (by decide +kernel)
theorem mdX8_seed : mMv mX8_seed 1 := ⟨⟨mT0_tbl (i := 962) (by decide +kernel) (by decide +kernel), mT0_tbl (i := 10) (by decide +kernel) (by decide +kernel), (by decide +kernel), (by decide +kernel)⟩, mT0_tbl (i := 960) (by decide +kernel) (by decide +kernel), mT0_tbl (i := 961) (by decide +kernel) (by decide +kernel)⟩
theorem pnX8_seed : plainName mX8_seed.1.cls = true := (by decide +kernel)
theorem mdX8_bendsOfAll : mMv mX8_bendsOfAll 1 := ⟨⟨mT0_tbl (i := 974) (by decide +kernel) (by decide +kernel), mT0_tbl (i := 10) (by decide +kernel) (by decide +kernel), (by decide +kernel), (by decide +kernel)⟩, mT0_tbl (i := 973) (by decide +kernel) (by decide +kernel), mT0_prv (i := 49) (by decide +kernel) (by decide +kernel)⟩
theorem pnX8_bendsOfAll : plainName mX8_bendsOfAll.1.cls = true := (by decide +kernel)
theorem mdX8_years : mMv mX8_years 1 := ⟨⟨mT0_tbl (i := 966) (by decide +kernel) (by decide +kernel), mT0_tbl (i := 10) (by decide +kernel) (by decide +kernel), (by decide +kernel), (by decide +kernel)⟩, mT0_tbl (i := 964) (by decide +kernel) (by decide +kernel), mT0_tbl (i := 965) (by decide +kernel) (by decide +kernel)⟩
theorem pnX8_years : plainName mX8_years.1.cls = true := (by decide +kernel)
theorem mdX8_keep : mMv mX8_keep 1 := ⟨⟨mT0_tbl (i := 978) (by decide +kernel) (by decide +kernel), mT0_tbl (i := 10) (by decide +kernel) (by decide +kernel), (by decide +kernel), (by decide +kernel)⟩, mT0_tbl (i := 976) (by decide +kernel) (by decide +kernel), mT0_tbl (i := 977) (by decide +kernel) (by decide +kernel)⟩
theorem pnX8_keep : plainName mX8_keep.1.cls = true := (by decide +kernel)
theorem mdX8_again : mMv mX8_again 1 := ⟨⟨mT0_tbl (i := 982) (by decide +kernel) (by decide +kernel), mT0_tbl (i := 10) (by decide +kernel) (by decide +kernel), (by decide +kernel), (by decide +kernel)⟩, mT0_tbl (i := 980) (by decide +kernel) (by decide +kernel), mT0_tbl (i := 981) (by decide +kernel) (by decide +kernel)⟩
theorem pnX8_again : plainName mX8_again.1.cls = true := (by decide +kernel)
theorem mdX8_usedHouses : mMv mX8_usedHouses 0 := ⟨⟨mT0_tbl (i := 990) (by decide +kernel) (by decide +kernel), mT0_tbl (i := 10) (by decide +kernel) (by decide +kernel), (by decide +kernel), (by decide +kernel)⟩, mT0_tbl (i := 989) (by decide +kernel) (by decide +kernel), mT0_prv (i := 50) (by decide +kernel) (by decide +kernel)⟩
theorem pnX8_usedHouses : plainName mX8_usedHouses.1.cls = true := (by decide +kernel)
theorem mdX8_count : mMv mX8_count 1 := ⟨⟨mT0_tbl (i := 986) (by decide +kernel) (by decide +kernel), mT0_tbl (i := 10) (by decide +kernel) (by decide +kernel), (by decide +kernel), (by decide +kernel)⟩, mT0_tbl (i := 984) (by decide +kernel) (by decide +kernel), mT0_tbl (i := 985) (by decide +kernel) (by decide +kernel)⟩
theorem pnX8_count : plainName mX8_count.1.cls = true := (by decide +kernel)
theorem mdJ6_bitCount_0f7a4 : mMs mJ6_bitCount_0f7a4 1 := ⟨⟨mT0_tbl (i := 330) (by decide +kernel) (by decide +kernel), mT0_tbl (i := 11) (by decide +kernel) (by decide +kernel), (by decide +kernel), (by decide +kernel)⟩, mT0_tbl (i := 329) (by decide +kernel) (by decide +kernel)⟩
theorem pnJ6_bitCount_0f7a4 : plainName mJ6_bitCount_0f7a4.1.cls = true := (by decide +kernel)
theorem mdJ9_max_7cf53 : mMs mJ9_max_7cf53 2 := ⟨⟨mT0_tbl (i := 56) (by decide +kernel) (by decide +kernel), mT0_tbl (i := 6) (by decide +kernel) (by decide +kernel), (by decide +kernel), (by decide +kernel)⟩, mT0_tbl (i := 55) (by decide +kernel) (by decide +kernel)⟩
theorem mdJ9_max_f86c9 : mMs mJ9_max_f86c9 2 := ⟨⟨mT0_tbl (i := 490) (by decide +kernel) (by decide +kernel), mT0_tbl (i := 6) (by decide +kernel) (by decide +kernel), (by decide +kernel), (by decide +kernel)⟩, mT0_tbl (i := 489) (by decide +kernel) (by decide +kernel)⟩
theorem mdJ9_min_7cf53 : mMs mJ9_min_7cf53 2 := ⟨⟨mT0_tbl (i := 276) (by decide +kernel) (by decide +kernel), mT0_tbl (i := 6) (by decide +kernel) (by decide +kernel), (by decide +kernel), (by decide +kernel)⟩, mT0_tbl (i := 275) (by decide +kernel) (by decide +kernel)⟩
theorem flX7_10 : mFl RX7 10 7 0 := ⟨(RX7, TX7, 13), rfl, by decide, Or.inl (mT0_tbl (i := 152) (by decide +kernel) (by decide +kernel))⟩
theorem flX7_19 : mFl RX7 19 7 1 := ⟨(RX7, TX7, 13), rfl, by decide, Or.inl (mT0_tbl (i := 153) (by decide +kernel) (by decide +kernel))⟩
theorem flX7_23 : mFl RX7 23 7 2 := ⟨(RX7, TX7, 13), rfl, by decide, Or.inl (mT0_tbl (i := 154) (by decide +kernel) (by decide +kernel))⟩
theorem flX7_29 : mFl RX7 29 7 3 := ⟨(RX7, TX7, 13), rfl, by decide, Or.inl (mT0_tbl (i := 155) (by decide +kernel) (by decide +kernel))⟩
theorem flX7_36 : mFl RX7 36 7 4 := ⟨(RX7, TX7, 13), rfl, by decide, Or.inl (mT0_tbl (i := 156) (by decide +kernel) (by decide +kernel))⟩
theorem flX7_43 : mFl RX7 43 7 5 := ⟨(RX7, TX7, 13), rfl, by decide, Or.inl (mT0_tbl (i := 157) (by decide +kernel) (by decide +kernel))⟩
theorem flX7_52 : mFl RX7 52 7 6 := ⟨(RX7, TX7, 13), rfl, by decide, Or.inl (mT0_tbl (i := 158) (by decide +kernel) (by decide +kernel))⟩
theorem flX7_56 : mFl RX7 56 7 7 := ⟨(RX7, TX7, 13), rfl, by decide, Or.inl (mT0_tbl (i := 159) (by decide +kernel) (by decide +kernel))⟩
theorem flX7_59 : mFl RX7 59 7 8 := ⟨(RX7, TX7, 13), rfl, by decide, Or.inl (mT0_tbl (i := 160) (by decide +kernel) (by decide +kernel))⟩
theorem flX7_62 : mFl RX7 62 7 9 := ⟨(RX7, TX7, 13), rfl, by decide, Or.inl (mT0_tbl (i := 161) (by decide +kernel) (by decide +kernel))⟩
theorem flX7_66 : mFl RX7 66 7 10 := ⟨(RX7, TX7, 13), rfl, by decide, Or.inl (mT0_tbl (i := 162) (by decide +kernel) (by decide +kernel))⟩
theorem flX7_69 : mFl RX7 69 7 11 := ⟨(RX7, TX7, 13), rfl, by decide, Or.inl (mT0_tbl (i := 163) (by decide +kernel) (by decide +kernel))⟩
theorem flX7_72 : mFl RX7 72 7 12 := ⟨(RX7, TX7, 13), rfl, by decide, Or.inl (mT0_tbl (i := 164) (by decide +kernel) (by decide +kernel))⟩
theorem flX7_94 : mFl RX7 94 6 1 := ⟨(RX6, TX6, 3), rfl, by decide, Or.inr ⟨_, mNw_tbl (w := Cond.fieldLinkNest _ _ _ _ _ "TinselRiver") (i := 86) (by decide +kernel) (by decide +kernel)⟩⟩
theorem flX7_102 : mFl RX7 102 2 1 := ⟨(RX2, TX2, 2), rfl, by decide, Or.inr ⟨_, mNw_tbl (w := Cond.fieldLinkNest _ _ _ _ _ "TinselRiver") (i := 61) (by decide +kernel) (by decide +kernel)⟩⟩
theorem flX7_113 : mFl RX7 113 6 0 := ⟨(RX6, TX6, 3), rfl, by decide, Or.inr ⟨_, mNw_tbl (w := Cond.fieldLinkNest _ _ _ _ _ "TinselRiver") (i := 84) (by decide +kernel) (by decide +kernel)⟩⟩
theorem flX7_117 : mFl RX7 117 4 1 := ⟨(RX4, TX4, 3), rfl, by decide, Or.inr ⟨_, mNw_tbl (w := Cond.fieldLinkNest _ _ _ _ _ "TinselRiver") (i := 72) (by decide +kernel) (by decide +kernel)⟩⟩
theorem flX7_122 : mFl RX7 122 4 2 := ⟨(RX4, TX4, 3), rfl, by decide, Or.inr ⟨_, mNw_tbl (w := Cond.fieldLinkNest _ _ _ _ _ "TinselRiver") (i := 75) (by decide +kernel) (by decide +kernel)⟩⟩
theorem flX7_125 : mFl RX7 125 4 0 := ⟨(RX4, TX4, 3), rfl, by decide, Or.inr ⟨_, mNw_tbl (w := Cond.fieldLinkNest _ _ _ _ _ "TinselRiver") (i := 69) (by decide +kernel) (by decide +kernel)⟩⟩
theorem flX7_287 : mFl RX7 287 5 1 := ⟨(RX5, TX5, 2), rfl, by decide, Or.inr ⟨_, mNw_tbl (w := Cond.fieldLinkNest _ _ _ _ _ "TinselRiver") (i := 28) (by decide +kernel) (by decide +kernel)⟩⟩
theorem flX7_288 : mFl RX7 288 6 2 := ⟨(RX6, TX6, 3), rfl, by decide, Or.inr ⟨_, mNw_tbl (w := Cond.fieldLinkNest _ _ _ _ _ "TinselRiver") (i := 89) (by decide +kernel) (by decide +kernel)⟩⟩
theorem flX7_294 : mFl RX7 294 0 2 := ⟨(RX0, TX0, 3), rfl, by decide, Or.inr ⟨_, mNw_tbl (w := Cond.fieldLinkNest _ _ _ _ _ "TinselRiver") (i := 109) (by decide +kernel) (by decide +kernel)⟩⟩
theorem flX7_295 : mFl RX7 295 1 2 := ⟨(RX1, TX1, 3), rfl, by decide, Or.inr ⟨_, mNw_tbl (w := Cond.fieldLinkNest _ _ _ _ _ "TinselRiver") (i := 141) (by decide +kernel) (by decide +kernel)⟩⟩
theorem flX0_11 : mFl RX0 11 0 0 := ⟨(RX0, TX0, 3), rfl, by decide, Or.inl (mT0_tbl (i := 106) (by decide +kernel) (by decide +kernel))⟩
theorem flX0_18 : mFl RX0 18 0 1 := ⟨(RX0, TX0, 3), rfl, by decide, Or.inl (mT0_tbl (i := 107) (by decide +kernel) (by decide +kernel))⟩
theorem flX0_22 : mFl RX0 22 0 2 := ⟨(RX0, TX0, 3), rfl, by decide, Or.inl (mT0_tbl (i := 108) (by decide +kernel) (by decide +kernel))⟩
theorem flX1_9 : mFl RX1 9 1 0 := ⟨(RX1, TX1, 3), rfl, by decide, Or.inl (mT0_tbl (i := 138) (by decide +kernel) (by decide +kernel))⟩
theorem flX1_15 : mFl RX1 15 1 1 := ⟨(RX1, TX1, 3), rfl, by decide, Or.inl (mT0_tbl (i := 139) (by decide +kernel) (by decide +kernel))⟩
theorem flX1_19 : mFl RX1 19 1 2 := ⟨(RX1, TX1, 3), rfl, by decide, Or.inl (mT0_tbl (i := 140) (by decide +kernel) (by decide +kernel))⟩
theorem flX2_15 : mFl RX2 15 2 0 := ⟨(RX2, TX2, 2), rfl, by decide, Or.inl (mT0_tbl (i := 57) (by decide +kernel) (by decide +kernel))⟩
theorem flX2_21 : mFl RX2 21 2 1 := ⟨(RX2, TX2, 2), rfl, by decide, Or.inl (mT0_tbl (i := 59) (by decide +kernel) (by decide +kernel))⟩
theorem flX3_11 : mFl RX3 11 3 0 := ⟨(RX3, TX3, 2), rfl, by decide, Or.inl (mT0_tbl (i := 125) (by decide +kernel) (by decide +kernel))⟩
theorem flX3_18 : mFl RX3 18 3 1 := ⟨(RX3, TX3, 2), rfl, by decide, Or.inl (mT0_tbl (i := 126) (by decide +kernel) (by decide +kernel))⟩
theorem flX3_26 : mFl RX3 26 6 2 := ⟨(RX6, TX6, 3), rfl, by decide, Or.inr ⟨_, mNw_tbl (w := Cond.fieldLinkNest _ _ _ _ _ "TinselRiver") (i := 88) (by decide +kernel) (by decide +kernel)⟩⟩
theorem flX4_14 : mFl RX4 14 4 0 := ⟨(RX4, TX4, 3), rfl, by decide, Or.inl (mT0_tbl (i := 67) (by decide +kernel) (by decide +kernel))⟩
theorem flX4_24 : mFl RX4 24 4 1 := ⟨(RX4, TX4, 3), rfl, by decide, Or.inl (mT0_tbl (i := 70) (by decide +kernel) (by decide +kernel))⟩
theorem flX4_28 : mFl RX4 28 4 2 := ⟨(RX4, TX4, 3), rfl, by decide, Or.inl (mT0_tbl (i := 73) (by decide +kernel) (by decide +kernel))⟩
theorem flX5_9 : mFl RX5 9 5 0 := ⟨(RX5, TX5, 2), rfl, by decide, Or.inl (mT0_tbl (i := 26) (by decide +kernel) (by decide +kernel))⟩
theorem flX5_15 : mFl RX5 15 5 1 := ⟨(RX5, TX5, 2), rfl, by decide, Or.inl (mT0_tbl (i := 27) (by decide +kernel) (by decide +kernel))⟩
theorem flX6_11 : mFl RX6 11 6 0 := ⟨(RX6, TX6, 3), rfl, by decide, Or.inl (mT0_tbl (i := 83) (by decide +kernel) (by decide +kernel))⟩
theorem flX6_18 : mFl RX6 18 6 1 := ⟨(RX6, TX6, 3), rfl, by decide, Or.inl (mT0_tbl (i := 85) (by decide +kernel) (by decide +kernel))⟩
theorem flX6_22 : mFl RX6 22 6 2 := ⟨(RX6, TX6, 3), rfl, by decide, Or.inl (mT0_tbl (i := 87) (by decide +kernel) (by decide +kernel))⟩
theorem flX6_29 : mFl RX6 29 4 1 := ⟨(RX4, TX4, 3), rfl, by decide, Or.inr ⟨_, mNw_tbl (w := Cond.fieldLinkNest _ _ _ _ _ "TinselRiver") (i := 71) (by decide +kernel) (by decide +kernel)⟩⟩
theorem flX6_32 : mFl RX6 32 4 2 := ⟨(RX4, TX4, 3), rfl, by decide, Or.inr ⟨_, mNw_tbl (w := Cond.fieldLinkNest _ _ _ _ _ "TinselRiver") (i := 74) (by decide +kernel) (by decide +kernel)⟩⟩
theorem flX6_35 : mFl RX6 35 4 0 := ⟨(RX4, TX4, 3), rfl, by decide, Or.inr ⟨_, mNw_tbl (w := Cond.fieldLinkNest _ _ _ _ _ "TinselRiver") (i := 68) (by decide +kernel) (by decide +kernel)⟩⟩
theorem flX6_48 : mFl RX6 48 2 1 := ⟨(RX2, TX2, 2), rfl, by decide, Or.inr ⟨_, mNw_tbl (w := Cond.fieldLinkNest _ _ _ _ _ "TinselRiver") (i := 60) (by decide +kernel) (by decide +kernel)⟩⟩
theorem flX6_89 : mFl RX6 89 2 0 := ⟨(RX2, TX2, 2), rfl, by decide, Or.inr ⟨_, mNw_tbl (w := Cond.fieldLinkNest _ _ _ _ _ "TinselRiver") (i := 58) (by decide +kernel) (by decide +kernel)⟩⟩
theorem flX8_7 : mFl RX8 7 8 1 := ⟨(RX8, TX8, 24), rfl, by decide, Or.inl (mT0_tbl (i := 617) (by decide +kernel) (by decide +kernel))⟩
theorem flX8_13 : mFl RX8 13 8 2 := ⟨(RX8, TX8, 24), rfl, by decide, Or.inl (mT0_tbl (i := 618) (by decide +kernel) (by decide +kernel))⟩
theorem flX8_16 : mFl RX8 16 8 3 := ⟨(RX8, TX8, 24), rfl, by decide, Or.inl (mT0_tbl (i := 619) (by decide +kernel) (by decide +kernel))⟩
theorem flX8_19 : mFl RX8 19 8 4 := ⟨(RX8, TX8, 24), rfl, by decide, Or.inl (mT0_tbl (i := 620) (by decide +kernel) (by decide +kernel))⟩
theorem flX8_22 : mFl RX8 22 8 5 := ⟨(RX8, TX8, 24), rfl, by decide, Or.inl (mT0_tbl (i := 621) (by decide +kernel) (by decide +kernel))⟩
theorem flX8_25 : mFl RX8 25 8 7 := ⟨(RX8, TX8, 24), rfl, by decide, Or.inl (mT0_tbl (i := 623) (by decide +kernel) (by decide +kernel))⟩
theorem flX8_28 : mFl RX8 28 8 12 := ⟨(RX8, TX8, 24), rfl, by decide, Or.inl (mT0_tbl (i := 628) (by decide +kernel) (by decide +kernel))⟩
theorem flX8_31 : mFl RX8 31 8 15 := ⟨(RX8, TX8, 24), rfl, by decide, Or.inl (mT0_tbl (i := 631) (by decide +kernel) (by decide +kernel))⟩
theorem flX8_34 : mFl RX8 34 8 16 := ⟨(RX8, TX8, 24), rfl, by decide, Or.inl (mT0_tbl (i := 632) (by decide +kernel) (by decide +kernel))⟩
theorem flX8_37 : mFl RX8 37 8 19 := ⟨(RX8, TX8, 24), rfl, by decide, Or.inl (mT0_tbl (i := 635) (by decide +kernel) (by decide +kernel))⟩
theorem flX8_40 : mFl RX8 40 8 20 := ⟨(RX8, TX8, 24), rfl, by decide, Or.inl (mT0_tbl (i := 636) (by decide +kernel) (by decide +kernel))⟩
theorem flX8_43 : mFl RX8 43 8 22 := ⟨(RX8, TX8, 24), rfl, by decide, Or.inl (mT0_tbl (i := 638) (by decide +kernel) (by decide +kernel))⟩
theorem flX8_47 : mFl RX8 47 8 23 := ⟨(RX8, TX8, 24), rfl, by decide, Or.inl (mT0_tbl (i := 639) (by decide +kernel) (by decide +kernel))⟩
theorem flX8_56 : mFl RX8 56 8 8 := ⟨(RX8, TX8, 24), rfl, by decide, Or.inl (mT0_tbl (i := 624) (by decide +kernel) (by decide +kernel))⟩
theorem flX8_60 : mFl RX8 60 8 10 := ⟨(RX8, TX8, 24), rfl, by decide, Or.inl (mT0_tbl (i := 626) (by decide +kernel) (by decide +kernel))⟩
theorem flX8_63 : mFl RX8 63 8 9 := ⟨(RX8, TX8, 24), rfl, by decide, Or.inl (mT0_tbl (i := 625) (by decide +kernel) (by decide +kernel))⟩
theorem flX8_70 : mFl RX8 70 8 6 := ⟨(RX8, TX8, 24), rfl, by decide, Or.inl (mT0_tbl (i := 622) (by decide +kernel) (by decide +kernel))⟩
theorem flX8_89 : mFl RX8 89 8 0 := ⟨(RX8, TX8, 24), rfl, by decide, Or.inl (mT0_tbl (i := 616) (by decide +kernel) (by decide +kernel))⟩
theorem flX8_92 : mFl RX8 92 8 13 := ⟨(RX8, TX8, 24), rfl, by decide, Or.inl (mT0_tbl (i := 629) (by decide +kernel) (by decide +kernel))⟩
theorem flX8_146 : mFl RX8 146 8 11 := ⟨(RX8, TX8, 24), rfl, by decide, Or.inl (mT0_tbl (i := 627) (by decide +kernel) (by decide +kernel))⟩
theorem flX8_157 : mFl RX8 157 8 14 := ⟨(RX8, TX8, 24), rfl, by decide, Or.inl (mT0_tbl (i := 630) (by decide +kernel) (by decide +kernel))⟩
theorem flX8_183 : mFl RX8 183 8 17 := ⟨(RX8, TX8, 24), rfl, by decide, Or.inl (mT0_tbl (i := 633) (by decide +kernel) (by decide +kernel))⟩
theorem flX8_212 : mFl RX8 212 8 18 := ⟨(RX8, TX8, 24), rfl, by decide, Or.inl (mT0_tbl (i := 634) (by decide +kernel) (by decide +kernel))⟩
theorem flX8_241 : mFl RX8 241 8 21 := ⟨(RX8, TX8, 24), rfl, by decide, Or.inl (mT0_tbl (i := 637) (by decide +kernel) (by decide +kernel))⟩
theorem iniL : Cond.initialized RL ∈ mT0 := mT0_tbl (i := 0) (by decide +kernel) (by decide +kernel)
theorem iniX7 : Cond.initialized RX7 ∈ mT0 := mT0_tbl (i := 1) (by decide +kernel) (by decide +kernel)
theorem iniX5 : Cond.initialized RX5 ∈ mT0 := mT0_tbl (i := 2) (by decide +kernel) (by decide +kernel)
theorem iniX6 : Cond.initialized RX6 ∈ mT0 := mT0_tbl (i := 3) (by decide +kernel) (by decide +kernel)
theorem iniX4 : Cond.initialized RX4 ∈ mT0 := mT0_tbl (i := 4) (by decide +kernel) (by decide +kernel)
theorem iniX2 : Cond.initialized RX2 ∈ mT0 := mT0_tbl (i := 5) (by decide +kernel) (by decide +kernel)
theorem iniJ9 : Cond.initialized RJ9 ∈ mT0 := mT0_tbl (i := 6) (by decide +kernel) (by decide +kernel)
theorem iniX0 : Cond.initialized RX0 ∈ mT0 := mT0_tbl (i := 7) (by decide +kernel) (by decide +kernel)
theorem iniX3 : Cond.initialized RX3 ∈ mT0 := mT0_tbl (i := 8) (by decide +kernel) (by decide +kernel)
theorem iniX1 : Cond.initialized RX1 ∈ mT0 := mT0_tbl (i := 9) (by decide +kernel) (by decide +kernel)
theorem iniX8 : Cond.initialized RX8 ∈ mT0 := mT0_tbl (i := 10) (by decide +kernel) (by decide +kernel)
theorem iniJ6 : Cond.initialized RJ6 ∈ mT0 := mT0_tbl (i := 11) (by decide +kernel) (by decide +kernel)
theorem clL_7 : Cond.classLink RL 7 RX7 ∈ mT0 := mT0_tbl (i := 12) (by decide +kernel) (by decide +kernel)
theorem inX7 : Cond.instantiable RX7 13 ∈ mT0 := mT0_tbl (i := 13) (by decide +kernel) (by decide +kernel)
theorem lkL_9 : Cond.methodLink RL 9 yX7_init ∈ mT0 := mT0_tbl (i := 14) (by decide +kernel) (by decide +kernel)
theorem lkX7_1 : Cond.methodLink RX7 1 Lib.objectInit ∈ mT0 := mT0_tbl (i := 17) (by decide +kernel) (by decide +kernel)
theorem clX7_7 : Cond.classLink RX7 7 RX5 ∈ mT0 := mT0_tbl (i := 20) (by decide +kernel) (by decide +kernel)
theorem inX5 : Cond.instantiable RX5 2 ∈ mT0 := mT0_tbl (i := 21) (by decide +kernel) (by decide +kernel)
theorem lkX7_9 : ∃ host, Cond.methodLinkNest RX7 9 yX5_init host ∈ mNw := ⟨"TinselRiver", mNw_tbl (i := 22) (by decide +kernel) (by decide +kernel)⟩
theorem lkX5_3 : Cond.methodLink RX5 3 Lib.objectInit ∈ mT0 := mT0_tbl (i := 25) (by decide +kernel) (by decide +kernel)
theorem ac_int : Cond.arrayClass .int ∈ mT0 := mT0_tbl (i := 34) (by decide +kernel) (by decide +kernel)
theorem clX7_16 : Cond.classLink RX7 16 RX6 ∈ mT0 := mT0_tbl (i := 35) (by decide +kernel) (by decide +kernel)
theorem inX6 : Cond.instantiable RX6 3 ∈ mT0 := mT0_tbl (i := 36) (by decide +kernel) (by decide +kernel)
theorem lkX7_18 : Cond.methodLink RX7 18 yX6_init ∈ mT0 := mT0_tbl (i := 37) (by decide +kernel) (by decide +kernel)
theorem lkX6_3 : Cond.methodLink RX6 3 Lib.objectInit ∈ mT0 := mT0_tbl (i := 40) (by decide +kernel) (by decide +kernel)
theorem clX6_9 : Cond.classLink RX6 9 RX4 ∈ mT0 := mT0_tbl (i := 41) (by decide +kernel) (by decide +kernel)
theorem inX4 : Cond.instantiable RX4 3 ∈ mT0 := mT0_tbl (i := 43) (by decide +kernel) (by decide +kernel)
theorem lkX6_17 : ∃ host, Cond.methodLinkNest RX6 17 yX4_init host ∈ mNw := ⟨"TinselRiver", mNw_tbl (i := 44) (by decide +kernel) (by decide +kernel)⟩
theorem lkX4_3 : Cond.methodLink RX4 3 Lib.objectInit ∈ mT0 := mT0_tbl (i := 47) (by decide +kernel) (by decide +kernel)
theorem clX4_9 : Cond.classLink RX4 9 RX2 ∈ mT0 := mT0_tbl (i := 48) (by decide +kernel) (by decide +kernel)
theorem inX2 : Cond.instantiable RX2 2 ∈ mT0 := mT0_tbl (i := 49) (by decide +kernel) (by decide +kernel)
theorem lkX4_11 : Cond.methodLink RX4 11 yX2_init ∈ mT0 := mT0_tbl (i := 50) (by decide +kernel) (by decide +kernel)
theorem lkX2_3 : Cond.methodLink RX2 3 Lib.objectInit ∈ mT0 := mT0_tbl (i := 53) (by decide +kernel) (by decide +kernel)
theorem lkX2_9 : Cond.methodLink RX2 9 yJ9_max_7cf53 ∈ mT0 := mT0_tbl (i := 54) (by decide +kernel) (by decide +kernel)
theorem clX7_26 : Cond.classLink RX7 26 RX0 ∈ mT0 := mT0_tbl (i := 97) (by decide +kernel) (by decide +kernel)
theorem inX0 : Cond.instantiable RX0 3 ∈ mT0 := mT0_tbl (i := 98) (by decide +kernel) (by decide +kernel)
theorem lkX7_28 : Cond.methodLink RX7 28 yX0_init ∈ mT0 := mT0_tbl (i := 99) (by decide +kernel) (by decide +kernel)
theorem lkX0_3 : Cond.methodLink RX0 3 Lib.objectInit ∈ mT0 := mT0_tbl (i := 102) (by decide +kernel) (by decide +kernel)
theorem clX0_9 : Cond.classLink RX0 9 RX6 ∈ mT0 := mT0_tbl (i := 103) (by decide +kernel) (by decide +kernel)
theorem lkX0_17 : Cond.methodLink RX0 17 yX6_init ∈ mT0 := mT0_tbl (i := 105) (by decide +kernel) (by decide +kernel)
theorem clX7_33 : Cond.classLink RX7 33 RX3 ∈ mT0 := mT0_tbl (i := 117) (by decide +kernel) (by decide +kernel)
theorem inX3 : Cond.instantiable RX3 2 ∈ mT0 := mT0_tbl (i := 118) (by decide +kernel) (by decide +kernel)
theorem lkX7_35 : Cond.methodLink RX7 35 yX3_init ∈ mT0 := mT0_tbl (i := 119) (by decide +kernel) (by decide +kernel)
theorem lkX3_3 : Cond.methodLink RX3 3 Lib.objectInit ∈ mT0 := mT0_tbl (i := 122) (by decide +kernel) (by decide +kernel)
theorem clX3_9 : Cond.classLink RX3 9 RX6 ∈ mT0 := mT0_tbl (i := 123) (by decide +kernel) (by decide +kernel)
theorem lkX3_17 : Cond.methodLink RX3 17 yX6_init ∈ mT0 := mT0_tbl (i := 124) (by decide +kernel) (by decide +kernel)
theorem clX7_40 : Cond.classLink RX7 40 RX1 ∈ mT0 := mT0_tbl (i := 132) (by decide +kernel) (by decide +kernel)
theorem inX1 : Cond.instantiable RX1 3 ∈ mT0 := mT0_tbl (i := 133) (by decide +kernel) (by decide +kernel)
theorem lkX7_42 : ∃ host, Cond.methodLinkNest RX7 42 yX1_init host ∈ mNw := ⟨"TinselRiver", mNw_tbl (i := 134) (by decide +kernel) (by decide +kernel)⟩
theorem lkX1_3 : Cond.methodLink RX1 3 Lib.objectInit ∈ mT0 := mT0_tbl (i := 137) (by decide +kernel) (by decide +kernel)
theorem ac_boolean : Cond.arrayClass .boolean ∈ mT0 := mT0_tbl (i := 149) (by decide +kernel) (by decide +kernel)
theorem clX7_47 : Cond.classLink RX7 47 RX2 ∈ mT0 := mT0_tbl (i := 150) (by decide +kernel) (by decide +kernel)
theorem lkX7_49 : Cond.methodLink RX7 49 yX2_init ∈ mT0 := mT0_tbl (i := 151) (by decide +kernel) (by decide +kernel)
theorem lkL_13 : Cond.methodLink RL 13 yX7_write ∈ mT0 := mT0_tbl (i := 192) (by decide +kernel) (by decide +kernel)
theorem lkX7_76 : Cond.methodLink RX7 76 yX5_add ∈ mT0 := mT0_tbl (i := 196) (by decide +kernel) (by decide +kernel)
theorem lkL_18 : Cond.methodLink RL 18 yX7_wipe ∈ mT0 := mT0_tbl (i := 200) (by decide +kernel) (by decide +kernel)
theorem lkX7_80 : Cond.methodLink RX7 80 yX5_clear ∈ mT0 := mT0_tbl (i := 204) (by decide +kernel) (by decide +kernel)
theorem lkL_23 : Cond.methodLink RL 23 yX7_fault ∈ mT0 := mT0_tbl (i := 208) (by decide +kernel) (by decide +kernel)
theorem lkX7_84 : Cond.methodLink RX7 84 yX5_firstFault ∈ mT0 := mT0_tbl (i := 212) (by decide +kernel) (by decide +kernel)
theorem lkX5_19 : Cond.methodLink RX5 19 yX5_stateAfter ∈ mT0 := mT0_tbl (i := 216) (by decide +kernel) (by decide +kernel)
theorem lkX5_23 : Cond.methodLink RX5 23 yX5_isFigure ∈ mT0 := mT0_tbl (i := 219) (by decide +kernel) (by decide +kernel)
theorem lkX5_27 : Cond.methodLink RX5 27 yX5_isBend ∈ mT0 := mT0_tbl (i := 222) (by decide +kernel) (by decide +kernel)
theorem lkL_27 : Cond.methodLink RL 27 yX7_valley ∈ mT0 := mT0_tbl (i := 225) (by decide +kernel) (by decide +kernel)
theorem lkX7_87 : Cond.methodLink RX7 87 yX5_tellTo ∈ mT0 := mT0_tbl (i := 229) (by decide +kernel) (by decide +kernel)
theorem lkX5_31 : Cond.methodLink RX5 31 yX6_clear ∈ mT0 := mT0_tbl (i := 233) (by decide +kernel) (by decide +kernel)
theorem lkX5_36 : Cond.methodLink RX5 36 yX6_bendLast ∈ mT0 := mT0_tbl (i := 237) (by decide +kernel) (by decide +kernel)
theorem lkX6_44 : Cond.methodLink RX6 44 yX2_add ∈ mT0 := mT0_tbl (i := 241) (by decide +kernel) (by decide +kernel)
theorem lkX5_40 : Cond.methodLink RX5 40 yX6_begin ∈ mT0 := mT0_tbl (i := 245) (by decide +kernel) (by decide +kernel)
theorem lkX6_39 : Cond.methodLink RX6 39 yX2_clear ∈ mT0 := mT0_tbl (i := 249) (by decide +kernel) (by decide +kernel)
theorem lkX7_91 : Cond.methodLink RX7 91 yX0_clear ∈ mT0 := mT0_tbl (i := 253) (by decide +kernel) (by decide +kernel)
theorem lkX7_93 : Cond.methodLink RX7 93 yX3_clear ∈ mT0 := mT0_tbl (i := 257) (by decide +kernel) (by decide +kernel)
theorem lkL_33 : Cond.methodLink RL 33 yX7_bed ∈ mT0 := mT0_tbl (i := 261) (by decide +kernel) (by decide +kernel)
theorem lkX7_98 : Cond.methodLink RX7 98 yX7_isRowOfBends ∈ mT0 := mT0_tbl (i := 265) (by decide +kernel) (by decide +kernel)
theorem csX7_138 : Cond.constantLong RX7 138 (10) ∈ mT0 := mT0_tbl (i := 268) (by decide +kernel) (by decide +kernel)
theorem csX7_140 : Cond.constantLong RX7 140 (4) ∈ mT0 := mT0_tbl (i := 269) (by decide +kernel) (by decide +kernel)
theorem lkX7_105 : Cond.methodLink RX7 105 yX2_setFigures ∈ mT0 := mT0_tbl (i := 270) (by decide +kernel) (by decide +kernel)
theorem lkX2_25 : Cond.methodLink RX2 25 yJ9_min_7cf53 ∈ mT0 := mT0_tbl (i := 274) (by decide +kernel) (by decide +kernel)
theorem csX2_28 : Cond.constantLong RX2 28 (10) ∈ mT0 := mT0_tbl (i := 277) (by decide +kernel) (by decide +kernel)
theorem lkL_38 : Cond.methodLink RL 38 yX7_strand ∈ mT0 := mT0_tbl (i := 278) (by decide +kernel) (by decide +kernel)
theorem lkX7_109 : Cond.methodLink RX7 109 yX6_has ∈ mT0 := mT0_tbl (i := 282) (by decide +kernel) (by decide +kernel)
theorem lkX7_128 : Cond.methodLink RX7 128 yX2_firstPlaceOf ∈ mT0 := mT0_tbl (i := 286) (by decide +kernel) (by decide +kernel)
theorem lkX2_42 : Cond.methodLink RX2 42 yX2_bearsAt ∈ mT0 := mT0_tbl (i := 290) (by decide +kernel) (by decide +kernel)
theorem lkL_43 : Cond.methodLink RL 43 yX7_bends ∈ mT0 := mT0_tbl (i := 294) (by decide +kernel) (by decide +kernel)
theorem lkX7_132 : Cond.methodLink RX7 132 yX2_figures ∈ mT0 := mT0_tbl (i := 298) (by decide +kernel) (by decide +kernel)
theorem csX7_136 : Cond.constantLong RX7 136 (-1) ∈ mT0 := mT0_tbl (i := 302) (by decide +kernel) (by decide +kernel)
theorem lkL_48 : Cond.methodLink RL 48 yX7_winter ∈ mT0 := mT0_tbl (i := 303) (by decide +kernel) (by decide +kernel)
theorem lkX7_142 : Cond.methodLink RX7 142 yX6_setTo ∈ mT0 := mT0_tbl (i := 307) (by decide +kernel) (by decide +kernel)
theorem lkX6_25 : Cond.methodLink RX6 25 yX4_setTo ∈ mT0 := mT0_tbl (i := 311) (by decide +kernel) (by decide +kernel)
theorem lkX4_20 : Cond.methodLink RX4 20 yX2_setTo ∈ mT0 := mT0_tbl (i := 315) (by decide +kernel) (by decide +kernel)
theorem lkX7_145 : Cond.methodLink RX7 145 yX6_passWinter ∈ mT0 := mT0_tbl (i := 319) (by decide +kernel) (by decide +kernel)
theorem lkX6_61 : Cond.methodLink RX6 61 yX6_whoIsThere ∈ mT0 := mT0_tbl (i := 323) (by decide +kernel) (by decide +kernel)
theorem lkX6_51 : Cond.methodLink RX6 51 yX6_has ∈ mT0 := mT0_tbl (i := 327) (by decide +kernel) (by decide +kernel)
theorem lkX6_65 : Cond.methodLink RX6 65 yJ6_bitCount_0f7a4 ∈ mT0 := mT0_tbl (i := 328) (by decide +kernel) (by decide +kernel)
theorem csJ6_265 : Cond.constant RJ6 265 (1431655765) ∈ mT0 := mT0_tbl (i := 331) (by decide +kernel) (by decide +kernel)
theorem csJ6_266 : Cond.constant RJ6 266 (858993459) ∈ mT0 := mT0_tbl (i := 332) (by decide +kernel) (by decide +kernel)
theorem csJ6_267 : Cond.constant RJ6 267 (252645135) ∈ mT0 := mT0_tbl (i := 333) (by decide +kernel) (by decide +kernel)
theorem lkX6_71 : Cond.methodLink RX6 71 yX6_winterOf ∈ mT0 := mT0_tbl (i := 334) (by decide +kernel) (by decide +kernel)
theorem lkX6_74 : Cond.methodLink RX6 74 yX6_floodFrom ∈ mT0 := mT0_tbl (i := 338) (by decide +kernel) (by decide +kernel)
theorem lkX6_83 : Cond.methodLink RX6 83 yX2_loseFirst ∈ mT0 := mT0_tbl (i := 342) (by decide +kernel) (by decide +kernel)
theorem lkX6_77 : Cond.methodLink RX6 77 yX6_countIn ∈ mT0 := mT0_tbl (i := 346) (by decide +kernel) (by decide +kernel)
theorem lkX6_80 : Cond.methodLink RX6 80 yX2_loseLast ∈ mT0 := mT0_tbl (i := 350) (by decide +kernel) (by decide +kernel)
theorem lkX7_148 : Cond.methodLink RX7 148 yX7_take ∈ mT0 := mT0_tbl (i := 354) (by decide +kernel) (by decide +kernel)
theorem lkX7_168 : Cond.methodLink RX7 168 yX0_remember ∈ mT0 := mT0_tbl (i := 358) (by decide +kernel) (by decide +kernel)
theorem lkX0_25 : Cond.methodLink RX0 25 yX6_setTo ∈ mT0 := mT0_tbl (i := 362) (by decide +kernel) (by decide +kernel)
theorem lkL_52 : Cond.methodLink RL 52 yX7_hang ∈ mT0 := mT0_tbl (i := 363) (by decide +kernel) (by decide +kernel)
theorem lkX7_151 : Cond.methodLink RX7 151 yX6_hangIn ∈ mT0 := mT0_tbl (i := 367) (by decide +kernel) (by decide +kernel)
theorem lkL_56 : Cond.methodLink RL 56 yX7_turn ∈ mT0 := mT0_tbl (i := 371) (by decide +kernel) (by decide +kernel)
theorem lkX7_155 : Cond.methodLink RX7 155 yX6_turnAbout ∈ mT0 := mT0_tbl (i := 375) (by decide +kernel) (by decide +kernel)
theorem lkX6_86 : Cond.methodLink RX6 86 yX2_reverse ∈ mT0 := mT0_tbl (i := 379) (by decide +kernel) (by decide +kernel)
theorem lkL_60 : Cond.methodLink RL 60 yX7_snip ∈ mT0 := mT0_tbl (i := 383) (by decide +kernel) (by decide +kernel)
theorem lkX7_158 : Cond.methodLink RX7 158 yX6_snipEnd ∈ mT0 := mT0_tbl (i := 387) (by decide +kernel) (by decide +kernel)
theorem lkL_64 : Cond.methodLink RL 64 yX7_join ∈ mT0 := mT0_tbl (i := 391) (by decide +kernel) (by decide +kernel)
theorem lkX7_161 : Cond.methodLink RX7 161 yX6_joinTo ∈ mT0 := mT0_tbl (i := 395) (by decide +kernel) (by decide +kernel)
theorem lkX6_93 : Cond.methodLink RX6 93 yX2_overlapWith ∈ mT0 := mT0_tbl (i := 399) (by decide +kernel) (by decide +kernel)
theorem lkX2_30 : Cond.methodLink RX2 30 yX2_endsAs ∈ mT0 := mT0_tbl (i := 403) (by decide +kernel) (by decide +kernel)
theorem lkX6_97 : Cond.methodLink RX6 97 yX2_addBehind ∈ mT0 := mT0_tbl (i := 407) (by decide +kernel) (by decide +kernel)
theorem lkX2_34 : Cond.methodLink RX2 34 yX2_overlapWith ∈ mT0 := mT0_tbl (i := 411) (by decide +kernel) (by decide +kernel)
theorem lkX2_38 : Cond.methodLink RX2 38 yX2_add ∈ mT0 := mT0_tbl (i := 412) (by decide +kernel) (by decide +kernel)
theorem lkL_68 : Cond.methodLink RL 68 yX7_undo ∈ mT0 := mT0_tbl (i := 413) (by decide +kernel) (by decide +kernel)
theorem lkX7_164 : Cond.methodLink RX7 164 yX0_takeBack ∈ mT0 := mT0_tbl (i := 417) (by decide +kernel) (by decide +kernel)
theorem lkL_72 : Cond.methodLink RL 72 yX7_later ∈ mT0 := mT0_tbl (i := 421) (by decide +kernel) (by decide +kernel)
theorem lkL_76 : Cond.methodLink RL 76 yX7_lasts ∈ mT0 := mT0_tbl (i := 425) (by decide +kernel) (by decide +kernel)
theorem lkL_80 : Cond.methodLink RL 80 yX7_overlap ∈ mT0 := mT0_tbl (i := 429) (by decide +kernel) (by decide +kernel)
theorem lkX7_171 : Cond.methodLink RX7 171 yX2_overlapWith ∈ mT0 := mT0_tbl (i := 433) (by decide +kernel) (by decide +kernel)
theorem lkL_84 : Cond.methodLink RL 84 yX7_river ∈ mT0 := mT0_tbl (i := 434) (by decide +kernel) (by decide +kernel)
theorem lkX7_174 : Cond.methodLink RX7 174 yX6_whoIsThere ∈ mT0 := mT0_tbl (i := 438) (by decide +kernel) (by decide +kernel)
theorem lkX7_177 : Cond.methodLink RX7 177 yJ6_bitCount_0f7a4 ∈ mT0 := mT0_tbl (i := 439) (by decide +kernel) (by decide +kernel)
theorem lkX7_182 : Cond.methodLink RX7 182 yX7_isOrder ∈ mT0 := mT0_tbl (i := 440) (by decide +kernel) (by decide +kernel)
theorem lkX7_189 : Cond.methodLink RX7 189 yX7_figureOf ∈ mT0 := mT0_tbl (i := 444) (by decide +kernel) (by decide +kernel)
theorem lkX7_186 : Cond.methodLink RX7 186 yX7_flow ∈ mT0 := mT0_tbl (i := 447) (by decide +kernel) (by decide +kernel)
theorem lkX7_193 : Cond.methodLink RX7 193 yX2_clear ∈ mT0 := mT0_tbl (i := 451) (by decide +kernel) (by decide +kernel)
theorem lkX7_194 : Cond.methodLink RX7 194 yX2_addBehind ∈ mT0 := mT0_tbl (i := 452) (by decide +kernel) (by decide +kernel)
theorem lkL_88 : Cond.methodLink RL 88 yX7_covered ∈ mT0 := mT0_tbl (i := 453) (by decide +kernel) (by decide +kernel)
theorem lkX7_198 : Cond.methodLink RX7 198 yX7_findCovers ∈ mT0 := mT0_tbl (i := 457) (by decide +kernel) (by decide +kernel)
theorem lkX7_201 : Cond.methodLink RX7 201 yX2_placesUnder ∈ mT0 := mT0_tbl (i := 461) (by decide +kernel) (by decide +kernel)
theorem lkX2_46 : Cond.methodLink RX2 46 yX2_bitsAt ∈ mT0 := mT0_tbl (i := 465) (by decide +kernel) (by decide +kernel)
theorem lkL_92 : Cond.methodLink RL 92 yX7_ways ∈ mT0 := mT0_tbl (i := 469) (by decide +kernel) (by decide +kernel)
theorem lkX7_204 : Cond.methodLink RX7 204 yX7_waysFrom ∈ mT0 := mT0_tbl (i := 473) (by decide +kernel) (by decide +kernel)
theorem lkX7_208 : Cond.methodLink RX7 208 yX6_bendsFrom ∈ mT0 := mT0_tbl (i := 476) (by decide +kernel) (by decide +kernel)
theorem lkX6_55 : Cond.methodLink RX6 55 yJ9_max_7cf53 ∈ mT0 := mT0_tbl (i := 480) (by decide +kernel) (by decide +kernel)
theorem lkX7_211 : Cond.methodLink RX7 211 yX2_bearsAt ∈ mT0 := mT0_tbl (i := 481) (by decide +kernel) (by decide +kernel)
theorem lkX7_215 : Cond.methodLink RX7 215 yX2_bitsAt ∈ mT0 := mT0_tbl (i := 482) (by decide +kernel) (by decide +kernel)
theorem lkL_96 : Cond.methodLink RL 96 yX7_judge ∈ mT0 := mT0_tbl (i := 483) (by decide +kernel) (by decide +kernel)
theorem csX7_218 : Cond.constantLong RX7 218 (1000) ∈ mT0 := mT0_tbl (i := 487) (by decide +kernel) (by decide +kernel)
theorem lkX7_220 : Cond.methodLink RX7 220 yJ9_max_f86c9 ∈ mT0 := mT0_tbl (i := 488) (by decide +kernel) (by decide +kernel)
theorem lkX7_226 : Cond.methodLink RX7 226 yX7_canBe ∈ mT0 := mT0_tbl (i := 491) (by decide +kernel) (by decide +kernel)
theorem lkL_100 : Cond.methodLink RL 100 yX7_lay ∈ mT0 := mT0_tbl (i := 495) (by decide +kernel) (by decide +kernel)
theorem lkX7_229 : Cond.methodLink RX7 229 yX1_add ∈ mT0 := mT0_tbl (i := 499) (by decide +kernel) (by decide +kernel)
theorem lkL_104 : Cond.methodLink RL 104 yX7_unlay ∈ mT0 := mT0_tbl (i := 503) (by decide +kernel) (by decide +kernel)
theorem lkX7_232 : Cond.methodLink RX7 232 yX1_clear ∈ mT0 := mT0_tbl (i := 507) (by decide +kernel) (by decide +kernel)
theorem lkL_108 : Cond.methodLink RL 108 yX7_which ∈ mT0 := mT0_tbl (i := 511) (by decide +kernel) (by decide +kernel)
theorem lkX7_233 : Cond.methodLink RX7 233 yX7_guessRow ∈ mT0 := mT0_tbl (i := 515) (by decide +kernel) (by decide +kernel)
theorem lkX7_241 : Cond.methodLink RX7 241 yX2_add ∈ mT0 := mT0_tbl (i := 519) (by decide +kernel) (by decide +kernel)
theorem lkX7_237 : Cond.methodLink RX7 237 yX1_isSo ∈ mT0 := mT0_tbl (i := 520) (by decide +kernel) (by decide +kernel)
theorem lkX1_23 : Cond.methodLink RX1 23 yX2_bearsAt ∈ mT0 := mT0_tbl (i := 524) (by decide +kernel) (by decide +kernel)
theorem lkL_112 : Cond.methodLink RL 112 yX7_share ∈ mT0 := mT0_tbl (i := 525) (by decide +kernel) (by decide +kernel)
theorem lkX7_243 : Cond.methodLink RX7 243 yX7_coversOn ∈ mT0 := mT0_tbl (i := 529) (by decide +kernel) (by decide +kernel)
theorem lkX7_246 : Cond.methodLink RX7 246 yJ9_max_7cf53 ∈ mT0 := mT0_tbl (i := 533) (by decide +kernel) (by decide +kernel)
theorem lkX7_248 : Cond.methodLink RX7 248 yX7_partOfFraction ∈ mT0 := mT0_tbl (i := 534) (by decide +kernel) (by decide +kernel)
theorem lkX7_270 : Cond.methodLink RX7 270 yX7_commonDivisor ∈ mT0 := mT0_tbl (i := 537) (by decide +kernel) (by decide +kernel)
theorem lkL_117 : Cond.methodLink RL 117 yX7_rests ∈ mT0 := mT0_tbl (i := 540) (by decide +kernel) (by decide +kernel)
theorem lkX7_252 : Cond.methodLink RX7 252 yX7_findGains ∈ mT0 := mT0_tbl (i := 544) (by decide +kernel) (by decide +kernel)
theorem lkX7_258 : Cond.methodLink RX7 258 yX7_gainOf ∈ mT0 := mT0_tbl (i := 548) (by decide +kernel) (by decide +kernel)
theorem lkX7_255 : Cond.methodLink RX7 255 yX7_isRest ∈ mT0 := mT0_tbl (i := 552) (by decide +kernel) (by decide +kernel)
theorem lkL_122 : Cond.methodLink RL 122 yX7_lost ∈ mT0 := mT0_tbl (i := 556) (by decide +kernel) (by decide +kernel)
theorem lkX7_261 : Cond.methodLink RX7 261 yX7_coveredBy ∈ mT0 := mT0_tbl (i := 560) (by decide +kernel) (by decide +kernel)
theorem lkX7_264 : Cond.methodLink RX7 264 yX7_wholeBed ∈ mT0 := mT0_tbl (i := 564) (by decide +kernel) (by decide +kernel)
theorem lkX7_267 : Cond.methodLink RX7 267 yX7_chanceOf ∈ mT0 := mT0_tbl (i := 568) (by decide +kernel) (by decide +kernel)
theorem lkL_126 : Cond.methodLink RL 126 yX7_seed ∈ mT0 := mT0_tbl (i := 571) (by decide +kernel) (by decide +kernel)
theorem lkL_131 : Cond.methodLink RL 131 yX7_years ∈ mT0 := mT0_tbl (i := 575) (by decide +kernel) (by decide +kernel)
theorem csX7_273 : Cond.constantLong RX7 273 (6364136223846793005) ∈ mT0 := mT0_tbl (i := 579) (by decide +kernel) (by decide +kernel)
theorem csX7_275 : Cond.constantLong RX7 275 (1442695040888963407) ∈ mT0 := mT0_tbl (i := 580) (by decide +kernel) (by decide +kernel)
theorem lkX7_277 : Cond.methodLink RX7 277 yX7_doByChance ∈ mT0 := mT0_tbl (i := 581) (by decide +kernel) (by decide +kernel)
theorem lkL_135 : Cond.methodLink RL 135 yX7_keep ∈ mT0 := mT0_tbl (i := 585) (by decide +kernel) (by decide +kernel)
theorem lkX7_280 : Cond.methodLink RX7 280 yX3_put ∈ mT0 := mT0_tbl (i := 589) (by decide +kernel) (by decide +kernel)
theorem lkX3_22 : Cond.methodLink RX3 22 yX6_setTo ∈ mT0 := mT0_tbl (i := 593) (by decide +kernel) (by decide +kernel)
theorem lkL_139 : Cond.methodLink RL 139 yX7_again ∈ mT0 := mT0_tbl (i := 594) (by decide +kernel) (by decide +kernel)
theorem lkX7_284 : Cond.methodLink RX7 284 yX3_bringBack ∈ mT0 := mT0_tbl (i := 598) (by decide +kernel) (by decide +kernel)
theorem lkL_143 : Cond.methodLink RL 143 yX7_count ∈ mT0 := mT0_tbl (i := 602) (by decide +kernel) (by decide +kernel)
theorem lkX7_291 : Cond.methodLink RX7 291 yX6_housesInUse ∈ mT0 := mT0_tbl (i := 606) (by decide +kernel) (by decide +kernel)
theorem clL_10 : Cond.classLink RL 10 RX8 ∈ mT0 := mT0_tbl (i := 610) (by decide +kernel) (by decide +kernel)
theorem inX8 : Cond.instantiable RX8 24 ∈ mT0 := mT0_tbl (i := 611) (by decide +kernel) (by decide +kernel)
theorem lkL_12 : Cond.methodLink RL 12 yX8_init ∈ mT0 := mT0_tbl (i := 612) (by decide +kernel) (by decide +kernel)
theorem lkX8_1 : Cond.methodLink RX8 1 Lib.objectInit ∈ mT0 := mT0_tbl (i := 615) (by decide +kernel) (by decide +kernel)
theorem lkL_17 : Cond.methodLink RL 17 yX8_write ∈ mT0 := mT0_tbl (i := 689) (by decide +kernel) (by decide +kernel)
theorem csX8_50 : Cond.constantLong RX8 50 (255) ∈ mT0 := mT0_tbl (i := 693) (by decide +kernel) (by decide +kernel)
theorem lkX8_52 : Cond.methodLink RX8 52 yX8_in ∈ mT0 := mT0_tbl (i := 694) (by decide +kernel) (by decide +kernel)
theorem lkL_22 : Cond.methodLink RL 22 yX8_wipe ∈ mT0 := mT0_tbl (i := 697) (by decide +kernel) (by decide +kernel)
theorem lkL_26 : Cond.methodLink RL 26 yX8_fault ∈ mT0 := mT0_tbl (i := 701) (by decide +kernel) (by decide +kernel)
theorem lkX8_85 : Cond.methodLink RX8 85 yX8_readText ∈ mT0 := mT0_tbl (i := 705) (by decide +kernel) (by decide +kernel)
theorem lkX8_73 : Cond.methodLink RX8 73 yX8_readPart ∈ mT0 := mT0_tbl (i := 709) (by decide +kernel) (by decide +kernel)
theorem lkX8_77 : Cond.methodLink RX8 77 yX8_nextOf ∈ mT0 := mT0_tbl (i := 713) (by decide +kernel) (by decide +kernel)
theorem lkX8_81 : Cond.methodLink RX8 81 yX8_isBend ∈ mT0 := mT0_tbl (i := 717) (by decide +kernel) (by decide +kernel)
theorem csX8_66 : Cond.constantLong RX8 66 (97) ∈ mT0 := mT0_tbl (i := 721) (by decide +kernel) (by decide +kernel)
theorem csX8_68 : Cond.constantLong RX8 68 (100) ∈ mT0 := mT0_tbl (i := 722) (by decide +kernel) (by decide +kernel)
theorem lkL_30 : Cond.methodLink RL 30 yX8_valley ∈ mT0 := mT0_tbl (i := 723) (by decide +kernel) (by decide +kernel)
theorem lkL_37 : Cond.methodLink RL 37 yX8_bed ∈ mT0 := mT0_tbl (i := 727) (by decide +kernel) (by decide +kernel)
theorem csX8_138 : Cond.constantLong RX8 138 (12) ∈ mT0 := mT0_tbl (i := 731) (by decide +kernel) (by decide +kernel)
theorem lkX8_140 : Cond.methodLink RX8 140 yX8_tenTo ∈ mT0 := mT0_tbl (i := 732) (by decide +kernel) (by decide +kernel)
theorem csX8_136 : Cond.constantLong RX8 136 (10) ∈ mT0 := mT0_tbl (i := 735) (by decide +kernel) (by decide +kernel)
theorem csX8_144 : Cond.constantLong RX8 144 (4) ∈ mT0 := mT0_tbl (i := 736) (by decide +kernel) (by decide +kernel)
theorem lkL_42 : Cond.methodLink RL 42 yX8_strand ∈ mT0 := mT0_tbl (i := 737) (by decide +kernel) (by decide +kernel)
theorem lkX8_99 : Cond.methodLink RX8 99 yX8_isThere ∈ mT0 := mT0_tbl (i := 741) (by decide +kernel) (by decide +kernel)
theorem lkX8_152 : Cond.methodLink RX8 152 yX8_firstPlace ∈ mT0 := mT0_tbl (i := 745) (by decide +kernel) (by decide +kernel)
theorem lkX8_149 : Cond.methodLink RX8 149 yX8_liesAt ∈ mT0 := mT0_tbl (i := 749) (by decide +kernel) (by decide +kernel)
theorem lkX8_122 : Cond.methodLink RX8 122 yX8_bendAt ∈ mT0 := mT0_tbl (i := 753) (by decide +kernel) (by decide +kernel)
theorem lkL_47 : Cond.methodLink RL 47 yX8_bends ∈ mT0 := mT0_tbl (i := 757) (by decide +kernel) (by decide +kernel)
theorem csX8_155 : Cond.constantLong RX8 155 (-1) ∈ mT0 := mT0_tbl (i := 761) (by decide +kernel) (by decide +kernel)
theorem lkL_51 : Cond.methodLink RL 51 yX8_winter ∈ mT0 := mT0_tbl (i := 762) (by decide +kernel) (by decide +kernel)
theorem lkX8_160 : Cond.methodLink RX8 160 yX8_keepAct ∈ mT0 := mT0_tbl (i := 766) (by decide +kernel) (by decide +kernel)
theorem lkX8_163 : Cond.methodLink RX8 163 yX8_passOn ∈ mT0 := mT0_tbl (i := 770) (by decide +kernel) (by decide +kernel)
theorem lkX8_116 : Cond.methodLink RX8 116 yX8_whoIs ∈ mT0 := mT0_tbl (i := 774) (by decide +kernel) (by decide +kernel)
theorem lkX8_119 : Cond.methodLink RX8 119 yX8_hurt ∈ mT0 := mT0_tbl (i := 778) (by decide +kernel) (by decide +kernel)
theorem lkX8_103 : Cond.methodLink RX8 103 yX8_inHouse ∈ mT0 := mT0_tbl (i := 782) (by decide +kernel) (by decide +kernel)
theorem lkX8_106 : Cond.methodLink RX8 106 yX8_has ∈ mT0 := mT0_tbl (i := 786) (by decide +kernel) (by decide +kernel)
theorem lkX8_109 : Cond.methodLink RX8 109 yX8_loseFirst ∈ mT0 := mT0_tbl (i := 789) (by decide +kernel) (by decide +kernel)
theorem lkX8_95 : Cond.methodLink RX8 95 yX8_loseLast ∈ mT0 := mT0_tbl (i := 793) (by decide +kernel) (by decide +kernel)
theorem lkX8_112 : Cond.methodLink RX8 112 yX8_ones ∈ mT0 := mT0_tbl (i := 797) (by decide +kernel) (by decide +kernel)
theorem lkL_55 : Cond.methodLink RL 55 yX8_hang ∈ mT0 := mT0_tbl (i := 800) (by decide +kernel) (by decide +kernel)
theorem csX8_166 : Cond.constantLong RX8 166 (3) ∈ mT0 := mT0_tbl (i := 804) (by decide +kernel) (by decide +kernel)
theorem lkL_59 : Cond.methodLink RL 59 yX8_turn ∈ mT0 := mT0_tbl (i := 805) (by decide +kernel) (by decide +kernel)
theorem lkX8_168 : Cond.methodLink RX8 168 yX8_turnOn ∈ mT0 := mT0_tbl (i := 809) (by decide +kernel) (by decide +kernel)
theorem lkL_63 : Cond.methodLink RL 63 yX8_snip ∈ mT0 := mT0_tbl (i := 813) (by decide +kernel) (by decide +kernel)
theorem lkL_67 : Cond.methodLink RL 67 yX8_join ∈ mT0 := mT0_tbl (i := 817) (by decide +kernel) (by decide +kernel)
theorem lkX8_129 : Cond.methodLink RX8 129 yX8_isOneHouse ∈ mT0 := mT0_tbl (i := 821) (by decide +kernel) (by decide +kernel)
theorem lkX8_171 : Cond.methodLink RX8 171 yX8_canJoin ∈ mT0 := mT0_tbl (i := 825) (by decide +kernel) (by decide +kernel)
theorem lkX8_133 : Cond.methodLink RX8 133 yX8_joinedMany ∈ mT0 := mT0_tbl (i := 829) (by decide +kernel) (by decide +kernel)
theorem lkX8_126 : Cond.methodLink RX8 126 yX8_overlapOf ∈ mT0 := mT0_tbl (i := 833) (by decide +kernel) (by decide +kernel)
theorem lkX8_174 : Cond.methodLink RX8 174 yX8_joinOn ∈ mT0 := mT0_tbl (i := 837) (by decide +kernel) (by decide +kernel)
theorem lkL_71 : Cond.methodLink RL 71 yX8_undo ∈ mT0 := mT0_tbl (i := 841) (by decide +kernel) (by decide +kernel)
theorem lkL_75 : Cond.methodLink RL 75 yX8_later ∈ mT0 := mT0_tbl (i := 845) (by decide +kernel) (by decide +kernel)
theorem csX8_178 : Cond.constantLong RX8 178 (20) ∈ mT0 := mT0_tbl (i := 849) (by decide +kernel) (by decide +kernel)
theorem lkX8_180 : Cond.methodLink RX8 180 yX8_layTrial ∈ mT0 := mT0_tbl (i := 850) (by decide +kernel) (by decide +kernel)
theorem lkL_79 : Cond.methodLink RL 79 yX8_lasts ∈ mT0 := mT0_tbl (i := 854) (by decide +kernel) (by decide +kernel)
theorem lkL_83 : Cond.methodLink RL 83 yX8_overlap ∈ mT0 := mT0_tbl (i := 858) (by decide +kernel) (by decide +kernel)
theorem lkL_87 : Cond.methodLink RL 87 yX8_river ∈ mT0 := mT0_tbl (i := 862) (by decide +kernel) (by decide +kernel)
theorem lkX8_192 : Cond.methodLink RX8 192 yX8_riverBy ∈ mT0 := mT0_tbl (i := 866) (by decide +kernel) (by decide +kernel)
theorem lkX8_189 : Cond.methodLink RX8 189 yX8_flowOn ∈ mT0 := mT0_tbl (i := 870) (by decide +kernel) (by decide +kernel)
theorem lkX8_186 : Cond.methodLink RX8 186 yX8_goesOn ∈ mT0 := mT0_tbl (i := 874) (by decide +kernel) (by decide +kernel)
theorem lkL_91 : Cond.methodLink RL 91 yX8_covered ∈ mT0 := mT0_tbl (i := 878) (by decide +kernel) (by decide +kernel)
theorem lkX8_195 : Cond.methodLink RX8 195 yX8_coverOf ∈ mT0 := mT0_tbl (i := 882) (by decide +kernel) (by decide +kernel)
theorem lkL_95 : Cond.methodLink RL 95 yX8_ways ∈ mT0 := mT0_tbl (i := 886) (by decide +kernel) (by decide +kernel)
theorem lkX8_198 : Cond.methodLink RX8 198 yX8_isWay ∈ mT0 := mT0_tbl (i := 890) (by decide +kernel) (by decide +kernel)
theorem lkL_99 : Cond.methodLink RL 99 yX8_judge ∈ mT0 := mT0_tbl (i := 894) (by decide +kernel) (by decide +kernel)
theorem lkX8_202 : Cond.methodLink RX8 202 yX8_thousandTo ∈ mT0 := mT0_tbl (i := 898) (by decide +kernel) (by decide +kernel)
theorem csX8_205 : Cond.constantLong RX8 205 (1000) ∈ mT0 := mT0_tbl (i := 901) (by decide +kernel) (by decide +kernel)
theorem lkX8_207 : Cond.methodLink RX8 207 yX8_tryThing ∈ mT0 := mT0_tbl (i := 902) (by decide +kernel) (by decide +kernel)
theorem lkL_103 : Cond.methodLink RL 103 yX8_lay ∈ mT0 := mT0_tbl (i := 906) (by decide +kernel) (by decide +kernel)
theorem csX8_210 : Cond.constantLong RX8 210 (11) ∈ mT0 := mT0_tbl (i := 910) (by decide +kernel) (by decide +kernel)
theorem lkL_107 : Cond.methodLink RL 107 yX8_unlay ∈ mT0 := mT0_tbl (i := 911) (by decide +kernel) (by decide +kernel)
theorem lkL_111 : Cond.methodLink RL 111 yX8_which ∈ mT0 := mT0_tbl (i := 915) (by decide +kernel) (by decide +kernel)
theorem lkX8_218 : Cond.methodLink RX8 218 yX8_areBends ∈ mT0 := mT0_tbl (i := 919) (by decide +kernel) (by decide +kernel)
theorem lkX8_221 : Cond.methodLink RX8 221 yX8_mayBeLaid ∈ mT0 := mT0_tbl (i := 922) (by decide +kernel) (by decide +kernel)
theorem lkX8_215 : Cond.methodLink RX8 215 yX8_fitsAt ∈ mT0 := mT0_tbl (i := 926) (by decide +kernel) (by decide +kernel)
theorem lkL_116 : Cond.methodLink RL 116 yX8_share ∈ mT0 := mT0_tbl (i := 930) (by decide +kernel) (by decide +kernel)
theorem lkX8_224 : Cond.methodLink RX8 224 yX8_factorial ∈ mT0 := mT0_tbl (i := 934) (by decide +kernel) (by decide +kernel)
theorem lkX8_227 : Cond.methodLink RX8 227 yX8_common ∈ mT0 := mT0_tbl (i := 937) (by decide +kernel) (by decide +kernel)
theorem lkL_121 : Cond.methodLink RL 121 yX8_rests ∈ mT0 := mT0_tbl (i := 940) (by decide +kernel) (by decide +kernel)
theorem lkX8_234 : Cond.methodLink RX8 234 yX8_isRest ∈ mT0 := mT0_tbl (i := 944) (by decide +kernel) (by decide +kernel)
theorem lkX8_230 : Cond.methodLink RX8 230 yX8_gain ∈ mT0 := mT0_tbl (i := 948) (by decide +kernel) (by decide +kernel)
theorem lkL_125 : Cond.methodLink RL 125 yX8_lost ∈ mT0 := mT0_tbl (i := 952) (by decide +kernel) (by decide +kernel)
theorem lkX8_238 : Cond.methodLink RX8 238 yX8_power ∈ mT0 := mT0_tbl (i := 956) (by decide +kernel) (by decide +kernel)
theorem lkL_130 : Cond.methodLink RL 130 yX8_seed ∈ mT0 := mT0_tbl (i := 959) (by decide +kernel) (by decide +kernel)
theorem lkL_134 : Cond.methodLink RL 134 yX8_years ∈ mT0 := mT0_tbl (i := 963) (by decide +kernel) (by decide +kernel)
theorem csX8_245 : Cond.constantLong RX8 245 (30) ∈ mT0 := mT0_tbl (i := 967) (by decide +kernel) (by decide +kernel)
theorem csX8_247 : Cond.constantLong RX8 247 (6364136223846793005) ∈ mT0 := mT0_tbl (i := 968) (by decide +kernel) (by decide +kernel)
theorem csX8_249 : Cond.constantLong RX8 249 (1442695040888963407) ∈ mT0 := mT0_tbl (i := 969) (by decide +kernel) (by decide +kernel)
theorem csX8_251 : Cond.constantLong RX8 251 (32) ∈ mT0 := mT0_tbl (i := 970) (by decide +kernel) (by decide +kernel)
theorem lkX8_253 : Cond.methodLink RX8 253 yX8_bendsOfAll ∈ mT0 := mT0_tbl (i := 971) (by decide +kernel) (by decide +kernel)
theorem lkL_138 : Cond.methodLink RL 138 yX8_keep ∈ mT0 := mT0_tbl (i := 975) (by decide +kernel) (by decide +kernel)
theorem lkL_142 : Cond.methodLink RL 142 yX8_again ∈ mT0 := mT0_tbl (i := 979) (by decide +kernel) (by decide +kernel)
theorem lkL_146 : Cond.methodLink RL 146 yX8_count ∈ mT0 := mT0_tbl (i := 983) (by decide +kernel) (by decide +kernel)
theorem lkX8_256 : Cond.methodLink RX8 256 yX8_usedHouses ∈ mT0 := mT0_tbl (i := 987) (by decide +kernel) (by decide +kernel)
theorem csL_31 : Cond.constantLong RL 31 (4294967295) ∈ mT0 := mT0_tbl (i := 991) (by decide +kernel) (by decide +kernel)
theorem ic_m1 : Int32.ofInt (-1) = (-1) := by decide +kernel
theorem ic_0 : Int32.ofInt 0 = 0 := by decide +kernel
theorem ic_1 : Int32.ofInt 1 = 1 := by decide +kernel
theorem ic_2 : Int32.ofInt 2 = 2 := by decide +kernel
theorem ic_3 : Int32.ofInt 3 = 3 := by decide +kernel
theorem ic_4 : Int32.ofInt 4 = 4 := by decide +kernel
theorem bp_m9 : (Int8.ofInt (-9)).toInt32 = (-9) := by decide +kernel
theorem bp_m4 : (Int8.ofInt (-4)).toInt32 = (-4) := by decide +kernel
theorem bp_m3 : (Int8.ofInt (-3)).toInt32 = (-3) := by decide +kernel
theorem bp_m2 : (Int8.ofInt (-2)).toInt32 = (-2) := by decide +kernel
theorem bp_6 : (Int8.ofInt 6).toInt32 = 6 := by decide +kernel
theorem bp_8 : (Int8.ofInt 8).toInt32 = 8 := by decide +kernel
theorem bp_10 : (Int8.ofInt 10).toInt32 = 10 := by decide +kernel
theorem bp_11 : (Int8.ofInt 11).toInt32 = 11 := by decide +kernel
theorem bp_12 : (Int8.ofInt 12).toInt32 = 12 := by decide +kernel
theorem bp_13 : (Int8.ofInt 13).toInt32 = 13 := by decide +kernel
theorem bp_14 : (Int8.ofInt 14).toInt32 = 14 := by decide +kernel
theorem bp_15 : (Int8.ofInt 15).toInt32 = 15 := by decide +kernel
theorem bp_16 : (Int8.ofInt 16).toInt32 = 16 := by decide +kernel
theorem bp_19 : (Int8.ofInt 19).toInt32 = 19 := by decide +kernel
theorem bp_20 : (Int8.ofInt 20).toInt32 = 20 := by decide +kernel
theorem bp_21 : (Int8.ofInt 21).toInt32 = 21 := by decide +kernel
theorem bp_22 : (Int8.ofInt 22).toInt32 = 22 := by decide +kernel
theorem bp_23 : (Int8.ofInt 23).toInt32 = 23 := by decide +kernel
theorem bp_24 : (Int8.ofInt 24).toInt32 = 24 := by decide +kernel
theorem bp_30 : (Int8.ofInt 30).toInt32 = 30 := by decide +kernel
theorem bp_31 : (Int8.ofInt 31).toInt32 = 31 := by decide +kernel
theorem bp_32 : (Int8.ofInt 32).toInt32 = 32 := by decide +kernel
theorem bp_33 : (Int8.ofInt 33).toInt32 = 33 := by decide +kernel
theorem bp_48 : (Int8.ofInt 48).toInt32 = 48 := by decide +kernel
theorem bp_56 : (Int8.ofInt 56).toInt32 = 56 := by decide +kernel
theorem bp_57 : (Int8.ofInt 57).toInt32 = 57 := by decide +kernel
theorem bp_61 : (Int8.ofInt 61).toInt32 = 61 := by decide +kernel
theorem bp_63 : (Int8.ofInt 63).toInt32 = 63 := by decide +kernel
theorem bp_64 : (Int8.ofInt 64).toInt32 = 64 := by decide +kernel
theorem bp_83 : (Int8.ofInt 83).toInt32 = 83 := by decide +kernel
theorem bp_84 : (Int8.ofInt 84).toInt32 = 84 := by decide +kernel
theorem bp_96 : (Int8.ofInt 96).toInt32 = 96 := by decide +kernel
theorem bp_97 : (Int8.ofInt 97).toInt32 = 97 := by decide +kernel
theorem bp_100 : (Int8.ofInt 100).toInt32 = 100 := by decide +kernel
theorem bp_101 : (Int8.ofInt 101).toInt32 = 101 := by decide +kernel
theorem bp_114 : (Int8.ofInt 114).toInt32 = 114 := by decide +kernel
theorem sp_255 : (Int16.ofInt 255).toInt32 = 255 := by decide +kernel
theorem sp_445 : (Int16.ofInt 445).toInt32 = 445 := by decide +kernel
theorem sp_798 : (Int16.ofInt 798).toInt32 = 798 := by decide +kernel
theorem sp_20736 : (Int16.ofInt 20736).toInt32 = 20736 := by decide +kernel
