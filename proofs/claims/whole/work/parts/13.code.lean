set_option maxRecDepth 20000 in
theorem cm_X0_choose : Cond.code yX0_choose cX0_choose 9 none ∈ pm_TB := pm_TB_of (List.mem_of_getElem? (i := 300) rfl) rfl
set_option maxRecDepth 20000 in
theorem cm_X0_size : Cond.code yX0_size cX0_size 1 (some .int) ∈ pm_TB := pm_TB_of (List.mem_of_getElem? (i := 308) rfl) rfl
set_option maxRecDepth 20000 in
theorem cm_X0_has : Cond.code yX0_has cX0_has 3 (some .boolean) ∈ pm_TB := pm_TB_of (List.mem_of_getElem? (i := 419) rfl) rfl
set_option maxRecDepth 20000 in
theorem cm_X0_hasCode : Cond.code yX0_hasCode cX0_hasCode 2 (some .boolean) ∈ pm_TB := pm_TB_of (List.mem_of_getElem? (i := 626) rfl) rfl
set_option maxRecDepth 20000 in
theorem cm_X0_cardOf : Cond.code yX0_cardOf cX0_cardOf 3 (some .int) ∈ pm_TB := pm_TB_of (List.mem_of_getElem? (i := 304) rfl) rfl
set_option maxRecDepth 20000 in
theorem cm_X0_cardOfCode : Cond.code yX0_cardOfCode cX0_cardOfCode 2 (some .int) ∈ pm_TB := pm_TB_of (List.mem_of_getElem? (i := 631) rfl) rfl
set_option maxRecDepth 20000 in
theorem cm_X0_codeOf : Cond.code yX0_codeOf cX0_codeOf 2 (some .int) ∈ pm_TB := pm_TB_of (List.mem_of_getElem? (i := 610) rfl) rfl
set_option maxRecDepth 20000 in
theorem cm_X0_allows : Cond.code yX0_allows cX0_allows 3 (some .boolean) ∈ pm_TB := pm_TB_of (List.mem_of_getElem? (i := 477) rfl) rfl
set_option maxRecDepth 20000 in
theorem cm_X0_targetsOf : Cond.code yX0_targetsOf cX0_targetsOf 4 (some .int) ∈ pm_TB := pm_TB_of (List.mem_of_getElem? (i := 312) rfl) rfl
set_option maxRecDepth 20000 in
theorem cm_X0_lawLets : Cond.code yX0_lawLets cX0_lawLets 5 (some .boolean) ∈ pm_TB := pm_TB_of (List.mem_of_getElem? (i := 316) rfl) rfl
set_option maxRecDepth 20000 in
theorem cm_X0_closesRound : Cond.code yX0_closesRound cX0_closesRound 3 (some .boolean) ∈ pm_TB := pm_TB_of (List.mem_of_getElem? (i := 320) rfl) rfl
set_option maxRecDepth 20000 in
theorem cm_X0_suitsTurn : Cond.code yX0_suitsTurn cX0_suitsTurn 3 (some .boolean) ∈ pm_TB := pm_TB_of (List.mem_of_getElem? (i := 324) rfl) rfl
set_option maxRecDepth 20000 in
theorem cm_X1_restart : Cond.code yX1_restart cX1_restart 2 none ∈ pm_TB := pm_TB_of (List.mem_of_getElem? (i := 342) rfl) rfl
set_option maxRecDepth 20000 in
theorem cm_X1_keep : Cond.code yX1_keep cX1_keep 2 none ∈ pm_TB := pm_TB_of (List.mem_of_getElem? (i := 494) rfl) rfl
set_option maxRecDepth 20000 in
theorem cm_X1_canGoBack : Cond.code yX1_canGoBack cX1_canGoBack 1 (some .int) ∈ pm_TB := pm_TB_of (List.mem_of_getElem? (i := 595) rfl) rfl
set_option maxRecDepth 20000 in
theorem cm_X1_goBack : Cond.code yX1_goBack cX1_goBack 2 (some .boolean) ∈ pm_TB := pm_TB_of (List.mem_of_getElem? (i := 549) rfl) rfl
set_option maxRecDepth 20000 in
theorem cm_X1_goOn : Cond.code yX1_goOn cX1_goOn 2 (some .boolean) ∈ pm_TB := pm_TB_of (List.mem_of_getElem? (i := 566) rfl) rfl
set_option maxRecDepth 20000 in
theorem cm_X1_write : Cond.code yX1_write cX1_write 2 none ∈ pm_TB := pm_TB_of (List.mem_of_getElem? (i := 346) rfl) rfl
set_option maxRecDepth 20000 in
theorem cm_X2_write : Cond.code yX2_write cX2_write 6 none ∈ pm_TB := pm_TB_of (List.mem_of_getElem? (i := 689) rfl) rfl
set_option maxRecDepth 20000 in
theorem cm_X2_moveAt : Cond.code yX2_moveAt cX2_moveAt 2 (some .int) ∈ pm_TB := pm_TB_of (List.mem_of_getElem? (i := 703) rfl) rfl
set_option maxRecDepth 20000 in
theorem cm_X2_fromAt : Cond.code yX2_fromAt cX2_fromAt 2 (some .int) ∈ pm_TB := pm_TB_of (List.mem_of_getElem? (i := 699) rfl) rfl
set_option maxRecDepth 20000 in
theorem cm_X2_toAt : Cond.code yX2_toAt cX2_toAt 2 (some .int) ∈ pm_TB := pm_TB_of (List.mem_of_getElem? (i := 707) rfl) rfl
set_option maxRecDepth 20000 in
theorem cm_X3_fewestMoves : Cond.code yX3_fewestMoves cX3_fewestMoves 7 (some .int) ∈ pm_TB := pm_TB_of (List.mem_of_getElem? (i := 640) rfl) rfl
set_option maxRecDepth 20000 in
theorem cm_X3_restart : Cond.code yX3_restart cX3_restart 4 none ∈ pm_TB := pm_TB_of (List.mem_of_getElem? (i := 645) rfl) rfl
set_option maxRecDepth 20000 in
theorem cm_X3_leadsToEnd : Cond.code yX3_leadsToEnd cX3_leadsToEnd 6 (some .boolean) ∈ pm_TB := pm_TB_of (List.mem_of_getElem? (i := 665) rfl) rfl
set_option maxRecDepth 20000 in
theorem cm_X3_endsBy : Cond.code yX3_endsBy cX3_endsBy 7 (some .boolean) ∈ pm_TB := pm_TB_of (List.mem_of_getElem? (i := 672) rfl) rfl
set_option maxRecDepth 20000 in
theorem cm_X3_meet : Cond.code yX3_meet cX3_meet 6 none ∈ pm_TB := pm_TB_of (List.mem_of_getElem? (i := 656) rfl) rfl
set_option maxRecDepth 20000 in
theorem cm_X3_isMet : Cond.code yX3_isMet cX3_isMet 6 (some .boolean) ∈ pm_TB := pm_TB_of (List.mem_of_getElem? (i := 661) rfl) rfl
set_option maxRecDepth 20000 in
theorem cm_X3_writePlan : Cond.code yX3_writePlan cX3_writePlan 6 none ∈ pm_TB := pm_TB_of (List.mem_of_getElem? (i := 685) rfl) rfl
set_option maxRecDepth 20000 in
theorem cm_X4_clear : Cond.code yX4_clear cX4_clear 2 none ∈ pm_TB := pm_TB_of (List.mem_of_getElem? (i := 332) rfl) rfl
set_option maxRecDepth 20000 in
theorem cm_X4_push : Cond.code yX4_push cX4_push 3 none ∈ pm_TB := pm_TB_of (List.mem_of_getElem? (i := 425) rfl) rfl
set_option maxRecDepth 20000 in
theorem cm_X4_pop : Cond.code yX4_pop cX4_pop 2 none ∈ pm_TB := pm_TB_of (List.mem_of_getElem? (i := 485) rfl) rfl
set_option maxRecDepth 20000 in
theorem cm_X4_lastOf : Cond.code yX4_lastOf cX4_lastOf 2 (some .int) ∈ pm_TB := pm_TB_of (List.mem_of_getElem? (i := 465) rfl) rfl
set_option maxRecDepth 20000 in
theorem cm_X4_insert : Cond.code yX4_insert cX4_insert 7 none ∈ pm_TB := pm_TB_of (List.mem_of_getElem? (i := 440) rfl) rfl
set_option maxRecDepth 20000 in
theorem cm_X4_cardAt : Cond.code yX4_cardAt cX4_cardAt 3 (some .int) ∈ pm_TB := pm_TB_of (List.mem_of_getElem? (i := 521) rfl) rfl
set_option maxRecDepth 20000 in
theorem cm_X4_cardsInHouses : Cond.code yX4_cardsInHouses cX4_cardsInHouses 1 (some .int) ∈ pm_TB := pm_TB_of (List.mem_of_getElem? (i := 574) rfl) rfl
set_option maxRecDepth 20000 in
theorem cm_X4_isDone : Cond.code yX4_isDone cX4_isDone 1 (some .boolean) ∈ pm_TB := pm_TB_of (List.mem_of_getElem? (i := 599) rfl) rfl
set_option maxRecDepth 20000 in
theorem cm_X4_firstFreeCell : Cond.code yX4_firstFreeCell cX4_firstFreeCell 2 (some .int) ∈ pm_TB := pm_TB_of (List.mem_of_getElem? (i := 469) rfl) rfl
set_option maxRecDepth 20000 in
theorem cm_X4_freeCells : Cond.code yX4_freeCells cX4_freeCells 3 (some .int) ∈ pm_TB := pm_TB_of (List.mem_of_getElem? (i := 517) rfl) rfl
set_option maxRecDepth 20000 in
theorem cm_X4_emptyColumns : Cond.code yX4_emptyColumns cX4_emptyColumns 3 (some .int) ∈ pm_TB := pm_TB_of (List.mem_of_getElem? (i := 579) rfl) rfl
set_option maxRecDepth 20000 in
theorem cm_X4_buriedCards : Cond.code yX4_buriedCards cX4_buriedCards 4 (some .int) ∈ pm_TB := pm_TB_of (List.mem_of_getElem? (i := 583) rfl) rfl
set_option maxRecDepth 20000 in
theorem cm_X4_isBuried : Cond.code yX4_isBuried cX4_isBuried 6 (some .boolean) ∈ pm_TB := pm_TB_of (List.mem_of_getElem? (i := 587) rfl) rfl
set_option maxRecDepth 20000 in
theorem cm_X4_isNamed : Cond.code yX4_isNamed cX4_isNamed 6 (some .boolean) ∈ pm_TB := pm_TB_of (List.mem_of_getElem? (i := 448) rfl) rfl
set_option maxRecDepth 20000 in
theorem cm_X4_cardFrom : Cond.code yX4_cardFrom cX4_cardFrom 2 (some .int) ∈ pm_TB := pm_TB_of (List.mem_of_getElem? (i := 461) rfl) rfl
set_option maxRecDepth 20000 in
theorem cm_X4_whyNot : Cond.code yX4_whyNot cX4_whyNot 4 (some .int) ∈ pm_TB := pm_TB_of (List.mem_of_getElem? (i := 457) rfl) rfl
set_option maxRecDepth 20000 in
theorem cm_X4_isNextInHouse : Cond.code yX4_isNextInHouse cX4_isNextInHouse 2 (some .boolean) ∈ pm_TB := pm_TB_of (List.mem_of_getElem? (i := 473) rfl) rfl
set_option maxRecDepth 20000 in
theorem cm_X4_possibleMoves : Cond.code yX4_possibleMoves cX4_possibleMoves 4 (some .int) ∈ pm_TB := pm_TB_of (List.mem_of_getElem? (i := 591) rfl) rfl
set_option maxRecDepth 20000 in
theorem cm_X4_shift : Cond.code yX4_shift cX4_shift 4 (some .int) ∈ pm_TB := pm_TB_of (List.mem_of_getElem? (i := 481) rfl) rfl
set_option maxRecDepth 20000 in
theorem cm_X4_shiftBack : Cond.code yX4_shiftBack cX4_shiftBack 4 none ∈ pm_TB := pm_TB_of (List.mem_of_getElem? (i := 677) rfl) rfl
set_option maxRecDepth 20000 in
theorem cm_X4_fillFreeCell : Cond.code yX4_fillFreeCell cX4_fillFreeCell 3 none ∈ pm_TB := pm_TB_of (List.mem_of_getElem? (i := 489) rfl) rfl
set_option maxRecDepth 20000 in
theorem cm_X4_emptyCellOf : Cond.code yX4_emptyCellOf cX4_emptyCellOf 3 none ∈ pm_TB := pm_TB_of (List.mem_of_getElem? (i := 681) rfl) rfl
set_option maxRecDepth 20000 in
theorem cm_X4_canShiftRow : Cond.code yX4_canShiftRow cX4_canShiftRow 6 (some .boolean) ∈ pm_TB := pm_TB_of (List.mem_of_getElem? (i := 509) rfl) rfl
set_option maxRecDepth 20000 in
theorem cm_X4_longestRow : Cond.code yX4_longestRow cX4_longestRow 6 (some .int) ∈ pm_TB := pm_TB_of (List.mem_of_getElem? (i := 513) rfl) rfl
set_option maxRecDepth 20000 in
theorem cm_X4_shiftRow : Cond.code yX4_shiftRow cX4_shiftRow 7 none ∈ pm_TB := pm_TB_of (List.mem_of_getElem? (i := 525) rfl) rfl
set_option maxRecDepth 20000 in
theorem cm_X4_sendSafeCard : Cond.code yX4_sendSafeCard cX4_sendSafeCard 3 (some .boolean) ∈ pm_TB := pm_TB_of (List.mem_of_getElem? (i := 533) rfl) rfl
set_option maxRecDepth 20000 in
theorem cm_X4_isSafe : Cond.code yX4_isSafe cX4_isSafe 4 (some .boolean) ∈ pm_TB := pm_TB_of (List.mem_of_getElem? (i := 539) rfl) rfl
set_option maxRecDepth 20000 in
theorem cm_X4_writeColumn : Cond.code yX4_writeColumn cX4_writeColumn 5 (some .int) ∈ pm_TB := pm_TB_of (List.mem_of_getElem? (i := 723) rfl) rfl
set_option maxRecDepth 20000 in
theorem cm_X4_writeHoused : Cond.code yX4_writeHoused cX4_writeHoused 4 (some .int) ∈ pm_TB := pm_TB_of (List.mem_of_getElem? (i := 741) rfl) rfl
set_option maxRecDepth 20000 in
theorem cm_X4_writeForm : Cond.code yX4_writeForm cX4_writeForm 5 (some .int) ∈ pm_TB := pm_TB_of (List.mem_of_getElem? (i := 719) rfl) rfl
set_option maxRecDepth 20000 in
theorem cm_X4_sortColumns : Cond.code yX4_sortColumns cX4_sortColumns 7 none ∈ pm_TB := pm_TB_of (List.mem_of_getElem? (i := 354) rfl) rfl
set_option maxRecDepth 20000 in
theorem cm_X4_inOrder : Cond.code yX4_inOrder cX4_inOrder 2 (some .int) ∈ pm_TB := pm_TB_of (List.mem_of_getElem? (i := 358) rfl) rfl
set_option maxRecDepth 20000 in
theorem cm_X4_formKey : Cond.code yX4_formKey cX4_formKey 8 (some .long) ∈ pm_TB := pm_TB_of (List.mem_of_getElem? (i := 350) rfl) rfl
set_option maxRecDepth 20000 in
theorem cm_X4_arrangement : Cond.code yX4_arrangement cX4_arrangement 3 (some .int) ∈ pm_TB := pm_TB_of (List.mem_of_getElem? (i := 368) rfl) rfl
set_option maxRecDepth 20000 in
theorem cm_X4_unpack : Cond.code yX4_unpack cX4_unpack 9 none ∈ pm_TB := pm_TB_of (List.mem_of_getElem? (i := 553) rfl) rfl
set_option maxRecDepth 20000 in
theorem cm_X4_takeFromHouse : Cond.code yX4_takeFromHouse cX4_takeFromHouse 2 none ∈ pm_TB := pm_TB_of (List.mem_of_getElem? (i := 558) rfl) rfl
set_option maxRecDepth 20000 in
theorem cm_X6_begin : Cond.code yX6_begin cX6_begin 8 (some .int) ∈ pm_TB := pm_TB_of (List.mem_of_getElem? (i := 403) rfl) rfl
set_option maxRecDepth 20000 in
theorem cm_X6_lay : Cond.code yX6_lay cX6_lay 5 (some .int) ∈ pm_TB := pm_TB_of (List.mem_of_getElem? (i := 411) rfl) rfl
set_option maxRecDepth 20000 in
theorem cm_X6_make : Cond.code yX6_make cX6_make 6 (some .int) ∈ pm_TB := pm_TB_of (List.mem_of_getElem? (i := 435) rfl) rfl
set_option maxRecDepth 20000 in
theorem cm_X6_move : Cond.code yX6_move cX6_move 3 (some .int) ∈ pm_TB := pm_TB_of (List.mem_of_getElem? (i := 444) rfl) rfl
set_option maxRecDepth 20000 in
theorem cm_X6_why : Cond.code yX6_why cX6_why 1 (some .int) ∈ pm_TB := pm_TB_of (List.mem_of_getElem? (i := 501) rfl) rfl
set_option maxRecDepth 20000 in
theorem cm_X6_carry : Cond.code yX6_carry cX6_carry 4 (some .int) ∈ pm_TB := pm_TB_of (List.mem_of_getElem? (i := 505) rfl) rfl
set_option maxRecDepth 20000 in
theorem cm_X6_auto : Cond.code yX6_auto cX6_auto 2 (some .int) ∈ pm_TB := pm_TB_of (List.mem_of_getElem? (i := 529) rfl) rfl
set_option maxRecDepth 20000 in
theorem cm_X6_undo : Cond.code yX6_undo cX6_undo 1 (some .int) ∈ pm_TB := pm_TB_of (List.mem_of_getElem? (i := 545) rfl) rfl
set_option maxRecDepth 20000 in
theorem cm_X6_redo : Cond.code yX6_redo cX6_redo 1 (some .int) ∈ pm_TB := pm_TB_of (List.mem_of_getElem? (i := 562) rfl) rfl
set_option maxRecDepth 20000 in
theorem cm_X6_count : Cond.code yX6_count cX6_count 2 (some .int) ∈ pm_TB := pm_TB_of (List.mem_of_getElem? (i := 570) rfl) rfl
set_option maxRecDepth 20000 in
theorem cm_X6_card : Cond.code yX6_card cX6_card 3 (some .int) ∈ pm_TB := pm_TB_of (List.mem_of_getElem? (i := 605) rfl) rfl
set_option maxRecDepth 20000 in
theorem cm_X6_cell : Cond.code yX6_cell cX6_cell 2 (some .int) ∈ pm_TB := pm_TB_of (List.mem_of_getElem? (i := 614) rfl) rfl
set_option maxRecDepth 20000 in
theorem cm_X6_house : Cond.code yX6_house cX6_house 2 (some .int) ∈ pm_TB := pm_TB_of (List.mem_of_getElem? (i := 618) rfl) rfl
set_option maxRecDepth 20000 in
theorem cm_X6_lets : Cond.code yX6_lets cX6_lets 4 (some .int) ∈ pm_TB := pm_TB_of (List.mem_of_getElem? (i := 622) rfl) rfl
set_option maxRecDepth 20000 in
theorem cm_X6_solve : Cond.code yX6_solve cX6_solve 3 (some .int) ∈ pm_TB := pm_TB_of (List.mem_of_getElem? (i := 636) rfl) rfl
set_option maxRecDepth 20000 in
theorem cm_X6_plan : Cond.code yX6_plan cX6_plan 3 (some .int) ∈ pm_TB := pm_TB_of (List.mem_of_getElem? (i := 695) rfl) rfl
set_option maxRecDepth 20000 in
theorem cm_X6_needs : Cond.code yX6_needs cX6_needs 4 (some .int) ∈ pm_TB := pm_TB_of (List.mem_of_getElem? (i := 711) rfl) rfl
set_option maxRecDepth 20000 in
theorem cm_X6_form : Cond.code yX6_form cX6_form 3 (some .int) ∈ pm_TB := pm_TB_of (List.mem_of_getElem? (i := 715) rfl) rfl
set_option maxRecDepth 20000 in
theorem cm_X6_put : Cond.code yX6_put cX6_put 5 (some .int) ∈ pm_TB := pm_TB_of (List.mem_of_getElem? (i := 728) rfl) rfl
set_option maxRecDepth 20000 in
theorem cm_X6_forge : Cond.code yX6_forge cX6_forge 5 (some .int) ∈ pm_TB := pm_TB_of (List.mem_of_getElem? (i := 746) rfl) rfl
set_option maxRecDepth 20000 in
theorem cm_X6_status : Cond.code yX6_status cX6_status 1 (some .int) ∈ pm_TB := pm_TB_of (List.mem_of_getElem? (i := 775) rfl) rfl
set_option maxRecDepth 20000 in
theorem cm_X6_isWithin : Cond.code yX6_isWithin cX6_isWithin 3 (some .boolean) ∈ pm_TB := pm_TB_of (List.mem_of_getElem? (i := 406) rfl) rfl
set_option maxRecDepth 20000 in
theorem cm_X6_isColumn : Cond.code yX6_isColumn cX6_isColumn 2 (some .boolean) ∈ pm_TB := pm_TB_of (List.mem_of_getElem? (i := 415) rfl) rfl
set_option maxRecDepth 20000 in
theorem cm_X6_allLaid : Cond.code yX6_allLaid cX6_allLaid 1 (some .boolean) ∈ pm_TB := pm_TB_of (List.mem_of_getElem? (i := 453) rfl) rfl
set_option maxRecDepth 20000 in
theorem cm_X6_emptyTable : Cond.code yX6_emptyTable cX6_emptyTable 1 none ∈ pm_TB := pm_TB_of (List.mem_of_getElem? (i := 328) rfl) rfl
set_option maxRecDepth 20000 in
theorem cm_X6_fill : Cond.code yX6_fill cX6_fill 4 none ∈ pm_TB := pm_TB_of (List.mem_of_getElem? (i := 736) rfl) rfl
set_option maxRecDepth 20000 in
theorem cm_X6_refuse : Cond.code yX6_refuse cX6_refuse 2 (some .int) ∈ pm_TB := pm_TB_of (List.mem_of_getElem? (i := 732) rfl) rfl
set_option maxRecDepth 20000 in
theorem cm_X6_refusalOf : Cond.code yX6_refusalOf cX6_refusalOf 3 (some .int) ∈ pm_TB := pm_TB_of (List.mem_of_getElem? (i := 757) rfl) rfl
set_option maxRecDepth 20000 in
theorem cm_X6_kindTakenFor : Cond.code yX6_kindTakenFor cX6_kindTakenFor 5 (some .int) ∈ pm_TB := pm_TB_of (List.mem_of_getElem? (i := 753) rfl) rfl
set_option maxRecDepth 20000 in
theorem cm_X6_numberTakenFrom : Cond.code yX6_numberTakenFrom cX6_numberTakenFrom 5 (some .int) ∈ pm_TB := pm_TB_of (List.mem_of_getElem? (i := 763) rfl) rfl
set_option maxRecDepth 20000 in
theorem cm_X6_sumOfCopy : Cond.code yX6_sumOfCopy cX6_sumOfCopy 6 (some .int) ∈ pm_TB := pm_TB_of (List.mem_of_getElem? (i := 767) rfl) rfl
set_option maxRecDepth 20000 in
theorem cm_X6_kindInSuitedRow : Cond.code yX6_kindInSuitedRow cX6_kindInSuitedRow 3 (some .int) ∈ pm_TB := pm_TB_of (List.mem_of_getElem? (i := 771) rfl) rfl
set_option maxRecDepth 20000 in
theorem cm_X7_in : Cond.code yX7_in cX7_in 3 (some .boolean) ∈ pm_TB := pm_TB_of (List.mem_of_getElem? (i := 918) rfl) rfl
set_option maxRecDepth 20000 in
theorem cm_X7_cards : Cond.code yX7_cards cX7_cards 1 (some .int) ∈ pm_TB := pm_TB_of (List.mem_of_getElem? (i := 926) rfl) rfl
set_option maxRecDepth 20000 in
theorem cm_X7_isCode : Cond.code yX7_isCode cX7_isCode 2 (some .boolean) ∈ pm_TB := pm_TB_of (List.mem_of_getElem? (i := 943) rfl) rfl
set_option maxRecDepth 20000 in
theorem cm_X7_empties : Cond.code yX7_empties cX7_empties 2 none ∈ pm_TB := pm_TB_of (List.mem_of_getElem? (i := 922) rfl) rfl
set_option maxRecDepth 20000 in
theorem cm_X7_begin : Cond.code yX7_begin cX7_begin 6 (some .int) ∈ pm_TB := pm_TB_of (List.mem_of_getElem? (i := 915) rfl) rfl
set_option maxRecDepth 20000 in
theorem cm_X7_lay : Cond.code yX7_lay cX7_lay 5 (some .int) ∈ pm_TB := pm_TB_of (List.mem_of_getElem? (i := 930) rfl) rfl
set_option maxRecDepth 20000 in
theorem cm_X7_make : Cond.code yX7_make cX7_make 8 (some .int) ∈ pm_TB := pm_TB_of (List.mem_of_getElem? (i := 934) rfl) rfl
set_option maxRecDepth 20000 in
theorem cm_X7_isLet : Cond.code yX7_isLet cX7_isLet 5 (some .boolean) ∈ pm_TB := pm_TB_of (List.mem_of_getElem? (i := 947) rfl) rfl
set_option maxRecDepth 20000 in
theorem cm_X7_lets : Cond.code yX7_lets cX7_lets 3 (some .int) ∈ pm_TB := pm_TB_of (List.mem_of_getElem? (i := 939) rfl) rfl
set_option maxRecDepth 20000 in
theorem cm_X7_tryStand : Cond.code yX7_tryStand cX7_tryStand 2 none ∈ pm_TB := pm_TB_of (List.mem_of_getElem? (i := 975) rfl) rfl
set_option maxRecDepth 20000 in
theorem cm_X7_keepsTried : Cond.code yX7_keepsTried cX7_keepsTried 2 none ∈ pm_TB := pm_TB_of (List.mem_of_getElem? (i := 1003) rfl) rfl
set_option maxRecDepth 20000 in
theorem cm_X7_lastOf : Cond.code yX7_lastOf cX7_lastOf 2 (some .int) ∈ pm_TB := pm_TB_of (List.mem_of_getElem? (i := 983) rfl) rfl
set_option maxRecDepth 20000 in
theorem cm_X7_freeCell : Cond.code yX7_freeCell cX7_freeCell 2 (some .int) ∈ pm_TB := pm_TB_of (List.mem_of_getElem? (i := 987) rfl) rfl
set_option maxRecDepth 20000 in
theorem cm_X7_whyNot : Cond.code yX7_whyNot cX7_whyNot 4 (some .int) ∈ pm_TB := pm_TB_of (List.mem_of_getElem? (i := 979) rfl) rfl
set_option maxRecDepth 20000 in
theorem cm_X7_doMove : Cond.code yX7_doMove cX7_doMove 4 none ∈ pm_TB := pm_TB_of (List.mem_of_getElem? (i := 991) rfl) rfl
set_option maxRecDepth 20000 in
theorem cm_X7_isMove : Cond.code yX7_isMove cX7_isMove 4 (some .boolean) ∈ pm_TB := pm_TB_of (List.mem_of_getElem? (i := 971) rfl) rfl
set_option maxRecDepth 20000 in
theorem cm_X7_saves : Cond.code yX7_saves cX7_saves 3 none ∈ pm_TB := pm_TB_of (List.mem_of_getElem? (i := 955) rfl) rfl
set_option maxRecDepth 20000 in
theorem cm_X7_brings : Cond.code yX7_brings cX7_brings 3 none ∈ pm_TB := pm_TB_of (List.mem_of_getElem? (i := 959) rfl) rfl
set_option maxRecDepth 20000 in
theorem cm_X7_moves : Cond.code yX7_moves cX7_moves 4 none ∈ pm_TB := pm_TB_of (List.mem_of_getElem? (i := 999) rfl) rfl
set_option maxRecDepth 20000 in
theorem cm_X7_done : Cond.code yX7_done cX7_done 2 none ∈ pm_TB := pm_TB_of (List.mem_of_getElem? (i := 995) rfl) rfl
set_option maxRecDepth 20000 in
theorem cm_X7_undo : Cond.code yX7_undo cX7_undo 1 (some .int) ∈ pm_TB := pm_TB_of (List.mem_of_getElem? (i := 951) rfl) rfl
set_option maxRecDepth 20000 in
theorem cm_X7_redo : Cond.code yX7_redo cX7_redo 1 (some .int) ∈ pm_TB := pm_TB_of (List.mem_of_getElem? (i := 963) rfl) rfl
set_option maxRecDepth 20000 in
theorem cm_X7_move : Cond.code yX7_move cX7_move 3 (some .int) ∈ pm_TB := pm_TB_of (List.mem_of_getElem? (i := 967) rfl) rfl
set_option maxRecDepth 20000 in
theorem cm_X7_why : Cond.code yX7_why cX7_why 1 (some .int) ∈ pm_TB := pm_TB_of (List.mem_of_getElem? (i := 1007) rfl) rfl
set_option maxRecDepth 20000 in
theorem cm_X7_carry : Cond.code yX7_carry cX7_carry 7 (some .int) ∈ pm_TB := pm_TB_of (List.mem_of_getElem? (i := 1011) rfl) rfl
set_option maxRecDepth 20000 in
theorem cm_X7_isSafe : Cond.code yX7_isSafe cX7_isSafe 3 (some .boolean) ∈ pm_TB := pm_TB_of (List.mem_of_getElem? (i := 1019) rfl) rfl
set_option maxRecDepth 20000 in
theorem cm_X7_auto : Cond.code yX7_auto cX7_auto 4 (some .int) ∈ pm_TB := pm_TB_of (List.mem_of_getElem? (i := 1015) rfl) rfl
set_option maxRecDepth 20000 in
theorem cm_X7_count : Cond.code yX7_count cX7_count 5 (some .int) ∈ pm_TB := pm_TB_of (List.mem_of_getElem? (i := 1023) rfl) rfl
set_option maxRecDepth 20000 in
theorem cm_X7_isBuried : Cond.code yX7_isBuried cX7_isBuried 6 (some .boolean) ∈ pm_TB := pm_TB_of (List.mem_of_getElem? (i := 1027) rfl) rfl
set_option maxRecDepth 20000 in
theorem cm_X7_card : Cond.code yX7_card cX7_card 3 (some .int) ∈ pm_TB := pm_TB_of (List.mem_of_getElem? (i := 1031) rfl) rfl
set_option maxRecDepth 20000 in
theorem cm_X7_cell : Cond.code yX7_cell cX7_cell 2 (some .int) ∈ pm_TB := pm_TB_of (List.mem_of_getElem? (i := 1035) rfl) rfl
set_option maxRecDepth 20000 in
theorem cm_X7_house : Cond.code yX7_house cX7_house 2 (some .int) ∈ pm_TB := pm_TB_of (List.mem_of_getElem? (i := 1039) rfl) rfl
set_option maxRecDepth 20000 in
theorem cm_X7_isAhead : Cond.code yX7_isAhead cX7_isAhead 4 (some .boolean) ∈ pm_TB := pm_TB_of (List.mem_of_getElem? (i := 1059) rfl) rfl
set_option maxRecDepth 20000 in
theorem cm_X7_orders : Cond.code yX7_orders cX7_orders 3 none ∈ pm_TB := pm_TB_of (List.mem_of_getElem? (i := 1055) rfl) rfl
set_option maxRecDepth 20000 in
theorem cm_X7_makeKey : Cond.code yX7_makeKey cX7_makeKey 5 none ∈ pm_TB := pm_TB_of (List.mem_of_getElem? (i := 1051) rfl) rfl
set_option maxRecDepth 20000 in
theorem cm_X7_isDone : Cond.code yX7_isDone cX7_isDone 1 (some .boolean) ∈ pm_TB := pm_TB_of (List.mem_of_getElem? (i := 1063) rfl) rfl
set_option maxRecDepth 20000 in
theorem cm_X7_place : Cond.code yX7_place cX7_place 3 (some .int) ∈ pm_TB := pm_TB_of (List.mem_of_getElem? (i := 1071) rfl) rfl
set_option maxRecDepth 20000 in
theorem cm_X7_isKey : Cond.code yX7_isKey cX7_isKey 3 (some .boolean) ∈ pm_TB := pm_TB_of (List.mem_of_getElem? (i := 1075) rfl) rfl
set_option maxRecDepth 20000 in
theorem cm_X7_trying : Cond.code yX7_trying cX7_trying 6 none ∈ pm_TB := pm_TB_of (List.mem_of_getElem? (i := 1079) rfl) rfl
set_option maxRecDepth 20000 in
theorem cm_X7_search : Cond.code yX7_search cX7_search 10 (some .int) ∈ pm_TB := pm_TB_of (List.mem_of_getElem? (i := 1047) rfl) rfl
set_option maxRecDepth 20000 in
theorem cm_X7_stores : Cond.code yX7_stores cX7_stores 3 none ∈ pm_TB := pm_TB_of (List.mem_of_getElem? (i := 1067) rfl) rfl
set_option maxRecDepth 20000 in
theorem cm_X7_marks : Cond.code yX7_marks cX7_marks 4 none ∈ pm_TB := pm_TB_of (List.mem_of_getElem? (i := 1087) rfl) rfl
set_option maxRecDepth 20000 in
theorem cm_X7_leadsOn : Cond.code yX7_leadsOn cX7_leadsOn 4 (some .boolean) ∈ pm_TB := pm_TB_of (List.mem_of_getElem? (i := 1091) rfl) rfl
set_option maxRecDepth 20000 in
theorem cm_X7_plans : Cond.code yX7_plans cX7_plans 4 none ∈ pm_TB := pm_TB_of (List.mem_of_getElem? (i := 1083) rfl) rfl
set_option maxRecDepth 20000 in
theorem cm_X7_remember : Cond.code yX7_remember cX7_remember 2 none ∈ pm_TB := pm_TB_of (List.mem_of_getElem? (i := 1095) rfl) rfl
set_option maxRecDepth 20000 in
theorem cm_X7_recall : Cond.code yX7_recall cX7_recall 2 none ∈ pm_TB := pm_TB_of (List.mem_of_getElem? (i := 1099) rfl) rfl
set_option maxRecDepth 20000 in
theorem cm_X7_solve : Cond.code yX7_solve cX7_solve 3 (some .int) ∈ pm_TB := pm_TB_of (List.mem_of_getElem? (i := 1043) rfl) rfl
set_option maxRecDepth 20000 in
theorem cm_X7_plan : Cond.code yX7_plan cX7_plan 3 (some .int) ∈ pm_TB := pm_TB_of (List.mem_of_getElem? (i := 1103) rfl) rfl
set_option maxRecDepth 20000 in
theorem cm_X7_needs : Cond.code yX7_needs cX7_needs 4 (some .int) ∈ pm_TB := pm_TB_of (List.mem_of_getElem? (i := 1107) rfl) rfl
set_option maxRecDepth 20000 in
theorem cm_X7_tells : Cond.code yX7_tells cX7_tells 5 (some .int) ∈ pm_TB := pm_TB_of (List.mem_of_getElem? (i := 1115) rfl) rfl
set_option maxRecDepth 20000 in
theorem cm_X7_form : Cond.code yX7_form cX7_form 3 (some .int) ∈ pm_TB := pm_TB_of (List.mem_of_getElem? (i := 1111) rfl) rfl
set_option maxRecDepth 20000 in
theorem cm_X7_refused : Cond.code yX7_refused cX7_refused 2 (some .int) ∈ pm_TB := pm_TB_of (List.mem_of_getElem? (i := 1123) rfl) rfl
set_option maxRecDepth 20000 in
theorem cm_X7_fine : Cond.code yX7_fine cX7_fine 2 (some .int) ∈ pm_TB := pm_TB_of (List.mem_of_getElem? (i := 1127) rfl) rfl
set_option maxRecDepth 20000 in
theorem cm_X7_put : Cond.code yX7_put cX7_put 7 (some .int) ∈ pm_TB := pm_TB_of (List.mem_of_getElem? (i := 1119) rfl) rfl
set_option maxRecDepth 20000 in
theorem cm_X7_forge : Cond.code yX7_forge cX7_forge 8 (some .int) ∈ pm_TB := pm_TB_of (List.mem_of_getElem? (i := 1131) rfl) rfl
set_option maxRecDepth 20000 in
theorem cm_X7_status : Cond.code yX7_status cX7_status 1 (some .int) ∈ pm_TB := pm_TB_of (List.mem_of_getElem? (i := 1135) rfl) rfl
set_option maxRecDepth 20000 in
theorem cm_J6_bitCount_0f7a4 : Cond.code yJ6_bitCount_0f7a4 cJ6_bitCount_0f7a4 1 (some .int) ∈ pm_TB := pm_TB_of (List.mem_of_getElem? (i := 428) rfl) rfl
set_option maxRecDepth 20000 in
theorem cm_J9_floorMod_7cf53 : Cond.code yJ9_floorMod_7cf53 cJ9_floorMod_7cf53 3 (some .int) ∈ pm_TB := pm_TB_of (List.mem_of_getElem? (i := 749) rfl) rfl
set_option maxRecDepth 20000 in
theorem cm_J9_max_7cf53 : Cond.code yJ9_max_7cf53 cJ9_max_7cf53 2 (some .int) ∈ pm_TB := pm_TB_of (List.mem_of_getElem? (i := 361) rfl) rfl
set_option maxRecDepth 20000 in
theorem cm_J9_min_7cf53 : Cond.code yJ9_min_7cf53 cJ9_min_7cf53 2 (some .int) ∈ pm_TB := pm_TB_of (List.mem_of_getElem? (i := 364) rfl) rfl
set_option maxRecDepth 20000 in
theorem cm_J7_fill_d0a16 : Cond.code yJ7_fill_d0a16 cJ7_fill_d0a16 5 none ∈ pm_TB := pm_TB_of (List.mem_of_getElem? (i := 335) rfl) rfl
set_option maxRecDepth 20000 in
theorem cm_J7_fill_53178 : Cond.code yJ7_fill_53178 cJ7_fill_53178 4 none ∈ pm_TB := pm_TB_of (List.mem_of_getElem? (i := 338) rfl) rfl
set_option maxRecDepth 20000 in
theorem cm_J7_fill_fb410 : Cond.code yJ7_fill_fb410 cJ7_fill_fb410 4 none ∈ pm_TB := pm_TB_of (List.mem_of_getElem? (i := 648) rfl) rfl
