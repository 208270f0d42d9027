/-! ===== facts of methods and fields ===== -/
theorem mkX7_init : IM yX7_init cX7_init 1 0 := ⟨⟨iw_X7, by decide +kernel, by decide +kernel, by decide +kernel⟩, owX7_init, vwX7_init, by decide, rfl⟩
theorem mkX0_init : IM yX0_init cX0_init 1 0 := ⟨⟨iw_X0, by decide +kernel, by decide +kernel, by decide +kernel⟩, owX0_init, vwX0_init, by decide, rfl⟩
theorem mkX5_init : IM yX5_init cX5_init 1 0 := ⟨⟨iw_X5, by decide +kernel, by decide +kernel, by decide +kernel⟩, owX5_init, vwX5_init, by decide, rfl⟩
theorem mkX3_init : IM yX3_init cX3_init 1 0 := ⟨⟨iw_X3, by decide +kernel, by decide +kernel, by decide +kernel⟩, owX3_init, vwX3_init, by decide, rfl⟩
theorem mkX6_init : IM yX6_init cX6_init 1 0 := ⟨⟨iw_X6, by decide +kernel, by decide +kernel, by decide +kernel⟩, owX6_init, vwX6_init, by decide, rfl⟩
theorem mkX1_init : IM yX1_init cX1_init 2 0 := ⟨⟨iw_X1, by decide +kernel, by decide +kernel, by decide +kernel⟩, owX1_init, vwX1_init, by decide, rfl⟩
theorem mkX2_init : IM yX2_init cX2_init 1 0 := ⟨⟨iw_X2, by decide +kernel, by decide +kernel, by decide +kernel⟩, owX2_init, vwX2_init, by decide, rfl⟩
theorem mkX4_init : IM yX4_init cX4_init 1 0 := ⟨⟨iw_X4, by decide +kernel, by decide +kernel, by decide +kernel⟩, owX4_init, vwX4_init, by decide, rfl⟩
theorem mkX7_line : VM yX7_line cX7_line 1 (some (.int)) 0 9 := ⟨⟨iw_X7, by decide +kernel, by decide +kernel, by decide +kernel⟩, owX7_line, vwX7_line, lwX7_line, by decide, _, _, rfl⟩
theorem mkX0_writePieces : VM yX0_writePieces cX0_writePieces 3 none 1 2 := ⟨⟨iw_X0, by decide +kernel, by decide +kernel, by decide +kernel⟩, owX0_writePieces, vwX0_writePieces, lwX0_writePieces, by decide, _, _, rfl⟩
theorem mkX2_clear : VM yX2_clear cX2_clear 1 none 0 4 := ⟨⟨iw_X2, by decide +kernel, by decide +kernel, by decide +kernel⟩, owX2_clear, vwX2_clear, lwX2_clear, by decide, _, _, rfl⟩
theorem mkX0_pieceStart : VM yX0_pieceStart cX0_pieceStart 3 (some (.int)) 1 2 := ⟨⟨iw_X0, by decide +kernel, by decide +kernel, by decide +kernel⟩, owX0_pieceStart, vwX0_pieceStart, lwX0_pieceStart, by decide, _, _, rfl⟩
theorem mkX3_holderOf : VM yX3_holderOf cX3_holderOf 3 (some (.int)) 1 5 := ⟨⟨iw_X3, by decide +kernel, by decide +kernel, by decide +kernel⟩, owX3_holderOf, vwX3_holderOf, lwX3_holderOf, by decide, _, _, rfl⟩
theorem mkX3_isIn : VM yX3_isIn cX3_isIn 4 (some (.boolean)) 3 5 := ⟨⟨iw_X3, by decide +kernel, by decide +kernel, by decide +kernel⟩, owX3_isIn, vwX3_isIn, lwX3_isIn, by decide, _, _, rfl⟩
theorem mkX3_has : VM yX3_has cX3_has 2 (some (.boolean)) 1 5 := ⟨⟨iw_X3, by decide +kernel, by decide +kernel, by decide +kernel⟩, owX3_has, vwX3_has, lwX3_has, by decide, _, _, rfl⟩
theorem mkX3_startAt : VM yX3_startAt cX3_startAt 2 (some (.int)) 1 5 := ⟨⟨iw_X3, by decide +kernel, by decide +kernel, by decide +kernel⟩, owX3_startAt, vwX3_startAt, lwX3_startAt, by decide, _, _, rfl⟩
theorem mkX5_startOf : VM yX5_startOf cX5_startOf 3 (some (.int)) 1 7 := ⟨⟨iw_X5, by decide +kernel, by decide +kernel, by decide +kernel⟩, owX5_startOf, vwX5_startOf, lwX5_startOf, by decide, _, _, rfl⟩
theorem mkX5_isWithin : SM yX5_isWithin cX5_isWithin 3 (some (.boolean)) 3 := ⟨⟨iw_X5, by decide +kernel, by decide +kernel, by decide +kernel⟩, owX5_isWithin, swX5_isWithin, by decide⟩
theorem mkX2_put : VM yX2_put cX2_put 2 none 1 4 := ⟨⟨iw_X2, by decide +kernel, by decide +kernel, by decide +kernel⟩, owX2_put, vwX2_put, lwX2_put, by decide, _, _, rfl⟩
theorem mkX0_writePiece : VM yX0_writePiece cX0_writePiece 4 none 2 2 := ⟨⟨iw_X0, by decide +kernel, by decide +kernel, by decide +kernel⟩, owX0_writePiece, vwX0_writePiece, lwX0_writePiece, by decide, _, _, rfl⟩
theorem mkX0_pieceSize : VM yX0_pieceSize cX0_pieceSize 3 (some (.int)) 1 2 := ⟨⟨iw_X0, by decide +kernel, by decide +kernel, by decide +kernel⟩, owX0_pieceSize, vwX0_pieceSize, lwX0_pieceSize, by decide, _, _, rfl⟩
theorem mkX3_sizeAt : VM yX3_sizeAt cX3_sizeAt 2 (some (.int)) 1 5 := ⟨⟨iw_X3, by decide +kernel, by decide +kernel, by decide +kernel⟩, owX3_sizeAt, vwX3_sizeAt, lwX3_sizeAt, by decide, _, _, rfl⟩
theorem mkX5_sizeAt : VM yX5_sizeAt cX5_sizeAt 2 (some (.int)) 1 7 := ⟨⟨iw_X5, by decide +kernel, by decide +kernel, by decide +kernel⟩, owX5_sizeAt, vwX5_sizeAt, lwX5_sizeAt, by decide, _, _, rfl⟩
theorem mkX2_putNumber : VM yX2_putNumber cX2_putNumber 2 none 1 4 := ⟨⟨iw_X2, by decide +kernel, by decide +kernel, by decide +kernel⟩, owX2_putNumber, vwX2_putNumber, lwX2_putNumber, by decide, _, _, rfl⟩
theorem mkX7_map : VM yX7_map cX7_map 1 (some (.int)) 0 9 := ⟨⟨iw_X7, by decide +kernel, by decide +kernel, by decide +kernel⟩, owX7_map, vwX7_map, lwX7_map, by decide, _, _, rfl⟩
theorem mkX0_writeUnits : VM yX0_writeUnits cX0_writeUnits 4 none 1 2 := ⟨⟨iw_X0, by decide +kernel, by decide +kernel, by decide +kernel⟩, owX0_writeUnits, vwX0_writeUnits, lwX0_writeUnits, by decide, _, _, rfl⟩
theorem mkX7_errorPosition : VM yX7_errorPosition cX7_errorPosition 1 (some (.int)) 0 9 := ⟨⟨iw_X7, by decide +kernel, by decide +kernel, by decide +kernel⟩, owX7_errorPosition, vwX7_errorPosition, lwX7_errorPosition, by decide, _, _, rfl⟩
theorem mkX7_isWell : VM yX7_isWell cX7_isWell 1 (some (.boolean)) 0 9 := ⟨⟨iw_X7, by decide +kernel, by decide +kernel, by decide +kernel⟩, owX7_isWell, vwX7_isWell, lwX7_isWell, by decide, _, _, rfl⟩
theorem mkX0_isCovered : VM yX0_isCovered cX0_isCovered 2 (some (.boolean)) 0 2 := ⟨⟨iw_X0, by decide +kernel, by decide +kernel, by decide +kernel⟩, owX0_isCovered, vwX0_isCovered, lwX0_isCovered, by decide, _, _, rfl⟩
theorem mkX3_countIn : VM yX3_countIn cX3_countIn 5 (some (.int)) 2 5 := ⟨⟨iw_X3, by decide +kernel, by decide +kernel, by decide +kernel⟩, owX3_countIn, vwX3_countIn, lwX3_countIn, by decide, _, _, rfl⟩
theorem mkX5_countWith : VM yX5_countWith cX5_countWith 4 (some (.int)) 1 7 := ⟨⟨iw_X5, by decide +kernel, by decide +kernel, by decide +kernel⟩, owX5_countWith, vwX5_countWith, lwX5_countWith, by decide, _, _, rfl⟩
theorem mkX0_isCountedAlike : VM yX0_isCountedAlike cX0_isCountedAlike 2 (some (.boolean)) 0 2 := ⟨⟨iw_X0, by decide +kernel, by decide +kernel, by decide +kernel⟩, owX0_isCountedAlike, vwX0_isCountedAlike, lwX0_isCountedAlike, by decide, _, _, rfl⟩
theorem mkX5_countOfSize : VM yX5_countOfSize cX5_countOfSize 4 (some (.int)) 1 7 := ⟨⟨iw_X5, by decide +kernel, by decide +kernel, by decide +kernel⟩, owX5_countOfSize, vwX5_countOfSize, lwX5_countOfSize, by decide, _, _, rfl⟩
theorem mkX0_countFreeParts : VM yX0_countFreeParts cX0_countFreeParts 4 (some (.int)) 1 2 := ⟨⟨iw_X0, by decide +kernel, by decide +kernel, by decide +kernel⟩, owX0_countFreeParts, vwX0_countFreeParts, lwX0_countFreeParts, by decide, _, _, rfl⟩
theorem mkX0_isBoardOrHalfOfMixed : VM yX0_isBoardOrHalfOfMixed cX0_isBoardOrHalfOfMixed 3 (some (.boolean)) 2 2 := ⟨⟨iw_X0, by decide +kernel, by decide +kernel, by decide +kernel⟩, owX0_isBoardOrHalfOfMixed, vwX0_isBoardOrHalfOfMixed, lwX0_isBoardOrHalfOfMixed, by decide, _, _, rfl⟩
theorem mkX7_partOf : SM yX7_partOf cX7_partOf 2 (some (.int)) 2 := ⟨⟨iw_X7, by decide +kernel, by decide +kernel, by decide +kernel⟩, owX7_partOf, swX7_partOf, by decide⟩
theorem mkX3_isEachNeedMet : VM yX3_isEachNeedMet cX3_isEachNeedMet 2 (some (.boolean)) 0 5 := ⟨⟨iw_X3, by decide +kernel, by decide +kernel, by decide +kernel⟩, owX3_isEachNeedMet, vwX3_isEachNeedMet, lwX3_isEachNeedMet, by decide, _, _, rfl⟩
theorem mkX3_amountAt : VM yX3_amountAt cX3_amountAt 2 (some (.int)) 1 5 := ⟨⟨iw_X3, by decide +kernel, by decide +kernel, by decide +kernel⟩, owX3_amountAt, vwX3_amountAt, lwX3_amountAt, by decide, _, _, rfl⟩
theorem mkX0_isSomebodyLeft : VM yX0_isSomebodyLeft cX0_isSomebodyLeft 2 (some (.boolean)) 0 2 := ⟨⟨iw_X0, by decide +kernel, by decide +kernel, by decide +kernel⟩, owX0_isSomebodyLeft, vwX0_isSomebodyLeft, lwX0_isSomebodyLeft, by decide, _, _, rfl⟩
theorem mkX6_amountAt : VM yX6_amountAt cX6_amountAt 2 (some (.int)) 1 8 := ⟨⟨iw_X6, by decide +kernel, by decide +kernel, by decide +kernel⟩, owX6_amountAt, vwX6_amountAt, lwX6_amountAt, by decide, _, _, rfl⟩
theorem mkX6_has : VM yX6_has cX6_has 2 (some (.boolean)) 1 8 := ⟨⟨iw_X6, by decide +kernel, by decide +kernel, by decide +kernel⟩, owX6_has, vwX6_has, lwX6_has, by decide, _, _, rfl⟩
theorem mkX0_canLend : VM yX0_canLend cX0_canLend 2 (some (.boolean)) 1 2 := ⟨⟨iw_X0, by decide +kernel, by decide +kernel, by decide +kernel⟩, owX0_canLend, vwX0_canLend, lwX0_canLend, by decide, _, _, rfl⟩
theorem mkX5_greatestSize : VM yX5_greatestSize cX5_greatestSize 3 (some (.int)) 0 7 := ⟨⟨iw_X5, by decide +kernel, by decide +kernel, by decide +kernel⟩, owX5_greatestSize, vwX5_greatestSize, lwX5_greatestSize, by decide, _, _, rfl⟩
theorem mkX7_needOf : SM yX7_needOf cX7_needOf 2 (some (.int)) 1 := ⟨⟨iw_X7, by decide +kernel, by decide +kernel, by decide +kernel⟩, owX7_needOf, swX7_needOf, by decide⟩
theorem mkX7_lentShare : VM yX7_lentShare cX7_lentShare 1 (some (.float)) 0 9 := ⟨⟨iw_X7, by decide +kernel, by decide +kernel, by decide +kernel⟩, owX7_lentShare, vwX7_lentShare, lwX7_lentShare, by decide, _, _, rfl⟩
theorem mkX3_allSizes : VM yX3_allSizes cX3_allSizes 3 (some (.int)) 0 5 := ⟨⟨iw_X3, by decide +kernel, by decide +kernel, by decide +kernel⟩, owX3_allSizes, vwX3_allSizes, lwX3_allSizes, by decide, _, _, rfl⟩
theorem mkX7_save : VM yX7_save cX7_save 1 (some (.int)) 0 9 := ⟨⟨iw_X7, by decide +kernel, by decide +kernel, by decide +kernel⟩, owX7_save, vwX7_save, lwX7_save, by decide, _, _, rfl⟩
theorem mkX0_copyFrom : VM yX0_copyFrom cX0_copyFrom 2 none 1 2 := ⟨⟨iw_X0, by decide +kernel, by decide +kernel, by decide +kernel⟩, owX0_copyFrom, vwX0_copyFrom, lwX0_copyFrom, by decide, _, _, rfl⟩
theorem mkX5_copyFrom : VM yX5_copyFrom cX5_copyFrom 2 none 1 7 := ⟨⟨iw_X5, by decide +kernel, by decide +kernel, by decide +kernel⟩, owX5_copyFrom, vwX5_copyFrom, lwX5_copyFrom, by decide, _, _, rfl⟩
theorem mkX3_copyFrom : VM yX3_copyFrom cX3_copyFrom 2 none 1 5 := ⟨⟨iw_X3, by decide +kernel, by decide +kernel, by decide +kernel⟩, owX3_copyFrom, vwX3_copyFrom, lwX3_copyFrom, by decide, _, _, rfl⟩
theorem mkX6_copyFrom : VM yX6_copyFrom cX6_copyFrom 2 none 1 8 := ⟨⟨iw_X6, by decide +kernel, by decide +kernel, by decide +kernel⟩, owX6_copyFrom, vwX6_copyFrom, lwX6_copyFrom, by decide, _, _, rfl⟩
theorem mkL_lend : MOk yL_lend 4 := ⟨iw_L, by decide +kernel, by decide +kernel, by decide +kernel⟩
theorem mkX7_lend : VM yX7_lend cX7_lend 3 (some (.int)) 2 9 := ⟨⟨iw_X7, by decide +kernel, by decide +kernel, by decide +kernel⟩, owX7_lend, vwX7_lend, lwX7_lend, by decide, _, _, rfl⟩
theorem mkX7_judgeLend : VM yX7_judgeLend cX7_judgeLend 4 (some (.int)) 2 9 := ⟨⟨iw_X7, by decide +kernel, by decide +kernel, by decide +kernel⟩, owX7_judgeLend, vwX7_judgeLend, lwX7_judgeLend, by decide, _, _, rfl⟩
theorem mkX7_isName : SM yX7_isName cX7_isName 1 (some (.boolean)) 1 := ⟨⟨iw_X7, by decide +kernel, by decide +kernel, by decide +kernel⟩, owX7_isName, swX7_isName, by decide⟩
theorem mkX7_isAmount : SM yX7_isAmount cX7_isAmount 1 (some (.boolean)) 1 := ⟨⟨iw_X7, by decide +kernel, by decide +kernel, by decide +kernel⟩, owX7_isAmount, swX7_isAmount, by decide⟩
theorem mkX7_refuse : VM yX7_refuse cX7_refuse 3 (some (.int)) 2 9 := ⟨⟨iw_X7, by decide +kernel, by decide +kernel, by decide +kernel⟩, owX7_refuse, vwX7_refuse, lwX7_refuse, by decide, _, _, rfl⟩
theorem mkX7_insist : SM yX7_insist cX7_insist 1 none 1 := ⟨⟨iw_X7, by decide +kernel, by decide +kernel, by decide +kernel⟩, owX7_insist, swX7_insist, by decide⟩
theorem mkX1_keep : VM yX1_keep cX1_keep 3 none 1 3 := ⟨⟨iw_X1, by decide +kernel, by decide +kernel, by decide +kernel⟩, owX1_keep, vwX1_keep, lwX1_keep, by decide, _, _, rfl⟩
theorem mkX1_keptAt : VM yX1_keptAt cX1_keptAt 2 (some (.object "CheeseTwins$Board")) 1 3 := ⟨⟨iw_X1, by decide +kernel, by decide +kernel, by decide +kernel⟩, owX1_keptAt, vwX1_keptAt, lwX1_keptAt, by decide, _, _, rfl⟩
theorem mkX0_lendTo : VM yX0_lendTo cX0_lendTo 5 (some (.int)) 2 2 := ⟨⟨iw_X0, by decide +kernel, by decide +kernel, by decide +kernel⟩, owX0_lendTo, vwX0_lendTo, lwX0_lendTo, by decide, _, _, rfl⟩
theorem mkX5_take : VM yX5_take cX5_take 4 (some (.int)) 1 7 := ⟨⟨iw_X5, by decide +kernel, by decide +kernel, by decide +kernel⟩, owX5_take, vwX5_take, lwX5_take, by decide, _, _, rfl⟩
theorem mkX5_find : VM yX5_find cX5_find 6 (some (.int)) 1 7 := ⟨⟨iw_X5, by decide +kernel, by decide +kernel, by decide +kernel⟩, owX5_find, vwX5_find, lwX5_find, by decide, _, _, rfl⟩
theorem mkX5_isPreferred : VM yX5_isPreferred cX5_isPreferred 3 (some (.boolean)) 2 7 := ⟨⟨iw_X5, by decide +kernel, by decide +kernel, by decide +kernel⟩, owX5_isPreferred, vwX5_isPreferred, lwX5_isPreferred, by decide, _, _, rfl⟩
theorem mkX5_setSize : VM yX5_setSize cX5_setSize 3 none 2 7 := ⟨⟨iw_X5, by decide +kernel, by decide +kernel, by decide +kernel⟩, owX5_setSize, vwX5_setSize, lwX5_setSize, by decide, _, _, rfl⟩
theorem mkX5_cutDown : VM yX5_cutDown cX5_cutDown 6 (some (.int)) 3 7 := ⟨⟨iw_X5, by decide +kernel, by decide +kernel, by decide +kernel⟩, owX5_cutDown, vwX5_cutDown, lwX5_cutDown, by decide, _, _, rfl⟩
theorem mkX5_isUpperTaken : VM yX5_isUpperTaken cX5_isUpperTaken 1 (some (.boolean)) 0 7 := ⟨⟨iw_X5, by decide +kernel, by decide +kernel, by decide +kernel⟩, owX5_isUpperTaken, vwX5_isUpperTaken, lwX5_isUpperTaken, by decide, _, _, rfl⟩
theorem mkX3_add : VM yX3_add cX3_add 5 (some (.int)) 4 5 := ⟨⟨iw_X3, by decide +kernel, by decide +kernel, by decide +kernel⟩, owX3_add, vwX3_add, lwX3_add, by decide, _, _, rfl⟩
theorem mkX3_put : VM yX3_put cX3_put 5 none 4 5 := ⟨⟨iw_X3, by decide +kernel, by decide +kernel, by decide +kernel⟩, owX3_put, vwX3_put, lwX3_put, by decide, _, _, rfl⟩
theorem mkL_ask : MOk yL_ask 4 := ⟨iw_L, by decide +kernel, by decide +kernel, by decide +kernel⟩
theorem mkX7_ask : VM yX7_ask cX7_ask 3 (some (.int)) 2 9 := ⟨⟨iw_X7, by decide +kernel, by decide +kernel, by decide +kernel⟩, owX7_ask, vwX7_ask, lwX7_ask, by decide, _, _, rfl⟩
theorem mkX7_judgeAsk : VM yX7_judgeAsk cX7_judgeAsk 3 (some (.int)) 2 9 := ⟨⟨iw_X7, by decide +kernel, by decide +kernel, by decide +kernel⟩, owX7_judgeAsk, vwX7_judgeAsk, lwX7_judgeAsk, by decide, _, _, rfl⟩
theorem mkX0_lendOrQueue : VM yX0_lendOrQueue cX0_lendOrQueue 3 (some (.int)) 2 2 := ⟨⟨iw_X0, by decide +kernel, by decide +kernel, by decide +kernel⟩, owX0_lendOrQueue, vwX0_lendOrQueue, lwX0_lendOrQueue, by decide, _, _, rfl⟩
theorem mkX6_add : VM yX6_add cX6_add 3 none 2 8 := ⟨⟨iw_X6, by decide +kernel, by decide +kernel, by decide +kernel⟩, owX6_add, vwX6_add, lwX6_add, by decide, _, _, rfl⟩
theorem mkL_give : MOk yL_give 3 := ⟨iw_L, by decide +kernel, by decide +kernel, by decide +kernel⟩
theorem mkX7_give : VM yX7_give cX7_give 2 (some (.int)) 1 9 := ⟨⟨iw_X7, by decide +kernel, by decide +kernel, by decide +kernel⟩, owX7_give, vwX7_give, lwX7_give, by decide, _, _, rfl⟩
theorem mkX7_judgeGive : VM yX7_judgeGive cX7_judgeGive 2 (some (.int)) 1 9 := ⟨⟨iw_X7, by decide +kernel, by decide +kernel, by decide +kernel⟩, owX7_judgeGive, vwX7_judgeGive, lwX7_judgeGive, by decide, _, _, rfl⟩
theorem mkX0_giveBack : VM yX0_giveBack cX0_giveBack 2 (some (.int)) 1 2 := ⟨⟨iw_X0, by decide +kernel, by decide +kernel, by decide +kernel⟩, owX0_giveBack, vwX0_giveBack, lwX0_giveBack, by decide, _, _, rfl⟩
theorem mkX0_releaseLoan : VM yX0_releaseLoan cX0_releaseLoan 4 none 1 2 := ⟨⟨iw_X0, by decide +kernel, by decide +kernel, by decide +kernel⟩, owX0_releaseLoan, vwX0_releaseLoan, lwX0_releaseLoan, by decide, _, _, rfl⟩
theorem mkX3_remove : VM yX3_remove cX3_remove 3 none 1 5 := ⟨⟨iw_X3, by decide +kernel, by decide +kernel, by decide +kernel⟩, owX3_remove, vwX3_remove, lwX3_remove, by decide, _, _, rfl⟩
theorem mkX5_release : VM yX5_release cX5_release 5 none 2 7 := ⟨⟨iw_X5, by decide +kernel, by decide +kernel, by decide +kernel⟩, owX5_release, vwX5_release, lwX5_release, by decide, _, _, rfl⟩
theorem mkX5_joinedSize : VM yX5_joinedSize cX5_joinedSize 4 (some (.int)) 2 7 := ⟨⟨iw_X5, by decide +kernel, by decide +kernel, by decide +kernel⟩, owX5_joinedSize, vwX5_joinedSize, lwX5_joinedSize, by decide, _, _, rfl⟩
theorem mkX7_twinOf : SM yX7_twinOf cX7_twinOf 2 (some (.int)) 2 := ⟨⟨iw_X7, by decide +kernel, by decide +kernel, by decide +kernel⟩, owX7_twinOf, swX7_twinOf, by decide⟩
theorem mkX0_serveWaiting : VM yX0_serveWaiting cX0_serveWaiting 5 (some (.int)) 0 2 := ⟨⟨iw_X0, by decide +kernel, by decide +kernel, by decide +kernel⟩, owX0_serveWaiting, vwX0_serveWaiting, lwX0_serveWaiting, by decide, _, _, rfl⟩
theorem mkX6_nameAt : VM yX6_nameAt cX6_nameAt 2 (some (.int)) 1 8 := ⟨⟨iw_X6, by decide +kernel, by decide +kernel, by decide +kernel⟩, owX6_nameAt, vwX6_nameAt, lwX6_nameAt, by decide, _, _, rfl⟩
theorem mkX6_remove : VM yX6_remove cX6_remove 3 none 1 8 := ⟨⟨iw_X6, by decide +kernel, by decide +kernel, by decide +kernel⟩, owX6_remove, vwX6_remove, lwX6_remove, by decide, _, _, rfl⟩
theorem mkL_giveAll : MOk yL_giveAll 3 := ⟨iw_L, by decide +kernel, by decide +kernel, by decide +kernel⟩
theorem mkX7_giveAll : VM yX7_giveAll cX7_giveAll 2 (some (.int)) 1 9 := ⟨⟨iw_X7, by decide +kernel, by decide +kernel, by decide +kernel⟩, owX7_giveAll, vwX7_giveAll, lwX7_giveAll, by decide, _, _, rfl⟩
theorem mkX7_judgeGiveAll : VM yX7_judgeGiveAll cX7_judgeGiveAll 2 (some (.int)) 1 9 := ⟨⟨iw_X7, by decide +kernel, by decide +kernel, by decide +kernel⟩, owX7_judgeGiveAll, vwX7_judgeGiveAll, lwX7_judgeGiveAll, by decide, _, _, rfl⟩
theorem mkX3_countOf : VM yX3_countOf cX3_countOf 4 (some (.int)) 1 5 := ⟨⟨iw_X3, by decide +kernel, by decide +kernel, by decide +kernel⟩, owX3_countOf, vwX3_countOf, lwX3_countOf, by decide, _, _, rfl⟩
theorem mkX3_nameAt : VM yX3_nameAt cX3_nameAt 2 (some (.int)) 1 5 := ⟨⟨iw_X3, by decide +kernel, by decide +kernel, by decide +kernel⟩, owX3_nameAt, vwX3_nameAt, lwX3_nameAt, by decide, _, _, rfl⟩
theorem mkX6_countOf : VM yX6_countOf cX6_countOf 4 (some (.int)) 1 8 := ⟨⟨iw_X6, by decide +kernel, by decide +kernel, by decide +kernel⟩, owX6_countOf, vwX6_countOf, lwX6_countOf, by decide, _, _, rfl⟩
theorem mkX0_giveBackAll : VM yX0_giveBackAll cX0_giveBackAll 4 (some (.int)) 1 2 := ⟨⟨iw_X0, by decide +kernel, by decide +kernel, by decide +kernel⟩, owX0_giveBackAll, vwX0_giveBackAll, lwX0_giveBackAll, by decide, _, _, rfl⟩
theorem mkL_resize : MOk yL_resize 4 := ⟨iw_L, by decide +kernel, by decide +kernel, by decide +kernel⟩
theorem mkX7_resize : VM yX7_resize cX7_resize 3 (some (.int)) 2 9 := ⟨⟨iw_X7, by decide +kernel, by decide +kernel, by decide +kernel⟩, owX7_resize, vwX7_resize, lwX7_resize, by decide, _, _, rfl⟩
theorem mkX7_judgeResize : VM yX7_judgeResize cX7_judgeResize 4 (some (.int)) 2 9 := ⟨⟨iw_X7, by decide +kernel, by decide +kernel, by decide +kernel⟩, owX7_judgeResize, vwX7_judgeResize, lwX7_judgeResize, by decide, _, _, rfl⟩
theorem mkX0_greatestSizeWithout : VM yX0_greatestSizeWithout cX0_greatestSizeWithout 3 (some (.int)) 1 2 := ⟨⟨iw_X0, by decide +kernel, by decide +kernel, by decide +kernel⟩, owX0_greatestSizeWithout, vwX0_greatestSizeWithout, lwX0_greatestSizeWithout, by decide, _, _, rfl⟩
theorem mkX0_changeAmount : VM yX0_changeAmount cX0_changeAmount 6 (some (.int)) 2 2 := ⟨⟨iw_X0, by decide +kernel, by decide +kernel, by decide +kernel⟩, owX0_changeAmount, vwX0_changeAmount, lwX0_changeAmount, by decide, _, _, rfl⟩
theorem mkL_way : MOk yL_way 3 := ⟨iw_L, by decide +kernel, by decide +kernel, by decide +kernel⟩
theorem mkX7_way : VM yX7_way cX7_way 2 (some (.int)) 1 9 := ⟨⟨iw_X7, by decide +kernel, by decide +kernel, by decide +kernel⟩, owX7_way, vwX7_way, lwX7_way, by decide, _, _, rfl⟩
theorem mkX7_judgeWay : VM yX7_judgeWay cX7_judgeWay 2 (some (.int)) 1 9 := ⟨⟨iw_X7, by decide +kernel, by decide +kernel, by decide +kernel⟩, owX7_judgeWay, vwX7_judgeWay, lwX7_judgeWay, by decide, _, _, rfl⟩
theorem mkX0_changeWay : VM yX0_changeWay cX0_changeWay 3 (some (.int)) 1 2 := ⟨⟨iw_X0, by decide +kernel, by decide +kernel, by decide +kernel⟩, owX0_changeWay, vwX0_changeWay, lwX0_changeWay, by decide, _, _, rfl⟩
theorem mkL_forget : MOk yL_forget 3 := ⟨iw_L, by decide +kernel, by decide +kernel, by decide +kernel⟩
theorem mkX7_forget : VM yX7_forget cX7_forget 2 (some (.int)) 1 9 := ⟨⟨iw_X7, by decide +kernel, by decide +kernel, by decide +kernel⟩, owX7_forget, vwX7_forget, lwX7_forget, by decide, _, _, rfl⟩
theorem mkL_loanOf : MOk yL_loanOf 4 := ⟨iw_L, by decide +kernel, by decide +kernel, by decide +kernel⟩
theorem mkX7_loanOf : VM yX7_loanOf cX7_loanOf 4 (some (.int)) 2 9 := ⟨⟨iw_X7, by decide +kernel, by decide +kernel, by decide +kernel⟩, owX7_loanOf, vwX7_loanOf, lwX7_loanOf, by decide, _, _, rfl⟩
theorem mkL_nameOf : MOk yL_nameOf 4 := ⟨iw_L, by decide +kernel, by decide +kernel, by decide +kernel⟩
theorem mkX7_nameOf : VM yX7_nameOf cX7_nameOf 3 (some (.int)) 2 9 := ⟨⟨iw_X7, by decide +kernel, by decide +kernel, by decide +kernel⟩, owX7_nameOf, vwX7_nameOf, lwX7_nameOf, by decide, _, _, rfl⟩
theorem mkX3_amountsOf : VM yX3_amountsOf cX3_amountsOf 4 (some (.int)) 1 5 := ⟨⟨iw_X3, by decide +kernel, by decide +kernel, by decide +kernel⟩, owX3_amountsOf, vwX3_amountsOf, lwX3_amountsOf, by decide, _, _, rfl⟩
theorem mkX3_sizesOf : VM yX3_sizesOf cX3_sizesOf 4 (some (.int)) 1 5 := ⟨⟨iw_X3, by decide +kernel, by decide +kernel, by decide +kernel⟩, owX3_sizesOf, vwX3_sizesOf, lwX3_sizesOf, by decide, _, _, rfl⟩
theorem mkL_waitingOf : MOk yL_waitingOf 4 := ⟨iw_L, by decide +kernel, by decide +kernel, by decide +kernel⟩
theorem mkX7_waitingOf : VM yX7_waitingOf cX7_waitingOf 3 (some (.int)) 2 9 := ⟨⟨iw_X7, by decide +kernel, by decide +kernel, by decide +kernel⟩, owX7_waitingOf, vwX7_waitingOf, lwX7_waitingOf, by decide, _, _, rfl⟩
theorem mkL_pieceOf : MOk yL_pieceOf 4 := ⟨iw_L, by decide +kernel, by decide +kernel, by decide +kernel⟩
theorem mkX7_pieceOf : VM yX7_pieceOf cX7_pieceOf 6 (some (.int)) 2 9 := ⟨⟨iw_X7, by decide +kernel, by decide +kernel, by decide +kernel⟩, owX7_pieceOf, vwX7_pieceOf, lwX7_pieceOf, by decide, _, _, rfl⟩
theorem mkX7_isUnit : SM yX7_isUnit cX7_isUnit 1 (some (.boolean)) 1 := ⟨⟨iw_X7, by decide +kernel, by decide +kernel, by decide +kernel⟩, owX7_isUnit, swX7_isUnit, by decide⟩
theorem mkL_free : MOk yL_free 4 := ⟨iw_L, by decide +kernel, by decide +kernel, by decide +kernel⟩
theorem mkX7_free : VM yX7_free cX7_free 3 (some (.int)) 2 9 := ⟨⟨iw_X7, by decide +kernel, by decide +kernel, by decide +kernel⟩, owX7_free, vwX7_free, lwX7_free, by decide, _, _, rfl⟩
theorem mkX7_isSize : SM yX7_isSize cX7_isSize 1 (some (.boolean)) 1 := ⟨⟨iw_X7, by decide +kernel, by decide +kernel, by decide +kernel⟩, owX7_isSize, swX7_isSize, by decide⟩
theorem mkL_greatest : MOk yL_greatest 2 := ⟨iw_L, by decide +kernel, by decide +kernel, by decide +kernel⟩
theorem mkX7_greatest : VM yX7_greatest cX7_greatest 2 (some (.int)) 0 9 := ⟨⟨iw_X7, by decide +kernel, by decide +kernel, by decide +kernel⟩, owX7_greatest, vwX7_greatest, lwX7_greatest, by decide, _, _, rfl⟩
theorem mkL_would : MOk yL_would 3 := ⟨iw_L, by decide +kernel, by decide +kernel, by decide +kernel⟩
theorem mkX7_would : VM yX7_would cX7_would 4 (some (.int)) 1 9 := ⟨⟨iw_X7, by decide +kernel, by decide +kernel, by decide +kernel⟩, owX7_would, vwX7_would, lwX7_would, by decide, _, _, rfl⟩
theorem mkX7_insistOnNeed : SM yX7_insistOnNeed cX7_insistOnNeed 1 (some (.int)) 1 := ⟨⟨iw_X7, by decide +kernel, by decide +kernel, by decide +kernel⟩, owX7_insistOnNeed, swX7_insistOnNeed, by decide⟩
theorem mkX7_insistOnPiece : VM yX7_insistOnPiece cX7_insistOnPiece 3 (some (.int)) 1 9 := ⟨⟨iw_X7, by decide +kernel, by decide +kernel, by decide +kernel⟩, owX7_insistOnPiece, vwX7_insistOnPiece, lwX7_insistOnPiece, by decide, _, _, rfl⟩
theorem mkL_cuts : MOk yL_cuts 3 := ⟨iw_L, by decide +kernel, by decide +kernel, by decide +kernel⟩
theorem mkX7_cuts : VM yX7_cuts cX7_cuts 6 (some (.int)) 1 9 := ⟨⟨iw_X7, by decide +kernel, by decide +kernel, by decide +kernel⟩, owX7_cuts, vwX7_cuts, lwX7_cuts, by decide, _, _, rfl⟩
theorem mkL_fits : MOk yL_fits 3 := ⟨iw_L, by decide +kernel, by decide +kernel, by decide +kernel⟩
theorem mkX7_fits : VM yX7_fits cX7_fits 2 (some (.int)) 1 9 := ⟨⟨iw_X7, by decide +kernel, by decide +kernel, by decide +kernel⟩, owX7_fits, vwX7_fits, lwX7_fits, by decide, _, _, rfl⟩
theorem mkX5_countRoomFor : VM yX5_countRoomFor cX5_countRoomFor 4 (some (.int)) 1 7 := ⟨⟨iw_X5, by decide +kernel, by decide +kernel, by decide +kernel⟩, owX5_countRoomFor, vwX5_countRoomFor, lwX5_countRoomFor, by decide, _, _, rfl⟩
theorem mkL_hole : MOk yL_hole 3 := ⟨iw_L, by decide +kernel, by decide +kernel, by decide +kernel⟩
theorem mkX7_hole : VM yX7_hole cX7_hole 3 (some (.int)) 1 9 := ⟨⟨iw_X7, by decide +kernel, by decide +kernel, by decide +kernel⟩, owX7_hole, vwX7_hole, lwX7_hole, by decide, _, _, rfl⟩
theorem mkX5_startOfPlace : VM yX5_startOfPlace cX5_startOfPlace 4 (some (.int)) 1 7 := ⟨⟨iw_X5, by decide +kernel, by decide +kernel, by decide +kernel⟩, owX5_startOfPlace, vwX5_startOfPlace, lwX5_startOfPlace, by decide, _, _, rfl⟩
theorem mkL_inTheWay : MOk yL_inTheWay 3 := ⟨iw_L, by decide +kernel, by decide +kernel, by decide +kernel⟩
theorem mkX7_inTheWay : VM yX7_inTheWay cX7_inTheWay 2 (some (.int)) 1 9 := ⟨⟨iw_X7, by decide +kernel, by decide +kernel, by decide +kernel⟩, owX7_inTheWay, vwX7_inTheWay, lwX7_inTheWay, by decide, _, _, rfl⟩
theorem mkX3_fewestInPart : VM yX3_fewestInPart cX3_fewestInPart 4 (some (.int)) 1 5 := ⟨⟨iw_X3, by decide +kernel, by decide +kernel, by decide +kernel⟩, owX3_fewestInPart, vwX3_fewestInPart, lwX3_fewestInPart, by decide, _, _, rfl⟩
theorem mkL_ranked : MOk yL_ranked 3 := ⟨iw_L, by decide +kernel, by decide +kernel, by decide +kernel⟩
theorem mkX7_ranked : VM yX7_ranked cX7_ranked 3 (some (.int)) 1 9 := ⟨⟨iw_X7, by decide +kernel, by decide +kernel, by decide +kernel⟩, owX7_ranked, vwX7_ranked, lwX7_ranked, by decide, _, _, rfl⟩
theorem mkX3_nameOfRank : VM yX3_nameOfRank cX3_nameOfRank 3 (some (.int)) 1 5 := ⟨⟨iw_X3, by decide +kernel, by decide +kernel, by decide +kernel⟩, owX3_nameOfRank, vwX3_nameOfRank, lwX3_nameOfRank, by decide, _, _, rfl⟩
theorem mkX3_countAhead : VM yX3_countAhead cX3_countAhead 7 (some (.int)) 1 5 := ⟨⟨iw_X3, by decide +kernel, by decide +kernel, by decide +kernel⟩, owX3_countAhead, vwX3_countAhead, lwX3_countAhead, by decide, _, _, rfl⟩
theorem mkX3_isFirstOfName : VM yX3_isFirstOfName cX3_isFirstOfName 3 (some (.boolean)) 1 5 := ⟨⟨iw_X3, by decide +kernel, by decide +kernel, by decide +kernel⟩, owX3_isFirstOfName, vwX3_isFirstOfName, lwX3_isFirstOfName, by decide, _, _, rfl⟩
theorem mkL_character : MOk yL_character 3 := ⟨iw_L, by decide +kernel, by decide +kernel, by decide +kernel⟩
theorem mkX7_character : VM yX7_character cX7_character 2 (some (.char)) 1 9 := ⟨⟨iw_X7, by decide +kernel, by decide +kernel, by decide +kernel⟩, owX7_character, vwX7_character, lwX7_character, by decide, _, _, rfl⟩
theorem mkX2_has : VM yX2_has cX2_has 2 (some (.boolean)) 1 4 := ⟨⟨iw_X2, by decide +kernel, by decide +kernel, by decide +kernel⟩, owX2_has, vwX2_has, lwX2_has, by decide, _, _, rfl⟩
theorem mkX2_signAt : VM yX2_signAt cX2_signAt 2 (some (.char)) 1 4 := ⟨⟨iw_X2, by decide +kernel, by decide +kernel, by decide +kernel⟩, owX2_signAt, vwX2_signAt, lwX2_signAt, by decide, _, _, rfl⟩
theorem mkL_append : MOk yL_append 3 := ⟨iw_L, by decide +kernel, by decide +kernel, by decide +kernel⟩
theorem mkX7_append : VM yX7_append cX7_append 2 (some (.int)) 1 9 := ⟨⟨iw_X7, by decide +kernel, by decide +kernel, by decide +kernel⟩, owX7_append, vwX7_append, lwX7_append, by decide, _, _, rfl⟩
theorem mkX4_isFull : VM yX4_isFull cX4_isFull 1 (some (.boolean)) 0 6 := ⟨⟨iw_X4, by decide +kernel, by decide +kernel, by decide +kernel⟩, owX4_isFull, vwX4_isFull, lwX4_isFull, by decide, _, _, rfl⟩
theorem mkX4_addSign : VM yX4_addSign cX4_addSign 2 none 1 6 := ⟨⟨iw_X4, by decide +kernel, by decide +kernel, by decide +kernel⟩, owX4_addSign, vwX4_addSign, lwX4_addSign, by decide, _, _, rfl⟩
theorem mkL_run : MOk yL_run 2 := ⟨iw_L, by decide +kernel, by decide +kernel, by decide +kernel⟩
theorem mkX7_run : VM yX7_run cX7_run 3 (some (.int)) 0 9 := ⟨⟨iw_X7, by decide +kernel, by decide +kernel, by decide +kernel⟩, owX7_run, vwX7_run, lwX7_run, by decide, _, _, rfl⟩
theorem mkX4_read : VM yX4_read cX4_read 2 (some (.int)) 0 6 := ⟨⟨iw_X4, by decide +kernel, by decide +kernel, by decide +kernel⟩, owX4_read, vwX4_read, lwX4_read, by decide, _, _, rfl⟩
theorem mkX4_readOrder : VM yX4_readOrder cX4_readOrder 5 (some (.boolean)) 1 6 := ⟨⟨iw_X4, by decide +kernel, by decide +kernel, by decide +kernel⟩, owX4_readOrder, vwX4_readOrder, lwX4_readOrder, by decide, _, _, rfl⟩
theorem mkX4_sign : VM yX4_sign cX4_sign 1 (some (.int)) 0 6 := ⟨⟨iw_X4, by decide +kernel, by decide +kernel, by decide +kernel⟩, owX4_sign, vwX4_sign, lwX4_sign, by decide, _, _, rfl⟩
theorem mkX4_isKind : SM yX4_isKind cX4_isKind 1 (some (.boolean)) 1 := ⟨⟨iw_X4, by decide +kernel, by decide +kernel, by decide +kernel⟩, owX4_isKind, swX4_isKind, by decide⟩
theorem mkX4_hasAmount : SM yX4_hasAmount cX4_hasAmount 1 (some (.boolean)) 1 := ⟨⟨iw_X4, by decide +kernel, by decide +kernel, by decide +kernel⟩, owX4_hasAmount, swX4_hasAmount, by decide⟩
theorem mkX4_readDigit : VM yX4_readDigit cX4_readDigit 2 (some (.boolean)) 0 6 := ⟨⟨iw_X4, by decide +kernel, by decide +kernel, by decide +kernel⟩, owX4_readDigit, vwX4_readDigit, lwX4_readDigit, by decide, _, _, rfl⟩
theorem mkX4_readNumber : VM yX4_readNumber cX4_readNumber 2 (some (.boolean)) 0 6 := ⟨⟨iw_X4, by decide +kernel, by decide +kernel, by decide +kernel⟩, owX4_readNumber, vwX4_readNumber, lwX4_readNumber, by decide, _, _, rfl⟩
theorem mkX4_readSign : VM yX4_readSign cX4_readSign 2 (some (.boolean)) 1 6 := ⟨⟨iw_X4, by decide +kernel, by decide +kernel, by decide +kernel⟩, owX4_readSign, vwX4_readSign, lwX4_readSign, by decide, _, _, rfl⟩
theorem mkX4_put : VM yX4_put cX4_put 5 none 4 6 := ⟨⟨iw_X4, by decide +kernel, by decide +kernel, by decide +kernel⟩, owX4_put, vwX4_put, lwX4_put, by decide, _, _, rfl⟩
theorem mkX4_clearText : VM yX4_clearText cX4_clearText 1 none 0 6 := ⟨⟨iw_X4, by decide +kernel, by decide +kernel, by decide +kernel⟩, owX4_clearText, vwX4_clearText, lwX4_clearText, by decide, _, _, rfl⟩
theorem mkX4_kindAt : VM yX4_kindAt cX4_kindAt 2 (some (.int)) 1 6 := ⟨⟨iw_X4, by decide +kernel, by decide +kernel, by decide +kernel⟩, owX4_kindAt, vwX4_kindAt, lwX4_kindAt, by decide, _, _, rfl⟩
theorem mkX4_has : VM yX4_has cX4_has 2 (some (.boolean)) 1 6 := ⟨⟨iw_X4, by decide +kernel, by decide +kernel, by decide +kernel⟩, owX4_has, vwX4_has, lwX4_has, by decide, _, _, rfl⟩
theorem mkX4_firstAt : VM yX4_firstAt cX4_firstAt 2 (some (.int)) 1 6 := ⟨⟨iw_X4, by decide +kernel, by decide +kernel, by decide +kernel⟩, owX4_firstAt, vwX4_firstAt, lwX4_firstAt, by decide, _, _, rfl⟩
theorem mkX4_secondAt : VM yX4_secondAt cX4_secondAt 2 (some (.int)) 1 6 := ⟨⟨iw_X4, by decide +kernel, by decide +kernel, by decide +kernel⟩, owX4_secondAt, vwX4_secondAt, lwX4_secondAt, by decide, _, _, rfl⟩
theorem mkX7_judgeOrder : VM yX7_judgeOrder cX7_judgeOrder 4 (some (.int)) 3 9 := ⟨⟨iw_X7, by decide +kernel, by decide +kernel, by decide +kernel⟩, owX7_judgeOrder, vwX7_judgeOrder, lwX7_judgeOrder, by decide, _, _, rfl⟩
theorem mkX7_carryOut : VM yX7_carryOut cX7_carryOut 4 none 3 9 := ⟨⟨iw_X7, by decide +kernel, by decide +kernel, by decide +kernel⟩, owX7_carryOut, vwX7_carryOut, lwX7_carryOut, by decide, _, _, rfl⟩
theorem mkL_refusal : MOk yL_refusal 3 := ⟨iw_L, by decide +kernel, by decide +kernel, by decide +kernel⟩
theorem mkX7_refusal : VM yX7_refusal cX7_refusal 2 (some (.int)) 1 9 := ⟨⟨iw_X7, by decide +kernel, by decide +kernel, by decide +kernel⟩, owX7_refusal, vwX7_refusal, lwX7_refusal, by decide, _, _, rfl⟩
theorem mkL_account : MOk yL_account 3 := ⟨iw_L, by decide +kernel, by decide +kernel, by decide +kernel⟩
theorem mkX7_account : VM yX7_account cX7_account 2 (some (.int)) 1 9 := ⟨⟨iw_X7, by decide +kernel, by decide +kernel, by decide +kernel⟩, owX7_account, vwX7_account, lwX7_account, by decide, _, _, rfl⟩
theorem mkX3_allAmounts : VM yX3_allAmounts cX3_allAmounts 3 (some (.int)) 0 5 := ⟨⟨iw_X3, by decide +kernel, by decide +kernel, by decide +kernel⟩, owX3_allAmounts, vwX3_allAmounts, lwX3_allAmounts, by decide, _, _, rfl⟩
theorem mkX5_countAll : VM yX5_countAll cX5_countAll 1 (some (.int)) 0 7 := ⟨⟨iw_X5, by decide +kernel, by decide +kernel, by decide +kernel⟩, owX5_countAll, vwX5_countAll, lwX5_countAll, by decide, _, _, rfl⟩
theorem mkL_meanWaste : MOk yL_meanWaste 2 := ⟨iw_L, by decide +kernel, by decide +kernel, by decide +kernel⟩
theorem mkX7_meanWaste : VM yX7_meanWaste cX7_meanWaste 2 (some (.double)) 0 9 := ⟨⟨iw_X7, by decide +kernel, by decide +kernel, by decide +kernel⟩, owX7_meanWaste, vwX7_meanWaste, lwX7_meanWaste, by decide, _, _, rfl⟩
theorem mkL_undo : MOk yL_undo 2 := ⟨iw_L, by decide +kernel, by decide +kernel, by decide +kernel⟩
theorem mkX7_undo : VM yX7_undo cX7_undo 1 (some (.int)) 0 9 := ⟨⟨iw_X7, by decide +kernel, by decide +kernel, by decide +kernel⟩, owX7_undo, vwX7_undo, lwX7_undo, by decide, _, _, rfl⟩
theorem mkX1_takeBack : VM yX1_takeBack cX1_takeBack 4 none 1 3 := ⟨⟨iw_X1, by decide +kernel, by decide +kernel, by decide +kernel⟩, owX1_takeBack, vwX1_takeBack, lwX1_takeBack, by decide, _, _, rfl⟩
theorem mkL_restore : MOk yL_restore 2 := ⟨iw_L, by decide +kernel, by decide +kernel, by decide +kernel⟩
theorem mkX7_restore : VM yX7_restore cX7_restore 1 (some (.int)) 0 9 := ⟨⟨iw_X7, by decide +kernel, by decide +kernel, by decide +kernel⟩, owX7_restore, vwX7_restore, lwX7_restore, by decide, _, _, rfl⟩
theorem mkX1_clear : VM yX1_clear cX1_clear 1 none 0 3 := ⟨⟨iw_X1, by decide +kernel, by decide +kernel, by decide +kernel⟩, owX1_clear, vwX1_clear, lwX1_clear, by decide, _, _, rfl⟩
theorem mkX8_init : IM yX8_init cX8_init 1 0 := ⟨⟨iw_X8, by decide +kernel, by decide +kernel, by decide +kernel⟩, owX8_init, vwX8_init, by decide, rfl⟩
theorem mkX8_thrown : VM yX8_thrown cX8_thrown 1 (some (.int)) 0 10 := ⟨⟨iw_X8, by decide +kernel, by decide +kernel, by decide +kernel⟩, owX8_thrown, vwX8_thrown, lwX8_thrown, by decide, _, _, rfl⟩
theorem mkX8_lend : VM yX8_lend cX8_lend 3 (some (.int)) 2 10 := ⟨⟨iw_X8, by decide +kernel, by decide +kernel, by decide +kernel⟩, owX8_lend, vwX8_lend, lwX8_lend, by decide, _, _, rfl⟩
theorem mkX8_looksBack : VM yX8_looksBack cX8_looksBack 1 none 0 10 := ⟨⟨iw_X8, by decide +kernel, by decide +kernel, by decide +kernel⟩, owX8_looksBack, vwX8_looksBack, lwX8_looksBack, by decide, _, _, rfl⟩
theorem mkX8_copy : SM yX8_copy cX8_copy 5 none 4 := ⟨⟨iw_X8, by decide +kernel, by decide +kernel, by decide +kernel⟩, owX8_copy, swX8_copy, by decide⟩
theorem mkX8_lends : VM yX8_lends cX8_lends 3 (some (.int)) 2 10 := ⟨⟨iw_X8, by decide +kernel, by decide +kernel, by decide +kernel⟩, owX8_lends, vwX8_lends, lwX8_lends, by decide, _, _, rfl⟩
theorem mkX8_isName : SM yX8_isName cX8_isName 1 (some (.boolean)) 1 := ⟨⟨iw_X8, by decide +kernel, by decide +kernel, by decide +kernel⟩, owX8_isName, swX8_isName, by decide⟩
theorem mkX8_in : SM yX8_in cX8_in 3 (some (.boolean)) 3 := ⟨⟨iw_X8, by decide +kernel, by decide +kernel, by decide +kernel⟩, owX8_in, swX8_in, by decide⟩
theorem mkX8_isAmount : SM yX8_isAmount cX8_isAmount 1 (some (.boolean)) 1 := ⟨⟨iw_X8, by decide +kernel, by decide +kernel, by decide +kernel⟩, owX8_isAmount, swX8_isAmount, by decide⟩
theorem mkX8_fails : VM yX8_fails cX8_fails 2 (some (.int)) 1 10 := ⟨⟨iw_X8, by decide +kernel, by decide +kernel, by decide +kernel⟩, owX8_fails, vwX8_fails, lwX8_fails, by decide, _, _, rfl⟩
theorem mkX8_refused : VM yX8_refused cX8_refused 4 (some (.int)) 3 10 := ⟨⟨iw_X8, by decide +kernel, by decide +kernel, by decide +kernel⟩, owX8_refused, vwX8_refused, lwX8_refused, by decide, _, _, rfl⟩
theorem mkX8_canLend : VM yX8_canLend cX8_canLend 2 (some (.boolean)) 1 10 := ⟨⟨iw_X8, by decide +kernel, by decide +kernel, by decide +kernel⟩, owX8_canLend, vwX8_canLend, lwX8_canLend, by decide, _, _, rfl⟩
theorem mkX8_need : SM yX8_need cX8_need 2 (some (.int)) 1 := ⟨⟨iw_X8, by decide +kernel, by decide +kernel, by decide +kernel⟩, owX8_need, swX8_need, by decide⟩
theorem mkX8_finds : VM yX8_finds cX8_finds 4 (some (.int)) 1 10 := ⟨⟨iw_X8, by decide +kernel, by decide +kernel, by decide +kernel⟩, owX8_finds, vwX8_finds, lwX8_finds, by decide, _, _, rfl⟩
theorem mkX8_isFreeAt : VM yX8_isFreeAt cX8_isFreeAt 2 (some (.boolean)) 1 10 := ⟨⟨iw_X8, by decide +kernel, by decide +kernel, by decide +kernel⟩, owX8_isFreeAt, vwX8_isFreeAt, lwX8_isFreeAt, by decide, _, _, rfl⟩
theorem mkX8_loanAt : VM yX8_loanAt cX8_loanAt 3 (some (.int)) 1 10 := ⟨⟨iw_X8, by decide +kernel, by decide +kernel, by decide +kernel⟩, owX8_loanAt, vwX8_loanAt, lwX8_loanAt, by decide, _, _, rfl⟩
theorem mkX8_isBetter : VM yX8_isBetter cX8_isBetter 3 (some (.boolean)) 2 10 := ⟨⟨iw_X8, by decide +kernel, by decide +kernel, by decide +kernel⟩, owX8_isBetter, vwX8_isBetter, lwX8_isBetter, by decide, _, _, rfl⟩
theorem mkX8_lendsTo : VM yX8_lendsTo cX8_lendsTo 5 (some (.int)) 2 10 := ⟨⟨iw_X8, by decide +kernel, by decide +kernel, by decide +kernel⟩, owX8_lendsTo, vwX8_lendsTo, lwX8_lendsTo, by decide, _, _, rfl⟩
theorem mkX8_halves : VM yX8_halves cX8_halves 5 (some (.int)) 2 10 := ⟨⟨iw_X8, by decide +kernel, by decide +kernel, by decide +kernel⟩, owX8_halves, vwX8_halves, lwX8_halves, by decide, _, _, rfl⟩
theorem mkX8_done : VM yX8_done cX8_done 2 (some (.int)) 1 10 := ⟨⟨iw_X8, by decide +kernel, by decide +kernel, by decide +kernel⟩, owX8_done, vwX8_done, lwX8_done, by decide, _, _, rfl⟩
theorem mkX8_greatestFree : VM yX8_greatestFree cX8_greatestFree 3 (some (.int)) 0 10 := ⟨⟨iw_X8, by decide +kernel, by decide +kernel, by decide +kernel⟩, owX8_greatestFree, vwX8_greatestFree, lwX8_greatestFree, by decide, _, _, rfl⟩
theorem mkX8_kept : VM yX8_kept cX8_kept 3 (some (.int)) 1 10 := ⟨⟨iw_X8, by decide +kernel, by decide +kernel, by decide +kernel⟩, owX8_kept, vwX8_kept, lwX8_kept, by decide, _, _, rfl⟩
theorem mkX8_ask : VM yX8_ask cX8_ask 3 (some (.int)) 2 10 := ⟨⟨iw_X8, by decide +kernel, by decide +kernel, by decide +kernel⟩, owX8_ask, vwX8_ask, lwX8_ask, by decide, _, _, rfl⟩
theorem mkX8_asks : VM yX8_asks cX8_asks 4 (some (.int)) 2 10 := ⟨⟨iw_X8, by decide +kernel, by decide +kernel, by decide +kernel⟩, owX8_asks, vwX8_asks, lwX8_asks, by decide, _, _, rfl⟩
theorem mkX8_give : VM yX8_give cX8_give 2 (some (.int)) 1 10 := ⟨⟨iw_X8, by decide +kernel, by decide +kernel, by decide +kernel⟩, owX8_give, vwX8_give, lwX8_give, by decide, _, _, rfl⟩
theorem mkX8_gives : VM yX8_gives cX8_gives 2 (some (.int)) 1 10 := ⟨⟨iw_X8, by decide +kernel, by decide +kernel, by decide +kernel⟩, owX8_gives, vwX8_gives, lwX8_gives, by decide, _, _, rfl⟩
theorem mkX8_isLoan : VM yX8_isLoan cX8_isLoan 2 (some (.boolean)) 1 10 := ⟨⟨iw_X8, by decide +kernel, by decide +kernel, by decide +kernel⟩, owX8_isLoan, vwX8_isLoan, lwX8_isLoan, by decide, _, _, rfl⟩
theorem mkX8_comesBack : VM yX8_comesBack cX8_comesBack 5 none 1 10 := ⟨⟨iw_X8, by decide +kernel, by decide +kernel, by decide +kernel⟩, owX8_comesBack, vwX8_comesBack, lwX8_comesBack, by decide, _, _, rfl⟩
theorem mkX8_joins : VM yX8_joins cX8_joins 6 none 1 10 := ⟨⟨iw_X8, by decide +kernel, by decide +kernel, by decide +kernel⟩, owX8_joins, vwX8_joins, lwX8_joins, by decide, _, _, rfl⟩
theorem mkX8_serves : VM yX8_serves cX8_serves 4 (some (.int)) 0 10 := ⟨⟨iw_X8, by decide +kernel, by decide +kernel, by decide +kernel⟩, owX8_serves, vwX8_serves, lwX8_serves, by decide, _, _, rfl⟩
theorem mkX8_leaves : VM yX8_leaves cX8_leaves 3 none 1 10 := ⟨⟨iw_X8, by decide +kernel, by decide +kernel, by decide +kernel⟩, owX8_leaves, vwX8_leaves, lwX8_leaves, by decide, _, _, rfl⟩
theorem mkX8_giveAll : VM yX8_giveAll cX8_giveAll 2 (some (.int)) 1 10 := ⟨⟨iw_X8, by decide +kernel, by decide +kernel, by decide +kernel⟩, owX8_giveAll, vwX8_giveAll, lwX8_giveAll, by decide, _, _, rfl⟩
theorem mkX8_givesAll : VM yX8_givesAll cX8_givesAll 4 (some (.int)) 1 10 := ⟨⟨iw_X8, by decide +kernel, by decide +kernel, by decide +kernel⟩, owX8_givesAll, vwX8_givesAll, lwX8_givesAll, by decide, _, _, rfl⟩
theorem mkX8_waitingFor : VM yX8_waitingFor cX8_waitingFor 4 (some (.int)) 1 10 := ⟨⟨iw_X8, by decide +kernel, by decide +kernel, by decide +kernel⟩, owX8_waitingFor, vwX8_waitingFor, lwX8_waitingFor, by decide, _, _, rfl⟩
theorem mkX8_resize : VM yX8_resize cX8_resize 3 (some (.int)) 2 10 := ⟨⟨iw_X8, by decide +kernel, by decide +kernel, by decide +kernel⟩, owX8_resize, vwX8_resize, lwX8_resize, by decide, _, _, rfl⟩
theorem mkX8_resizes : VM yX8_resizes cX8_resizes 7 (some (.int)) 2 10 := ⟨⟨iw_X8, by decide +kernel, by decide +kernel, by decide +kernel⟩, owX8_resizes, vwX8_resizes, lwX8_resizes, by decide, _, _, rfl⟩
theorem mkX8_grows : VM yX8_grows cX8_grows 5 (some (.boolean)) 2 10 := ⟨⟨iw_X8, by decide +kernel, by decide +kernel, by decide +kernel⟩, owX8_grows, vwX8_grows, lwX8_grows, by decide, _, _, rfl⟩
theorem mkX8_way : VM yX8_way cX8_way 2 (some (.int)) 1 10 := ⟨⟨iw_X8, by decide +kernel, by decide +kernel, by decide +kernel⟩, owX8_way, vwX8_way, lwX8_way, by decide, _, _, rfl⟩
theorem mkX8_wayIs : VM yX8_wayIs cX8_wayIs 4 (some (.int)) 1 10 := ⟨⟨iw_X8, by decide +kernel, by decide +kernel, by decide +kernel⟩, owX8_wayIs, vwX8_wayIs, lwX8_wayIs, by decide, _, _, rfl⟩
theorem mkX8_forget : VM yX8_forget cX8_forget 2 (some (.int)) 1 10 := ⟨⟨iw_X8, by decide +kernel, by decide +kernel, by decide +kernel⟩, owX8_forget, vwX8_forget, lwX8_forget, by decide, _, _, rfl⟩
theorem mkX8_forgets : VM yX8_forgets cX8_forgets 2 (some (.int)) 1 10 := ⟨⟨iw_X8, by decide +kernel, by decide +kernel, by decide +kernel⟩, owX8_forgets, vwX8_forgets, lwX8_forgets, by decide, _, _, rfl⟩
theorem mkX8_loanOf : VM yX8_loanOf cX8_loanOf 3 (some (.int)) 2 10 := ⟨⟨iw_X8, by decide +kernel, by decide +kernel, by decide +kernel⟩, owX8_loanOf, vwX8_loanOf, lwX8_loanOf, by decide, _, _, rfl⟩
theorem mkX8_sizeOf : VM yX8_sizeOf cX8_sizeOf 2 (some (.int)) 1 10 := ⟨⟨iw_X8, by decide +kernel, by decide +kernel, by decide +kernel⟩, owX8_sizeOf, vwX8_sizeOf, lwX8_sizeOf, by decide, _, _, rfl⟩
theorem mkX8_nameOf : VM yX8_nameOf cX8_nameOf 3 (some (.int)) 2 10 := ⟨⟨iw_X8, by decide +kernel, by decide +kernel, by decide +kernel⟩, owX8_nameOf, vwX8_nameOf, lwX8_nameOf, by decide, _, _, rfl⟩
theorem mkX8_held : VM yX8_held cX8_held 5 (some (.int)) 2 10 := ⟨⟨iw_X8, by decide +kernel, by decide +kernel, by decide +kernel⟩, owX8_held, vwX8_held, lwX8_held, by decide, _, _, rfl⟩
theorem mkX8_waitingOf : VM yX8_waitingOf cX8_waitingOf 3 (some (.int)) 2 10 := ⟨⟨iw_X8, by decide +kernel, by decide +kernel, by decide +kernel⟩, owX8_waitingOf, vwX8_waitingOf, lwX8_waitingOf, by decide, _, _, rfl⟩
theorem mkX8_pieceOf : VM yX8_pieceOf cX8_pieceOf 4 (some (.int)) 2 10 := ⟨⟨iw_X8, by decide +kernel, by decide +kernel, by decide +kernel⟩, owX8_pieceOf, vwX8_pieceOf, lwX8_pieceOf, by decide, _, _, rfl⟩
theorem mkX8_startOf : VM yX8_startOf cX8_startOf 3 (some (.int)) 1 10 := ⟨⟨iw_X8, by decide +kernel, by decide +kernel, by decide +kernel⟩, owX8_startOf, vwX8_startOf, lwX8_startOf, by decide, _, _, rfl⟩
theorem mkX8_free : VM yX8_free cX8_free 3 (some (.int)) 2 10 := ⟨⟨iw_X8, by decide +kernel, by decide +kernel, by decide +kernel⟩, owX8_free, vwX8_free, lwX8_free, by decide, _, _, rfl⟩
theorem mkX8_freeOf : VM yX8_freeOf cX8_freeOf 4 (some (.int)) 1 10 := ⟨⟨iw_X8, by decide +kernel, by decide +kernel, by decide +kernel⟩, owX8_freeOf, vwX8_freeOf, lwX8_freeOf, by decide, _, _, rfl⟩
theorem mkX8_greatest : VM yX8_greatest cX8_greatest 1 (some (.int)) 0 10 := ⟨⟨iw_X8, by decide +kernel, by decide +kernel, by decide +kernel⟩, owX8_greatest, vwX8_greatest, lwX8_greatest, by decide, _, _, rfl⟩
theorem mkX8_would : VM yX8_would cX8_would 4 (some (.int)) 1 10 := ⟨⟨iw_X8, by decide +kernel, by decide +kernel, by decide +kernel⟩, owX8_would, vwX8_would, lwX8_would, by decide, _, _, rfl⟩
theorem mkX8_cuts : VM yX8_cuts cX8_cuts 5 (some (.int)) 1 10 := ⟨⟨iw_X8, by decide +kernel, by decide +kernel, by decide +kernel⟩, owX8_cuts, vwX8_cuts, lwX8_cuts, by decide, _, _, rfl⟩
theorem mkX8_fits : VM yX8_fits cX8_fits 4 (some (.int)) 1 10 := ⟨⟨iw_X8, by decide +kernel, by decide +kernel, by decide +kernel⟩, owX8_fits, vwX8_fits, lwX8_fits, by decide, _, _, rfl⟩
theorem mkX8_hole : VM yX8_hole cX8_hole 4 (some (.int)) 1 10 := ⟨⟨iw_X8, by decide +kernel, by decide +kernel, by decide +kernel⟩, owX8_hole, vwX8_hole, lwX8_hole, by decide, _, _, rfl⟩
theorem mkX8_inTheWay : VM yX8_inTheWay cX8_inTheWay 5 (some (.int)) 1 10 := ⟨⟨iw_X8, by decide +kernel, by decide +kernel, by decide +kernel⟩, owX8_inTheWay, vwX8_inTheWay, lwX8_inTheWay, by decide, _, _, rfl⟩
theorem mkX8_loansIn : VM yX8_loansIn cX8_loansIn 6 (some (.int)) 2 10 := ⟨⟨iw_X8, by decide +kernel, by decide +kernel, by decide +kernel⟩, owX8_loansIn, vwX8_loansIn, lwX8_loansIn, by decide, _, _, rfl⟩
theorem mkX8_ranked : VM yX8_ranked cX8_ranked 6 (some (.int)) 1 10 := ⟨⟨iw_X8, by decide +kernel, by decide +kernel, by decide +kernel⟩, owX8_ranked, vwX8_ranked, lwX8_ranked, by decide, _, _, rfl⟩
theorem mkX8_line : VM yX8_line cX8_line 3 (some (.int)) 0 10 := ⟨⟨iw_X8, by decide +kernel, by decide +kernel, by decide +kernel⟩, owX8_line, vwX8_line, lwX8_line, by decide, _, _, rfl⟩
theorem mkX8_writes : VM yX8_writes cX8_writes 2 none 1 10 := ⟨⟨iw_X8, by decide +kernel, by decide +kernel, by decide +kernel⟩, owX8_writes, vwX8_writes, lwX8_writes, by decide, _, _, rfl⟩
theorem mkX8_writesNumber : VM yX8_writesNumber cX8_writesNumber 2 none 1 10 := ⟨⟨iw_X8, by decide +kernel, by decide +kernel, by decide +kernel⟩, owX8_writesNumber, vwX8_writesNumber, lwX8_writesNumber, by decide, _, _, rfl⟩
theorem mkX8_map : VM yX8_map cX8_map 3 (some (.int)) 0 10 := ⟨⟨iw_X8, by decide +kernel, by decide +kernel, by decide +kernel⟩, owX8_map, vwX8_map, lwX8_map, by decide, _, _, rfl⟩
theorem mkX8_character : VM yX8_character cX8_character 2 (some (.char)) 1 10 := ⟨⟨iw_X8, by decide +kernel, by decide +kernel, by decide +kernel⟩, owX8_character, vwX8_character, lwX8_character, by decide, _, _, rfl⟩
theorem mkX8_append : VM yX8_append cX8_append 2 (some (.int)) 1 10 := ⟨⟨iw_X8, by decide +kernel, by decide +kernel, by decide +kernel⟩, owX8_append, vwX8_append, lwX8_append, by decide, _, _, rfl⟩
theorem mkX8_run : VM yX8_run cX8_run 5 (some (.int)) 0 10 := ⟨⟨iw_X8, by decide +kernel, by decide +kernel, by decide +kernel⟩, owX8_run, vwX8_run, lwX8_run, by decide, _, _, rfl⟩
theorem mkX8_readsOrder : VM yX8_readsOrder cX8_readsOrder 3 none 1 10 := ⟨⟨iw_X8, by decide +kernel, by decide +kernel, by decide +kernel⟩, owX8_readsOrder, vwX8_readsOrder, lwX8_readsOrder, by decide, _, _, rfl⟩
theorem mkX8_here : VM yX8_here cX8_here 1 (some (.int)) 0 10 := ⟨⟨iw_X8, by decide +kernel, by decide +kernel, by decide +kernel⟩, owX8_here, vwX8_here, lwX8_here, by decide, _, _, rfl⟩
theorem mkX8_figures : VM yX8_figures cX8_figures 4 (some (.int)) 1 10 := ⟨⟨iw_X8, by decide +kernel, by decide +kernel, by decide +kernel⟩, owX8_figures, vwX8_figures, lwX8_figures, by decide, _, _, rfl⟩
theorem mkX8_does : VM yX8_does cX8_does 4 (some (.int)) 1 10 := ⟨⟨iw_X8, by decide +kernel, by decide +kernel, by decide +kernel⟩, owX8_does, vwX8_does, lwX8_does, by decide, _, _, rfl⟩
theorem mkX8_errorPosition : VM yX8_errorPosition cX8_errorPosition 1 (some (.int)) 0 10 := ⟨⟨iw_X8, by decide +kernel, by decide +kernel, by decide +kernel⟩, owX8_errorPosition, vwX8_errorPosition, lwX8_errorPosition, by decide, _, _, rfl⟩
theorem mkX8_refusal : VM yX8_refusal cX8_refusal 2 (some (.int)) 1 10 := ⟨⟨iw_X8, by decide +kernel, by decide +kernel, by decide +kernel⟩, owX8_refusal, vwX8_refusal, lwX8_refusal, by decide, _, _, rfl⟩
theorem mkX8_account : VM yX8_account cX8_account 2 (some (.int)) 1 10 := ⟨⟨iw_X8, by decide +kernel, by decide +kernel, by decide +kernel⟩, owX8_account, vwX8_account, lwX8_account, by decide, _, _, rfl⟩
theorem mkX8_all : VM yX8_all cX8_all 4 (some (.int)) 1 10 := ⟨⟨iw_X8, by decide +kernel, by decide +kernel, by decide +kernel⟩, owX8_all, vwX8_all, lwX8_all, by decide, _, _, rfl⟩
theorem mkX8_freePieces : VM yX8_freePieces cX8_freePieces 3 (some (.int)) 0 10 := ⟨⟨iw_X8, by decide +kernel, by decide +kernel, by decide +kernel⟩, owX8_freePieces, vwX8_freePieces, lwX8_freePieces, by decide, _, _, rfl⟩
theorem mkX8_isWell : VM yX8_isWell cX8_isWell 1 (some (.boolean)) 0 10 := ⟨⟨iw_X8, by decide +kernel, by decide +kernel, by decide +kernel⟩, owX8_isWell, vwX8_isWell, lwX8_isWell, by decide, _, _, rfl⟩
theorem mkX8_meanWaste : VM yX8_meanWaste cX8_meanWaste 1 (some (.double)) 0 10 := ⟨⟨iw_X8, by decide +kernel, by decide +kernel, by decide +kernel⟩, owX8_meanWaste, vwX8_meanWaste, lwX8_meanWaste, by decide, _, _, rfl⟩
theorem mkX8_lentShare : VM yX8_lentShare cX8_lentShare 1 (some (.float)) 0 10 := ⟨⟨iw_X8, by decide +kernel, by decide +kernel, by decide +kernel⟩, owX8_lentShare, vwX8_lentShare, lwX8_lentShare, by decide, _, _, rfl⟩
theorem mkX8_undo : VM yX8_undo cX8_undo 1 (some (.int)) 0 10 := ⟨⟨iw_X8, by decide +kernel, by decide +kernel, by decide +kernel⟩, owX8_undo, vwX8_undo, lwX8_undo, by decide, _, _, rfl⟩
theorem mkX8_save : VM yX8_save cX8_save 1 (some (.int)) 0 10 := ⟨⟨iw_X8, by decide +kernel, by decide +kernel, by decide +kernel⟩, owX8_save, vwX8_save, lwX8_save, by decide, _, _, rfl⟩
theorem mkX8_restore : VM yX8_restore cX8_restore 1 (some (.int)) 0 10 := ⟨⟨iw_X8, by decide +kernel, by decide +kernel, by decide +kernel⟩, owX8_restore, vwX8_restore, lwX8_restore, by decide, _, _, rfl⟩
theorem fo_X5_9 : FOk RX5 9 7 0 (.array .int) true := ⟨RX5, TX5, 4, tyX5, rfl, inX5, tyX5_ok, nmX5, by decide, fw_X5_9, rfl, rfl, fun _ => rfl⟩
theorem fo_X5_15 : FOk RX5 15 7 1 (.int) false := ⟨RX5, TX5, 4, tyX5, rfl, inX5, tyX5_ok, nmX5, by decide, fw_X5_15, rfl, rfl, fun h => by cases h⟩
theorem fo_X0_102 : FOk RX0 102 7 1 (.int) false := ⟨RX5, TX5, 4, tyX5, rfl, inX5, tyX5_ok, nmX5, by decide, fw_X0_102, rfl, rfl, fun h => by cases h⟩
theorem fo_X7_327 : FOk RX7 327 7 1 (.int) false := ⟨RX5, TX5, 4, tyX5, rfl, inX5, tyX5_ok, nmX5, by decide, fw_X7_327, rfl, rfl, fun h => by cases h⟩
theorem fo_X5_19 : FOk RX5 19 7 2 (.int) false := ⟨RX5, TX5, 4, tyX5, rfl, inX5, tyX5_ok, nmX5, by decide, fw_X5_19, rfl, rfl, fun h => by cases h⟩
theorem fo_X7_321 : FOk RX7 321 7 2 (.int) false := ⟨RX5, TX5, 4, tyX5, rfl, inX5, tyX5_ok, nmX5, by decide, fw_X7_321, rfl, rfl, fun h => by cases h⟩
theorem fo_X5_22 : FOk RX5 22 7 3 (.int) false := ⟨RX5, TX5, 4, tyX5, rfl, inX5, tyX5_ok, nmX5, by decide, fw_X5_22, rfl, rfl, fun h => by cases h⟩
theorem fo_X7_324 : FOk RX7 324 7 3 (.int) false := ⟨RX5, TX5, 4, tyX5, rfl, inX5, tyX5_ok, nmX5, by decide, fw_X7_324, rfl, rfl, fun h => by cases h⟩
theorem fo_X3_9 : FOk RX3 9 5 0 (.array .int) true := ⟨RX3, TX3, 5, tyX3, rfl, inX3, tyX3_ok, nmX3, by decide, fw_X3_9, rfl, rfl, fun _ => rfl⟩
theorem fo_X3_15 : FOk RX3 15 5 1 (.array .int) true := ⟨RX3, TX3, 5, tyX3, rfl, inX3, tyX3_ok, nmX3, by decide, fw_X3_15, rfl, rfl, fun _ => rfl⟩
theorem fo_X3_18 : FOk RX3 18 5 2 (.array .int) true := ⟨RX3, TX3, 5, tyX3, rfl, inX3, tyX3_ok, nmX3, by decide, fw_X3_18, rfl, rfl, fun _ => rfl⟩
theorem fo_X3_21 : FOk RX3 21 5 3 (.array .int) true := ⟨RX3, TX3, 5, tyX3, rfl, inX3, tyX3_ok, nmX3, by decide, fw_X3_21, rfl, rfl, fun _ => rfl⟩
theorem fo_X3_24 : FOk RX3 24 5 4 (.int) false := ⟨RX3, TX3, 5, tyX3, rfl, inX3, tyX3_ok, nmX3, by decide, fw_X3_24, rfl, rfl, fun h => by cases h⟩
theorem fo_X0_42 : FOk RX0 42 5 4 (.int) false := ⟨RX3, TX3, 5, tyX3, rfl, inX3, tyX3_ok, nmX3, by decide, fw_X0_42, rfl, rfl, fun h => by cases h⟩
theorem fo_X7_311 : FOk RX7 311 5 4 (.int) false := ⟨RX3, TX3, 5, tyX3, rfl, inX3, tyX3_ok, nmX3, by decide, fw_X7_311, rfl, rfl, fun h => by cases h⟩
theorem fo_X6_9 : FOk RX6 9 8 0 (.array .int) true := ⟨RX6, TX6, 3, tyX6, rfl, inX6, tyX6_ok, nmX6, by decide, fw_X6_9, rfl, rfl, fun _ => rfl⟩
theorem fo_X6_15 : FOk RX6 15 8 1 (.array .int) true := ⟨RX6, TX6, 3, tyX6, rfl, inX6, tyX6_ok, nmX6, by decide, fw_X6_15, rfl, rfl, fun _ => rfl⟩
theorem fo_X6_18 : FOk RX6 18 8 2 (.int) false := ⟨RX6, TX6, 3, tyX6, rfl, inX6, tyX6_ok, nmX6, by decide, fw_X6_18, rfl, rfl, fun h => by cases h⟩
theorem fo_X7_123 : FOk RX7 123 8 2 (.int) false := ⟨RX6, TX6, 3, tyX6, rfl, inX6, tyX6_ok, nmX6, by decide, fw_X7_123, rfl, rfl, fun h => by cases h⟩
theorem fo_X0_105 : FOk RX0 105 8 2 (.int) false := ⟨RX6, TX6, 3, tyX6, rfl, inX6, tyX6_ok, nmX6, by decide, fw_X0_105, rfl, rfl, fun h => by cases h⟩
theorem fo_X0_12 : FOk RX0 12 2 0 (.object "CheeseTwins$Pieces") true := ⟨RX0, TX0, 3, tyX0, rfl, inX0, tyX0_ok, nmX0, by decide, fw_X0_12, rfl, rfl, fun _ => rfl⟩
theorem fo_X7_203 : FOr RX7 203 2 0 := ⟨RX0, TX0, 3, tyX0, rfl, inX0, tyX0_ok, nmX0, by decide, fw_X7_203⟩
theorem fo_X0_21 : FOk RX0 21 2 1 (.object "CheeseTwins$Loans") true := ⟨RX0, TX0, 3, tyX0, rfl, inX0, tyX0_ok, nmX0, by decide, fw_X0_21, rfl, rfl, fun _ => rfl⟩
theorem fo_X7_126 : FOr RX7 126 2 1 := ⟨RX0, TX0, 3, tyX0, rfl, inX0, tyX0_ok, nmX0, by decide, fw_X7_126⟩
theorem fo_X0_28 : FOk RX0 28 2 2 (.object "CheeseTwins$Waiting") true := ⟨RX0, TX0, 3, tyX0, rfl, inX0, tyX0_ok, nmX0, by decide, fw_X0_28, rfl, rfl, fun _ => rfl⟩
theorem fo_X7_103 : FOr RX7 103 2 2 := ⟨RX0, TX0, 3, tyX0, rfl, inX0, tyX0_ok, nmX0, by decide, fw_X7_103⟩
theorem fo_X1_11 : FOk RX1 11 3 0 (.array (.object "CheeseTwins$Board")) true := ⟨RX1, TX1, 3, tyX1, rfl, inX1, tyX1_ok, nmX1, by decide, fw_X1_11, rfl, rfl, fun _ => rfl⟩
theorem fo_X1_17 : FOk RX1 17 3 1 (.int) false := ⟨RX1, TX1, 3, tyX1, rfl, inX1, tyX1_ok, nmX1, by decide, fw_X1_17, rfl, rfl, fun h => by cases h⟩
theorem fo_X1_21 : FOk RX1 21 3 2 (.int) false := ⟨RX1, TX1, 3, tyX1, rfl, inX1, tyX1_ok, nmX1, by decide, fw_X1_21, rfl, rfl, fun h => by cases h⟩
theorem fo_X7_330 : FOk RX7 330 3 2 (.int) false := ⟨RX1, TX1, 3, tyX1, rfl, inX1, tyX1_ok, nmX1, by decide, fw_X7_330, rfl, rfl, fun h => by cases h⟩
theorem fo_X2_9 : FOk RX2 9 4 0 (.array .char) true := ⟨RX2, TX2, 2, tyX2, rfl, inX2, tyX2_ok, nmX2, by decide, fw_X2_9, rfl, rfl, fun _ => rfl⟩
theorem fo_X2_15 : FOk RX2 15 4 1 (.int) false := ⟨RX2, TX2, 2, tyX2, rfl, inX2, tyX2_ok, nmX2, by decide, fw_X2_15, rfl, rfl, fun h => by cases h⟩
theorem fo_X7_247 : FOk RX7 247 4 1 (.int) false := ⟨RX2, TX2, 2, tyX2, rfl, inX2, tyX2_ok, nmX2, by decide, fw_X7_247, rfl, rfl, fun h => by cases h⟩
theorem fo_X4_9 : FOk RX4 9 6 0 (.array .int) true := ⟨RX4, TX4, 8, tyX4, rfl, inX4, tyX4_ok, nmX4, by decide, fw_X4_9, rfl, rfl, fun _ => rfl⟩
theorem fo_X4_15 : FOk RX4 15 6 1 (.array .int) true := ⟨RX4, TX4, 8, tyX4, rfl, inX4, tyX4_ok, nmX4, by decide, fw_X4_15, rfl, rfl, fun _ => rfl⟩
theorem fo_X4_18 : FOk RX4 18 6 2 (.array .int) true := ⟨RX4, TX4, 8, tyX4, rfl, inX4, tyX4_ok, nmX4, by decide, fw_X4_18, rfl, rfl, fun _ => rfl⟩
theorem fo_X4_21 : FOk RX4 21 6 3 (.int) false := ⟨RX4, TX4, 8, tyX4, rfl, inX4, tyX4_ok, nmX4, by decide, fw_X4_21, rfl, rfl, fun h => by cases h⟩
theorem fo_X7_284 : FOk RX7 284 6 3 (.int) false := ⟨RX4, TX4, 8, tyX4, rfl, inX4, tyX4_ok, nmX4, by decide, fw_X7_284, rfl, rfl, fun h => by cases h⟩
theorem fo_X4_25 : FOk RX4 25 6 4 (.array .char) true := ⟨RX4, TX4, 8, tyX4, rfl, inX4, tyX4_ok, nmX4, by decide, fw_X4_25, rfl, rfl, fun _ => rfl⟩
theorem fo_X4_29 : FOk RX4 29 6 5 (.int) false := ⟨RX4, TX4, 8, tyX4, rfl, inX4, tyX4_ok, nmX4, by decide, fw_X4_29, rfl, rfl, fun h => by cases h⟩
theorem fo_X7_272 : FOk RX7 272 6 5 (.int) false := ⟨RX4, TX4, 8, tyX4, rfl, inX4, tyX4_ok, nmX4, by decide, fw_X7_272, rfl, rfl, fun h => by cases h⟩
theorem fo_X4_32 : FOk RX4 32 6 6 (.int) false := ⟨RX4, TX4, 8, tyX4, rfl, inX4, tyX4_ok, nmX4, by decide, fw_X4_32, rfl, rfl, fun h => by cases h⟩
theorem fo_X4_35 : FOk RX4 35 6 7 (.int) false := ⟨RX4, TX4, 8, tyX4, rfl, inX4, tyX4_ok, nmX4, by decide, fw_X4_35, rfl, rfl, fun h => by cases h⟩
theorem fo_X7_12 : FOk RX7 12 9 0 (.object "CheeseTwins$Board") true := ⟨RX7, TX7, 10, tyX7, rfl, inX7, tyX7_ok, nmX7, by decide, fw_X7_12, rfl, rfl, fun _ => rfl⟩
theorem fo_X7_16 : FOk RX7 16 9 1 (.object "CheeseTwins$Board") true := ⟨RX7, TX7, 10, tyX7, rfl, inX7, tyX7_ok, nmX7, by decide, fw_X7_16, rfl, rfl, fun _ => rfl⟩
theorem fo_X7_19 : FOk RX7 19 9 2 (.object "CheeseTwins$Board") true := ⟨RX7, TX7, 10, tyX7, rfl, inX7, tyX7_ok, nmX7, by decide, fw_X7_19, rfl, rfl, fun _ => rfl⟩
theorem fo_X7_25 : FOk RX7 25 9 3 (.object "CheeseTwins$History") true := ⟨RX7, TX7, 10, tyX7, rfl, inX7, tyX7_ok, nmX7, by decide, fw_X7_25, rfl, rfl, fun _ => rfl⟩
theorem fo_X7_32 : FOk RX7 32 9 4 (.object "CheeseTwins$Line") true := ⟨RX7, TX7, 10, tyX7, rfl, inX7, tyX7_ok, nmX7, by decide, fw_X7_32, rfl, rfl, fun _ => rfl⟩
theorem fo_X7_39 : FOk RX7 39 9 5 (.object "CheeseTwins$Orders") true := ⟨RX7, TX7, 10, tyX7, rfl, inX7, tyX7_ok, nmX7, by decide, fw_X7_39, rfl, rfl, fun _ => rfl⟩
theorem fo_X7_43 : FOk RX7 43 9 6 (.int) false := ⟨RX7, TX7, 10, tyX7, rfl, inX7, tyX7_ok, nmX7, by decide, fw_X7_43, rfl, rfl, fun h => by cases h⟩
theorem fo_X7_47 : FOk RX7 47 9 7 (.boolean) false := ⟨RX7, TX7, 10, tyX7, rfl, inX7, tyX7_ok, nmX7, by decide, fw_X7_47, rfl, rfl, fun h => by cases h⟩
theorem fo_X7_51 : FOk RX7 51 9 8 (.int) false := ⟨RX7, TX7, 10, tyX7, rfl, inX7, tyX7_ok, nmX7, by decide, fw_X7_51, rfl, rfl, fun h => by cases h⟩
theorem fo_X7_54 : FOk RX7 54 9 9 (.int) false := ⟨RX7, TX7, 10, tyX7, rfl, inX7, tyX7_ok, nmX7, by decide, fw_X7_54, rfl, rfl, fun h => by cases h⟩
theorem fo_X8_7 : FOk RX8 7 10 0 (.array .int) true := ⟨RX8, TX8, 18, tyX8, rfl, inX8, tyX8_ok, nmX8, by decide, fw_X8_7, rfl, rfl, fun _ => rfl⟩
theorem fo_X8_13 : FOk RX8 13 10 1 (.array .int) true := ⟨RX8, TX8, 18, tyX8, rfl, inX8, tyX8_ok, nmX8, by decide, fw_X8_13, rfl, rfl, fun _ => rfl⟩
theorem fo_X8_16 : FOk RX8 16 10 2 (.array .int) true := ⟨RX8, TX8, 18, tyX8, rfl, inX8, tyX8_ok, nmX8, by decide, fw_X8_16, rfl, rfl, fun _ => rfl⟩
theorem fo_X8_53 : FOk RX8 53 10 3 (.int) false := ⟨RX8, TX8, 18, tyX8, rfl, inX8, tyX8_ok, nmX8, by decide, fw_X8_53, rfl, rfl, fun h => by cases h⟩
theorem fo_X8_19 : FOk RX8 19 10 4 (.array .int) true := ⟨RX8, TX8, 18, tyX8, rfl, inX8, tyX8_ok, nmX8, by decide, fw_X8_19, rfl, rfl, fun _ => rfl⟩
theorem fo_X8_209 : FOk RX8 209 10 5 (.boolean) false := ⟨RX8, TX8, 18, tyX8, rfl, inX8, tyX8_ok, nmX8, by decide, fw_X8_209, rfl, rfl, fun h => by cases h⟩
theorem fo_X8_22 : FOk RX8 22 10 6 (.array .char) true := ⟨RX8, TX8, 18, tyX8, rfl, inX8, tyX8_ok, nmX8, by decide, fw_X8_22, rfl, rfl, fun _ => rfl⟩
theorem fo_X8_181 : FOk RX8 181 10 7 (.int) false := ⟨RX8, TX8, 18, tyX8, rfl, inX8, tyX8_ok, nmX8, by decide, fw_X8_181, rfl, rfl, fun h => by cases h⟩
theorem fo_X8_26 : FOk RX8 26 10 8 (.int) false := ⟨RX8, TX8, 18, tyX8, rfl, inX8, tyX8_ok, nmX8, by decide, fw_X8_26, rfl, rfl, fun h => by cases h⟩
theorem fo_X8_43 : FOk RX8 43 10 9 (.int) false := ⟨RX8, TX8, 18, tyX8, rfl, inX8, tyX8_ok, nmX8, by decide, fw_X8_43, rfl, rfl, fun h => by cases h⟩
theorem fo_X8_46 : FOk RX8 46 10 10 (.int) false := ⟨RX8, TX8, 18, tyX8, rfl, inX8, tyX8_ok, nmX8, by decide, fw_X8_46, rfl, rfl, fun h => by cases h⟩
theorem fo_X8_39 : FOk RX8 39 10 11 (.boolean) false := ⟨RX8, TX8, 18, tyX8, rfl, inX8, tyX8_ok, nmX8, by decide, fw_X8_39, rfl, rfl, fun h => by cases h⟩
theorem fo_X8_30 : FOk RX8 30 10 12 (.array .char) true := ⟨RX8, TX8, 18, tyX8, rfl, inX8, tyX8_ok, nmX8, by decide, fw_X8_30, rfl, rfl, fun _ => rfl⟩
theorem fo_X8_172 : FOk RX8 172 10 13 (.int) false := ⟨RX8, TX8, 18, tyX8, rfl, inX8, tyX8_ok, nmX8, by decide, fw_X8_172, rfl, rfl, fun h => by cases h⟩
theorem fo_X8_36 : FOk RX8 36 10 14 (.int) false := ⟨RX8, TX8, 18, tyX8, rfl, inX8, tyX8_ok, nmX8, by decide, fw_X8_36, rfl, rfl, fun h => by cases h⟩
theorem fo_X8_184 : FOk RX8 184 10 15 (.int) false := ⟨RX8, TX8, 18, tyX8, rfl, inX8, tyX8_ok, nmX8, by decide, fw_X8_184, rfl, rfl, fun h => by cases h⟩
theorem fo_X8_187 : FOk RX8 187 10 16 (.boolean) false := ⟨RX8, TX8, 18, tyX8, rfl, inX8, tyX8_ok, nmX8, by decide, fw_X8_187, rfl, rfl, fun h => by cases h⟩
theorem fo_X8_33 : FOk RX8 33 10 17 (.array .int) true := ⟨RX8, TX8, 18, tyX8, rfl, inX8, tyX8_ok, nmX8, by decide, fw_X8_33, rfl, rfl, fun _ => rfl⟩
