/-! ===== facts of methods and fields ===== -/
theorem mkX7_init : IM yX7_init cX7_init 1 0 := ⟨⟨iw_X7, by decide +kernel, by decide +kernel, by decide +kernel⟩, owX7_init, vwX7_init, by decide, rfl⟩
theorem mkX0_init : IM yX0_init cX0_init 1 0 := ⟨⟨iw_X0, by decide +kernel, by decide +kernel, by decide +kernel⟩, owX0_init, vwX0_init, by decide, rfl⟩
theorem mkX5_init : IM yX5_init cX5_init 1 0 := ⟨⟨iw_X5, by decide +kernel, by decide +kernel, by decide +kernel⟩, owX5_init, vwX5_init, by decide, rfl⟩
theorem mkX3_init : IM yX3_init cX3_init 1 0 := ⟨⟨iw_X3, by decide +kernel, by decide +kernel, by decide +kernel⟩, owX3_init, vwX3_init, by decide, rfl⟩
theorem mkX6_init : IM yX6_init cX6_init 1 0 := ⟨⟨iw_X6, by decide +kernel, by decide +kernel, by decide +kernel⟩, owX6_init, vwX6_init, by decide, rfl⟩
theorem mkX1_init : IM yX1_init cX1_init 2 0 := ⟨⟨iw_X1, by decide +kernel, by decide +kernel, by decide +kernel⟩, owX1_init, vwX1_init, by decide, rfl⟩
theorem mkX2_init : IM yX2_init cX2_init 1 0 := ⟨⟨iw_X2, by decide +kernel, by decide +kernel, by decide +kernel⟩, owX2_init, vwX2_init, by decide, rfl⟩
theorem mkX4_init : IM yX4_init cX4_init 1 0 := ⟨⟨iw_X4, by decide +kernel, by decide +kernel, by decide +kernel⟩, owX4_init, vwX4_init, by decide, rfl⟩
theorem mkX7_lend : VM yX7_lend cX7_lend 3 (some (.int)) 2 9 := ⟨⟨iw_X7, by decide +kernel, by decide +kernel, by decide +kernel⟩, owX7_lend, vwX7_lend, lwX7_lend, by decide, _, _, rfl⟩
theorem mkX7_judgeLend : VM yX7_judgeLend cX7_judgeLend 4 (some (.int)) 2 9 := ⟨⟨iw_X7, by decide +kernel, by decide +kernel, by decide +kernel⟩, owX7_judgeLend, vwX7_judgeLend, lwX7_judgeLend, by decide, _, _, rfl⟩
theorem mkX7_isName : SM yX7_isName cX7_isName 1 (some (.boolean)) 1 := ⟨⟨iw_X7, by decide +kernel, by decide +kernel, by decide +kernel⟩, owX7_isName, swX7_isName, by decide⟩
theorem mkX7_isAmount : SM yX7_isAmount cX7_isAmount 1 (some (.boolean)) 1 := ⟨⟨iw_X7, by decide +kernel, by decide +kernel, by decide +kernel⟩, owX7_isAmount, swX7_isAmount, by decide⟩
theorem mkX7_refuse : VM yX7_refuse cX7_refuse 3 (some (.int)) 2 9 := ⟨⟨iw_X7, by decide +kernel, by decide +kernel, by decide +kernel⟩, owX7_refuse, vwX7_refuse, lwX7_refuse, by decide, _, _, rfl⟩
theorem mkX5_greatestSize : VM yX5_greatestSize cX5_greatestSize 3 (some (.int)) 0 7 := ⟨⟨iw_X5, by decide +kernel, by decide +kernel, by decide +kernel⟩, owX5_greatestSize, vwX5_greatestSize, lwX5_greatestSize, by decide, _, _, rfl⟩
theorem mkX7_needOf : SM yX7_needOf cX7_needOf 2 (some (.int)) 1 := ⟨⟨iw_X7, by decide +kernel, by decide +kernel, by decide +kernel⟩, owX7_needOf, swX7_needOf, by decide⟩
theorem mkX7_insist : SM yX7_insist cX7_insist 1 none 1 := ⟨⟨iw_X7, by decide +kernel, by decide +kernel, by decide +kernel⟩, owX7_insist, swX7_insist, by decide⟩
theorem mkX1_keep : VM yX1_keep cX1_keep 3 none 1 3 := ⟨⟨iw_X1, by decide +kernel, by decide +kernel, by decide +kernel⟩, owX1_keep, vwX1_keep, lwX1_keep, by decide, _, _, rfl⟩
theorem mkX1_keptAt : VM yX1_keptAt cX1_keptAt 2 (some (.object "CheeseTwins$Board")) 1 3 := ⟨⟨iw_X1, by decide +kernel, by decide +kernel, by decide +kernel⟩, owX1_keptAt, vwX1_keptAt, lwX1_keptAt, by decide, _, _, rfl⟩
theorem mkX0_copyFrom : VM yX0_copyFrom cX0_copyFrom 2 none 1 2 := ⟨⟨iw_X0, by decide +kernel, by decide +kernel, by decide +kernel⟩, owX0_copyFrom, vwX0_copyFrom, lwX0_copyFrom, by decide, _, _, rfl⟩
theorem mkX5_copyFrom : VM yX5_copyFrom cX5_copyFrom 2 none 1 7 := ⟨⟨iw_X5, by decide +kernel, by decide +kernel, by decide +kernel⟩, owX5_copyFrom, vwX5_copyFrom, lwX5_copyFrom, by decide, _, _, rfl⟩
theorem mkX3_copyFrom : VM yX3_copyFrom cX3_copyFrom 2 none 1 5 := ⟨⟨iw_X3, by decide +kernel, by decide +kernel, by decide +kernel⟩, owX3_copyFrom, vwX3_copyFrom, lwX3_copyFrom, by decide, _, _, rfl⟩
theorem mkX6_copyFrom : VM yX6_copyFrom cX6_copyFrom 2 none 1 8 := ⟨⟨iw_X6, by decide +kernel, by decide +kernel, by decide +kernel⟩, owX6_copyFrom, vwX6_copyFrom, lwX6_copyFrom, by decide, _, _, rfl⟩
theorem mkX0_lendTo : VM yX0_lendTo cX0_lendTo 5 (some (.int)) 2 2 := ⟨⟨iw_X0, by decide +kernel, by decide +kernel, by decide +kernel⟩, owX0_lendTo, vwX0_lendTo, lwX0_lendTo, by decide, _, _, rfl⟩
theorem mkX5_take : VM yX5_take cX5_take 4 (some (.int)) 1 7 := ⟨⟨iw_X5, by decide +kernel, by decide +kernel, by decide +kernel⟩, owX5_take, vwX5_take, lwX5_take, by decide, _, _, rfl⟩
theorem mkX5_find : VM yX5_find cX5_find 6 (some (.int)) 1 7 := ⟨⟨iw_X5, by decide +kernel, by decide +kernel, by decide +kernel⟩, owX5_find, vwX5_find, lwX5_find, by decide, _, _, rfl⟩
theorem mkX5_isPreferred : VM yX5_isPreferred cX5_isPreferred 3 (some (.boolean)) 2 7 := ⟨⟨iw_X5, by decide +kernel, by decide +kernel, by decide +kernel⟩, owX5_isPreferred, vwX5_isPreferred, lwX5_isPreferred, by decide, _, _, rfl⟩
theorem mkX5_sizeAt : VM yX5_sizeAt cX5_sizeAt 2 (some (.int)) 1 7 := ⟨⟨iw_X5, by decide +kernel, by decide +kernel, by decide +kernel⟩, owX5_sizeAt, vwX5_sizeAt, lwX5_sizeAt, by decide, _, _, rfl⟩
theorem mkX5_setSize : VM yX5_setSize cX5_setSize 3 none 2 7 := ⟨⟨iw_X5, by decide +kernel, by decide +kernel, by decide +kernel⟩, owX5_setSize, vwX5_setSize, lwX5_setSize, by decide, _, _, rfl⟩
theorem mkX5_cutDown : VM yX5_cutDown cX5_cutDown 6 (some (.int)) 3 7 := ⟨⟨iw_X5, by decide +kernel, by decide +kernel, by decide +kernel⟩, owX5_cutDown, vwX5_cutDown, lwX5_cutDown, by decide, _, _, rfl⟩
theorem mkX5_isUpperTaken : VM yX5_isUpperTaken cX5_isUpperTaken 1 (some (.boolean)) 0 7 := ⟨⟨iw_X5, by decide +kernel, by decide +kernel, by decide +kernel⟩, owX5_isUpperTaken, vwX5_isUpperTaken, lwX5_isUpperTaken, by decide, _, _, rfl⟩
theorem mkX3_add : VM yX3_add cX3_add 5 (some (.int)) 4 5 := ⟨⟨iw_X3, by decide +kernel, by decide +kernel, by decide +kernel⟩, owX3_add, vwX3_add, lwX3_add, by decide, _, _, rfl⟩
theorem mkX3_put : VM yX3_put cX3_put 5 none 4 5 := ⟨⟨iw_X3, by decide +kernel, by decide +kernel, by decide +kernel⟩, owX3_put, vwX3_put, lwX3_put, by decide, _, _, rfl⟩
theorem mkX3_has : VM yX3_has cX3_has 2 (some (.boolean)) 1 5 := ⟨⟨iw_X3, by decide +kernel, by decide +kernel, by decide +kernel⟩, owX3_has, vwX3_has, lwX3_has, by decide, _, _, rfl⟩
theorem mkX7_ask : VM yX7_ask cX7_ask 3 (some (.int)) 2 9 := ⟨⟨iw_X7, by decide +kernel, by decide +kernel, by decide +kernel⟩, owX7_ask, vwX7_ask, lwX7_ask, by decide, _, _, rfl⟩
theorem mkX7_judgeAsk : VM yX7_judgeAsk cX7_judgeAsk 3 (some (.int)) 2 9 := ⟨⟨iw_X7, by decide +kernel, by decide +kernel, by decide +kernel⟩, owX7_judgeAsk, vwX7_judgeAsk, lwX7_judgeAsk, by decide, _, _, rfl⟩
theorem mkX0_canLend : VM yX0_canLend cX0_canLend 2 (some (.boolean)) 1 2 := ⟨⟨iw_X0, by decide +kernel, by decide +kernel, by decide +kernel⟩, owX0_canLend, vwX0_canLend, lwX0_canLend, by decide, _, _, rfl⟩
theorem mkX0_lendOrQueue : VM yX0_lendOrQueue cX0_lendOrQueue 3 (some (.int)) 2 2 := ⟨⟨iw_X0, by decide +kernel, by decide +kernel, by decide +kernel⟩, owX0_lendOrQueue, vwX0_lendOrQueue, lwX0_lendOrQueue, by decide, _, _, rfl⟩
theorem mkX3_startAt : VM yX3_startAt cX3_startAt 2 (some (.int)) 1 5 := ⟨⟨iw_X3, by decide +kernel, by decide +kernel, by decide +kernel⟩, owX3_startAt, vwX3_startAt, lwX3_startAt, by decide, _, _, rfl⟩
theorem mkX6_add : VM yX6_add cX6_add 3 none 2 8 := ⟨⟨iw_X6, by decide +kernel, by decide +kernel, by decide +kernel⟩, owX6_add, vwX6_add, lwX6_add, by decide, _, _, rfl⟩
theorem mkX7_give : VM yX7_give cX7_give 2 (some (.int)) 1 9 := ⟨⟨iw_X7, by decide +kernel, by decide +kernel, by decide +kernel⟩, owX7_give, vwX7_give, lwX7_give, by decide, _, _, rfl⟩
theorem mkX7_judgeGive : VM yX7_judgeGive cX7_judgeGive 2 (some (.int)) 1 9 := ⟨⟨iw_X7, by decide +kernel, by decide +kernel, by decide +kernel⟩, owX7_judgeGive, vwX7_judgeGive, lwX7_judgeGive, by decide, _, _, rfl⟩
theorem mkX0_giveBack : VM yX0_giveBack cX0_giveBack 2 (some (.int)) 1 2 := ⟨⟨iw_X0, by decide +kernel, by decide +kernel, by decide +kernel⟩, owX0_giveBack, vwX0_giveBack, lwX0_giveBack, by decide, _, _, rfl⟩
theorem mkX0_releaseLoan : VM yX0_releaseLoan cX0_releaseLoan 4 none 1 2 := ⟨⟨iw_X0, by decide +kernel, by decide +kernel, by decide +kernel⟩, owX0_releaseLoan, vwX0_releaseLoan, lwX0_releaseLoan, by decide, _, _, rfl⟩
theorem mkX3_sizeAt : VM yX3_sizeAt cX3_sizeAt 2 (some (.int)) 1 5 := ⟨⟨iw_X3, by decide +kernel, by decide +kernel, by decide +kernel⟩, owX3_sizeAt, vwX3_sizeAt, lwX3_sizeAt, by decide, _, _, rfl⟩
theorem mkX3_remove : VM yX3_remove cX3_remove 3 none 1 5 := ⟨⟨iw_X3, by decide +kernel, by decide +kernel, by decide +kernel⟩, owX3_remove, vwX3_remove, lwX3_remove, by decide, _, _, rfl⟩
theorem mkX5_release : VM yX5_release cX5_release 5 none 2 7 := ⟨⟨iw_X5, by decide +kernel, by decide +kernel, by decide +kernel⟩, owX5_release, vwX5_release, lwX5_release, by decide, _, _, rfl⟩
theorem mkX5_joinedSize : VM yX5_joinedSize cX5_joinedSize 4 (some (.int)) 2 7 := ⟨⟨iw_X5, by decide +kernel, by decide +kernel, by decide +kernel⟩, owX5_joinedSize, vwX5_joinedSize, lwX5_joinedSize, by decide, _, _, rfl⟩
theorem mkX7_twinOf : SM yX7_twinOf cX7_twinOf 2 (some (.int)) 2 := ⟨⟨iw_X7, by decide +kernel, by decide +kernel, by decide +kernel⟩, owX7_twinOf, swX7_twinOf, by decide⟩
theorem mkX7_partOf : SM yX7_partOf cX7_partOf 2 (some (.int)) 2 := ⟨⟨iw_X7, by decide +kernel, by decide +kernel, by decide +kernel⟩, owX7_partOf, swX7_partOf, by decide⟩
theorem mkX0_serveWaiting : VM yX0_serveWaiting cX0_serveWaiting 5 (some (.int)) 0 2 := ⟨⟨iw_X0, by decide +kernel, by decide +kernel, by decide +kernel⟩, owX0_serveWaiting, vwX0_serveWaiting, lwX0_serveWaiting, by decide, _, _, rfl⟩
theorem mkX6_amountAt : VM yX6_amountAt cX6_amountAt 2 (some (.int)) 1 8 := ⟨⟨iw_X6, by decide +kernel, by decide +kernel, by decide +kernel⟩, owX6_amountAt, vwX6_amountAt, lwX6_amountAt, by decide, _, _, rfl⟩
theorem mkX6_has : VM yX6_has cX6_has 2 (some (.boolean)) 1 8 := ⟨⟨iw_X6, by decide +kernel, by decide +kernel, by decide +kernel⟩, owX6_has, vwX6_has, lwX6_has, by decide, _, _, rfl⟩
theorem mkX6_nameAt : VM yX6_nameAt cX6_nameAt 2 (some (.int)) 1 8 := ⟨⟨iw_X6, by decide +kernel, by decide +kernel, by decide +kernel⟩, owX6_nameAt, vwX6_nameAt, lwX6_nameAt, by decide, _, _, rfl⟩
theorem mkX6_remove : VM yX6_remove cX6_remove 3 none 1 8 := ⟨⟨iw_X6, by decide +kernel, by decide +kernel, by decide +kernel⟩, owX6_remove, vwX6_remove, lwX6_remove, by decide, _, _, rfl⟩
theorem mkX7_giveAll : VM yX7_giveAll cX7_giveAll 2 (some (.int)) 1 9 := ⟨⟨iw_X7, by decide +kernel, by decide +kernel, by decide +kernel⟩, owX7_giveAll, vwX7_giveAll, lwX7_giveAll, by decide, _, _, rfl⟩
theorem mkX7_judgeGiveAll : VM yX7_judgeGiveAll cX7_judgeGiveAll 2 (some (.int)) 1 9 := ⟨⟨iw_X7, by decide +kernel, by decide +kernel, by decide +kernel⟩, owX7_judgeGiveAll, vwX7_judgeGiveAll, lwX7_judgeGiveAll, by decide, _, _, rfl⟩
theorem mkX3_countOf : VM yX3_countOf cX3_countOf 4 (some (.int)) 1 5 := ⟨⟨iw_X3, by decide +kernel, by decide +kernel, by decide +kernel⟩, owX3_countOf, vwX3_countOf, lwX3_countOf, by decide, _, _, rfl⟩
theorem mkX3_nameAt : VM yX3_nameAt cX3_nameAt 2 (some (.int)) 1 5 := ⟨⟨iw_X3, by decide +kernel, by decide +kernel, by decide +kernel⟩, owX3_nameAt, vwX3_nameAt, lwX3_nameAt, by decide, _, _, rfl⟩
theorem mkX6_countOf : VM yX6_countOf cX6_countOf 4 (some (.int)) 1 8 := ⟨⟨iw_X6, by decide +kernel, by decide +kernel, by decide +kernel⟩, owX6_countOf, vwX6_countOf, lwX6_countOf, by decide, _, _, rfl⟩
theorem mkX0_giveBackAll : VM yX0_giveBackAll cX0_giveBackAll 4 (some (.int)) 1 2 := ⟨⟨iw_X0, by decide +kernel, by decide +kernel, by decide +kernel⟩, owX0_giveBackAll, vwX0_giveBackAll, lwX0_giveBackAll, by decide, _, _, rfl⟩
theorem mkX7_resize : VM yX7_resize cX7_resize 3 (some (.int)) 2 9 := ⟨⟨iw_X7, by decide +kernel, by decide +kernel, by decide +kernel⟩, owX7_resize, vwX7_resize, lwX7_resize, by decide, _, _, rfl⟩
theorem mkX7_judgeResize : VM yX7_judgeResize cX7_judgeResize 4 (some (.int)) 2 9 := ⟨⟨iw_X7, by decide +kernel, by decide +kernel, by decide +kernel⟩, owX7_judgeResize, vwX7_judgeResize, lwX7_judgeResize, by decide, _, _, rfl⟩
theorem mkX3_amountAt : VM yX3_amountAt cX3_amountAt 2 (some (.int)) 1 5 := ⟨⟨iw_X3, by decide +kernel, by decide +kernel, by decide +kernel⟩, owX3_amountAt, vwX3_amountAt, lwX3_amountAt, by decide, _, _, rfl⟩
theorem mkX0_greatestSizeWithout : VM yX0_greatestSizeWithout cX0_greatestSizeWithout 3 (some (.int)) 1 2 := ⟨⟨iw_X0, by decide +kernel, by decide +kernel, by decide +kernel⟩, owX0_greatestSizeWithout, vwX0_greatestSizeWithout, lwX0_greatestSizeWithout, by decide, _, _, rfl⟩
theorem mkX0_changeAmount : VM yX0_changeAmount cX0_changeAmount 6 (some (.int)) 2 2 := ⟨⟨iw_X0, by decide +kernel, by decide +kernel, by decide +kernel⟩, owX0_changeAmount, vwX0_changeAmount, lwX0_changeAmount, by decide, _, _, rfl⟩
theorem mkX7_way : VM yX7_way cX7_way 2 (some (.int)) 1 9 := ⟨⟨iw_X7, by decide +kernel, by decide +kernel, by decide +kernel⟩, owX7_way, vwX7_way, lwX7_way, by decide, _, _, rfl⟩
theorem mkX7_judgeWay : VM yX7_judgeWay cX7_judgeWay 2 (some (.int)) 1 9 := ⟨⟨iw_X7, by decide +kernel, by decide +kernel, by decide +kernel⟩, owX7_judgeWay, vwX7_judgeWay, lwX7_judgeWay, by decide, _, _, rfl⟩
theorem mkX0_changeWay : VM yX0_changeWay cX0_changeWay 3 (some (.int)) 1 2 := ⟨⟨iw_X0, by decide +kernel, by decide +kernel, by decide +kernel⟩, owX0_changeWay, vwX0_changeWay, lwX0_changeWay, by decide, _, _, rfl⟩
theorem mkX7_loanOf : VM yX7_loanOf cX7_loanOf 4 (some (.int)) 2 9 := ⟨⟨iw_X7, by decide +kernel, by decide +kernel, by decide +kernel⟩, owX7_loanOf, vwX7_loanOf, lwX7_loanOf, by decide, _, _, rfl⟩
theorem mkX7_pieceOf : VM yX7_pieceOf cX7_pieceOf 6 (some (.int)) 2 9 := ⟨⟨iw_X7, by decide +kernel, by decide +kernel, by decide +kernel⟩, owX7_pieceOf, vwX7_pieceOf, lwX7_pieceOf, by decide, _, _, rfl⟩
theorem mkX7_isUnit : SM yX7_isUnit cX7_isUnit 1 (some (.boolean)) 1 := ⟨⟨iw_X7, by decide +kernel, by decide +kernel, by decide +kernel⟩, owX7_isUnit, swX7_isUnit, by decide⟩
theorem mkX3_holderOf : VM yX3_holderOf cX3_holderOf 3 (some (.int)) 1 5 := ⟨⟨iw_X3, by decide +kernel, by decide +kernel, by decide +kernel⟩, owX3_holderOf, vwX3_holderOf, lwX3_holderOf, by decide, _, _, rfl⟩
theorem mkX3_isIn : VM yX3_isIn cX3_isIn 4 (some (.boolean)) 3 5 := ⟨⟨iw_X3, by decide +kernel, by decide +kernel, by decide +kernel⟩, owX3_isIn, vwX3_isIn, lwX3_isIn, by decide, _, _, rfl⟩
theorem mkX0_pieceStart : VM yX0_pieceStart cX0_pieceStart 3 (some (.int)) 1 2 := ⟨⟨iw_X0, by decide +kernel, by decide +kernel, by decide +kernel⟩, owX0_pieceStart, vwX0_pieceStart, lwX0_pieceStart, by decide, _, _, rfl⟩
theorem mkX5_startOf : VM yX5_startOf cX5_startOf 3 (some (.int)) 1 7 := ⟨⟨iw_X5, by decide +kernel, by decide +kernel, by decide +kernel⟩, owX5_startOf, vwX5_startOf, lwX5_startOf, by decide, _, _, rfl⟩
theorem mkX5_isWithin : SM yX5_isWithin cX5_isWithin 3 (some (.boolean)) 3 := ⟨⟨iw_X5, by decide +kernel, by decide +kernel, by decide +kernel⟩, owX5_isWithin, swX5_isWithin, by decide⟩
theorem mkX0_pieceSize : VM yX0_pieceSize cX0_pieceSize 3 (some (.int)) 1 2 := ⟨⟨iw_X0, by decide +kernel, by decide +kernel, by decide +kernel⟩, owX0_pieceSize, vwX0_pieceSize, lwX0_pieceSize, by decide, _, _, rfl⟩
theorem mkX7_greatest : VM yX7_greatest cX7_greatest 2 (some (.int)) 0 9 := ⟨⟨iw_X7, by decide +kernel, by decide +kernel, by decide +kernel⟩, owX7_greatest, vwX7_greatest, lwX7_greatest, by decide, _, _, rfl⟩
theorem mkX7_would : VM yX7_would cX7_would 4 (some (.int)) 1 9 := ⟨⟨iw_X7, by decide +kernel, by decide +kernel, by decide +kernel⟩, owX7_would, vwX7_would, lwX7_would, by decide, _, _, rfl⟩
theorem mkX7_insistOnNeed : SM yX7_insistOnNeed cX7_insistOnNeed 1 (some (.int)) 1 := ⟨⟨iw_X7, by decide +kernel, by decide +kernel, by decide +kernel⟩, owX7_insistOnNeed, swX7_insistOnNeed, by decide⟩
theorem mkX7_insistOnPiece : VM yX7_insistOnPiece cX7_insistOnPiece 3 (some (.int)) 1 9 := ⟨⟨iw_X7, by decide +kernel, by decide +kernel, by decide +kernel⟩, owX7_insistOnPiece, vwX7_insistOnPiece, lwX7_insistOnPiece, by decide, _, _, rfl⟩
theorem mkX7_cuts : VM yX7_cuts cX7_cuts 6 (some (.int)) 1 9 := ⟨⟨iw_X7, by decide +kernel, by decide +kernel, by decide +kernel⟩, owX7_cuts, vwX7_cuts, lwX7_cuts, by decide, _, _, rfl⟩
theorem mkX7_fits : VM yX7_fits cX7_fits 2 (some (.int)) 1 9 := ⟨⟨iw_X7, by decide +kernel, by decide +kernel, by decide +kernel⟩, owX7_fits, vwX7_fits, lwX7_fits, by decide, _, _, rfl⟩
theorem mkX5_countRoomFor : VM yX5_countRoomFor cX5_countRoomFor 4 (some (.int)) 1 7 := ⟨⟨iw_X5, by decide +kernel, by decide +kernel, by decide +kernel⟩, owX5_countRoomFor, vwX5_countRoomFor, lwX5_countRoomFor, by decide, _, _, rfl⟩
theorem mkX7_inTheWay : VM yX7_inTheWay cX7_inTheWay 2 (some (.int)) 1 9 := ⟨⟨iw_X7, by decide +kernel, by decide +kernel, by decide +kernel⟩, owX7_inTheWay, vwX7_inTheWay, lwX7_inTheWay, by decide, _, _, rfl⟩
theorem mkX3_fewestInPart : VM yX3_fewestInPart cX3_fewestInPart 4 (some (.int)) 1 5 := ⟨⟨iw_X3, by decide +kernel, by decide +kernel, by decide +kernel⟩, owX3_fewestInPart, vwX3_fewestInPart, lwX3_fewestInPart, by decide, _, _, rfl⟩
theorem mkX3_countIn : VM yX3_countIn cX3_countIn 5 (some (.int)) 2 5 := ⟨⟨iw_X3, by decide +kernel, by decide +kernel, by decide +kernel⟩, owX3_countIn, vwX3_countIn, lwX3_countIn, by decide, _, _, rfl⟩
theorem mkX7_ranked : VM yX7_ranked cX7_ranked 3 (some (.int)) 1 9 := ⟨⟨iw_X7, by decide +kernel, by decide +kernel, by decide +kernel⟩, owX7_ranked, vwX7_ranked, lwX7_ranked, by decide, _, _, rfl⟩
theorem mkX3_nameOfRank : VM yX3_nameOfRank cX3_nameOfRank 3 (some (.int)) 1 5 := ⟨⟨iw_X3, by decide +kernel, by decide +kernel, by decide +kernel⟩, owX3_nameOfRank, vwX3_nameOfRank, lwX3_nameOfRank, by decide, _, _, rfl⟩
theorem mkX3_countAhead : VM yX3_countAhead cX3_countAhead 7 (some (.int)) 1 5 := ⟨⟨iw_X3, by decide +kernel, by decide +kernel, by decide +kernel⟩, owX3_countAhead, vwX3_countAhead, lwX3_countAhead, by decide, _, _, rfl⟩
theorem mkX3_sizesOf : VM yX3_sizesOf cX3_sizesOf 4 (some (.int)) 1 5 := ⟨⟨iw_X3, by decide +kernel, by decide +kernel, by decide +kernel⟩, owX3_sizesOf, vwX3_sizesOf, lwX3_sizesOf, by decide, _, _, rfl⟩
theorem mkX3_isFirstOfName : VM yX3_isFirstOfName cX3_isFirstOfName 3 (some (.boolean)) 1 5 := ⟨⟨iw_X3, by decide +kernel, by decide +kernel, by decide +kernel⟩, owX3_isFirstOfName, vwX3_isFirstOfName, lwX3_isFirstOfName, by decide, _, _, rfl⟩
theorem mkX7_line : VM yX7_line cX7_line 1 (some (.int)) 0 9 := ⟨⟨iw_X7, by decide +kernel, by decide +kernel, by decide +kernel⟩, owX7_line, vwX7_line, lwX7_line, by decide, _, _, rfl⟩
theorem mkX0_writePieces : VM yX0_writePieces cX0_writePieces 3 none 1 2 := ⟨⟨iw_X0, by decide +kernel, by decide +kernel, by decide +kernel⟩, owX0_writePieces, vwX0_writePieces, lwX0_writePieces, by decide, _, _, rfl⟩
theorem mkX2_clear : VM yX2_clear cX2_clear 1 none 0 4 := ⟨⟨iw_X2, by decide +kernel, by decide +kernel, by decide +kernel⟩, owX2_clear, vwX2_clear, lwX2_clear, by decide, _, _, rfl⟩
theorem mkX2_put : VM yX2_put cX2_put 2 none 1 4 := ⟨⟨iw_X2, by decide +kernel, by decide +kernel, by decide +kernel⟩, owX2_put, vwX2_put, lwX2_put, by decide, _, _, rfl⟩
theorem mkX0_writePiece : VM yX0_writePiece cX0_writePiece 4 none 2 2 := ⟨⟨iw_X0, by decide +kernel, by decide +kernel, by decide +kernel⟩, owX0_writePiece, vwX0_writePiece, lwX0_writePiece, by decide, _, _, rfl⟩
theorem mkX2_putNumber : VM yX2_putNumber cX2_putNumber 2 none 1 4 := ⟨⟨iw_X2, by decide +kernel, by decide +kernel, by decide +kernel⟩, owX2_putNumber, vwX2_putNumber, lwX2_putNumber, by decide, _, _, rfl⟩
theorem mkX7_character : VM yX7_character cX7_character 2 (some (.char)) 1 9 := ⟨⟨iw_X7, by decide +kernel, by decide +kernel, by decide +kernel⟩, owX7_character, vwX7_character, lwX7_character, by decide, _, _, rfl⟩
theorem mkX2_has : VM yX2_has cX2_has 2 (some (.boolean)) 1 4 := ⟨⟨iw_X2, by decide +kernel, by decide +kernel, by decide +kernel⟩, owX2_has, vwX2_has, lwX2_has, by decide, _, _, rfl⟩
theorem mkX2_signAt : VM yX2_signAt cX2_signAt 2 (some (.char)) 1 4 := ⟨⟨iw_X2, by decide +kernel, by decide +kernel, by decide +kernel⟩, owX2_signAt, vwX2_signAt, lwX2_signAt, by decide, _, _, rfl⟩
theorem mkX7_run : VM yX7_run cX7_run 3 (some (.int)) 0 9 := ⟨⟨iw_X7, by decide +kernel, by decide +kernel, by decide +kernel⟩, owX7_run, vwX7_run, lwX7_run, by decide, _, _, rfl⟩
theorem mkX4_read : VM yX4_read cX4_read 2 (some (.int)) 0 6 := ⟨⟨iw_X4, by decide +kernel, by decide +kernel, by decide +kernel⟩, owX4_read, vwX4_read, lwX4_read, by decide, _, _, rfl⟩
theorem mkX4_readOrder : VM yX4_readOrder cX4_readOrder 5 (some (.boolean)) 1 6 := ⟨⟨iw_X4, by decide +kernel, by decide +kernel, by decide +kernel⟩, owX4_readOrder, vwX4_readOrder, lwX4_readOrder, by decide, _, _, rfl⟩
theorem mkX4_sign : VM yX4_sign cX4_sign 1 (some (.int)) 0 6 := ⟨⟨iw_X4, by decide +kernel, by decide +kernel, by decide +kernel⟩, owX4_sign, vwX4_sign, lwX4_sign, by decide, _, _, rfl⟩
theorem mkX4_isKind : SM yX4_isKind cX4_isKind 1 (some (.boolean)) 1 := ⟨⟨iw_X4, by decide +kernel, by decide +kernel, by decide +kernel⟩, owX4_isKind, swX4_isKind, by decide⟩
theorem mkX4_hasAmount : SM yX4_hasAmount cX4_hasAmount 1 (some (.boolean)) 1 := ⟨⟨iw_X4, by decide +kernel, by decide +kernel, by decide +kernel⟩, owX4_hasAmount, swX4_hasAmount, by decide⟩
theorem mkX4_readDigit : VM yX4_readDigit cX4_readDigit 2 (some (.boolean)) 0 6 := ⟨⟨iw_X4, by decide +kernel, by decide +kernel, by decide +kernel⟩, owX4_readDigit, vwX4_readDigit, lwX4_readDigit, by decide, _, _, rfl⟩
theorem mkX4_readNumber : VM yX4_readNumber cX4_readNumber 2 (some (.boolean)) 0 6 := ⟨⟨iw_X4, by decide +kernel, by decide +kernel, by decide +kernel⟩, owX4_readNumber, vwX4_readNumber, lwX4_readNumber, by decide, _, _, rfl⟩
theorem mkX4_readSign : VM yX4_readSign cX4_readSign 2 (some (.boolean)) 1 6 := ⟨⟨iw_X4, by decide +kernel, by decide +kernel, by decide +kernel⟩, owX4_readSign, vwX4_readSign, lwX4_readSign, by decide, _, _, rfl⟩
theorem mkX4_put : VM yX4_put cX4_put 5 none 4 6 := ⟨⟨iw_X4, by decide +kernel, by decide +kernel, by decide +kernel⟩, owX4_put, vwX4_put, lwX4_put, by decide, _, _, rfl⟩
theorem mkX4_clearText : VM yX4_clearText cX4_clearText 1 none 0 6 := ⟨⟨iw_X4, by decide +kernel, by decide +kernel, by decide +kernel⟩, owX4_clearText, vwX4_clearText, lwX4_clearText, by decide, _, _, rfl⟩
theorem mkX4_kindAt : VM yX4_kindAt cX4_kindAt 2 (some (.int)) 1 6 := ⟨⟨iw_X4, by decide +kernel, by decide +kernel, by decide +kernel⟩, owX4_kindAt, vwX4_kindAt, lwX4_kindAt, by decide, _, _, rfl⟩
theorem mkX4_has : VM yX4_has cX4_has 2 (some (.boolean)) 1 6 := ⟨⟨iw_X4, by decide +kernel, by decide +kernel, by decide +kernel⟩, owX4_has, vwX4_has, lwX4_has, by decide, _, _, rfl⟩
theorem mkX4_firstAt : VM yX4_firstAt cX4_firstAt 2 (some (.int)) 1 6 := ⟨⟨iw_X4, by decide +kernel, by decide +kernel, by decide +kernel⟩, owX4_firstAt, vwX4_firstAt, lwX4_firstAt, by decide, _, _, rfl⟩
theorem mkX4_secondAt : VM yX4_secondAt cX4_secondAt 2 (some (.int)) 1 6 := ⟨⟨iw_X4, by decide +kernel, by decide +kernel, by decide +kernel⟩, owX4_secondAt, vwX4_secondAt, lwX4_secondAt, by decide, _, _, rfl⟩
theorem mkX7_judgeOrder : VM yX7_judgeOrder cX7_judgeOrder 4 (some (.int)) 3 9 := ⟨⟨iw_X7, by decide +kernel, by decide +kernel, by decide +kernel⟩, owX7_judgeOrder, vwX7_judgeOrder, lwX7_judgeOrder, by decide, _, _, rfl⟩
theorem mkX7_carryOut : VM yX7_carryOut cX7_carryOut 4 none 3 9 := ⟨⟨iw_X7, by decide +kernel, by decide +kernel, by decide +kernel⟩, owX7_carryOut, vwX7_carryOut, lwX7_carryOut, by decide, _, _, rfl⟩
theorem mkX7_errorPosition : VM yX7_errorPosition cX7_errorPosition 1 (some (.int)) 0 9 := ⟨⟨iw_X7, by decide +kernel, by decide +kernel, by decide +kernel⟩, owX7_errorPosition, vwX7_errorPosition, lwX7_errorPosition, by decide, _, _, rfl⟩
theorem mkX7_refusal : VM yX7_refusal cX7_refusal 2 (some (.int)) 1 9 := ⟨⟨iw_X7, by decide +kernel, by decide +kernel, by decide +kernel⟩, owX7_refusal, vwX7_refusal, lwX7_refusal, by decide, _, _, rfl⟩
theorem mkX7_account : VM yX7_account cX7_account 2 (some (.int)) 1 9 := ⟨⟨iw_X7, by decide +kernel, by decide +kernel, by decide +kernel⟩, owX7_account, vwX7_account, lwX7_account, by decide, _, _, rfl⟩
theorem mkX3_allAmounts : VM yX3_allAmounts cX3_allAmounts 3 (some (.int)) 0 5 := ⟨⟨iw_X3, by decide +kernel, by decide +kernel, by decide +kernel⟩, owX3_allAmounts, vwX3_allAmounts, lwX3_allAmounts, by decide, _, _, rfl⟩
theorem mkX3_allSizes : VM yX3_allSizes cX3_allSizes 3 (some (.int)) 0 5 := ⟨⟨iw_X3, by decide +kernel, by decide +kernel, by decide +kernel⟩, owX3_allSizes, vwX3_allSizes, lwX3_allSizes, by decide, _, _, rfl⟩
theorem mkX5_countAll : VM yX5_countAll cX5_countAll 1 (some (.int)) 0 7 := ⟨⟨iw_X5, by decide +kernel, by decide +kernel, by decide +kernel⟩, owX5_countAll, vwX5_countAll, lwX5_countAll, by decide, _, _, rfl⟩
theorem mkX5_countOfSize : VM yX5_countOfSize cX5_countOfSize 4 (some (.int)) 1 7 := ⟨⟨iw_X5, by decide +kernel, by decide +kernel, by decide +kernel⟩, owX5_countOfSize, vwX5_countOfSize, lwX5_countOfSize, by decide, _, _, rfl⟩
theorem mkX7_isWell : VM yX7_isWell cX7_isWell 1 (some (.boolean)) 0 9 := ⟨⟨iw_X7, by decide +kernel, by decide +kernel, by decide +kernel⟩, owX7_isWell, vwX7_isWell, lwX7_isWell, by decide, _, _, rfl⟩
theorem mkX0_isCovered : VM yX0_isCovered cX0_isCovered 2 (some (.boolean)) 0 2 := ⟨⟨iw_X0, by decide +kernel, by decide +kernel, by decide +kernel⟩, owX0_isCovered, vwX0_isCovered, lwX0_isCovered, by decide, _, _, rfl⟩
theorem mkX5_countWith : VM yX5_countWith cX5_countWith 4 (some (.int)) 1 7 := ⟨⟨iw_X5, by decide +kernel, by decide +kernel, by decide +kernel⟩, owX5_countWith, vwX5_countWith, lwX5_countWith, by decide, _, _, rfl⟩
theorem mkX0_isCountedAlike : VM yX0_isCountedAlike cX0_isCountedAlike 2 (some (.boolean)) 0 2 := ⟨⟨iw_X0, by decide +kernel, by decide +kernel, by decide +kernel⟩, owX0_isCountedAlike, vwX0_isCountedAlike, lwX0_isCountedAlike, by decide, _, _, rfl⟩
theorem mkX0_countFreeParts : VM yX0_countFreeParts cX0_countFreeParts 4 (some (.int)) 1 2 := ⟨⟨iw_X0, by decide +kernel, by decide +kernel, by decide +kernel⟩, owX0_countFreeParts, vwX0_countFreeParts, lwX0_countFreeParts, by decide, _, _, rfl⟩
theorem mkX0_isBoardOrHalfOfMixed : VM yX0_isBoardOrHalfOfMixed cX0_isBoardOrHalfOfMixed 3 (some (.boolean)) 2 2 := ⟨⟨iw_X0, by decide +kernel, by decide +kernel, by decide +kernel⟩, owX0_isBoardOrHalfOfMixed, vwX0_isBoardOrHalfOfMixed, lwX0_isBoardOrHalfOfMixed, by decide, _, _, rfl⟩
theorem mkX3_isEachNeedMet : VM yX3_isEachNeedMet cX3_isEachNeedMet 2 (some (.boolean)) 0 5 := ⟨⟨iw_X3, by decide +kernel, by decide +kernel, by decide +kernel⟩, owX3_isEachNeedMet, vwX3_isEachNeedMet, lwX3_isEachNeedMet, by decide, _, _, rfl⟩
theorem mkX0_isSomebodyLeft : VM yX0_isSomebodyLeft cX0_isSomebodyLeft 2 (some (.boolean)) 0 2 := ⟨⟨iw_X0, by decide +kernel, by decide +kernel, by decide +kernel⟩, owX0_isSomebodyLeft, vwX0_isSomebodyLeft, lwX0_isSomebodyLeft, by decide, _, _, rfl⟩
theorem mkX7_meanWaste : VM yX7_meanWaste cX7_meanWaste 2 (some (.double)) 0 9 := ⟨⟨iw_X7, by decide +kernel, by decide +kernel, by decide +kernel⟩, owX7_meanWaste, vwX7_meanWaste, lwX7_meanWaste, by decide, _, _, rfl⟩
theorem mkX7_lentShare : VM yX7_lentShare cX7_lentShare 1 (some (.float)) 0 9 := ⟨⟨iw_X7, by decide +kernel, by decide +kernel, by decide +kernel⟩, owX7_lentShare, vwX7_lentShare, lwX7_lentShare, by decide, _, _, rfl⟩
theorem mkX7_undo : VM yX7_undo cX7_undo 1 (some (.int)) 0 9 := ⟨⟨iw_X7, by decide +kernel, by decide +kernel, by decide +kernel⟩, owX7_undo, vwX7_undo, lwX7_undo, by decide, _, _, rfl⟩
theorem mkX1_takeBack : VM yX1_takeBack cX1_takeBack 4 none 1 3 := ⟨⟨iw_X1, by decide +kernel, by decide +kernel, by decide +kernel⟩, owX1_takeBack, vwX1_takeBack, lwX1_takeBack, by decide, _, _, rfl⟩
theorem mkX7_save : VM yX7_save cX7_save 1 (some (.int)) 0 9 := ⟨⟨iw_X7, by decide +kernel, by decide +kernel, by decide +kernel⟩, owX7_save, vwX7_save, lwX7_save, by decide, _, _, rfl⟩
theorem mkX7_restore : VM yX7_restore cX7_restore 1 (some (.int)) 0 9 := ⟨⟨iw_X7, by decide +kernel, by decide +kernel, by decide +kernel⟩, owX7_restore, vwX7_restore, lwX7_restore, by decide, _, _, rfl⟩
theorem mkX1_clear : VM yX1_clear cX1_clear 1 none 0 3 := ⟨⟨iw_X1, by decide +kernel, by decide +kernel, by decide +kernel⟩, owX1_clear, vwX1_clear, lwX1_clear, by decide, _, _, rfl⟩
theorem mkL_at : SM yL_at cL_at 2 (some (.int)) 2 := ⟨⟨iw_L, by decide +kernel, by decide +kernel, by decide +kernel⟩, owL_at, swL_at, by decide⟩
theorem mkL_put : SM yL_put cL_put 3 none 2 := ⟨⟨iw_L, by decide +kernel, by decide +kernel, by decide +kernel⟩, owL_put, swL_put, by decide⟩
theorem mkJ0_length_8abf5 : VM yJ0_length_8abf5 cJ0_length_8abf5 1 (some (.int)) 0 0 := ⟨⟨iw_J0, by decide +kernel, by decide +kernel, by decide +kernel⟩, owJ0_length_8abf5, vwJ0_length_8abf5, lwJ0_length_8abf5, by decide, _, _, rfl⟩
theorem mkJ0_coder_7d493 : VM yJ0_coder_7d493 cJ0_coder_7d493 1 (some (.byte)) 0 0 := ⟨⟨iw_J0, by decide +kernel, by decide +kernel, by decide +kernel⟩, owJ0_coder_7d493, vwJ0_coder_7d493, lwJ0_coder_7d493, by decide, _, _, rfl⟩
theorem mkJ0_charAt_5068e : VM yJ0_charAt_5068e cJ0_charAt_5068e 2 (some (.char)) 1 0 := ⟨⟨iw_J0, by decide +kernel, by decide +kernel, by decide +kernel⟩, owJ0_charAt_5068e, vwJ0_charAt_5068e, lwJ0_charAt_5068e, by decide, _, _, rfl⟩
theorem mkJ0_isLatin1_aae02 : VM yJ0_isLatin1_aae02 cJ0_isLatin1_aae02 1 (some (.boolean)) 0 0 := ⟨⟨iw_J0, by decide +kernel, by decide +kernel, by decide +kernel⟩, owJ0_isLatin1_aae02, vwJ0_isLatin1_aae02, lwJ0_isLatin1_aae02, by decide, _, _, rfl⟩
theorem mkJ1_charAt_3b067 : SM yJ1_charAt_3b067 cJ1_charAt_3b067 2 (some (.char)) 2 := ⟨⟨iw_J1, by decide +kernel, by decide +kernel, by decide +kernel⟩, owJ1_charAt_3b067, swJ1_charAt_3b067, by decide⟩
theorem mkJ0_checkIndex_df160 : SM yJ0_checkIndex_df160 cJ0_checkIndex_df160 2 none 2 := ⟨⟨iw_J0, by decide +kernel, by decide +kernel, by decide +kernel⟩, owJ0_checkIndex_df160, swJ0_checkIndex_df160, by decide⟩
theorem mkJ3_checkIndex_8e157 : SM yJ3_checkIndex_8e157 cJ3_checkIndex_8e157 3 (some (.int)) 3 := ⟨⟨iw_J3, by decide +kernel, by decide +kernel, by decide +kernel⟩, owJ3_checkIndex_8e157, swJ3_checkIndex_8e157, by decide⟩
theorem mkX7_append : VM yX7_append cX7_append 2 (some (.int)) 1 9 := ⟨⟨iw_X7, by decide +kernel, by decide +kernel, by decide +kernel⟩, owX7_append, vwX7_append, lwX7_append, by decide, _, _, rfl⟩
theorem mkX4_isFull : VM yX4_isFull cX4_isFull 1 (some (.boolean)) 0 6 := ⟨⟨iw_X4, by decide +kernel, by decide +kernel, by decide +kernel⟩, owX4_isFull, vwX4_isFull, lwX4_isFull, by decide, _, _, rfl⟩
theorem mkX4_addSign : VM yX4_addSign cX4_addSign 2 none 1 6 := ⟨⟨iw_X4, by decide +kernel, by decide +kernel, by decide +kernel⟩, owX4_addSign, vwX4_addSign, lwX4_addSign, by decide, _, _, rfl⟩
theorem mkL_build : SM yL_build cL_build 4 (some (.object "CheeseTwins")) 1 := ⟨⟨iw_L, by decide +kernel, by decide +kernel, by decide +kernel⟩, owL_build, swL_build, by decide⟩
theorem mkL_act : MOk yL_act 4 := ⟨iw_L, by decide +kernel, by decide +kernel, by decide +kernel⟩
theorem mkX7_forget : VM yX7_forget cX7_forget 2 (some (.int)) 1 9 := ⟨⟨iw_X7, by decide +kernel, by decide +kernel, by decide +kernel⟩, owX7_forget, vwX7_forget, lwX7_forget, by decide, _, _, rfl⟩
theorem mkL_state : SM yL_state cL_state 4 (some (.int)) 1 := ⟨⟨iw_L, by decide +kernel, by decide +kernel, by decide +kernel⟩, owL_state, swL_state, by decide⟩
theorem mkX7_waitingOf : VM yX7_waitingOf cX7_waitingOf 3 (some (.int)) 2 9 := ⟨⟨iw_X7, by decide +kernel, by decide +kernel, by decide +kernel⟩, owX7_waitingOf, vwX7_waitingOf, lwX7_waitingOf, by decide, _, _, rfl⟩
theorem mkL_isLine : SM yL_isLine cL_isLine 4 (some (.boolean)) 3 := ⟨⟨iw_L, by decide +kernel, by decide +kernel, by decide +kernel⟩, owL_isLine, swL_isLine, by decide⟩
theorem mkL_runs : MOk yL_runs 1 := ⟨iw_L, by decide +kernel, by decide +kernel, by decide +kernel⟩
theorem mkL_faults : SM yL_faults cL_faults 3 (some (.boolean)) 3 := ⟨⟨iw_L, by decide +kernel, by decide +kernel, by decide +kernel⟩, owL_faults, swL_faults, by decide⟩
theorem mkJ0_checkBoundsBeginEnd_23922 : SM yJ0_checkBoundsBeginEnd_23922 cJ0_checkBoundsBeginEnd_23922 3 none 3 := ⟨⟨iw_J0, by decide +kernel, by decide +kernel, by decide +kernel⟩, owJ0_checkBoundsBeginEnd_23922, swJ0_checkBoundsBeginEnd_23922, by decide⟩
theorem mkJ3_checkFromToIndex_8c36e : SM yJ3_checkFromToIndex_8c36e cJ3_checkFromToIndex_8c36e 4 (some (.int)) 4 := ⟨⟨iw_J3, by decide +kernel, by decide +kernel, by decide +kernel⟩, owJ3_checkFromToIndex_8c36e, swJ3_checkFromToIndex_8c36e, by decide⟩
theorem mkJ1_inflate_0e8fd : SM yJ1_inflate_0e8fd cJ1_inflate_0e8fd 5 none 5 := ⟨⟨iw_J1, by decide +kernel, by decide +kernel, by decide +kernel⟩, owJ1_inflate_0e8fd, swJ1_inflate_0e8fd, by decide⟩
theorem mkJ0_checkBoundsOffCount_cabcc : SM yJ0_checkBoundsOffCount_cabcc cJ0_checkBoundsOffCount_cabcc 3 (some (.int)) 3 := ⟨⟨iw_J0, by decide +kernel, by decide +kernel, by decide +kernel⟩, owJ0_checkBoundsOffCount_cabcc, swJ0_checkBoundsOffCount_cabcc, by decide⟩
theorem mkJ3_checkFromIndexSize_8c36e : SM yJ3_checkFromIndexSize_8c36e cJ3_checkFromIndexSize_8c36e 4 (some (.int)) 4 := ⟨⟨iw_J3, by decide +kernel, by decide +kernel, by decide +kernel⟩, owJ3_checkFromIndexSize_8c36e, swJ3_checkFromIndexSize_8c36e, by decide⟩
theorem mkJ0_getBytes_840e7 : VM yJ0_getBytes_840e7 cJ0_getBytes_840e7 4 none 3 0 := ⟨⟨iw_J0, by decide +kernel, by decide +kernel, by decide +kernel⟩, owJ0_getBytes_840e7, vwJ0_getBytes_840e7, lwJ0_getBytes_840e7, by decide, _, _, rfl⟩
theorem mkJ0_init_81219 : IM yJ0_init_81219 cJ0_init_81219 2 1 := ⟨⟨iw_J0, by decide +kernel, by decide +kernel, by decide +kernel⟩, owJ0_init_81219, vwJ0_init_81219, by decide, rfl⟩
theorem mkJ0_init_db425 : IM yJ0_init_db425 cJ0_init_db425 5 2 := ⟨⟨iw_J0, by decide +kernel, by decide +kernel, by decide +kernel⟩, owJ0_init_db425, vwJ0_init_db425, by decide, rfl⟩
theorem fo_X5_9 : FOk RX5 9 7 0 (.array .int) true := ⟨RX5, TX5, 4, tyX5, rfl, inX5, tyX5_ok, nmX5, by decide, fw_X5_9, rfl, rfl, fun _ => rfl⟩
theorem fo_X5_15 : FOk RX5 15 7 1 (.int) false := ⟨RX5, TX5, 4, tyX5, rfl, inX5, tyX5_ok, nmX5, by decide, fw_X5_15, rfl, rfl, fun h => by cases h⟩
theorem fo_X0_102 : FOk RX0 102 7 1 (.int) false := ⟨RX5, TX5, 4, tyX5, rfl, inX5, tyX5_ok, nmX5, by decide, fw_X0_102, rfl, rfl, fun h => by cases h⟩
theorem fo_X7_327 : FOk RX7 327 7 1 (.int) false := ⟨RX5, TX5, 4, tyX5, rfl, inX5, tyX5_ok, nmX5, by decide, fw_X7_327, rfl, rfl, fun h => by cases h⟩
theorem fo_X5_19 : FOk RX5 19 7 2 (.int) false := ⟨RX5, TX5, 4, tyX5, rfl, inX5, tyX5_ok, nmX5, by decide, fw_X5_19, rfl, rfl, fun h => by cases h⟩
theorem fo_X7_321 : FOk RX7 321 7 2 (.int) false := ⟨RX5, TX5, 4, tyX5, rfl, inX5, tyX5_ok, nmX5, by decide, fw_X7_321, rfl, rfl, fun h => by cases h⟩
theorem fo_X5_22 : FOk RX5 22 7 3 (.int) false := ⟨RX5, TX5, 4, tyX5, rfl, inX5, tyX5_ok, nmX5, by decide, fw_X5_22, rfl, rfl, fun h => by cases h⟩
theorem fo_X7_324 : FOk RX7 324 7 3 (.int) false := ⟨RX5, TX5, 4, tyX5, rfl, inX5, tyX5_ok, nmX5, by decide, fw_X7_324, rfl, rfl, fun h => by cases h⟩
theorem fo_X3_9 : FOk RX3 9 5 0 (.array .int) true := ⟨RX3, TX3, 5, tyX3, rfl, inX3, tyX3_ok, nmX3, by decide, fw_X3_9, rfl, rfl, fun _ => rfl⟩
theorem fo_X3_15 : FOk RX3 15 5 1 (.array .int) true := ⟨RX3, TX3, 5, tyX3, rfl, inX3, tyX3_ok, nmX3, by decide, fw_X3_15, rfl, rfl, fun _ => rfl⟩
theorem fo_X3_18 : FOk RX3 18 5 2 (.array .int) true := ⟨RX3, TX3, 5, tyX3, rfl, inX3, tyX3_ok, nmX3, by decide, fw_X3_18, rfl, rfl, fun _ => rfl⟩
theorem fo_X3_21 : FOk RX3 21 5 3 (.array .int) true := ⟨RX3, TX3, 5, tyX3, rfl, inX3, tyX3_ok, nmX3, by decide, fw_X3_21, rfl, rfl, fun _ => rfl⟩
theorem fo_X3_24 : FOk RX3 24 5 4 (.int) false := ⟨RX3, TX3, 5, tyX3, rfl, inX3, tyX3_ok, nmX3, by decide, fw_X3_24, rfl, rfl, fun h => by cases h⟩
theorem fo_X0_42 : FOk RX0 42 5 4 (.int) false := ⟨RX3, TX3, 5, tyX3, rfl, inX3, tyX3_ok, nmX3, by decide, fw_X0_42, rfl, rfl, fun h => by cases h⟩
theorem fo_X7_311 : FOk RX7 311 5 4 (.int) false := ⟨RX3, TX3, 5, tyX3, rfl, inX3, tyX3_ok, nmX3, by decide, fw_X7_311, rfl, rfl, fun h => by cases h⟩
theorem fo_X6_9 : FOk RX6 9 8 0 (.array .int) true := ⟨RX6, TX6, 3, tyX6, rfl, inX6, tyX6_ok, nmX6, by decide, fw_X6_9, rfl, rfl, fun _ => rfl⟩
theorem fo_X6_15 : FOk RX6 15 8 1 (.array .int) true := ⟨RX6, TX6, 3, tyX6, rfl, inX6, tyX6_ok, nmX6, by decide, fw_X6_15, rfl, rfl, fun _ => rfl⟩
theorem fo_X6_18 : FOk RX6 18 8 2 (.int) false := ⟨RX6, TX6, 3, tyX6, rfl, inX6, tyX6_ok, nmX6, by decide, fw_X6_18, rfl, rfl, fun h => by cases h⟩
theorem fo_X7_123 : FOk RX7 123 8 2 (.int) false := ⟨RX6, TX6, 3, tyX6, rfl, inX6, tyX6_ok, nmX6, by decide, fw_X7_123, rfl, rfl, fun h => by cases h⟩
theorem fo_X0_105 : FOk RX0 105 8 2 (.int) false := ⟨RX6, TX6, 3, tyX6, rfl, inX6, tyX6_ok, nmX6, by decide, fw_X0_105, rfl, rfl, fun h => by cases h⟩
theorem fo_X0_12 : FOk RX0 12 2 0 (.object "CheeseTwins$Pieces") true := ⟨RX0, TX0, 3, tyX0, rfl, inX0, tyX0_ok, nmX0, by decide, fw_X0_12, rfl, rfl, fun _ => rfl⟩
theorem fo_X7_203 : FOr RX7 203 2 0 := ⟨RX0, TX0, 3, tyX0, rfl, inX0, tyX0_ok, nmX0, by decide, fw_X7_203⟩
theorem fo_X0_21 : FOk RX0 21 2 1 (.object "CheeseTwins$Loans") true := ⟨RX0, TX0, 3, tyX0, rfl, inX0, tyX0_ok, nmX0, by decide, fw_X0_21, rfl, rfl, fun _ => rfl⟩
theorem fo_X7_126 : FOr RX7 126 2 1 := ⟨RX0, TX0, 3, tyX0, rfl, inX0, tyX0_ok, nmX0, by decide, fw_X7_126⟩
theorem fo_X0_28 : FOk RX0 28 2 2 (.object "CheeseTwins$Waiting") true := ⟨RX0, TX0, 3, tyX0, rfl, inX0, tyX0_ok, nmX0, by decide, fw_X0_28, rfl, rfl, fun _ => rfl⟩
theorem fo_X7_103 : FOr RX7 103 2 2 := ⟨RX0, TX0, 3, tyX0, rfl, inX0, tyX0_ok, nmX0, by decide, fw_X7_103⟩
theorem fo_X1_11 : FOk RX1 11 3 0 (.array (.object "CheeseTwins$Board")) true := ⟨RX1, TX1, 3, tyX1, rfl, inX1, tyX1_ok, nmX1, by decide, fw_X1_11, rfl, rfl, fun _ => rfl⟩
theorem fo_X1_17 : FOk RX1 17 3 1 (.int) false := ⟨RX1, TX1, 3, tyX1, rfl, inX1, tyX1_ok, nmX1, by decide, fw_X1_17, rfl, rfl, fun h => by cases h⟩
theorem fo_X1_21 : FOk RX1 21 3 2 (.int) false := ⟨RX1, TX1, 3, tyX1, rfl, inX1, tyX1_ok, nmX1, by decide, fw_X1_21, rfl, rfl, fun h => by cases h⟩
theorem fo_X7_330 : FOk RX7 330 3 2 (.int) false := ⟨RX1, TX1, 3, tyX1, rfl, inX1, tyX1_ok, nmX1, by decide, fw_X7_330, rfl, rfl, fun h => by cases h⟩
theorem fo_X2_9 : FOk RX2 9 4 0 (.array .char) true := ⟨RX2, TX2, 2, tyX2, rfl, inX2, tyX2_ok, nmX2, by decide, fw_X2_9, rfl, rfl, fun _ => rfl⟩
theorem fo_X2_15 : FOk RX2 15 4 1 (.int) false := ⟨RX2, TX2, 2, tyX2, rfl, inX2, tyX2_ok, nmX2, by decide, fw_X2_15, rfl, rfl, fun h => by cases h⟩
theorem fo_X7_247 : FOk RX7 247 4 1 (.int) false := ⟨RX2, TX2, 2, tyX2, rfl, inX2, tyX2_ok, nmX2, by decide, fw_X7_247, rfl, rfl, fun h => by cases h⟩
theorem fo_X4_9 : FOk RX4 9 6 0 (.array .int) true := ⟨RX4, TX4, 8, tyX4, rfl, inX4, tyX4_ok, nmX4, by decide, fw_X4_9, rfl, rfl, fun _ => rfl⟩
theorem fo_X4_15 : FOk RX4 15 6 1 (.array .int) true := ⟨RX4, TX4, 8, tyX4, rfl, inX4, tyX4_ok, nmX4, by decide, fw_X4_15, rfl, rfl, fun _ => rfl⟩
theorem fo_X4_18 : FOk RX4 18 6 2 (.array .int) true := ⟨RX4, TX4, 8, tyX4, rfl, inX4, tyX4_ok, nmX4, by decide, fw_X4_18, rfl, rfl, fun _ => rfl⟩
theorem fo_X4_21 : FOk RX4 21 6 3 (.int) false := ⟨RX4, TX4, 8, tyX4, rfl, inX4, tyX4_ok, nmX4, by decide, fw_X4_21, rfl, rfl, fun h => by cases h⟩
theorem fo_X7_284 : FOk RX7 284 6 3 (.int) false := ⟨RX4, TX4, 8, tyX4, rfl, inX4, tyX4_ok, nmX4, by decide, fw_X7_284, rfl, rfl, fun h => by cases h⟩
theorem fo_X4_25 : FOk RX4 25 6 4 (.array .char) true := ⟨RX4, TX4, 8, tyX4, rfl, inX4, tyX4_ok, nmX4, by decide, fw_X4_25, rfl, rfl, fun _ => rfl⟩
theorem fo_X4_29 : FOk RX4 29 6 5 (.int) false := ⟨RX4, TX4, 8, tyX4, rfl, inX4, tyX4_ok, nmX4, by decide, fw_X4_29, rfl, rfl, fun h => by cases h⟩
theorem fo_X7_272 : FOk RX7 272 6 5 (.int) false := ⟨RX4, TX4, 8, tyX4, rfl, inX4, tyX4_ok, nmX4, by decide, fw_X7_272, rfl, rfl, fun h => by cases h⟩
theorem fo_X4_32 : FOk RX4 32 6 6 (.int) false := ⟨RX4, TX4, 8, tyX4, rfl, inX4, tyX4_ok, nmX4, by decide, fw_X4_32, rfl, rfl, fun h => by cases h⟩
theorem fo_X4_35 : FOk RX4 35 6 7 (.int) false := ⟨RX4, TX4, 8, tyX4, rfl, inX4, tyX4_ok, nmX4, by decide, fw_X4_35, rfl, rfl, fun h => by cases h⟩
theorem fo_X7_12 : FOk RX7 12 9 0 (.object "CheeseTwins$Board") true := ⟨RX7, TX7, 10, tyX7, rfl, inX7, tyX7_ok, nmX7, by decide, fw_X7_12, rfl, rfl, fun _ => rfl⟩
theorem fo_X7_16 : FOk RX7 16 9 1 (.object "CheeseTwins$Board") true := ⟨RX7, TX7, 10, tyX7, rfl, inX7, tyX7_ok, nmX7, by decide, fw_X7_16, rfl, rfl, fun _ => rfl⟩
theorem fo_X7_19 : FOk RX7 19 9 2 (.object "CheeseTwins$Board") true := ⟨RX7, TX7, 10, tyX7, rfl, inX7, tyX7_ok, nmX7, by decide, fw_X7_19, rfl, rfl, fun _ => rfl⟩
theorem fo_X7_25 : FOk RX7 25 9 3 (.object "CheeseTwins$History") true := ⟨RX7, TX7, 10, tyX7, rfl, inX7, tyX7_ok, nmX7, by decide, fw_X7_25, rfl, rfl, fun _ => rfl⟩
theorem fo_X7_32 : FOk RX7 32 9 4 (.object "CheeseTwins$Line") true := ⟨RX7, TX7, 10, tyX7, rfl, inX7, tyX7_ok, nmX7, by decide, fw_X7_32, rfl, rfl, fun _ => rfl⟩
theorem fo_X7_39 : FOk RX7 39 9 5 (.object "CheeseTwins$Orders") true := ⟨RX7, TX7, 10, tyX7, rfl, inX7, tyX7_ok, nmX7, by decide, fw_X7_39, rfl, rfl, fun _ => rfl⟩
theorem fo_X7_43 : FOk RX7 43 9 6 (.int) false := ⟨RX7, TX7, 10, tyX7, rfl, inX7, tyX7_ok, nmX7, by decide, fw_X7_43, rfl, rfl, fun h => by cases h⟩
theorem fo_X7_47 : FOk RX7 47 9 7 (.boolean) false := ⟨RX7, TX7, 10, tyX7, rfl, inX7, tyX7_ok, nmX7, by decide, fw_X7_47, rfl, rfl, fun h => by cases h⟩
theorem fo_X7_51 : FOk RX7 51 9 8 (.int) false := ⟨RX7, TX7, 10, tyX7, rfl, inX7, tyX7_ok, nmX7, by decide, fw_X7_51, rfl, rfl, fun h => by cases h⟩
theorem fo_X7_54 : FOk RX7 54 9 9 (.int) false := ⟨RX7, TX7, 10, tyX7, rfl, inX7, tyX7_ok, nmX7, by decide, fw_X7_54, rfl, rfl, fun h => by cases h⟩
