section
-- ===== PART A: goes FIRST, ahead of the names: the tables' words, and 'selects' of the private methods out of them =====
/-- a private method of a class that the tables say can be made, by its rows of tables_1 -/
def lw_okq (q : MethodName × Nat) : Prop := (q.1.cls ≠ "java/lang/invoke/MethodHandle" ∧ q.1.cls ≠ "java/lang/invoke/VarHandle") ∧ Cond.instantiable q.1.cls q.2 ∈ tables_1 ∧ Cond.privateMethod q.1 ∈ tables_1 ∧ Cond.instanceMethod q.1 ∈ tables_1
theorem lw_p0 : lw_okq (⟨"CheeseTwins$Loans", "isIn", "(III)Z"⟩, 5) := ⟨⟨by decide +kernel, by decide +kernel⟩, List.mem_of_getElem? (i := 62) (by decide +kernel), List.mem_of_getElem? (i := 236) (by decide +kernel), List.mem_of_getElem? (i := 237) (by decide +kernel)⟩
theorem lw_p1 : lw_okq (⟨"CheeseTwins$Board", "writePiece", "(LCheeseTwins$Line;I)V"⟩, 3) := ⟨⟨by decide +kernel, by decide +kernel⟩, List.mem_of_getElem? (i := 32) (by decide +kernel), List.mem_of_getElem? (i := 259) (by decide +kernel), List.mem_of_getElem? (i := 260) (by decide +kernel)⟩
theorem lw_p2 : lw_okq (⟨"CheeseTwins$Board", "isBoardOrHalfOfMixed", "(II)Z"⟩, 3) := ⟨⟨by decide +kernel, by decide +kernel⟩, List.mem_of_getElem? (i := 32) (by decide +kernel), List.mem_of_getElem? (i := 320) (by decide +kernel), List.mem_of_getElem? (i := 321) (by decide +kernel)⟩
theorem lw_p3 : lw_okq (⟨"CheeseTwins", "judgeLend", "(II)I"⟩, 10) := ⟨⟨by decide +kernel, by decide +kernel⟩, List.mem_of_getElem? (i := 24) (by decide +kernel), List.mem_of_getElem? (i := 405) (by decide +kernel), List.mem_of_getElem? (i := 406) (by decide +kernel)⟩
theorem lw_p4 : lw_okq (⟨"CheeseTwins", "refuse", "(II)I"⟩, 10) := ⟨⟨by decide +kernel, by decide +kernel⟩, List.mem_of_getElem? (i := 24) (by decide +kernel), List.mem_of_getElem? (i := 415) (by decide +kernel), List.mem_of_getElem? (i := 416) (by decide +kernel)⟩
theorem lw_p5 : lw_okq (⟨"java/lang/Throwable", "fillInStackTrace", "(I)Ljava/lang/Throwable;"⟩, 6) := ⟨⟨by decide +kernel, by decide +kernel⟩, List.mem_of_getElem? (i := 466) (by decide +kernel), List.mem_of_getElem? (i := 464) (by decide +kernel), List.mem_of_getElem? (i := 465) (by decide +kernel)⟩
theorem lw_p6 : lw_okq (⟨"CheeseTwins$History", "keptAt", "(I)LCheeseTwins$Board;"⟩, 3) := ⟨⟨by decide +kernel, by decide +kernel⟩, List.mem_of_getElem? (i := 117) (by decide +kernel), List.mem_of_getElem? (i := 532) (by decide +kernel), List.mem_of_getElem? (i := 533) (by decide +kernel)⟩
theorem lw_p7 : lw_okq (⟨"CheeseTwins$Pieces", "isPreferred", "(II)Z"⟩, 4) := ⟨⟨by decide +kernel, by decide +kernel⟩, List.mem_of_getElem? (i := 38) (by decide +kernel), List.mem_of_getElem? (i := 552) (by decide +kernel), List.mem_of_getElem? (i := 553) (by decide +kernel)⟩
theorem lw_p8 : lw_okq (⟨"CheeseTwins$Pieces", "setSize", "(II)V"⟩, 4) := ⟨⟨by decide +kernel, by decide +kernel⟩, List.mem_of_getElem? (i := 38) (by decide +kernel), List.mem_of_getElem? (i := 557) (by decide +kernel), List.mem_of_getElem? (i := 558) (by decide +kernel)⟩
theorem lw_p9 : lw_okq (⟨"CheeseTwins", "judgeAsk", "(II)I"⟩, 10) := ⟨⟨by decide +kernel, by decide +kernel⟩, List.mem_of_getElem? (i := 24) (by decide +kernel), List.mem_of_getElem? (i := 584) (by decide +kernel), List.mem_of_getElem? (i := 585) (by decide +kernel)⟩
theorem lw_p10 : lw_okq (⟨"CheeseTwins", "judgeGive", "(I)I"⟩, 10) := ⟨⟨by decide +kernel, by decide +kernel⟩, List.mem_of_getElem? (i := 24) (by decide +kernel), List.mem_of_getElem? (i := 626) (by decide +kernel), List.mem_of_getElem? (i := 627) (by decide +kernel)⟩
theorem lw_p11 : lw_okq (⟨"CheeseTwins$Board", "releaseLoan", "(I)V"⟩, 3) := ⟨⟨by decide +kernel, by decide +kernel⟩, List.mem_of_getElem? (i := 32) (by decide +kernel), List.mem_of_getElem? (i := 635) (by decide +kernel), List.mem_of_getElem? (i := 636) (by decide +kernel)⟩
theorem lw_p12 : lw_okq (⟨"CheeseTwins$Board", "serveWaiting", "()I"⟩, 3) := ⟨⟨by decide +kernel, by decide +kernel⟩, List.mem_of_getElem? (i := 32) (by decide +kernel), List.mem_of_getElem? (i := 656) (by decide +kernel), List.mem_of_getElem? (i := 657) (by decide +kernel)⟩
theorem lw_p13 : lw_okq (⟨"CheeseTwins", "judgeGiveAll", "(I)I"⟩, 10) := ⟨⟨by decide +kernel, by decide +kernel⟩, List.mem_of_getElem? (i := 24) (by decide +kernel), List.mem_of_getElem? (i := 675) (by decide +kernel), List.mem_of_getElem? (i := 676) (by decide +kernel)⟩
theorem lw_p14 : lw_okq (⟨"CheeseTwins", "judgeResize", "(II)I"⟩, 10) := ⟨⟨by decide +kernel, by decide +kernel⟩, List.mem_of_getElem? (i := 24) (by decide +kernel), List.mem_of_getElem? (i := 704) (by decide +kernel), List.mem_of_getElem? (i := 705) (by decide +kernel)⟩
theorem lw_p15 : lw_okq (⟨"CheeseTwins", "judgeWay", "(I)I"⟩, 10) := ⟨⟨by decide +kernel, by decide +kernel⟩, List.mem_of_getElem? (i := 24) (by decide +kernel), List.mem_of_getElem? (i := 728) (by decide +kernel), List.mem_of_getElem? (i := 729) (by decide +kernel)⟩
def lw_privs_1 : List (MethodName × Nat) := [(⟨"CheeseTwins$Loans", "isIn", "(III)Z"⟩, 5), (⟨"CheeseTwins$Board", "writePiece", "(LCheeseTwins$Line;I)V"⟩, 3), (⟨"CheeseTwins$Board", "isBoardOrHalfOfMixed", "(II)Z"⟩, 3), (⟨"CheeseTwins", "judgeLend", "(II)I"⟩, 10), (⟨"CheeseTwins", "refuse", "(II)I"⟩, 10), (⟨"java/lang/Throwable", "fillInStackTrace", "(I)Ljava/lang/Throwable;"⟩, 6), (⟨"CheeseTwins$History", "keptAt", "(I)LCheeseTwins$Board;"⟩, 3), (⟨"CheeseTwins$Pieces", "isPreferred", "(II)Z"⟩, 4), (⟨"CheeseTwins$Pieces", "setSize", "(II)V"⟩, 4), (⟨"CheeseTwins", "judgeAsk", "(II)I"⟩, 10), (⟨"CheeseTwins", "judgeGive", "(I)I"⟩, 10), (⟨"CheeseTwins$Board", "releaseLoan", "(I)V"⟩, 3), (⟨"CheeseTwins$Board", "serveWaiting", "()I"⟩, 3), (⟨"CheeseTwins", "judgeGiveAll", "(I)I"⟩, 10), (⟨"CheeseTwins", "judgeResize", "(II)I"⟩, 10), (⟨"CheeseTwins", "judgeWay", "(I)I"⟩, 10)]
theorem lw_r1 : ∀ q ∈ lw_privs_1, lw_okq q := List.forall_mem_cons.mpr ⟨lw_p0, List.forall_mem_cons.mpr ⟨lw_p1, List.forall_mem_cons.mpr ⟨lw_p2, List.forall_mem_cons.mpr ⟨lw_p3, List.forall_mem_cons.mpr ⟨lw_p4, List.forall_mem_cons.mpr ⟨lw_p5, List.forall_mem_cons.mpr ⟨lw_p6, List.forall_mem_cons.mpr ⟨lw_p7, List.forall_mem_cons.mpr ⟨lw_p8, List.forall_mem_cons.mpr ⟨lw_p9, List.forall_mem_cons.mpr ⟨lw_p10, List.forall_mem_cons.mpr ⟨lw_p11, List.forall_mem_cons.mpr ⟨lw_p12, List.forall_mem_cons.mpr ⟨lw_p13, List.forall_mem_cons.mpr ⟨lw_p14, List.forall_mem_cons.mpr ⟨lw_p15, fun _ h => absurd h List.not_mem_nil⟩⟩⟩⟩⟩⟩⟩⟩⟩⟩⟩⟩⟩⟩⟩⟩
theorem lw_p16 : lw_okq (⟨"CheeseTwins", "insistOnPiece", "(I)I"⟩, 10) := ⟨⟨by decide +kernel, by decide +kernel⟩, List.mem_of_getElem? (i := 24) (by decide +kernel), List.mem_of_getElem? (i := 848) (by decide +kernel), List.mem_of_getElem? (i := 849) (by decide +kernel)⟩
theorem lw_p17 : lw_okq (⟨"CheeseTwins$Loans", "countAhead", "(I)I"⟩, 5) := ⟨⟨by decide +kernel, by decide +kernel⟩, List.mem_of_getElem? (i := 62) (by decide +kernel), List.mem_of_getElem? (i := 910) (by decide +kernel), List.mem_of_getElem? (i := 911) (by decide +kernel)⟩
theorem lw_p18 : lw_okq (⟨"CheeseTwins$Loans", "isFirstOfName", "(I)Z"⟩, 5) := ⟨⟨by decide +kernel, by decide +kernel⟩, List.mem_of_getElem? (i := 62) (by decide +kernel), List.mem_of_getElem? (i := 915) (by decide +kernel), List.mem_of_getElem? (i := 916) (by decide +kernel)⟩
theorem lw_p19 : lw_okq (⟨"CheeseTwins$Orders", "readOrder", "(I)Z"⟩, 8) := ⟨⟨by decide +kernel, by decide +kernel⟩, List.mem_of_getElem? (i := 152) (by decide +kernel), List.mem_of_getElem? (i := 979) (by decide +kernel), List.mem_of_getElem? (i := 980) (by decide +kernel)⟩
theorem lw_p20 : lw_okq (⟨"CheeseTwins$Orders", "sign", "()I"⟩, 8) := ⟨⟨by decide +kernel, by decide +kernel⟩, List.mem_of_getElem? (i := 152) (by decide +kernel), List.mem_of_getElem? (i := 983) (by decide +kernel), List.mem_of_getElem? (i := 984) (by decide +kernel)⟩
theorem lw_p21 : lw_okq (⟨"CheeseTwins$Orders", "readDigit", "()Z"⟩, 8) := ⟨⟨by decide +kernel, by decide +kernel⟩, List.mem_of_getElem? (i := 152) (by decide +kernel), List.mem_of_getElem? (i := 993) (by decide +kernel), List.mem_of_getElem? (i := 994) (by decide +kernel)⟩
theorem lw_p22 : lw_okq (⟨"CheeseTwins$Orders", "readNumber", "()Z"⟩, 8) := ⟨⟨by decide +kernel, by decide +kernel⟩, List.mem_of_getElem? (i := 152) (by decide +kernel), List.mem_of_getElem? (i := 997) (by decide +kernel), List.mem_of_getElem? (i := 998) (by decide +kernel)⟩
theorem lw_p23 : lw_okq (⟨"CheeseTwins$Orders", "readSign", "(I)Z"⟩, 8) := ⟨⟨by decide +kernel, by decide +kernel⟩, List.mem_of_getElem? (i := 152) (by decide +kernel), List.mem_of_getElem? (i := 1001) (by decide +kernel), List.mem_of_getElem? (i := 1002) (by decide +kernel)⟩
theorem lw_p24 : lw_okq (⟨"CheeseTwins$Orders", "put", "(IIII)V"⟩, 8) := ⟨⟨by decide +kernel, by decide +kernel⟩, List.mem_of_getElem? (i := 152) (by decide +kernel), List.mem_of_getElem? (i := 1005) (by decide +kernel), List.mem_of_getElem? (i := 1006) (by decide +kernel)⟩
theorem lw_p25 : lw_okq (⟨"CheeseTwins$Orders", "has", "(I)Z"⟩, 8) := ⟨⟨by decide +kernel, by decide +kernel⟩, List.mem_of_getElem? (i := 152) (by decide +kernel), List.mem_of_getElem? (i := 1018) (by decide +kernel), List.mem_of_getElem? (i := 1019) (by decide +kernel)⟩
theorem lw_p26 : lw_okq (⟨"CheeseTwins", "judgeOrder", "(III)I"⟩, 10) := ⟨⟨by decide +kernel, by decide +kernel⟩, List.mem_of_getElem? (i := 24) (by decide +kernel), List.mem_of_getElem? (i := 1030) (by decide +kernel), List.mem_of_getElem? (i := 1031) (by decide +kernel)⟩
theorem lw_p27 : lw_okq (⟨"CheeseTwins", "carryOut", "(III)V"⟩, 10) := ⟨⟨by decide +kernel, by decide +kernel⟩, List.mem_of_getElem? (i := 24) (by decide +kernel), List.mem_of_getElem? (i := 1034) (by decide +kernel), List.mem_of_getElem? (i := 1035) (by decide +kernel)⟩
theorem lw_p28 : lw_okq (⟨"CheeseTwinsModel", "looksBack", "()V"⟩, 18) := ⟨⟨by decide +kernel, by decide +kernel⟩, List.mem_of_getElem? (i := 1113) (by decide +kernel), List.mem_of_getElem? (i := 1182) (by decide +kernel), List.mem_of_getElem? (i := 1183) (by decide +kernel)⟩
theorem lw_p29 : lw_okq (⟨"CheeseTwinsModel", "lends", "(II)I"⟩, 18) := ⟨⟨by decide +kernel, by decide +kernel⟩, List.mem_of_getElem? (i := 1113) (by decide +kernel), List.mem_of_getElem? (i := 1189) (by decide +kernel), List.mem_of_getElem? (i := 1190) (by decide +kernel)⟩
theorem lw_p30 : lw_okq (⟨"CheeseTwinsModel", "fails", "(I)I"⟩, 18) := ⟨⟨by decide +kernel, by decide +kernel⟩, List.mem_of_getElem? (i := 1113) (by decide +kernel), List.mem_of_getElem? (i := 1202) (by decide +kernel), List.mem_of_getElem? (i := 1203) (by decide +kernel)⟩
theorem lw_p31 : lw_okq (⟨"CheeseTwinsModel", "refused", "(III)I"⟩, 18) := ⟨⟨by decide +kernel, by decide +kernel⟩, List.mem_of_getElem? (i := 1113) (by decide +kernel), List.mem_of_getElem? (i := 1206) (by decide +kernel), List.mem_of_getElem? (i := 1207) (by decide +kernel)⟩
def lw_privs_2 : List (MethodName × Nat) := [(⟨"CheeseTwins", "insistOnPiece", "(I)I"⟩, 10), (⟨"CheeseTwins$Loans", "countAhead", "(I)I"⟩, 5), (⟨"CheeseTwins$Loans", "isFirstOfName", "(I)Z"⟩, 5), (⟨"CheeseTwins$Orders", "readOrder", "(I)Z"⟩, 8), (⟨"CheeseTwins$Orders", "sign", "()I"⟩, 8), (⟨"CheeseTwins$Orders", "readDigit", "()Z"⟩, 8), (⟨"CheeseTwins$Orders", "readNumber", "()Z"⟩, 8), (⟨"CheeseTwins$Orders", "readSign", "(I)Z"⟩, 8), (⟨"CheeseTwins$Orders", "put", "(IIII)V"⟩, 8), (⟨"CheeseTwins$Orders", "has", "(I)Z"⟩, 8), (⟨"CheeseTwins", "judgeOrder", "(III)I"⟩, 10), (⟨"CheeseTwins", "carryOut", "(III)V"⟩, 10), (⟨"CheeseTwinsModel", "looksBack", "()V"⟩, 18), (⟨"CheeseTwinsModel", "lends", "(II)I"⟩, 18), (⟨"CheeseTwinsModel", "fails", "(I)I"⟩, 18), (⟨"CheeseTwinsModel", "refused", "(III)I"⟩, 18)]
theorem lw_r2 : ∀ q ∈ lw_privs_2, lw_okq q := List.forall_mem_cons.mpr ⟨lw_p16, List.forall_mem_cons.mpr ⟨lw_p17, List.forall_mem_cons.mpr ⟨lw_p18, List.forall_mem_cons.mpr ⟨lw_p19, List.forall_mem_cons.mpr ⟨lw_p20, List.forall_mem_cons.mpr ⟨lw_p21, List.forall_mem_cons.mpr ⟨lw_p22, List.forall_mem_cons.mpr ⟨lw_p23, List.forall_mem_cons.mpr ⟨lw_p24, List.forall_mem_cons.mpr ⟨lw_p25, List.forall_mem_cons.mpr ⟨lw_p26, List.forall_mem_cons.mpr ⟨lw_p27, List.forall_mem_cons.mpr ⟨lw_p28, List.forall_mem_cons.mpr ⟨lw_p29, List.forall_mem_cons.mpr ⟨lw_p30, List.forall_mem_cons.mpr ⟨lw_p31, fun _ h => absurd h List.not_mem_nil⟩⟩⟩⟩⟩⟩⟩⟩⟩⟩⟩⟩⟩⟩⟩⟩
theorem lw_p32 : lw_okq (⟨"CheeseTwinsModel", "canLend", "(I)Z"⟩, 18) := ⟨⟨by decide +kernel, by decide +kernel⟩, List.mem_of_getElem? (i := 1113) (by decide +kernel), List.mem_of_getElem? (i := 1210) (by decide +kernel), List.mem_of_getElem? (i := 1211) (by decide +kernel)⟩
theorem lw_p33 : lw_okq (⟨"CheeseTwinsModel", "finds", "(I)I"⟩, 18) := ⟨⟨by decide +kernel, by decide +kernel⟩, List.mem_of_getElem? (i := 1113) (by decide +kernel), List.mem_of_getElem? (i := 1217) (by decide +kernel), List.mem_of_getElem? (i := 1218) (by decide +kernel)⟩
theorem lw_p34 : lw_okq (⟨"CheeseTwinsModel", "isFreeAt", "(I)Z"⟩, 18) := ⟨⟨by decide +kernel, by decide +kernel⟩, List.mem_of_getElem? (i := 1113) (by decide +kernel), List.mem_of_getElem? (i := 1221) (by decide +kernel), List.mem_of_getElem? (i := 1222) (by decide +kernel)⟩
theorem lw_p35 : lw_okq (⟨"CheeseTwinsModel", "loanAt", "(I)I"⟩, 18) := ⟨⟨by decide +kernel, by decide +kernel⟩, List.mem_of_getElem? (i := 1113) (by decide +kernel), List.mem_of_getElem? (i := 1225) (by decide +kernel), List.mem_of_getElem? (i := 1226) (by decide +kernel)⟩
theorem lw_p36 : lw_okq (⟨"CheeseTwinsModel", "isBetter", "(II)Z"⟩, 18) := ⟨⟨by decide +kernel, by decide +kernel⟩, List.mem_of_getElem? (i := 1113) (by decide +kernel), List.mem_of_getElem? (i := 1229) (by decide +kernel), List.mem_of_getElem? (i := 1230) (by decide +kernel)⟩
theorem lw_p37 : lw_okq (⟨"CheeseTwinsModel", "lendsTo", "(II)I"⟩, 18) := ⟨⟨by decide +kernel, by decide +kernel⟩, List.mem_of_getElem? (i := 1113) (by decide +kernel), List.mem_of_getElem? (i := 1233) (by decide +kernel), List.mem_of_getElem? (i := 1234) (by decide +kernel)⟩
theorem lw_p38 : lw_okq (⟨"CheeseTwinsModel", "halves", "(II)I"⟩, 18) := ⟨⟨by decide +kernel, by decide +kernel⟩, List.mem_of_getElem? (i := 1113) (by decide +kernel), List.mem_of_getElem? (i := 1237) (by decide +kernel), List.mem_of_getElem? (i := 1238) (by decide +kernel)⟩
theorem lw_p39 : lw_okq (⟨"CheeseTwinsModel", "done", "(I)I"⟩, 18) := ⟨⟨by decide +kernel, by decide +kernel⟩, List.mem_of_getElem? (i := 1113) (by decide +kernel), List.mem_of_getElem? (i := 1241) (by decide +kernel), List.mem_of_getElem? (i := 1242) (by decide +kernel)⟩
theorem lw_p40 : lw_okq (⟨"CheeseTwinsModel", "greatestFree", "()I"⟩, 18) := ⟨⟨by decide +kernel, by decide +kernel⟩, List.mem_of_getElem? (i := 1113) (by decide +kernel), List.mem_of_getElem? (i := 1245) (by decide +kernel), List.mem_of_getElem? (i := 1246) (by decide +kernel)⟩
theorem lw_p41 : lw_okq (⟨"CheeseTwinsModel", "kept", "(I)I"⟩, 18) := ⟨⟨by decide +kernel, by decide +kernel⟩, List.mem_of_getElem? (i := 1113) (by decide +kernel), List.mem_of_getElem? (i := 1249) (by decide +kernel), List.mem_of_getElem? (i := 1250) (by decide +kernel)⟩
theorem lw_p42 : lw_okq (⟨"CheeseTwinsModel", "asks", "(II)I"⟩, 18) := ⟨⟨by decide +kernel, by decide +kernel⟩, List.mem_of_getElem? (i := 1113) (by decide +kernel), List.mem_of_getElem? (i := 1257) (by decide +kernel), List.mem_of_getElem? (i := 1258) (by decide +kernel)⟩
theorem lw_p43 : lw_okq (⟨"CheeseTwinsModel", "gives", "(I)I"⟩, 18) := ⟨⟨by decide +kernel, by decide +kernel⟩, List.mem_of_getElem? (i := 1113) (by decide +kernel), List.mem_of_getElem? (i := 1265) (by decide +kernel), List.mem_of_getElem? (i := 1266) (by decide +kernel)⟩
theorem lw_p44 : lw_okq (⟨"CheeseTwinsModel", "isLoan", "(I)Z"⟩, 18) := ⟨⟨by decide +kernel, by decide +kernel⟩, List.mem_of_getElem? (i := 1113) (by decide +kernel), List.mem_of_getElem? (i := 1269) (by decide +kernel), List.mem_of_getElem? (i := 1270) (by decide +kernel)⟩
theorem lw_p45 : lw_okq (⟨"CheeseTwinsModel", "comesBack", "(I)V"⟩, 18) := ⟨⟨by decide +kernel, by decide +kernel⟩, List.mem_of_getElem? (i := 1113) (by decide +kernel), List.mem_of_getElem? (i := 1273) (by decide +kernel), List.mem_of_getElem? (i := 1274) (by decide +kernel)⟩
theorem lw_p46 : lw_okq (⟨"CheeseTwinsModel", "joins", "(I)V"⟩, 18) := ⟨⟨by decide +kernel, by decide +kernel⟩, List.mem_of_getElem? (i := 1113) (by decide +kernel), List.mem_of_getElem? (i := 1277) (by decide +kernel), List.mem_of_getElem? (i := 1278) (by decide +kernel)⟩
theorem lw_p47 : lw_okq (⟨"CheeseTwinsModel", "serves", "()I"⟩, 18) := ⟨⟨by decide +kernel, by decide +kernel⟩, List.mem_of_getElem? (i := 1113) (by decide +kernel), List.mem_of_getElem? (i := 1281) (by decide +kernel), List.mem_of_getElem? (i := 1282) (by decide +kernel)⟩
def lw_privs_3 : List (MethodName × Nat) := [(⟨"CheeseTwinsModel", "canLend", "(I)Z"⟩, 18), (⟨"CheeseTwinsModel", "finds", "(I)I"⟩, 18), (⟨"CheeseTwinsModel", "isFreeAt", "(I)Z"⟩, 18), (⟨"CheeseTwinsModel", "loanAt", "(I)I"⟩, 18), (⟨"CheeseTwinsModel", "isBetter", "(II)Z"⟩, 18), (⟨"CheeseTwinsModel", "lendsTo", "(II)I"⟩, 18), (⟨"CheeseTwinsModel", "halves", "(II)I"⟩, 18), (⟨"CheeseTwinsModel", "done", "(I)I"⟩, 18), (⟨"CheeseTwinsModel", "greatestFree", "()I"⟩, 18), (⟨"CheeseTwinsModel", "kept", "(I)I"⟩, 18), (⟨"CheeseTwinsModel", "asks", "(II)I"⟩, 18), (⟨"CheeseTwinsModel", "gives", "(I)I"⟩, 18), (⟨"CheeseTwinsModel", "isLoan", "(I)Z"⟩, 18), (⟨"CheeseTwinsModel", "comesBack", "(I)V"⟩, 18), (⟨"CheeseTwinsModel", "joins", "(I)V"⟩, 18), (⟨"CheeseTwinsModel", "serves", "()I"⟩, 18)]
theorem lw_r3 : ∀ q ∈ lw_privs_3, lw_okq q := List.forall_mem_cons.mpr ⟨lw_p32, List.forall_mem_cons.mpr ⟨lw_p33, List.forall_mem_cons.mpr ⟨lw_p34, List.forall_mem_cons.mpr ⟨lw_p35, List.forall_mem_cons.mpr ⟨lw_p36, List.forall_mem_cons.mpr ⟨lw_p37, List.forall_mem_cons.mpr ⟨lw_p38, List.forall_mem_cons.mpr ⟨lw_p39, List.forall_mem_cons.mpr ⟨lw_p40, List.forall_mem_cons.mpr ⟨lw_p41, List.forall_mem_cons.mpr ⟨lw_p42, List.forall_mem_cons.mpr ⟨lw_p43, List.forall_mem_cons.mpr ⟨lw_p44, List.forall_mem_cons.mpr ⟨lw_p45, List.forall_mem_cons.mpr ⟨lw_p46, List.forall_mem_cons.mpr ⟨lw_p47, fun _ h => absurd h List.not_mem_nil⟩⟩⟩⟩⟩⟩⟩⟩⟩⟩⟩⟩⟩⟩⟩⟩
theorem lw_p48 : lw_okq (⟨"CheeseTwinsModel", "leaves", "(I)V"⟩, 18) := ⟨⟨by decide +kernel, by decide +kernel⟩, List.mem_of_getElem? (i := 1113) (by decide +kernel), List.mem_of_getElem? (i := 1285) (by decide +kernel), List.mem_of_getElem? (i := 1286) (by decide +kernel)⟩
theorem lw_p49 : lw_okq (⟨"CheeseTwinsModel", "givesAll", "(I)I"⟩, 18) := ⟨⟨by decide +kernel, by decide +kernel⟩, List.mem_of_getElem? (i := 1113) (by decide +kernel), List.mem_of_getElem? (i := 1293) (by decide +kernel), List.mem_of_getElem? (i := 1294) (by decide +kernel)⟩
theorem lw_p50 : lw_okq (⟨"CheeseTwinsModel", "waitingFor", "(I)I"⟩, 18) := ⟨⟨by decide +kernel, by decide +kernel⟩, List.mem_of_getElem? (i := 1113) (by decide +kernel), List.mem_of_getElem? (i := 1297) (by decide +kernel), List.mem_of_getElem? (i := 1298) (by decide +kernel)⟩
theorem lw_p51 : lw_okq (⟨"CheeseTwinsModel", "resizes", "(II)I"⟩, 18) := ⟨⟨by decide +kernel, by decide +kernel⟩, List.mem_of_getElem? (i := 1113) (by decide +kernel), List.mem_of_getElem? (i := 1305) (by decide +kernel), List.mem_of_getElem? (i := 1306) (by decide +kernel)⟩
theorem lw_p52 : lw_okq (⟨"CheeseTwinsModel", "grows", "(II)Z"⟩, 18) := ⟨⟨by decide +kernel, by decide +kernel⟩, List.mem_of_getElem? (i := 1113) (by decide +kernel), List.mem_of_getElem? (i := 1309) (by decide +kernel), List.mem_of_getElem? (i := 1310) (by decide +kernel)⟩
theorem lw_p53 : lw_okq (⟨"CheeseTwinsModel", "wayIs", "(I)I"⟩, 18) := ⟨⟨by decide +kernel, by decide +kernel⟩, List.mem_of_getElem? (i := 1113) (by decide +kernel), List.mem_of_getElem? (i := 1317) (by decide +kernel), List.mem_of_getElem? (i := 1318) (by decide +kernel)⟩
theorem lw_p54 : lw_okq (⟨"CheeseTwinsModel", "forgets", "(I)I"⟩, 18) := ⟨⟨by decide +kernel, by decide +kernel⟩, List.mem_of_getElem? (i := 1113) (by decide +kernel), List.mem_of_getElem? (i := 1325) (by decide +kernel), List.mem_of_getElem? (i := 1326) (by decide +kernel)⟩
theorem lw_p55 : lw_okq (⟨"CheeseTwinsModel", "sizeOf", "(I)I"⟩, 18) := ⟨⟨by decide +kernel, by decide +kernel⟩, List.mem_of_getElem? (i := 1113) (by decide +kernel), List.mem_of_getElem? (i := 1333) (by decide +kernel), List.mem_of_getElem? (i := 1334) (by decide +kernel)⟩
theorem lw_p56 : lw_okq (⟨"CheeseTwinsModel", "held", "(II)I"⟩, 18) := ⟨⟨by decide +kernel, by decide +kernel⟩, List.mem_of_getElem? (i := 1113) (by decide +kernel), List.mem_of_getElem? (i := 1341) (by decide +kernel), List.mem_of_getElem? (i := 1342) (by decide +kernel)⟩
theorem lw_p57 : lw_okq (⟨"CheeseTwinsModel", "startOf", "(I)I"⟩, 18) := ⟨⟨by decide +kernel, by decide +kernel⟩, List.mem_of_getElem? (i := 1113) (by decide +kernel), List.mem_of_getElem? (i := 1353) (by decide +kernel), List.mem_of_getElem? (i := 1354) (by decide +kernel)⟩
theorem lw_p58 : lw_okq (⟨"CheeseTwinsModel", "freeOf", "(I)I"⟩, 18) := ⟨⟨by decide +kernel, by decide +kernel⟩, List.mem_of_getElem? (i := 1113) (by decide +kernel), List.mem_of_getElem? (i := 1361) (by decide +kernel), List.mem_of_getElem? (i := 1362) (by decide +kernel)⟩
theorem lw_p59 : lw_okq (⟨"CheeseTwinsModel", "loansIn", "(II)I"⟩, 18) := ⟨⟨by decide +kernel, by decide +kernel⟩, List.mem_of_getElem? (i := 1113) (by decide +kernel), List.mem_of_getElem? (i := 1389) (by decide +kernel), List.mem_of_getElem? (i := 1390) (by decide +kernel)⟩
theorem lw_p60 : lw_okq (⟨"CheeseTwinsModel", "writes", "(I)V"⟩, 18) := ⟨⟨by decide +kernel, by decide +kernel⟩, List.mem_of_getElem? (i := 1113) (by decide +kernel), List.mem_of_getElem? (i := 1401) (by decide +kernel), List.mem_of_getElem? (i := 1402) (by decide +kernel)⟩
theorem lw_p61 : lw_okq (⟨"CheeseTwinsModel", "writesNumber", "(I)V"⟩, 18) := ⟨⟨by decide +kernel, by decide +kernel⟩, List.mem_of_getElem? (i := 1113) (by decide +kernel), List.mem_of_getElem? (i := 1405) (by decide +kernel), List.mem_of_getElem? (i := 1406) (by decide +kernel)⟩
theorem lw_p62 : lw_okq (⟨"CheeseTwinsModel", "readsOrder", "(I)V"⟩, 18) := ⟨⟨by decide +kernel, by decide +kernel⟩, List.mem_of_getElem? (i := 1113) (by decide +kernel), List.mem_of_getElem? (i := 1425) (by decide +kernel), List.mem_of_getElem? (i := 1426) (by decide +kernel)⟩
theorem lw_p63 : lw_okq (⟨"CheeseTwinsModel", "here", "()I"⟩, 18) := ⟨⟨by decide +kernel, by decide +kernel⟩, List.mem_of_getElem? (i := 1113) (by decide +kernel), List.mem_of_getElem? (i := 1429) (by decide +kernel), List.mem_of_getElem? (i := 1430) (by decide +kernel)⟩
def lw_privs_4 : List (MethodName × Nat) := [(⟨"CheeseTwinsModel", "leaves", "(I)V"⟩, 18), (⟨"CheeseTwinsModel", "givesAll", "(I)I"⟩, 18), (⟨"CheeseTwinsModel", "waitingFor", "(I)I"⟩, 18), (⟨"CheeseTwinsModel", "resizes", "(II)I"⟩, 18), (⟨"CheeseTwinsModel", "grows", "(II)Z"⟩, 18), (⟨"CheeseTwinsModel", "wayIs", "(I)I"⟩, 18), (⟨"CheeseTwinsModel", "forgets", "(I)I"⟩, 18), (⟨"CheeseTwinsModel", "sizeOf", "(I)I"⟩, 18), (⟨"CheeseTwinsModel", "held", "(II)I"⟩, 18), (⟨"CheeseTwinsModel", "startOf", "(I)I"⟩, 18), (⟨"CheeseTwinsModel", "freeOf", "(I)I"⟩, 18), (⟨"CheeseTwinsModel", "loansIn", "(II)I"⟩, 18), (⟨"CheeseTwinsModel", "writes", "(I)V"⟩, 18), (⟨"CheeseTwinsModel", "writesNumber", "(I)V"⟩, 18), (⟨"CheeseTwinsModel", "readsOrder", "(I)V"⟩, 18), (⟨"CheeseTwinsModel", "here", "()I"⟩, 18)]
theorem lw_r4 : ∀ q ∈ lw_privs_4, lw_okq q := List.forall_mem_cons.mpr ⟨lw_p48, List.forall_mem_cons.mpr ⟨lw_p49, List.forall_mem_cons.mpr ⟨lw_p50, List.forall_mem_cons.mpr ⟨lw_p51, List.forall_mem_cons.mpr ⟨lw_p52, List.forall_mem_cons.mpr ⟨lw_p53, List.forall_mem_cons.mpr ⟨lw_p54, List.forall_mem_cons.mpr ⟨lw_p55, List.forall_mem_cons.mpr ⟨lw_p56, List.forall_mem_cons.mpr ⟨lw_p57, List.forall_mem_cons.mpr ⟨lw_p58, List.forall_mem_cons.mpr ⟨lw_p59, List.forall_mem_cons.mpr ⟨lw_p60, List.forall_mem_cons.mpr ⟨lw_p61, List.forall_mem_cons.mpr ⟨lw_p62, List.forall_mem_cons.mpr ⟨lw_p63, fun _ h => absurd h List.not_mem_nil⟩⟩⟩⟩⟩⟩⟩⟩⟩⟩⟩⟩⟩⟩⟩⟩
theorem lw_p64 : lw_okq (⟨"CheeseTwinsModel", "figures", "(I)I"⟩, 18) := ⟨⟨by decide +kernel, by decide +kernel⟩, List.mem_of_getElem? (i := 1113) (by decide +kernel), List.mem_of_getElem? (i := 1433) (by decide +kernel), List.mem_of_getElem? (i := 1434) (by decide +kernel)⟩
theorem lw_p65 : lw_okq (⟨"CheeseTwinsModel", "does", "(I)I"⟩, 18) := ⟨⟨by decide +kernel, by decide +kernel⟩, List.mem_of_getElem? (i := 1113) (by decide +kernel), List.mem_of_getElem? (i := 1437) (by decide +kernel), List.mem_of_getElem? (i := 1438) (by decide +kernel)⟩
theorem lw_p66 : lw_okq (⟨"CheeseTwinsModel", "all", "(I)I"⟩, 18) := ⟨⟨by decide +kernel, by decide +kernel⟩, List.mem_of_getElem? (i := 1113) (by decide +kernel), List.mem_of_getElem? (i := 1453) (by decide +kernel), List.mem_of_getElem? (i := 1454) (by decide +kernel)⟩
theorem lw_p67 : lw_okq (⟨"CheeseTwinsModel", "freePieces", "()I"⟩, 18) := ⟨⟨by decide +kernel, by decide +kernel⟩, List.mem_of_getElem? (i := 1113) (by decide +kernel), List.mem_of_getElem? (i := 1457) (by decide +kernel), List.mem_of_getElem? (i := 1458) (by decide +kernel)⟩
def lw_privs_5 : List (MethodName × Nat) := [(⟨"CheeseTwinsModel", "figures", "(I)I"⟩, 18), (⟨"CheeseTwinsModel", "does", "(I)I"⟩, 18), (⟨"CheeseTwinsModel", "all", "(I)I"⟩, 18), (⟨"CheeseTwinsModel", "freePieces", "()I"⟩, 18)]
theorem lw_r5 : ∀ q ∈ lw_privs_5, lw_okq q := List.forall_mem_cons.mpr ⟨lw_p64, List.forall_mem_cons.mpr ⟨lw_p65, List.forall_mem_cons.mpr ⟨lw_p66, List.forall_mem_cons.mpr ⟨lw_p67, fun _ h => absurd h List.not_mem_nil⟩⟩⟩⟩
def lw_privs : List (MethodName × Nat) := lw_privs_1 ++ (lw_privs_2 ++ (lw_privs_3 ++ (lw_privs_4 ++ (lw_privs_5))))
def lw_tbl : List Cond := k2_sels lw_privs ++ tables_1
theorem lw_privs_ok : ∀ q ∈ lw_privs, lw_okq q := by
  show ∀ q ∈ lw_privs_1 ++ (lw_privs_2 ++ (lw_privs_3 ++ (lw_privs_4 ++ (lw_privs_5)))), lw_okq q
  exact List.forall_mem_append.mpr ⟨lw_r1, List.forall_mem_append.mpr ⟨lw_r2, List.forall_mem_append.mpr ⟨lw_r3, List.forall_mem_append.mpr ⟨lw_r4, lw_r5⟩⟩⟩⟩
/-- the streams that the claim lets the run draw from -/
abbrev lw_cs : List Choice := [Jvm.Choice.named "NaN.bits"]
theorem lw_bits : nanBits ∈ lw_cs := by first | decide | exact List.mem_cons_self | simp [lw_cs, nanBits]
/-! ===== BEGIN words of one list among another's, by their places ===== -/
theorem goodIn_r {big : List Cond} (ws : List Cond) (ps : List Nat) (hp : ws = ps.filterMap (fun i => big[i]?)) (h : ws.all goodWord = true) : GoodIn big ws := by
  intro w hw
  have h1 := List.all_eq_true.mp h w hw
  rw [hp] at hw
  obtain ⟨i, -, hi⟩ := List.mem_filterMap.mp hw
  have hm : w ∈ big := by first | exact List.mem_of_getElem? hi | exact List.getElem?_mem hi
  exact ⟨hm, good_of_word h1⟩
theorem goodIn_app {big a b : List Cond} (ha : GoodIn big a) (hb : GoodIn big b) : GoodIn big (a ++ b) := fun w h => (List.mem_append.mp h).elim (ha w) (hb w)
theorem goodIn_ca {big a b : List Cond} {c : Cond} (ha : GoodIn big (c :: a)) (hb : GoodIn big b) : GoodIn big (c :: (a ++ b)) := fun w h => (List.mem_cons.mp h).elim (fun e => ha w (List.mem_cons.mpr (Or.inl e))) (fun h => (List.mem_append.mp h).elim (fun h => ha w (List.mem_cons.mpr (Or.inr h))) (hb w))
theorem goodIn_sub {big ws : List Cond} (hm : ∀ w ∈ ws, w ∈ big) (h : ws.all goodWord = true) : GoodIn big ws := fun w hw => ⟨hm w hw, good_of_word (List.all_eq_true.mp h w hw)⟩
/-! ===== END ===== -/

/-! ===== BEGIN exceptions that leave a method, and their catching by the caller (launches without stack traces) ===== -/
section VXA
/-! The laws vx_back, vx_callV, vx_callS, vx_callSW, vx_throw0, vx_throwS follow proofs of the library, with one case more: JvmDerived/Free/Laws.lean (Back.of_free), Shelf42/LK1.lean (callV, callS), Shelf/KitTraced.lean (throwNew0V, throwNewS). -/
/-- where a method has thrown q: the class by its name, the cell, what was written, the world -/
def vx_T (XC : String → State → State → Prop) (st : State) (q : Addr) (t : State) (mc ms : Nat) (free : Addr → Prop) : Prop :=
  ∃ (E : String) (ce : Cell) (L : List Loc), XC E st t ∧ t.heap[q]? = some ce ∧ ce.vm = .none ∧ st.vm.findClass E = some ce.cls ∧ st.WarmedH t.vm ∧ st.sameButNew ({ t with vm := st.vm } : State) L mc ms ∧ ∀ z ∈ L, free z.base
def vx_Q (Qc : Array Value → State → Outcome → State → Prop) (XC : String → State → State → Prop) (mc ms : Nat) (free : Addr → Prop) : Array Value → State → Outcome → State → Prop := fun a st o t =>
  (Qc a st o t ∧ ∃ L, FrameEnd st o t L mc ms ∧ ∀ q ∈ L, free q.base) ∨ ∃ q, o = .threw q ∧ vx_T XC st q t mc ms free
/-- a callee that returns or throws -/
def vx_Met (l : Launch) (y : MethodName) (ws : List Cond) (rm : Room) (Pc : Array Value → State → Prop) (Qc : Array Value → State → Outcome → State → Prop) (XC : String → State → State → Prop) (mc ms : Nat) (free : Addr → Prop) : Prop :=
  MetFree l y (headSpec ws rm) Pc (fun _ _ _ _ _ => True) (vx_Q Qc XC mc ms free)
def vx_Post (XC : String → State → State → Prop) (mc ms : Nat) (free : Addr → Prop) : Pt → Array Value → Addr → Pt → Prop := fun A a q B =>
  ∃ (g : JFrame) (mk : MethodId) (t : State) (L : List Loc) (E : String) (ce : Cell), B.U.heap = t.heap ∧ B.U.vm = t.vm ∧ XC E (A.U.calling g mk a) t ∧ t.heap[q]? = some ce ∧ ce.vm = .none ∧ A.U.vm.findClass E = some ce.cls ∧ B.locs = A.locs ++ L ∧ (∀ z ∈ L, free z.base) ∧ B.cells = A.cells + mc ∧ B.slots = A.slots + ms
def vx_Back (l : Launch) (R : Room) (p : Program) (e : Env) (below : List Frame) (s : State) (sargs : Array Value) (y : MethodName) (len W9 : Nat)
    (Pre : Pt → Array Value → Prop) (Post : Pt → Array Value → Option Value → Pt → Prop) (PostX : Pt → Array Value → Addr → Pt → Prop) : Prop :=
  ∀ (m : MethodId) (meth : Method) (c : Code) (A : Pt) (g : JFrame) (ig : Instr) (mk : MethodId) (a : Array Value),
    Stand p l e R s m sargs below meth c A.U A.locs A.cells A.slots → g.method = m → g.locals.size = c.maxLocals → decode c.code g.pc = .ok (ig, len) →
    2 * g.monitorRoom + (g.stack.map fun v => v.category).sum ≤ W9 → A.U.methodNamed? y = some mk → Pre A a →
    (∃ (v : Option Value) (B : Pt), Stand p l e R s m sargs below meth c B.U B.locs B.cells B.slots ∧ Post A a v B ∧
      Steps p.tables e below (doInvoke e (A.U.setTop g) [] mk a).1 (B.U.setTop { g with pc := g.pc + len, stack := v.toList ++ g.stack })) ∨
    (∃ (q : Addr) (B : Pt), Stand p l e R s m sargs below meth c B.U B.locs B.cells B.slots ∧ PostX A a q B ∧
      Steps p.tables e below (doInvoke e (A.U.setTop g) [] mk a).1 ((B.U.setTop g).pushFrame (.throwing q)))
section Payer
variable {l : Launch} {R : Room} {p : Program} {e : Env} {below : List Frame} {s : State} {sargs : Array Value} {y : MethodName} {len W9 : Nat}
theorem vx_back {ws : List Cond} {rm : Room} {Pc : Array Value → State → Prop} {Qc : Array Value → State → Outcome → State → Prop} {XC : String → State → State → Prop} {mc ms : Nat} {free : Addr → Prop} {bytes : ByteArray} {maxL : Nat} {ret : Option FieldType}
    (hM : vx_Met l y ws rm Pc Qc XC mc ms free) (hblind : FrameBlind Pc) (hrc : rm.cells = mc) (hrs : rm.slots = ms)
    (hframes : rm.frames + 1 ≤ R.frames) (hlocals : W9 + (maxL + 11) + rm.locals ≤ R.locals)
    (hws : ∀ w ∈ ws, ∀ a' U, s.WarmedH U.vm → w.before a' U = true) (hcode : Cond.code y bytes maxL ret ∈ ws) (hinit : ∀ a' U, s.WarmedH U.vm → (Cond.initialized y.cls).before a' U = true) :
    vx_Back l R p e below s sargs y len W9 (PreOf R mc ms Pc) (PostOf Qc mc ms free) (vx_Post XC mc ms free) := by
  intro m meth c A g ig mk a X hg hsize hdg hW hn hp
  have h1 : (headSpec ws rm).pre.before a A.U = true := atoms_intro fun w hw => hws w hw _ _ X.warmed
  have h2 : (Cond.code y bytes maxL ret).before a A.U = true := hws _ hcode _ _ X.warmed
  have h3 : (Cond.initialized y.cls).before a A.U = true := hinit _ _ X.warmed
  have h4 : A.cells + (headSpec ws rm).room.cells ≤ R.cells := by rw [show (headSpec ws rm).room.cells = mc from hrc]; exact hp.1
  have h5 : A.slots + (headSpec ws rm).room.slots ≤ R.slots := by rw [show (headSpec ws rm).room.slots = ms from hrs]; exact hp.2.1
  have hPc : Pc a (A.U.calling g mk a) := hblind _ _ _ _ hp.2.2
  obtain ⟨U, Ls, c0, s0⟩ := A
  dsimp only [Pt.U, Pt.locs, Pt.cells, Pt.slots] at h1 h2 h3 h4 h5 X hn hPc ⊢
  obtain ⟨methY, cY, hmY, hcY, -, hlY, -, -, -, -⟩ := Cond.code_spec hn h2
  obtain ⟨kY, hkY, -⟩ := className_of_methodNamed hn
  have hinitY : kY.init = .initialized := Cond.initialized_spec (findClass_of_methodNamed hn) hkY h3
  have h : At U g.method c below := by rw [hg]; exact X.here
  have hlocals9 : W9 + (maxL + 11) + (headSpec ws rm).room.locals ≤ R.locals := hlocals
  have happ : (headSpec ws rm).appliesLoose y e.platform (U.calling g mk a) = true :=
    Spec.appliesLoose_calling (g := g) h hdg hn hkY hinitY
      (X.room_calling (g := g) (R' := (headSpec ws rm).room) hsize hmY hcY hframes (by rw [hlY]; omega) h4 h5) h1
  obtain ⟨mid, hmid⟩ := h.above
  have hfr : (U.setTop g).frames = (.java g :: mid) ++ below := by rw [State.frames_setTop' g h.top, hmid]; rfl
  obtain ⟨o, s₂, hsteps, -, hend, hq⟩ := Steps.callFree hM p X.admits X.cas X.clock (acts := []) hfr happ hPc trivial
  have hq' : vx_Q Qc XC mc ms free a (U.calling g mk a) o s₂ := hq
  rw [State.frames_setTop' g h.top] at hend
  obtain ⟨g₀, hg0⟩ := Option.isSome_iff_exists.mp h.top
  obtain ⟨r, hr⟩ := State.topJava?_eq_some.mp hg0
  have hr' : (({ U with heap := s₂.heap, slotsUsed := s₂.slotsUsed } : State).setVm s₂.vm).frames = .java g₀ :: r := hr
  rcases hq' with ⟨hqc, L, hfe, hL⟩ | ⟨q, rfl, E, ce, L, hx, hce, hcv, hcl, hW₂, hsm, hL⟩
  · obtain ⟨⟨v, rfl⟩, hW₂, e2, q2, q3, q4, q5, q6⟩ := id hfe
    have e3 : s₂ = ({ (U.calling g mk a).setFrames s₂.frames with heap := s₂.heap, slotsUsed := s₂.slotsUsed } : State).setVm s₂.vm := by
      have : s₂ = ({ s₂ with vm := (U.calling g mk a).vm } : State).setVm s₂.vm := rfl
      rw [e2] at this
      exact this
    obtain ⟨c₂, i₂, len₂, hc₂, hd₂, hf₂⟩ := hend
    have hW' : U.WarmedH s₂.vm := hW₂
    have hcc : c₂ = c := by
      have h1 : s₂.code? g.method = U.code? g.method := by
        rw [State.code?_eq, State.code?_eq, hW'.alike.method?]
      exact Option.some.inj (hc₂.symm.trans (h1.trans h.code))
    subst hcc
    have hlen : len₂ = len := by rw [hdg] at hd₂; cases hd₂; rfl
    subst hlen
    have hs₂ : s₂ = (({ U with heap := s₂.heap, slotsUsed := s₂.slotsUsed } : State).setVm s₂.vm).setTop { g with pc := g.pc + len₂, stack := v.toList ++ g.stack } := by
      refine e3.trans ?_
      rw [hf₂, State.calling_eq h.top, State.setFrames_setFrames, State.setTop_of_frames _ hr', hr]
      rfl
    have hsame : U.sameButNew ({ U with heap := s₂.heap, slotsUsed := s₂.slotsUsed } : State) L mc ms := by
      refine ⟨?_, q2, q3, q4, q5, q6⟩
      obtain ⟨t, ht, -⟩ := State.frames_cons hr
      show ({ U with heap := s₂.heap, slotsUsed := s₂.slotsUsed } : State) = { U.setFrames U.frames with heap := s₂.heap, slotsUsed := s₂.slotsUsed }
      rw [State.setFrames_self ht]
    subst hg
    refine Or.inl ⟨v, ⟨(({ U with heap := s₂.heap, slotsUsed := s₂.slotsUsed } : State).setVm s₂.vm), Ls ++ L, c0 + mc, s0 + ms⟩,
      ⟨X.admits, X.cas, X.clock, X.frames, X.room, X.hears, X.method, X.code, (X.here.setHeapUsed s₂.heap s₂.slotsUsed).setVm hW'.alike, X.tail, State.WarmedH.trans X.warmed hW', X.limits, X.bytes, X.same.trans (hsame.setVm s.vm)⟩,
      ⟨g, mk, s₂, L, rfl, rfl, hqc, rfl, hL, rfl, rfl⟩, ?_⟩
    show Steps p.tables e below _ ((({ U with heap := s₂.heap, slotsUsed := s₂.slotsUsed } : State).setVm s₂.vm).setTop { g with pc := g.pc + len₂, stack := v.toList ++ g.stack })
    rw [← hs₂]
    exact hsteps
  · obtain ⟨e2, q2, q3, q4, q5, q6⟩ := id hsm
    have e3 : s₂ = ({ (U.calling g mk a).setFrames s₂.frames with heap := s₂.heap, slotsUsed := s₂.slotsUsed } : State).setVm s₂.vm := by
      have : s₂ = ({ s₂ with vm := (U.calling g mk a).vm } : State).setVm s₂.vm := rfl
      rw [e2] at this
      exact this
    have hf₂ : s₂.frames = .throwing q :: .java g :: U.frames.tail := hend
    have hW' : U.WarmedH s₂.vm := hW₂
    have hs₂ : s₂ = ((({ U with heap := s₂.heap, slotsUsed := s₂.slotsUsed } : State).setVm s₂.vm).setTop g).pushFrame (.throwing q) := by
      refine e3.trans ?_
      rw [hf₂, State.calling_eq h.top, State.setFrames_setFrames, State.pushFrame, State.frames_setTop _ hr', State.setTop_of_frames _ hr', State.setFrames_setFrames, hr]
      rfl
    have hsame : U.sameButNew ({ U with heap := s₂.heap, slotsUsed := s₂.slotsUsed } : State) L mc ms := by
      refine ⟨?_, q2, q3, q4, q5, q6⟩
      obtain ⟨t, ht, -⟩ := State.frames_cons hr
      show ({ U with heap := s₂.heap, slotsUsed := s₂.slotsUsed } : State) = { U.setFrames U.frames with heap := s₂.heap, slotsUsed := s₂.slotsUsed }
      rw [State.setFrames_self ht]
    subst hg
    refine Or.inr ⟨q, ⟨(({ U with heap := s₂.heap, slotsUsed := s₂.slotsUsed } : State).setVm s₂.vm), Ls ++ L, c0 + mc, s0 + ms⟩,
      ⟨X.admits, X.cas, X.clock, X.frames, X.room, X.hears, X.method, X.code, (X.here.setHeapUsed s₂.heap s₂.slotsUsed).setVm hW'.alike, X.tail, State.WarmedH.trans X.warmed hW', X.limits, X.bytes, X.same.trans (hsame.setVm s.vm)⟩,
      ⟨g, mk, s₂, L, E, ce, rfl, rfl, hx, hce, hcv, hcl, rfl, hL, rfl, rfl⟩, ?_⟩
    show Steps p.tables e below _ (((({ U with heap := s₂.heap, slotsUsed := s₂.slotsUsed } : State).setVm s₂.vm).setTop g).pushFrame (.throwing q))
    rw [← hs₂]
    exact hsteps
end Payer
section Calls
variable {p : Program} {l : Launch} {e : Env} {R : Room} {s : State} {m : MethodId} {args : Array Value} {below : List Frame} {meth : Method} {c : Code} {T : State} {locs : List Loc} {cells slots : Nat}
theorem vx_callV (X : Stand p l e R s m args below meth c T locs cells slots) (hexec : p.tables.exec = Jvm.exec) {own C : String} {index : Nat} {y : MethodName} {bytes : ByteArray} {maxL : Nat} {ret : Option FieldType}
    (hown : s.vm.findClass own = some m.cls) (hlink : (Cond.methodLink own index y).before args s = true) (hinst : (Cond.instanceMethod y).before args s = true) (hsel : (Cond.selects C y y).before args s = true)
    (hcode : (Cond.code y bytes maxL ret).before args s = true) (hy : y.cls ≠ "java/lang/invoke/MethodHandle" ∧ y.cls ≠ "java/lang/invoke/VarHandle")
    {W9 : Nat} {Pre : Pt → Array Value → Prop} {Post : Pt → Array Value → Option Value → Pt → Prop} {PostX : Pt → Array Value → Addr → Pt → Prop} (hK : vx_Back l R p e below s args y 3 W9 Pre Post PostX)
    {b : Addr} {cellB : Cell} (hcell : T.heap[b]? = some cellB) (hobj : cellB.vm.isStatics = false) (hcls : s.vm.findClass C = some cellB.cls)
    {g : JFrame} (hg : g.method = m) (hsize : g.locals.size = c.maxLocals) {argsL rest : List Value} (hlen : ∀ sig, parseMethodDescriptor y.desc = some sig → argsL.length = sig.parameters.length)
    (hstack : g.stack = argsL.reverse ++ .ref b :: rest) (hW : 2 * g.monitorRoom + (rest.map fun v => v.category).sum ≤ W9) (hdg : decode c.code g.pc = .ok (.invokevirtual index, 3))
    (hpre : ∀ vm₁, s.WarmedH vm₁ → Pre ⟨T.setVm vm₁, locs, cells, slots⟩ (Value.ref b :: argsL).toArray) :
    (∃ (v : Option Value) (vm₁ : Vm) (B : Pt), s.WarmedH vm₁ ∧ Stand p l e R s m args below meth c B.U B.locs B.cells B.slots ∧ Post ⟨T.setVm vm₁, locs, cells, slots⟩ (Value.ref b :: argsL).toArray v B ∧
      ∀ target, Steps p.tables e below (B.U.setTop { g with pc := g.pc + 3, stack := v.toList ++ rest }) target → Steps p.tables e below (T.setTop g) target) ∨
    (∃ (q : Addr) (vm₁ : Vm) (B : Pt), s.WarmedH vm₁ ∧ Stand p l e R s m args below meth c B.U B.locs B.cells B.slots ∧ PostX ⟨T.setVm vm₁, locs, cells, slots⟩ (Value.ref b :: argsL).toArray q B ∧
      Steps p.tables e below (T.setTop g) ((B.U.setTop { g with stack := rest }).pushFrame (.throwing q))) := by
  obtain ⟨mk, methM, hnamed, hmethM, hstM, habM⟩ := Cond.instanceMethod_spec hinst
  obtain ⟨methM', cM, hmethM', -, -, -, -, -, -, hsigM⟩ := Cond.code_spec hnamed hcode
  cases hmethM.symm.trans hmethM'
  obtain ⟨c2, r2, m2, q1, q2, q3, q4, kP, hkP, hkPi⟩ := Cond.selects_spec hsel
  cases hcls.symm.trans q1
  cases (State.methodFound?_of_named hnamed hy).symm.trans q2
  cases hnamed.symm.trans q3
  have hselP : selectMethod e.platform s.vm cellB.cls mk = .method mk := by rw [Launch.admits_selectMethod X.admits]; exact q4
  obtain ⟨vm₁, X₁, hstep₁⟩ := X.invokevirtual hexec hown hlink hnamed hmethM hstM hkP hkPi hy (a := b) (cell := cellB) hcell
    (fun z h => by rw [h] at hobj; cases hobj) hselP hmethM habM hkP hkPi (g := g) hg (argsL := argsL) (rest := rest) (hlen _ hsigM) hstack hdg
  rcases hK m meth c ⟨T.setVm vm₁, locs, cells, slots⟩ { g with stack := rest } (.invokevirtual index) mk (Value.ref b :: argsL).toArray X₁ hg hsize hdg hW (X₁.named hnamed) (hpre vm₁ X₁.warmed) with ⟨v, B, X', hpost, hsteps⟩ | ⟨q, B, X', hpost, hsteps⟩
  · exact Or.inl ⟨v, vm₁, B, X₁.warmed, X', hpost, fun target h => hstep₁ _ fun acts => by rw [doInvoke_state]; exact hsteps.trans h⟩
  · exact Or.inr ⟨q, vm₁, B, X₁.warmed, X', hpost, hstep₁ _ fun acts => by rw [doInvoke_state]; exact hsteps⟩
theorem vx_callS (X : Stand p l e R s m args below meth c T locs cells slots) (hexec : p.tables.exec = Jvm.exec) {own : String} {index : Nat} {y : MethodName} {bytes : ByteArray} {maxL : Nat} {ret : Option FieldType}
    (hown : s.vm.findClass own = some m.cls) (hlink : (Cond.methodLink own index y).before args s = true) (hstat : (Cond.static y).before args s = true) (hinit : (Cond.initialized y.cls).before args s = true)
    (hcode : (Cond.code y bytes maxL ret).before args s = true) (hy : y.cls ≠ "java/lang/invoke/MethodHandle" ∧ y.cls ≠ "java/lang/invoke/VarHandle")
    {W9 : Nat} {Pre : Pt → Array Value → Prop} {Post : Pt → Array Value → Option Value → Pt → Prop} {PostX : Pt → Array Value → Addr → Pt → Prop} (hK : vx_Back l R p e below s args y 3 W9 Pre Post PostX)
    {g : JFrame} (hg : g.method = m) (hsize : g.locals.size = c.maxLocals) {argsL rest : List Value} (hlen : ∀ sig, parseMethodDescriptor y.desc = some sig → argsL.length = sig.parameters.length)
    (hstack : g.stack = argsL.reverse ++ rest) (hW : 2 * g.monitorRoom + (rest.map fun v => v.category).sum ≤ W9) (hdg : decode c.code g.pc = .ok (.invokestatic index, 3))
    (hpre : ∀ vm₁, s.WarmedH vm₁ → Pre ⟨T.setVm vm₁, locs, cells, slots⟩ argsL.toArray) :
    (∃ (v : Option Value) (vm₁ : Vm) (B : Pt), s.WarmedH vm₁ ∧ Stand p l e R s m args below meth c B.U B.locs B.cells B.slots ∧ Post ⟨T.setVm vm₁, locs, cells, slots⟩ argsL.toArray v B ∧
      ∀ target, Steps p.tables e below (B.U.setTop { g with pc := g.pc + 3, stack := v.toList ++ rest }) target → Steps p.tables e below (T.setTop g) target) ∨
    (∃ (q : Addr) (vm₁ : Vm) (B : Pt), s.WarmedH vm₁ ∧ Stand p l e R s m args below meth c B.U B.locs B.cells B.slots ∧ PostX ⟨T.setVm vm₁, locs, cells, slots⟩ argsL.toArray q B ∧
      Steps p.tables e below (T.setTop g) ((B.U.setTop { g with stack := rest }).pushFrame (.throwing q))) := by
  obtain ⟨mk, hnamed⟩ := Cond.code_named hcode
  obtain ⟨methM, cM, hmethM, -, -, -, -, -, -, hsigM⟩ := Cond.code_spec hnamed hcode
  have hstatic : methM.isStatic = true := Cond.static_spec hnamed hmethM hstat
  obtain ⟨kP, hkP, -⟩ := className_of_methodNamed hnamed
  have hinitP : kP.init = .initialized := Cond.initialized_spec (findClass_of_methodNamed hnamed) hkP hinit
  obtain ⟨vm₁, X₁, hstep₁⟩ := X.invokestatic hexec hown hlink hnamed hmethM hstatic hkP hinitP hy (g := g) hg (argsL := argsL) (rest := rest) (hlen _ hsigM) hstack hdg
  rcases hK m meth c ⟨T.setVm vm₁, locs, cells, slots⟩ { g with stack := rest } (.invokestatic index) mk argsL.toArray X₁ hg hsize hdg hW (X₁.named hnamed) (hpre vm₁ X₁.warmed) with ⟨v, B, X', hpost, hsteps⟩ | ⟨q, B, X', hpost, hsteps⟩
  · exact Or.inl ⟨v, vm₁, B, X₁.warmed, X', hpost, fun target h => hstep₁ _ fun acts => by rw [doInvoke_state]; exact hsteps.trans h⟩
  · exact Or.inr ⟨q, vm₁, B, X₁.warmed, X', hpost, hstep₁ _ fun acts => by rw [doInvoke_state]; exact hsteps⟩
end Calls
theorem vx_cls {s : State} {T : State} {vm₁ : Vm} {E : String} {k : ClassId} (hW : s.WarmedH vm₁) (h : (T.setVm vm₁).vm.findClass E = some k) : s.vm.findClass E = some k := by
  have h1 : vm₁.findClass E = some k := h
  rw [hW.alike.findClass] at h1
  exact h1
/-- the method's frame g, with q thrown over it -/
def vx_W (p : Program) (l : Launch) (e : Env) (R : Room) (s : State) (m : MethodId) (args : Array Value) (below : List Frame) (meth : Method) (c : Code) (H : Heap) (locs : List Loc) (cells slots : Nat) (Q : State → Prop) (g : JFrame) (q : Addr) : Prop :=
  ∀ T : State, T.heap = H → Stand p l e R s m args below meth c T locs cells slots → ∃ t, Steps p.tables e below ((T.setTop g).pushFrame (.throwing q)) t ∧ Q t
def vx_Run (p : Program) (l : Launch) (e : Env) (R : Room) (s : State) (m : MethodId) (args : Array Value) (below : List Frame) (meth : Method) (c : Code) (H : Heap) (locs : List Loc) (cells slots mc ms : Nat) (g : JFrame) (rest : List Value) (Qa : State → Outcome → State → Prop) (XC : String → State → State → Prop) (free : Addr → Prop) : Prop :=
  ∀ T : State, T.heap = H → Stand p l e R s m args below meth c T locs cells slots →
    (∃ (v : Option Value) (st₀ t T' : State) (L : List Loc), st₀.heap = H ∧ Stand p l e R s m args below meth c T' (locs ++ L) (cells + mc) (slots + ms) ∧ (∀ q ∈ L, free q.base) ∧ T'.heap = t.heap ∧ T'.vm = t.vm ∧ Qa st₀ (.returned v) t ∧
      Goes p e below T g T' { g with pc := g.pc + 3, stack := v.toList ++ rest }) ∨
    (∃ (q : Addr) (st₀ t T' : State) (L : List Loc) (E : String) (ce : Cell), st₀.heap = H ∧ Stand p l e R s m args below meth c T' (locs ++ L) (cells + mc) (slots + ms) ∧ (∀ z ∈ L, free z.base) ∧ T'.heap = t.heap ∧ T'.vm = t.vm ∧ XC E st₀ t ∧ t.heap[q]? = some ce ∧ ce.vm = .none ∧ s.vm.findClass E = some ce.cls ∧
      Steps p.tables e below (T.setTop g) ((T'.setTop { g with stack := rest }).pushFrame (.throwing q)))
def vx_X {S : Type} (px : S → Prop) (B : String → S → State → Prop) (A : Nat → Prop) : String → State → State → Prop := fun E st t => ∃ u : S, px u ∧ B E u t ∧ va_F A st t
section Runs
variable {p : Program} {l : Launch} {e : Env} {R : Room} {s : State} {m : MethodId} {args : Array Value} {below : List Frame} {meth : Method} {c : Code} {H : Heap} {locs : List Loc} {cells slots : Nat}
variable {y : MethodName} {bytes cc : ByteArray} {maxL nL mc ms n index : Nat} {ret : Option FieldType} {ws : List Cond} {rm : Room} {Pc : Array Value → State → Prop} {Qc : Array Value → State → Outcome → State → Prop} {XC : String → State → State → Prop} {free : Addr → Prop} {Ts : List Cond} {own C : String} {b : Addr} {As rest : List Value} {g : JFrame}
theorem vx_callBack (cb : CallB R s args own index y bytes maxL ret ws rm mc ms n) (hM : vx_Met l y ws rm Pc Qc XC mc ms free) (hbl : FrameBlind Pc) : vx_Back l R p e below s args y 3 8 (PreOf R mc ms Pc) (PostOf Qc mc ms free) (vx_Post XC mc ms free) := by
  obtain ⟨hrc, hrs, hfr, hlo, hws, hcw, -, hini, -⟩ := cb
  exact vx_back (bytes := bytes) (maxL := maxL) (ret := ret) hM hbl hrc hrs hfr hlo hws hcw (fun a' U hW => word_at hW (Or.inl (by first | rfl | simp [Cond.onTables, Cond.keeps, Cond.steady])) hini)
theorem vx_runV (S : CallFix p m c cc nL s args Ts own) (hM : vx_Met l y ws rm Pc Qc XC mc ms free) (cw : CallW R s args own C index y bytes maxL ret ws rm mc ms n) (hp : PreV s H C b Pc As)
    (hg : g.method = m) (hn : As.length = n) (hsize : g.locals.size = nL) (hstack : g.stack = As.reverse ++ .ref b :: rest) (hW : 2 * g.monitorRoom + (rest.map fun v => v.category).sum ≤ 8) (hdg : decode cc g.pc = .ok (.invokevirtual index, 3)) (hf : cells + mc ≤ R.cells ∧ slots + ms ≤ R.slots) :
    vx_Run p l e R s m args below meth c H locs cells slots mc ms g rest (Qc (Value.ref b :: As).toArray) XC free := by
  have hK : vx_Back l R p e below s args y 3 8 (PreOf R mc ms Pc) (PostOf Qc mc ms free) (vx_Post XC mc ms free) := vx_callBack cw.1 hM hp.1
  obtain ⟨⟨-, -, -, -, -, -, hcode, -, hy, hlen, hl⟩, hin, hse⟩ := cw
  obtain ⟨hx, hb, hml, ho, -⟩ := S
  obtain ⟨-, ⟨cellB, hcB, hoB, hclB⟩, hPc⟩ := hp
  intro T hT X
  rcases vx_callV X hx (C := C) (bytes := bytes) (maxL := maxL) (ret := ret) ho hl hin hse hcode hy hK (by rw [hT]; exact hcB) hoB hclB hg (hsize.trans hml.symm) (argsL := As) (rest := rest) (fun sig h => hn.trans (hlen sig h)) hstack hW (by rw [hb]; exact hdg)
    (fun vm₁ hW₁ => ⟨hf.1, hf.2, hPc (T.setVm vm₁) hT hW₁⟩) with ⟨v, vm₁, ⟨U', l2, c2, s2⟩, hW₁, X', ⟨g', mk, t, L, e1, e2, hq, h1, hL, h2, h3⟩, st⟩ | ⟨q, vm₁, ⟨U', l2, c2, s2⟩, hW₁, X', ⟨g', mk, t, L, E, ce, e1, e2, hq, hce, hcv, hcl, h1, hL, h2, h3⟩, st⟩
  · dsimp only [Pt.U, Pt.locs, Pt.cells, Pt.slots] at X' e1 e2 h1 h2 h3 st
    subst h1; subst h2; subst h3
    exact Or.inl ⟨v, (T.setVm vm₁).calling g' mk (Value.ref b :: As).toArray, t, U', L, hT, X', hL, e1, e2, hq, st⟩
  · dsimp only [Pt.U, Pt.locs, Pt.cells, Pt.slots] at X' e1 e2 h1 h2 h3 st hcl
    subst h1; subst h2; subst h3
    exact Or.inr ⟨q, (T.setVm vm₁).calling g' mk (Value.ref b :: As).toArray, t, U', L, E, ce, hT, X', hL, e1, e2, hq, hce, hcv, vx_cls hW₁ hcl, st⟩
theorem vx_runS (S : CallFix p m c cc nL s args Ts own) (hM : vx_Met l y ws rm Pc Qc XC mc ms free) (cw : CallB R s args own index y bytes maxL ret ws rm mc ms n ∧ (Cond.static y).before args s = true) (hp : PreS s H Pc As)
    (hg : g.method = m) (hn : As.length = n) (hsize : g.locals.size = nL) (hstack : g.stack = As.reverse ++ rest) (hW : 2 * g.monitorRoom + (rest.map fun v => v.category).sum ≤ 8) (hdg : decode cc g.pc = .ok (.invokestatic index, 3)) (hf : cells + mc ≤ R.cells ∧ slots + ms ≤ R.slots) :
    vx_Run p l e R s m args below meth c H locs cells slots mc ms g rest (Qc As.toArray) XC free := by
  have hK : vx_Back l R p e below s args y 3 8 (PreOf R mc ms Pc) (PostOf Qc mc ms free) (vx_Post XC mc ms free) := vx_callBack cw.1 hM hp.1
  obtain ⟨⟨-, -, -, -, -, -, hcode, hini, hy, hlen, hl⟩, hstt⟩ := cw
  obtain ⟨hx, hb, hml, ho, -⟩ := S
  intro T hT X
  rcases vx_callS X hx (bytes := bytes) (maxL := maxL) (ret := ret) ho hl hstt hini hcode hy hK hg (hsize.trans hml.symm) (argsL := As) (rest := rest) (fun sig h => hn.trans (hlen sig h)) hstack hW (by rw [hb]; exact hdg)
    (fun vm₁ hW₁ => ⟨hf.1, hf.2, hp.2 (T.setVm vm₁) hT hW₁⟩) with ⟨v, vm₁, ⟨U', l2, c2, s2⟩, hW₁, X', ⟨g', mk, t, L, e1, e2, hq, h1, hL, h2, h3⟩, st⟩ | ⟨q, vm₁, ⟨U', l2, c2, s2⟩, hW₁, X', ⟨g', mk, t, L, E, ce, e1, e2, hq, hce, hcv, hcl, h1, hL, h2, h3⟩, st⟩
  · dsimp only [Pt.U, Pt.locs, Pt.cells, Pt.slots] at X' e1 e2 h1 h2 h3 st
    subst h1; subst h2; subst h3
    exact Or.inl ⟨v, (T.setVm vm₁).calling g' mk As.toArray, t, U', L, hT, X', hL, e1, e2, hq, st⟩
  · dsimp only [Pt.U, Pt.locs, Pt.cells, Pt.slots] at X' e1 e2 h1 h2 h3 st hcl
    subst h1; subst h2; subst h3
    exact Or.inr ⟨q, (T.setVm vm₁).calling g' mk As.toArray, t, U', L, E, ce, hT, X', hL, e1, e2, hq, hce, hcv, vx_cls hW₁ hcl, st⟩
end Runs
section Rows
variable {p : Program} {l : Launch} {e : Env} {R : Room} {s : State} {m : MethodId} {args : Array Value} {below : List Frame} {meth : Method} {c : Code} {H : Heap} {locs : List Loc} {cells slots : Nat} {Q : State → Prop}
variable {mc ms : Nat} {free : Addr → Prop} {A0 A1 : Nat → Prop} {H0 : Heap} {a : Array Value} {pc : Nat} {ls : Array Slot} {st0 rest : List Value}
theorem vx_keep {st₀ t T' : State} {L : List Loc} (h0 : st₀.heap = H) (e1 : T'.heap = t.heap) (hS : va_S A0 H0 H locs) (hA : ∀ q, q < H.size → A1 q → A0 q) (hf : ∀ q, free q → A0 q) (hL : ∀ q ∈ L, free q.base) (hF : va_F A1 st₀ t) :
    H.size ≤ T'.heap.size ∧ (∀ q : Nat, q < H.size → ¬ A1 q → T'.heap[q]? = H[q]?) ∧ va_S A0 H0 T'.heap (locs ++ L) := by
  obtain ⟨hz, hk⟩ := hF
  rw [h0] at hz hk
  exact ⟨by rw [e1]; exact hz, fun q h1 h2 => by rw [e1]; exact hk q h1 h2,
    ⟨Nat.le_trans hS.1 (by rw [e1]; exact hz), fun q h1 h2 => by rw [e1, hk q (Nat.lt_of_lt_of_le h1 hS.1) (fun z => h2 (hA q (Nat.lt_of_lt_of_le h1 hS.1) z))]; exact hS.2.1 q h1 h2, fun q hq => by
      rcases List.mem_append.mp hq with h | h
      · exact hS.2.2 q h
      · exact hf _ (hL q h)⟩⟩
theorem vx_calli {S SX : Type} {post : Int32 → S → Prop} {px : SX → Prop} {B : S → State → Prop} {BX : String → SX → State → Prop} {AX : Nat → Prop} (hr : vx_Run p l e R s m args below meth c H locs cells slots mc ms (F0 m pc ls st0) rest (va_Qi post B A1 a) (vx_X px BX AX) free) (hS : va_S A0 H0 H locs) (hA : ∀ q, q < H.size → A1 q → A0 q) (hf : ∀ q, free q → A0 q) (hAX : ∀ q, q < H.size → AX q → A0 q)
    (kx : ∀ (E : String) (ce : Cell) (q9 : Addr) (u : SX) (t : State) (H1 : Heap) (locs1 : List Loc), t.heap = H1 → s.vm.Alike t.vm → px u → BX E u t → H.size ≤ H1.size → (∀ q : Nat, q < H.size → ¬ AX q → H1[q]? = H[q]?) → va_S A0 H0 H1 locs1 → H1[q9]? = some ce → ce.vm = .none → s.vm.findClass E = some ce.cls → vx_W p l e R s m args below meth c H1 locs1 (cells + mc) (slots + ms) Q (F0 m pc ls rest) q9)
    (kk : ∀ (r : Int32) (u : S) (t : State) (H1 : Heap) (locs1 : List Loc), t.heap = H1 → s.vm.Alike t.vm → post r u → B u t → H.size ≤ H1.size → (∀ q : Nat, q < H.size → ¬ A1 q → H1[q]? = H[q]?) → va_S A0 H0 H1 locs1 → W p l e R s m args below meth c H1 locs1 (cells + mc) (slots + ms) Q (F0 m (pc + 3) ls (.int r :: rest))) : W p l e R s m args below meth c H locs cells slots Q (F0 m pc ls st0) := by
  intro T hT X
  rcases hr T hT X with ⟨v, st₀, t, T', L, h0, X', hL, e1, e2, ⟨⟨r, u, hv, hp, hb⟩, hF⟩, st⟩ | ⟨q, st₀, t, T', L, E, ce, h0, X', hL, e1, e2, ⟨u, hp, hb, hF⟩, hce, hcv, hcl, st⟩
  · cases hv
    obtain ⟨k1, k2, k3⟩ := vx_keep h0 e1 hS hA hf hL hF
    obtain ⟨t2, a1, b1⟩ := kk r u t T'.heap (locs ++ L) e1.symm (by rw [← e2]; exact X'.warmed.alike) hp hb k1 k2 k3 T' rfl X'
    exact ⟨t2, st t2 a1, b1⟩
  · obtain ⟨k1, k2, k3⟩ := vx_keep h0 e1 hS hAX hf hL hF
    obtain ⟨t2, a1, b1⟩ := kx E ce q u t T'.heap (locs ++ L) e1.symm (by rw [← e2]; exact X'.warmed.alike) hp hb k1 k2 k3 (by rw [e1]; exact hce) hcv hcl T' rfl X'
    exact ⟨t2, st.trans a1, b1⟩
theorem vx_calll {S SX : Type} {post : Int64 → S → Prop} {px : SX → Prop} {B : S → State → Prop} {BX : String → SX → State → Prop} {AX : Nat → Prop} (hr : vx_Run p l e R s m args below meth c H locs cells slots mc ms (F0 m pc ls st0) rest (va_Ql post B A1 a) (vx_X px BX AX) free) (hS : va_S A0 H0 H locs) (hA : ∀ q, q < H.size → A1 q → A0 q) (hf : ∀ q, free q → A0 q) (hAX : ∀ q, q < H.size → AX q → A0 q)
    (kx : ∀ (E : String) (ce : Cell) (q9 : Addr) (u : SX) (t : State) (H1 : Heap) (locs1 : List Loc), t.heap = H1 → s.vm.Alike t.vm → px u → BX E u t → H.size ≤ H1.size → (∀ q : Nat, q < H.size → ¬ AX q → H1[q]? = H[q]?) → va_S A0 H0 H1 locs1 → H1[q9]? = some ce → ce.vm = .none → s.vm.findClass E = some ce.cls → vx_W p l e R s m args below meth c H1 locs1 (cells + mc) (slots + ms) Q (F0 m pc ls rest) q9)
    (kk : ∀ (r : Int64) (u : S) (t : State) (H1 : Heap) (locs1 : List Loc), t.heap = H1 → s.vm.Alike t.vm → post r u → B u t → H.size ≤ H1.size → (∀ q : Nat, q < H.size → ¬ A1 q → H1[q]? = H[q]?) → va_S A0 H0 H1 locs1 → W p l e R s m args below meth c H1 locs1 (cells + mc) (slots + ms) Q (F0 m (pc + 3) ls (.long r :: rest))) : W p l e R s m args below meth c H locs cells slots Q (F0 m pc ls st0) := by
  intro T hT X
  rcases hr T hT X with ⟨v, st₀, t, T', L, h0, X', hL, e1, e2, ⟨⟨r, u, hv, hp, hb⟩, hF⟩, st⟩ | ⟨q, st₀, t, T', L, E, ce, h0, X', hL, e1, e2, ⟨u, hp, hb, hF⟩, hce, hcv, hcl, st⟩
  · cases hv
    obtain ⟨k1, k2, k3⟩ := vx_keep h0 e1 hS hA hf hL hF
    obtain ⟨t2, a1, b1⟩ := kk r u t T'.heap (locs ++ L) e1.symm (by rw [← e2]; exact X'.warmed.alike) hp hb k1 k2 k3 T' rfl X'
    exact ⟨t2, st t2 a1, b1⟩
  · obtain ⟨k1, k2, k3⟩ := vx_keep h0 e1 hS hAX hf hL hF
    obtain ⟨t2, a1, b1⟩ := kx E ce q u t T'.heap (locs ++ L) e1.symm (by rw [← e2]; exact X'.warmed.alike) hp hb k1 k2 k3 (by rw [e1]; exact hce) hcv hcl T' rfl X'
    exact ⟨t2, st.trans a1, b1⟩
theorem vx_callf {S SX : Type} {post : UInt32 → S → Prop} {px : SX → Prop} {B : S → State → Prop} {BX : String → SX → State → Prop} {AX : Nat → Prop} (hr : vx_Run p l e R s m args below meth c H locs cells slots mc ms (F0 m pc ls st0) rest (va_Qf post B A1 a) (vx_X px BX AX) free) (hS : va_S A0 H0 H locs) (hA : ∀ q, q < H.size → A1 q → A0 q) (hf : ∀ q, free q → A0 q) (hAX : ∀ q, q < H.size → AX q → A0 q)
    (kx : ∀ (E : String) (ce : Cell) (q9 : Addr) (u : SX) (t : State) (H1 : Heap) (locs1 : List Loc), t.heap = H1 → s.vm.Alike t.vm → px u → BX E u t → H.size ≤ H1.size → (∀ q : Nat, q < H.size → ¬ AX q → H1[q]? = H[q]?) → va_S A0 H0 H1 locs1 → H1[q9]? = some ce → ce.vm = .none → s.vm.findClass E = some ce.cls → vx_W p l e R s m args below meth c H1 locs1 (cells + mc) (slots + ms) Q (F0 m pc ls rest) q9)
    (kk : ∀ (r : UInt32) (u : S) (t : State) (H1 : Heap) (locs1 : List Loc), t.heap = H1 → s.vm.Alike t.vm → post r u → B u t → H.size ≤ H1.size → (∀ q : Nat, q < H.size → ¬ A1 q → H1[q]? = H[q]?) → va_S A0 H0 H1 locs1 → W p l e R s m args below meth c H1 locs1 (cells + mc) (slots + ms) Q (F0 m (pc + 3) ls (.float r :: rest))) : W p l e R s m args below meth c H locs cells slots Q (F0 m pc ls st0) := by
  intro T hT X
  rcases hr T hT X with ⟨v, st₀, t, T', L, h0, X', hL, e1, e2, ⟨⟨r, u, hv, hp, hb⟩, hF⟩, st⟩ | ⟨q, st₀, t, T', L, E, ce, h0, X', hL, e1, e2, ⟨u, hp, hb, hF⟩, hce, hcv, hcl, st⟩
  · cases hv
    obtain ⟨k1, k2, k3⟩ := vx_keep h0 e1 hS hA hf hL hF
    obtain ⟨t2, a1, b1⟩ := kk r u t T'.heap (locs ++ L) e1.symm (by rw [← e2]; exact X'.warmed.alike) hp hb k1 k2 k3 T' rfl X'
    exact ⟨t2, st t2 a1, b1⟩
  · obtain ⟨k1, k2, k3⟩ := vx_keep h0 e1 hS hAX hf hL hF
    obtain ⟨t2, a1, b1⟩ := kx E ce q u t T'.heap (locs ++ L) e1.symm (by rw [← e2]; exact X'.warmed.alike) hp hb k1 k2 k3 (by rw [e1]; exact hce) hcv hcl T' rfl X'
    exact ⟨t2, st.trans a1, b1⟩
theorem vx_calld {S SX : Type} {post : UInt64 → S → Prop} {px : SX → Prop} {B : S → State → Prop} {BX : String → SX → State → Prop} {AX : Nat → Prop} (hr : vx_Run p l e R s m args below meth c H locs cells slots mc ms (F0 m pc ls st0) rest (va_Qd post B A1 a) (vx_X px BX AX) free) (hS : va_S A0 H0 H locs) (hA : ∀ q, q < H.size → A1 q → A0 q) (hf : ∀ q, free q → A0 q) (hAX : ∀ q, q < H.size → AX q → A0 q)
    (kx : ∀ (E : String) (ce : Cell) (q9 : Addr) (u : SX) (t : State) (H1 : Heap) (locs1 : List Loc), t.heap = H1 → s.vm.Alike t.vm → px u → BX E u t → H.size ≤ H1.size → (∀ q : Nat, q < H.size → ¬ AX q → H1[q]? = H[q]?) → va_S A0 H0 H1 locs1 → H1[q9]? = some ce → ce.vm = .none → s.vm.findClass E = some ce.cls → vx_W p l e R s m args below meth c H1 locs1 (cells + mc) (slots + ms) Q (F0 m pc ls rest) q9)
    (kk : ∀ (r : UInt64) (u : S) (t : State) (H1 : Heap) (locs1 : List Loc), t.heap = H1 → s.vm.Alike t.vm → post r u → B u t → H.size ≤ H1.size → (∀ q : Nat, q < H.size → ¬ A1 q → H1[q]? = H[q]?) → va_S A0 H0 H1 locs1 → W p l e R s m args below meth c H1 locs1 (cells + mc) (slots + ms) Q (F0 m (pc + 3) ls (.double r :: rest))) : W p l e R s m args below meth c H locs cells slots Q (F0 m pc ls st0) := by
  intro T hT X
  rcases hr T hT X with ⟨v, st₀, t, T', L, h0, X', hL, e1, e2, ⟨⟨r, u, hv, hp, hb⟩, hF⟩, st⟩ | ⟨q, st₀, t, T', L, E, ce, h0, X', hL, e1, e2, ⟨u, hp, hb, hF⟩, hce, hcv, hcl, st⟩
  · cases hv
    obtain ⟨k1, k2, k3⟩ := vx_keep h0 e1 hS hA hf hL hF
    obtain ⟨t2, a1, b1⟩ := kk r u t T'.heap (locs ++ L) e1.symm (by rw [← e2]; exact X'.warmed.alike) hp hb k1 k2 k3 T' rfl X'
    exact ⟨t2, st t2 a1, b1⟩
  · obtain ⟨k1, k2, k3⟩ := vx_keep h0 e1 hS hAX hf hL hF
    obtain ⟨t2, a1, b1⟩ := kx E ce q u t T'.heap (locs ++ L) e1.symm (by rw [← e2]; exact X'.warmed.alike) hp hb k1 k2 k3 (by rw [e1]; exact hce) hcv hcl T' rfl X'
    exact ⟨t2, st.trans a1, b1⟩
theorem vx_callv {S SX : Type} {post : S → Prop} {px : SX → Prop} {B : S → State → Prop} {BX : String → SX → State → Prop} {AX : Nat → Prop} (hr : vx_Run p l e R s m args below meth c H locs cells slots mc ms (F0 m pc ls st0) rest (va_Qv post B A1 a) (vx_X px BX AX) free) (hS : va_S A0 H0 H locs) (hA : ∀ q, q < H.size → A1 q → A0 q) (hf : ∀ q, free q → A0 q) (hAX : ∀ q, q < H.size → AX q → A0 q)
    (kx : ∀ (E : String) (ce : Cell) (q9 : Addr) (u : SX) (t : State) (H1 : Heap) (locs1 : List Loc), t.heap = H1 → s.vm.Alike t.vm → px u → BX E u t → H.size ≤ H1.size → (∀ q : Nat, q < H.size → ¬ AX q → H1[q]? = H[q]?) → va_S A0 H0 H1 locs1 → H1[q9]? = some ce → ce.vm = .none → s.vm.findClass E = some ce.cls → vx_W p l e R s m args below meth c H1 locs1 (cells + mc) (slots + ms) Q (F0 m pc ls rest) q9)
    (kk : ∀ (u : S) (t : State) (H1 : Heap) (locs1 : List Loc), t.heap = H1 → s.vm.Alike t.vm → post u → B u t → H.size ≤ H1.size → (∀ q : Nat, q < H.size → ¬ A1 q → H1[q]? = H[q]?) → va_S A0 H0 H1 locs1 → W p l e R s m args below meth c H1 locs1 (cells + mc) (slots + ms) Q (F0 m (pc + 3) ls (rest))) : W p l e R s m args below meth c H locs cells slots Q (F0 m pc ls st0) := by
  intro T hT X
  rcases hr T hT X with ⟨v, st₀, t, T', L, h0, X', hL, e1, e2, ⟨⟨u, hv, hp, hb⟩, hF⟩, st⟩ | ⟨q, st₀, t, T', L, E, ce, h0, X', hL, e1, e2, ⟨u, hp, hb, hF⟩, hce, hcv, hcl, st⟩
  · cases hv
    obtain ⟨k1, k2, k3⟩ := vx_keep h0 e1 hS hA hf hL hF
    obtain ⟨t2, a1, b1⟩ := kk u t T'.heap (locs ++ L) e1.symm (by rw [← e2]; exact X'.warmed.alike) hp hb k1 k2 k3 T' rfl X'
    exact ⟨t2, st t2 a1, b1⟩
  · obtain ⟨k1, k2, k3⟩ := vx_keep h0 e1 hS hAX hf hL hF
    obtain ⟨t2, a1, b1⟩ := kx E ce q u t T'.heap (locs ++ L) e1.symm (by rw [← e2]; exact X'.warmed.alike) hp hb k1 k2 k3 (by rw [e1]; exact hce) hcv hcl T' rfl X'
    exact ⟨t2, st.trans a1, b1⟩
/-- caught by the row x of this method's table; the rows ahead don't take it -/
theorem vx_catch {own name : String} {E : String} {ce : Cell} {q : Addr} (hown : s.vm.findClass own = some m.cls) (pre : List ExceptionTableEntry) (x : ExceptionTableEntry) (suf : List ExceptionTableEntry) (hsplit : c.exceptionTable.toList = pre ++ x :: suf)
    (hpass : ∀ z ∈ pre, covers z pc = false ∨ (z.catchType ≠ 0 ∧ ∃ nm : String, (Cond.classLink own z.catchType nm).before args s = true ∧ va_Nc E nm s)) (hx : covers x pc = true) (h0 : x.catchType ≠ 0)
    (hlink : (Cond.classLink own x.catchType name).before args s = true) (hcast : (Cond.castable E name).before args s = true) (hcell : H[q]? = some ce) (hv : ce.vm = .none) (hcl : s.vm.findClass E = some ce.cls)
    (kk : W p l e R s m args below meth c H locs cells slots Q (F0 m x.handlerPc ls [.ref q])) : vx_W p l e R s m args below meth c H locs cells slots Q (F0 m pc ls rest) q := by
  intro T hT X
  have hpl : e.platform.magicAccessors = ({} : Platform).magicAccessors := by rw [X.admits.platform]
  obtain ⟨c3, c4, hc3, hc4, hasg⟩ := Cond.castable_spec hcast
  cases Option.some.inj (hc3.symm.trans hcl)
  obtain ⟨c5, hc5, hcl5⟩ := Cond.classLink_spec hown hlink e.platform hpl
  cases Option.some.inj (hc4.symm.trans hc5)
  obtain ⟨vm', X', st⟩ := X.thenCaughtThrough q (g := F0 m pc ls rest) rfl (Steps.refl _) (by rw [hT]; exact hcell) (by rw [hv]; rfl) (by obtain ⟨k9, h9, -⟩ := Vm.findClass_spec hcl; exact ⟨k9, h9⟩) pre x suf hsplit
    (fun z hz => by
      rcases hpass z hz with h | ⟨hz0, nm, hl1, hn1⟩
      · exact Or.inl h
      · obtain ⟨c6, hc6, hcl6⟩ := Cond.classLink_spec hown hl1 e.platform hpl
        obtain ⟨a8, b8, h1, h2, h3⟩ := hn1
        cases Option.some.inj (h1.symm.trans hcl)
        cases Option.some.inj (h2.symm.trans hc6)
        exact Or.inr ⟨hz0, _, hcl6, h3⟩) hx (Or.inr ⟨h0, c4, hcl5, hasg⟩)
  obtain ⟨t, a1, b1⟩ := kk (T.setVm vm') hT X'
  exact ⟨t, st.trans a1, b1⟩
end Rows
section Ends
variable {p : Program} {l : Launch} {e : Env} {R : Room} {s : State} {m : MethodId} {args : Array Value} {below : List Frame} {meth : Method} {c : Code} {H : Heap} {locs : List Loc} {cells slots : Nat} {Q : State → Prop}
variable {mc ms : Nat} {free : Addr → Prop} {A0 A1 : Nat → Prop} {H0 : Heap} {a : Array Value} {ls : Array Slot} {st0 rest : List Value}
variable {Qc : Array Value → State → Outcome → State → Prop} {XC : String → State → State → Prop}
/-- what a body that may throw owes at its end -/
def vx_MQ (below : List Frame) (Qc : Array Value → State → Outcome → State → Prop) (XC : String → State → State → Prop) (a : Array Value) (s : State) (mc ms : Nat) (free : Addr → Prop) : State → Prop := fun t =>
  ∃ o, t.status = .running ∧ Ended t below o ∧ vx_Q Qc XC mc ms free a s o t
theorem vx_ret {g : JFrame} {mc ms : Nat} (k : W p l e R s m args below meth c H locs cells slots (MQ below Qc args s mc ms free) g) : W p l e R s m args below meth c H locs cells slots (vx_MQ below Qc XC args s mc ms free) g := by
  intro T hT X
  obtain ⟨t, a1, o, b1, b2, b3, b4⟩ := k T hT X
  exact ⟨t, a1, o, b1, b2, Or.inl ⟨b3, b4⟩⟩
/-- not caught here: it goes on to the caller -/
theorem vx_widen {g : JFrame} {q : Addr} {k n : Nat} (h1 : cells ≤ k) (h2 : slots ≤ n) (kk : vx_W p l e R s m args below meth c H locs k n Q g q) : vx_W p l e R s m args below meth c H locs cells slots Q g q := fun T hT X => kk T hT (stand_widen X h1 h2)
theorem vx_out {pc : Nat} {E : String} {ce : Cell} {q : Addr} {mc ms : Nat} (hout : ∀ x ∈ c.exceptionTable.toList, covers x pc = false) (hlocks : meth.locks = false) (hcell : H[q]? = some ce) (hv : ce.vm = .none) (hcl : s.vm.findClass E = some ce.cls)
    (hx : ∀ t : State, t.heap = H → s.vm.Alike t.vm → XC E s t) (hf : ∀ z ∈ locs, free z.base) (hc : cells ≤ mc) (hs : slots ≤ ms) :
    vx_W p l e R s m args below meth c H locs cells slots (vx_MQ below Qc XC args s mc ms free) (F0 m pc ls rest) q := by
  intro T hT X
  obtain ⟨st1, hrun, hend, hW, hsm⟩ := X.leaveThrown q (g := F0 m pc ls rest) rfl rfl rfl hout hlocks
  have hcell9 : (T.setFrames (.throwing q :: below)).heap[q]? = some ce := by
    show T.heap[q]? = some ce
    rw [hT]; exact hcell
  exact ⟨_, st1, .threw q, hrun, hend, Or.inr ⟨q, rfl, E, ce, locs, hx _ hT hW.alike, hcell9, hv, hcl, hW, hsm.mono hc hs, hf⟩⟩
theorem vx_frame {U : State} {k n : Nat} (h : s.sameButNew ({ U with vm := s.vm } : State) locs k n) : s.heap.size ≤ U.heap.size ∧ ∀ q : Nat, q < s.heap.size → (∀ z ∈ locs, z.base ≠ q) → U.heap[q]? = s.heap[q]? := by
  obtain ⟨-, h2, -, -, -, h6⟩ := h
  refine ⟨h2, fun q hq hz => ?_⟩
  obtain ⟨c9, e1, e2, e3, e4⟩ := h6 q _ (Array.getElem?_eq_getElem hq)
  have hs : c9.slots = (s.heap[q]).slots := Array.ext_getElem? fun i => e4 i fun hm => hz _ hm rfl
  have h9 : c9 = s.heap[q] := by
    rw [hs] at e2
    exact e2
  have e5 : U.heap[q]? = some c9 := e1
  rw [e5, h9, Array.getElem?_eq_getElem hq]
/-- the words of a throw but the four that speak of the heap -/
def vx_no (w : Cond) : Bool := decide (w ≠ .isRef (.static Bundle.tN "UNASSIGNED_STACK" Bundle.steD)) && decide (w ≠ .isRef (.static Bundle.tN "SUPPRESSED_SENTINEL" Bundle.listD)) && decide (w ≠ .laysStatic Bundle.tN "UNASSIGNED_STACK" Bundle.steD) && decide (w ≠ .laysStatic Bundle.tN "SUPPRESSED_SENTINEL" Bundle.listD)
def vx_at0 (own : String) (ic : Nat) (X : String) (names : List String) : List Cond := (Bundle.ownAtoms0 own ic X names).filter vx_no
def vx_atS (own : String) (ic : Nat) (X : String) (names : List String) : List Cond := (Bundle.ownAtoms own ic X names).filter vx_no
/-- a word that the tables alone decide, or a good one -/
def vx_ot (w : Cond) : Bool := w.onTables || goodWord w
theorem vx_ot_at {args a' : Array Value} {s U : State} {w : Cond} (hW : s.WarmedH U.vm) (hvm : s.vm = U.vm) (hg : vx_ot w = true) (h : w.before args s = true) : w.before a' U = true := by
  simp only [vx_ot, Bool.or_eq_true] at hg
  rcases hg with hg | hg
  · exact va_tabs hg hvm h
  · exact word_at hW (good_of_word hg) h
/-- a list's words: the good ones out of the method's own list, the others by premises of their own -/
theorem vx_hat {args : Array Value} {s : State} {L B : List Cond} (h1 : ∀ w ∈ L.filter goodWord, w.before args s = true) (h2 : ∀ w ∈ L.filter (fun w => !goodWord w), w ∈ B) (h3 : ∀ w ∈ B, w.before args s = true) : ∀ w ∈ L, w.before args s = true := by
  intro w hw
  by_cases g : goodWord w = true
  · exact h1 w (List.mem_filter.mpr ⟨hw, g⟩)
  · refine h3 w (h2 w (List.mem_filter.mpr ⟨hw, ?_⟩))
    show (!goodWord w) = true
    cases hgw : goodWord w
    · rfl
    · exact absurd hgw g
theorem vx_c {args : Array Value} {s : State} {w : Cond} {B : List Cond} (h : w.before args s = true) (t : ∀ w ∈ B, w.before args s = true) : ∀ w' ∈ w :: B, w'.before args s = true := fun w' h' => (List.mem_cons.mp h').elim (fun e => by rw [e]; exact h) (t w')
theorem vx_n {args : Array Value} {s : State} : ∀ w ∈ ([] : List Cond), w.before args s = true := fun _ h => nomatch h
theorem vx_own {args : Array Value} {s : State} {L : List Cond} (h1 : ∀ w ∈ L.filter vx_no, w.before args s = true)
    (hU : (Cond.isRef (.static Bundle.tN "UNASSIGNED_STACK" Bundle.steD)).before args s = true) (hN : (Cond.isRef (.static Bundle.tN "SUPPRESSED_SENTINEL" Bundle.listD)).before args s = true)
    (lU : (Cond.laysStatic Bundle.tN "UNASSIGNED_STACK" Bundle.steD).before args s = true) (lN : (Cond.laysStatic Bundle.tN "SUPPRESSED_SENTINEL" Bundle.listD).before args s = true) : ∀ w ∈ L, w.before args s = true := by
  intro w hw
  by_cases e1 : w = .isRef (.static Bundle.tN "UNASSIGNED_STACK" Bundle.steD)
  · rw [e1]; exact hU
  · by_cases e2 : w = .isRef (.static Bundle.tN "SUPPRESSED_SENTINEL" Bundle.listD)
    · rw [e2]; exact hN
    · by_cases e3 : w = .laysStatic Bundle.tN "UNASSIGNED_STACK" Bundle.steD
      · rw [e3]; exact lU
      · by_cases e4 : w = .laysStatic Bundle.tN "SUPPRESSED_SENTINEL" Bundle.listD
        · rw [e4]; exact lN
        · exact h1 w (List.mem_filter.mpr ⟨hw, by unfold vx_no; rw [decide_eq_true e1, decide_eq_true e2, decide_eq_true e3, decide_eq_true e4]; rfl⟩)
/-- where a static field lies, its class's statics cell in H -/
def vx_L (C n d : String) (A : Nat → Prop) (U : State) (H : Heap) : Prop := ∃ (c : ClassId) (k : Class) (i : Nat) (f : Field) (a : Nat) (cell : Cell), U.vm.findClass C = some c ∧ U.fieldFound? C n d = some (c, k, i, f) ∧ f.isStatic = true ∧ k.statics = some a ∧ H[a]? = some cell ∧ cell.vm.isStatics = true ∧ cell.cls = c ∧ f.slot < cell.slots.size ∧ k.staticTypes[f.slot]? = some f.type ∧ ¬ A a
theorem vx_L.moved {C n d : String} {A : Nat → Prop} {u U : State} {H : Heap} (hvm : u.vm.Alike U.vm) (h : vx_L C n d A u H) : vx_L C n d A U H := by
  obtain ⟨c, k, i, f, a, cell, h1, h2, h3, h4, h5, h6, h7, h8, h9, h10⟩ := h
  obtain ⟨k', hi', he⟩ := State.fieldFound?_setVm hvm h2
  exact ⟨c, k', i, f, a, cell, by rw [hvm.findClass]; exact h1, hi', h3, by rw [he]; exact h4, h5, h6, h7, h8, by rw [he]; exact h9, h10⟩
theorem vx_L.kept {C n d : String} {A : Nat → Prop} {U : State} {H H1 : Heap} (h : vx_L C n d A U H) (hq : ∀ a : Nat, a < H.size → ¬ A a → H1[a]? = H[a]?) : vx_L C n d A U H1 := by
  obtain ⟨c, k, i, f, a, cell, h1, h2, h3, h4, h5, h6, h7, h8, h9, h10⟩ := h
  exact ⟨c, k, i, f, a, cell, h1, h2, h3, h4, by rw [hq a (Array.getElem?_eq_some_iff.mp h5).1 h10]; exact h5, h6, h7, h8, h9, h10⟩
theorem vx_L.narrow {C n d : String} {A B : Nat → Prop} {U : State} {H : Heap} (h : vx_L C n d A U H) (hAB : ∀ q, B q → A q) : vx_L C n d B U H := by
  obtain ⟨c, k, i, f, a, cell, h1, h2, h3, h4, h5, h6, h7, h8, h9, h10⟩ := h
  exact ⟨c, k, i, f, a, cell, h1, h2, h3, h4, h5, h6, h7, h8, h9, fun z => h10 (hAB _ z)⟩
theorem vx_L.word {C n d : String} {A : Nat → Prop} {s : State} {args : Array Value} (h : vx_L C n d A s s.heap) : (Cond.laysStatic C n d).before args s = true := by
  obtain ⟨c, k, i, f, a, cell, h1, h2, h3, h4, h5, h6, h7, h8, h9, -⟩ := h
  show (Cond.laysStatic C n d).holds args s none s [] = true
  exact Cond.laysStatic_of h1 h2 h3 h4 h5 h6 h7 h8 h9
/-- .. and what it holds: null or some reference -/
def vx_Zq (C n d : String) (A : Nat → Prop) (U : State) (H : Heap) : Prop := va_Zq C n d A U H ∧ vx_L C n d A U H
theorem vx_Zq.moved {C n d : String} {A : Nat → Prop} {u U : State} {H : Heap} (hvm : u.vm.Alike U.vm) (h : vx_Zq C n d A u H) : vx_Zq C n d A U H := ⟨va_Zq.moved hvm h.1, vx_L.moved hvm h.2⟩
theorem vx_Zq.kept {C n d : String} {A : Nat → Prop} {U : State} {H H1 : Heap} (h : vx_Zq C n d A U H) (hq : ∀ a : Nat, a < H.size → ¬ A a → H1[a]? = H[a]?) : vx_Zq C n d A U H1 := ⟨va_Zq.kept h.1 hq, vx_L.kept h.2 hq⟩
theorem vx_Zq.narrow {C n d : String} {A B : Nat → Prop} {U : State} {H : Heap} (h : vx_Zq C n d A U H) (hAB : ∀ q, B q → A q) : vx_Zq C n d B U H := ⟨va_Zq.narrow h.1 hAB, vx_L.narrow h.2 hAB⟩
theorem vx_Zqof {args : Array Value} {s : State} {C n d : String} {A : Nat → Prop} (hl : (Cond.laysStatic C n d).before args s = true) (hini : (Cond.initialized C).before args s = true) (h : (Cond.isRef (.static C n d)).before args s = true) (hA : ∀ a : Nat, a < s.heap.size → ¬ A a) : vx_Zq C n d A s s.heap := by
  refine ⟨va_Zqof hl hini h hA, ?_⟩
  obtain ⟨c, k, i, f, a, cell, h1, h2, h3, h4, h5, h6, h7, h8, h9⟩ := Cond.laysStatic_spec hl
  exact ⟨c, k, i, f, a, cell, h1, h2, h3, h4, h5, h6, h7, h8, h9, hA a (Array.getElem?_eq_some_iff.mp h5).1⟩
theorem vx_isRef {C n d : String} {v : Value} {A : Nat → Prop} {s : State} {args : Array Value} (h : va_Z C n d v A s s.heap) (hv : v.isRef = true) : (Cond.isRef (.static C n d)).before args s = true := by
  obtain ⟨cf, kf, fi, f, a, cell, h1, h2, h3, h4, h5, h6, h7, -⟩ := h
  have he : (Term.static C n d).eval args s none [] s = some v := by
    simp [Term.eval, State.fieldNamed?, h1, h2, h4, h5, h6, h7]
  simp only [Cond.before, Cond.holds, Cond.value, he]
  cases v <;> simp_all [Value.isRef]
theorem vx_isRefq {C n d : String} {A : Nat → Prop} {s : State} {args : Array Value} (h : va_Zq C n d A s s.heap) : (Cond.isRef (.static C n d)).before args s = true := by
  rcases h with h | ⟨t, h⟩
  · exact vx_isRef h rfl
  · exact vx_isRef h rfl
/-- the same frame, seen from here: as if the method were called anew in this heap -/
theorem vx_rebase {T : State} (X : Stand p l e R s m args below meth c T locs cells slots) {R' : Room} (hf : R'.frames ≤ R.frames) (hl : R'.locals ≤ R.locals) (hc : cells + R'.cells ≤ R.cells) (hs : slots + R'.slots ≤ R.slots) :
    Stand p l e R' ((T.setVm s.vm).setFrames (.invoking m args :: below)) m args below meth c T [] 0 0 := by
  have htop : (T.setVm s.vm).topJava?.isSome := X.here.top
  have hF : ((T.setVm s.vm).setFrames (.invoking m args :: below)).frames = .invoking m args :: below := State.frames_setFrames _ (State.cur_lt_of_top htop)
  obtain ⟨g₀, hg0⟩ := Option.isSome_iff_exists.mp htop
  obtain ⟨r, hr⟩ := State.topJava?_eq_some.mp hg0
  have hl9 : e.platform.stackLimits (T.setVm s.vm).me = e.platform.stackLimits s.me := X.limits
  have hb9 : (T.setVm s.vm).me.stackBytes = s.me.stackBytes := X.bytes
  refine ⟨X.admits, X.cas, X.clock, hF, ?_, X.hears, X.method, X.code, X.here, X.tail, X.warmed, ?_, ?_, ?_⟩
  · have h := X.room
    have hU : ((T.setVm s.vm).setFrames (.invoking m args :: below)).localsInUse = s.localsInUse := by
      rw [State.localsInUse_invoking hF (meth := meth) (c := c) X.method X.code, State.localsInUse_invoking X.frames X.method X.code]
    simp only [State.hasRoom, Bool.and_eq_true, decide_eq_true_eq] at h ⊢
    obtain ⟨⟨⟨⟨h1, h2, h3, h4, h5, h6⟩, h7⟩, h8⟩, h9⟩ := h
    rw [X.frames, List.length_cons] at h2 h3
    have q1 := X.heapSize
    have q2 := X.used
    simp only [hF, hU, List.length_cons, State.stackLimits_setFrames, State.stackBytes_setFrames, hl9, hb9]
    refine ⟨⟨⟨⟨by omega, by omega, by omega, by omega, by omega, h6⟩, ?_⟩, ?_⟩, X.book⟩
    · show T.heap.size + R'.cells ≤ e.platform.maxCells
      omega
    · show T.slotsUsed + R'.slots ≤ e.platform.maxSlots
      omega
  · rw [State.stackLimits_setFrames]; rfl
  · rw [State.stackBytes_setFrames]; rfl
  · refine ⟨?_, Nat.le_refl _, Nat.le_refl _, ?_, ?_, fun a c9 h9 => ⟨c9, h9, rfl, rfl, fun _ _ => rfl⟩⟩
    · obtain ⟨t, ht, -⟩ := State.frames_cons hr
      show T.setVm s.vm = { ((T.setVm s.vm).setFrames (.invoking m args :: below)).setFrames (T.setVm s.vm).frames with heap := T.heap, slotsUsed := T.slotsUsed }
      rw [State.setFrames_setFrames, State.setFrames_self ht]
      rfl
    · show T.slotsUsed = T.slotsUsed + ((T.heap.toList.drop T.heap.size).map (·.slots.size)).sum
      rw [List.drop_eq_nil_of_le (Nat.le_of_eq Array.length_toList)]
      rfl
    · show ((T.heap.toList.drop T.heap.size).map (·.slots.size)).sum ≤ 0
      rw [List.drop_eq_nil_of_le (Nat.le_of_eq Array.length_toList)]
      exact Nat.le_refl _
/-- 'throw new E()': new; dup; invokespecial; athrow -/
theorem vx_throw0 {cc : ByteArray} {pc : Nat} (hexec : p.tables.exec = Jvm.exec) (hb : c.code = cc) (hl : l.stackTraces = false) {own cls : String} {names : List String} {ik ic mc ms : Nat} {A : Nat → Prop}
    (hown : s.vm.findClass own = some m.cls) (hcls : Bundle.fit cls = true) (hnames : ∀ n ∈ names, Bundle.fit n = true)
    (hk : (Cond.classLink own ik cls).before args s = true) (hini : (Cond.initialized cls).before args s = true) (hat : ∀ w ∈ vx_at0 own ic cls names, w.before args s = true)
    (hgood : ∀ w ∈ Cond.classLink own ik cls :: Cond.initialized cls :: vx_at0 own ic cls names, vx_ot w = true)
    (hU : vx_Zq Bundle.tN "UNASSIGNED_STACK" Bundle.steD A s s.heap) (hN : vx_Zq Bundle.tN "SUPPRESSED_SENTINEL" Bundle.listD A s s.heap) (hS : va_S A s.heap H locs) (hsize : ls.size = c.maxLocals)
    (d0 : decode cc pc = .ok (.new ik, 3)) (d3 : decode cc (pc + 3) = .ok (.dup, 1)) (d4 : decode cc (pc + 4) = .ok (.invokespecial ic, 3)) (d7 : decode cc (pc + 7) = .ok (.athrow, 1))
    (hout : ∀ x ∈ c.exceptionTable.toList, covers x (pc + 7) = false)
    (hRframes : names.length + 3 < R.frames) (hRlocals : (rest.map fun v => v.category).sum + (13 * (names.length + 1) + 42) ≤ R.locals) (hRcells : cells + 1 ≤ R.cells) (hRslots : slots + 6 ≤ R.slots) (hlocks : meth.locks = false)
    (hx : ∀ t : State, s.vm.Alike t.vm → H.size ≤ t.heap.size → (∀ q : Nat, q < H.size → t.heap[q]? = H[q]?) → XC cls s t)
    (hf : ∀ z ∈ locs, free z.base) (hc : cells + 1 ≤ mc) (hs : slots + 6 ≤ ms) :
    W p l e R s m args below meth c H locs cells slots (vx_MQ below Qc XC args s mc ms free) (F0 m pc ls rest) := by
  intro T hT X
  have htr : e.platform.stackTraces = false := (show e.platform.stackTraces = l.stackTraces by rw [X.admits.platform]).trans hl
  have Y := vx_rebase X (R' := { frames := R.frames, locals := R.locals, cells := 1, slots := 6 }) (Nat.le_refl _) (Nat.le_refl _) hRcells hRslots
  obtain ⟨s', hA⟩ : ∃ z, z = (T.setVm s.vm).setFrames (.invoking m args :: below) := ⟨_, rfl⟩
  rw [← hA] at Y
  have hvm : s'.vm = s.vm := by rw [hA]; rfl
  have hhp : s'.heap = H := by rw [hA]; exact hT
  have hW0 : s.WarmedH s'.vm := by rw [hvm]; exact State.WarmedH.refl s
  have hat' : ∀ w ∈ vx_at0 own ic cls names, w.before args s' = true := fun w hw => vx_ot_at hW0 hvm.symm (hgood w (List.mem_cons_of_mem _ (List.mem_cons_of_mem _ hw))) (hat w hw)
  have hk' : (Cond.classLink own ik cls).before args s' = true := vx_ot_at hW0 hvm.symm (hgood _ List.mem_cons_self) hk
  have hini' : (Cond.initialized cls).before args s' = true := vx_ot_at hW0 hvm.symm (hgood _ (List.mem_cons_of_mem _ List.mem_cons_self)) hini
  have hU' : vx_Zq Bundle.tN "UNASSIGNED_STACK" Bundle.steD A s' s'.heap := by rw [hhp]; exact vx_Zq.moved hW0.alike (hU.kept hS.2.1)
  have hN' : vx_Zq Bundle.tN "SUPPRESSED_SENTINEL" Bundle.listD A s' s'.heap := by rw [hhp]; exact vx_Zq.moved hW0.alike (hN.kept hS.2.1)
  have h : ∀ w ∈ Bundle.ownAtoms0 own ic cls names, w.before args s' = true := vx_own hat' (vx_isRefq hU'.1) (vx_isRefq hN'.1) hU'.2.word hN'.2.word
  have hown' : s'.vm.findClass own = some m.cls := by rw [hvm]; exact hown
  have hins : (Cond.instantiable cls 6).before args s' = true := h _ (by simp [Bundle.ownAtoms0])
  obtain ⟨vm₁, cX, kX, hfX, hkX, -, -, X₁, st1⟩ := Y.newCold hexec (own := own) (C := cls) (index := ik) (n := 6) hown' hk' hins hini'
    (g := F0 m pc ls rest) rfl (by rw [hb]; exact d0) (Nat.le_refl _) (Nat.le_refl _)
  generalize hT1 : (T.setVm vm₁).pushCell { cls := cX, slots := kX.instanceTypes.map defaultValue, vm := .none } = T1 at X₁ st1
  have hcat : (Value.ref T.heap.size).category = 1 := rfl
  have hcellA : T1.heap[T.heap.size]? = some (freshCell cX kX) := by rw [← hT1]; exact State.heap_pushCell_size _ _
  have d3' : decode c.code (pc + 3) = .ok (.dup, 1) := by rw [hb]; exact d3
  obtain ⟨U, hsteps, hrun, hend, hW, hsame, ce, hce, hO⟩ := X₁.ctorThrow0 hexec htr (own := own) (cls := cls) (names := names) (ic := ic) hown' hcls hnames h (fun x hx => nomatch hx) hfX hkX hcellA (by rw [hhp, hT]; exact Nat.le_refl _)
    (g := { method := m, pc := pc + 4, locals := ls, stack := .ref T.heap.size :: .ref T.heap.size :: rest, locked := none }) rfl hsize rfl rfl (rest := rest) rfl
    (by rw [hb]; exact d4) (by rw [hb]; exact d7) hout hRframes (by simp only [List.map_cons, List.sum_cons, hcat]; omega) hlocks
  obtain ⟨f1, f2⟩ := vx_frame hsame
  rw [hhp] at f1 f2
  have hWs : s.WarmedH U.vm := State.WarmedH.trans hW0 hW
  have hcl : s.vm.findClass cls = some ce.cls := by
    have h9 := hO.cls
    rw [hvm] at h9
    exact h9
  have hall : s.sameButNew ({ U with vm := s.vm } : State) locs mc ms := by
    subst hA
    obtain ⟨e1, e2⟩ := hsame
    rw [State.setFrames_setFrames] at e1
    have h2 : (T.setVm s.vm).sameButNew ({ U with vm := s.vm } : State) [] (0 + 1) (0 + 6) := ⟨e1, e2⟩
    have h3 := X.same.trans h2
    rw [List.append_nil] at h3
    exact h3.mono hc hs
  refine ⟨U, ?_, .threw T.heap.size, hrun, hend, Or.inr ⟨T.heap.size, rfl, cls, ce, locs, hx U hWs.alike f1 (fun q hq => f2 q hq (fun z hz => nomatch hz)), hce, hO.vm, hcl, hWs, hall, hf⟩⟩
  refine st1 _ ?_
  show Steps p.tables e below (T1.setTop { method := m, pc := pc + 3, locals := ls, stack := .ref T.heap.size :: rest, locked := none }) _
  jvm_step X₁.here [X₁.here.top, hexec, d3', Value.category]
  exact hsteps
/-- 'throw new E("text")': new; dup; ldc; invokespecial; athrow -/
theorem vx_throwS {cc : ByteArray} {pc : Nat} (hexec : p.tables.exec = Jvm.exec) (hb : c.code = cc) (hl : l.stackTraces = false) {own cls text : String} {names : List String} {ik is ic mc ms sa : Nat} {A : Nat → Prop}
    (hown : s.vm.findClass own = some m.cls) (hcls : Bundle.fit cls = true) (hnames : ∀ n ∈ names, Bundle.fit n = true)
    (hk : (Cond.classLink own ik cls).before args s = true) (hini : (Cond.initialized cls).before args s = true) (hstr : vk_R own is text sa s) (hat : ∀ w ∈ vx_atS own ic cls names, w.before args s = true)
    (hgood : ∀ w ∈ Cond.classLink own ik cls :: Cond.initialized cls :: vx_atS own ic cls names, vx_ot w = true)
    (hU : vx_Zq Bundle.tN "UNASSIGNED_STACK" Bundle.steD A s s.heap) (hN : vx_Zq Bundle.tN "SUPPRESSED_SENTINEL" Bundle.listD A s s.heap) (hS : va_S A s.heap H locs) (hsize : ls.size = c.maxLocals)
    (d0 : decode cc pc = .ok (.new ik, 3)) (d3 : decode cc (pc + 3) = .ok (.dup, 1)) (d4 : decode cc (pc + 4) = .ok (.ldc is, 2)) (d6 : decode cc (pc + 6) = .ok (.invokespecial ic, 3)) (d9 : decode cc (pc + 9) = .ok (.athrow, 1))
    (hout : ∀ x ∈ c.exceptionTable.toList, covers x (pc + 9) = false)
    (hRframes : names.length + 3 < R.frames) (hRlocals : (rest.map fun v => v.category).sum + (13 * (names.length + 1) + 43) ≤ R.locals) (hRcells : cells + 1 ≤ R.cells) (hRslots : slots + 6 ≤ R.slots) (hlocks : meth.locks = false)
    (hx : ∀ t : State, s.vm.Alike t.vm → H.size ≤ t.heap.size → (∀ q : Nat, q < H.size → t.heap[q]? = H[q]?) → XC cls s t)
    (hf : ∀ z ∈ locs, free z.base) (hc : cells + 1 ≤ mc) (hs : slots + 6 ≤ ms) :
    W p l e R s m args below meth c H locs cells slots (vx_MQ below Qc XC args s mc ms free) (F0 m pc ls rest) := by
  intro T hT X
  have htr : e.platform.stackTraces = false := (show e.platform.stackTraces = l.stackTraces by rw [X.admits.platform]).trans hl
  have Y := vx_rebase X (R' := { frames := R.frames, locals := R.locals, cells := 1, slots := 6 }) (Nat.le_refl _) (Nat.le_refl _) hRcells hRslots
  obtain ⟨s', hA⟩ : ∃ z, z = (T.setVm s.vm).setFrames (.invoking m args :: below) := ⟨_, rfl⟩
  rw [← hA] at Y
  have hvm : s'.vm = s.vm := by rw [hA]; rfl
  have hhp : s'.heap = H := by rw [hA]; exact hT
  have hW0 : s.WarmedH s'.vm := by rw [hvm]; exact State.WarmedH.refl s
  have hat' : ∀ w ∈ vx_atS own ic cls names, w.before args s' = true := fun w hw => vx_ot_at hW0 hvm.symm (hgood w (List.mem_cons_of_mem _ (List.mem_cons_of_mem _ hw))) (hat w hw)
  have hk' : (Cond.classLink own ik cls).before args s' = true := vx_ot_at hW0 hvm.symm (hgood _ List.mem_cons_self) hk
  have hini' : (Cond.initialized cls).before args s' = true := vx_ot_at hW0 hvm.symm (hgood _ (List.mem_cons_of_mem _ List.mem_cons_self)) hini
  have hU' : vx_Zq Bundle.tN "UNASSIGNED_STACK" Bundle.steD A s' s'.heap := by rw [hhp]; exact vx_Zq.moved hW0.alike (hU.kept hS.2.1)
  have hN' : vx_Zq Bundle.tN "SUPPRESSED_SENTINEL" Bundle.listD A s' s'.heap := by rw [hhp]; exact vx_Zq.moved hW0.alike (hN.kept hS.2.1)
  have h : ∀ w ∈ Bundle.ownAtoms own ic cls names, w.before args s' = true := vx_own hat' (vx_isRefq hU'.1) (vx_isRefq hN'.1) hU'.2.word hN'.2.word
  have hown' : s'.vm.findClass own = some m.cls := by rw [hvm]; exact hown
  have hins : (Cond.instantiable cls 6).before args s' = true := h _ (by simp [Bundle.ownAtoms])
  obtain ⟨vm₁, cX, kX, hfX, hkX, -, -, X₁, st1⟩ := Y.newCold hexec (own := own) (C := cls) (index := ik) (n := 6) hown' hk' hins hini'
    (g := F0 m pc ls rest) rfl (by rw [hb]; exact d0) (Nat.le_refl _) (Nat.le_refl _)
  generalize hT1 : (T.setVm vm₁).pushCell { cls := cX, slots := kX.instanceTypes.map defaultValue, vm := .none } = T1 at X₁ st1
  have hcat : (Value.ref T.heap.size).category = 1 := rfl
  have hcellA : T1.heap[T.heap.size]? = some (freshCell cX kX) := by rw [← hT1]; exact State.heap_pushCell_size _ _
  have d3' : decode c.code (pc + 3) = .ok (.dup, 1) := by rw [hb]; exact d3
  have d4' : decode c.code (pc + 4) = .ok (.ldc is, 2) := by rw [hb]; exact d4
  have hstr' : vk_R own is text sa s' := vk_R.warm hW0 hstr
  obtain ⟨U, hsteps, hrun, hend, hW, hsame, ce, hce, hO⟩ := X₁.ctorThrowS hexec htr (own := own) (cls := cls) (names := names) (ic := ic) hown' hcls hnames h (fun x hx => nomatch hx) hfX hkX hcellA (by rw [hhp, hT]; exact Nat.le_refl _) (msg := .ref sa) rfl
    (g := { method := m, pc := pc + 6, locals := ls, stack := .ref sa :: .ref T.heap.size :: .ref T.heap.size :: rest, locked := none }) rfl hsize rfl rfl (rest := rest) rfl
    (by rw [hb]; exact d6) (by rw [hb]; exact d9) hout hRframes (by simp only [List.map_cons, List.sum_cons, hcat]; omega) hlocks
  obtain ⟨f1, f2⟩ := vx_frame hsame
  rw [hhp] at f1 f2
  have hWs : s.WarmedH U.vm := State.WarmedH.trans hW0 hW
  have hcl : s.vm.findClass cls = some ce.cls := by
    have h9 := hO.cls
    rw [hvm] at h9
    exact h9
  have hall : s.sameButNew ({ U with vm := s.vm } : State) locs mc ms := by
    subst hA
    obtain ⟨e1, e2⟩ := hsame
    rw [State.setFrames_setFrames] at e1
    have h2 : (T.setVm s.vm).sameButNew ({ U with vm := s.vm } : State) [] (0 + 1) (0 + 6) := ⟨e1, e2⟩
    have h3 := X.same.trans h2
    rw [List.append_nil] at h3
    exact h3.mono hc hs
  refine ⟨U, ?_, .threw T.heap.size, hrun, hend, Or.inr ⟨T.heap.size, rfl, cls, ce, locs, hx U hWs.alike f1 (fun q hq => f2 q hq (fun z hz => nomatch hz)), hce, hO.vm, hcl, hWs, hall, hf⟩⟩
  refine st1 _ ?_
  show Steps p.tables e below (T1.setTop { method := m, pc := pc + 3, locals := ls, stack := .ref T.heap.size :: rest, locked := none }) _
  jvm_step X₁.here [X₁.here.top, hexec, d3', Value.category]
  exact X₁.ldcString hexec (own := own) (text := text) (index := is) (a := sa) hown' hstr'.1 hstr'.2
    (g := { method := m, pc := pc + 4, locals := ls, stack := .ref T.heap.size :: .ref T.heap.size :: rest, locked := none }) rfl d4' _ hsteps
/-- 'throw new E("text")', the text by a wide index -/
theorem vx_throwSW {cc : ByteArray} {pc : Nat} (hexec : p.tables.exec = Jvm.exec) (hb : c.code = cc) (hl : l.stackTraces = false) {own cls text : String} {names : List String} {ik is ic mc ms sa : Nat} {A : Nat → Prop}
    (hown : s.vm.findClass own = some m.cls) (hcls : Bundle.fit cls = true) (hnames : ∀ n ∈ names, Bundle.fit n = true)
    (hk : (Cond.classLink own ik cls).before args s = true) (hini : (Cond.initialized cls).before args s = true) (hstr : vk_R own is text sa s) (hat : ∀ w ∈ vx_atS own ic cls names, w.before args s = true)
    (hgood : ∀ w ∈ Cond.classLink own ik cls :: Cond.initialized cls :: vx_atS own ic cls names, vx_ot w = true)
    (hU : vx_Zq Bundle.tN "UNASSIGNED_STACK" Bundle.steD A s s.heap) (hN : vx_Zq Bundle.tN "SUPPRESSED_SENTINEL" Bundle.listD A s s.heap) (hS : va_S A s.heap H locs) (hsize : ls.size = c.maxLocals)
    (d0 : decode cc pc = .ok (.new ik, 3)) (d3 : decode cc (pc + 3) = .ok (.dup, 1)) (d4 : decode cc (pc + 4) = .ok (.ldc_w is, 3)) (d7 : decode cc (pc + 7) = .ok (.invokespecial ic, 3)) (d10 : decode cc (pc + 10) = .ok (.athrow, 1))
    (hout : ∀ x ∈ c.exceptionTable.toList, covers x (pc + 10) = false)
    (hRframes : names.length + 3 < R.frames) (hRlocals : (rest.map fun v => v.category).sum + (13 * (names.length + 1) + 43) ≤ R.locals) (hRcells : cells + 1 ≤ R.cells) (hRslots : slots + 6 ≤ R.slots) (hlocks : meth.locks = false)
    (hx : ∀ t : State, s.vm.Alike t.vm → H.size ≤ t.heap.size → (∀ q : Nat, q < H.size → t.heap[q]? = H[q]?) → XC cls s t)
    (hf : ∀ z ∈ locs, free z.base) (hc : cells + 1 ≤ mc) (hs : slots + 6 ≤ ms) :
    W p l e R s m args below meth c H locs cells slots (vx_MQ below Qc XC args s mc ms free) (F0 m pc ls rest) := by
  intro T hT X
  have htr : e.platform.stackTraces = false := (show e.platform.stackTraces = l.stackTraces by rw [X.admits.platform]).trans hl
  have Y := vx_rebase X (R' := { frames := R.frames, locals := R.locals, cells := 1, slots := 6 }) (Nat.le_refl _) (Nat.le_refl _) hRcells hRslots
  obtain ⟨s', hA⟩ : ∃ z, z = (T.setVm s.vm).setFrames (.invoking m args :: below) := ⟨_, rfl⟩
  rw [← hA] at Y
  have hvm : s'.vm = s.vm := by rw [hA]; rfl
  have hhp : s'.heap = H := by rw [hA]; exact hT
  have hW0 : s.WarmedH s'.vm := by rw [hvm]; exact State.WarmedH.refl s
  have hat' : ∀ w ∈ vx_atS own ic cls names, w.before args s' = true := fun w hw => vx_ot_at hW0 hvm.symm (hgood w (List.mem_cons_of_mem _ (List.mem_cons_of_mem _ hw))) (hat w hw)
  have hk' : (Cond.classLink own ik cls).before args s' = true := vx_ot_at hW0 hvm.symm (hgood _ List.mem_cons_self) hk
  have hini' : (Cond.initialized cls).before args s' = true := vx_ot_at hW0 hvm.symm (hgood _ (List.mem_cons_of_mem _ List.mem_cons_self)) hini
  have hU' : vx_Zq Bundle.tN "UNASSIGNED_STACK" Bundle.steD A s' s'.heap := by rw [hhp]; exact vx_Zq.moved hW0.alike (hU.kept hS.2.1)
  have hN' : vx_Zq Bundle.tN "SUPPRESSED_SENTINEL" Bundle.listD A s' s'.heap := by rw [hhp]; exact vx_Zq.moved hW0.alike (hN.kept hS.2.1)
  have h : ∀ w ∈ Bundle.ownAtoms own ic cls names, w.before args s' = true := vx_own hat' (vx_isRefq hU'.1) (vx_isRefq hN'.1) hU'.2.word hN'.2.word
  have hown' : s'.vm.findClass own = some m.cls := by rw [hvm]; exact hown
  have hins : (Cond.instantiable cls 6).before args s' = true := h _ (by simp [Bundle.ownAtoms])
  obtain ⟨vm₁, cX, kX, hfX, hkX, -, -, X₁, st1⟩ := Y.newCold hexec (own := own) (C := cls) (index := ik) (n := 6) hown' hk' hins hini'
    (g := F0 m pc ls rest) rfl (by rw [hb]; exact d0) (Nat.le_refl _) (Nat.le_refl _)
  generalize hT1 : (T.setVm vm₁).pushCell { cls := cX, slots := kX.instanceTypes.map defaultValue, vm := .none } = T1 at X₁ st1
  have hcat : (Value.ref T.heap.size).category = 1 := rfl
  have hcellA : T1.heap[T.heap.size]? = some (freshCell cX kX) := by rw [← hT1]; exact State.heap_pushCell_size _ _
  have d3' : decode c.code (pc + 3) = .ok (.dup, 1) := by rw [hb]; exact d3
  have d4' : decode c.code (pc + 4) = .ok (.ldc_w is, 3) := by rw [hb]; exact d4
  have hstr' : vk_R own is text sa s' := vk_R.warm hW0 hstr
  obtain ⟨U, hsteps, hrun, hend, hW, hsame, ce, hce, hO⟩ := X₁.ctorThrowS hexec htr (own := own) (cls := cls) (names := names) (ic := ic) hown' hcls hnames h (fun x hx => nomatch hx) hfX hkX hcellA (by rw [hhp, hT]; exact Nat.le_refl _) (msg := .ref sa) rfl
    (g := { method := m, pc := pc + 7, locals := ls, stack := .ref sa :: .ref T.heap.size :: .ref T.heap.size :: rest, locked := none }) rfl hsize rfl rfl (rest := rest) rfl
    (by rw [hb]; exact d7) (by rw [hb]; exact d10) hout hRframes (by simp only [List.map_cons, List.sum_cons, hcat]; omega) hlocks
  obtain ⟨f1, f2⟩ := vx_frame hsame
  rw [hhp] at f1 f2
  have hWs : s.WarmedH U.vm := State.WarmedH.trans hW0 hW
  have hcl : s.vm.findClass cls = some ce.cls := by
    have h9 := hO.cls
    rw [hvm] at h9
    exact h9
  have hall : s.sameButNew ({ U with vm := s.vm } : State) locs mc ms := by
    subst hA
    obtain ⟨e1, e2⟩ := hsame
    rw [State.setFrames_setFrames] at e1
    have h2 : (T.setVm s.vm).sameButNew ({ U with vm := s.vm } : State) [] (0 + 1) (0 + 6) := ⟨e1, e2⟩
    have h3 := X.same.trans h2
    rw [List.append_nil] at h3
    exact h3.mono hc hs
  refine ⟨U, ?_, .threw T.heap.size, hrun, hend, Or.inr ⟨T.heap.size, rfl, cls, ce, locs, hx U hWs.alike f1 (fun q hq => f2 q hq (fun z hz => nomatch hz)), hce, hO.vm, hcl, hWs, hall, hf⟩⟩
  refine st1 _ ?_
  show Steps p.tables e below (T1.setTop { method := m, pc := pc + 3, locals := ls, stack := .ref T.heap.size :: rest, locked := none }) _
  jvm_step X₁.here [X₁.here.top, hexec, d3', Value.category]
  exact X₁.ldcStringW hexec (own := own) (text := text) (index := is) (a := sa) hown' hstr'.1 hstr'.2
    (g := { method := m, pc := pc + 4, locals := ls, stack := .ref T.heap.size :: .ref T.heap.size :: rest, locked := none }) rfl d4' _ hsteps
end Ends
section Bodies
variable {l : Launch}
theorem vx_ofW {y : MethodName} {ws ws' : List Cond} {rm : Room} {Pc : Array Value → State → Prop} {Qc : Array Value → State → Outcome → State → Prop} {XC : String → State → State → Prop} {mc ms : Nat} {free : Addr → Prop} {cc : ByteArray} {maxL : Nat} {ret : Option FieldType}
    (hy : plainName y.cls = true) (hw : ws = Cond.code y cc maxL ret :: ws')
    (body : ∀ p e s m args below meth c s₁, BodyLoose p l y (headSpec ws rm) cc maxL ret e s m args below meth c s₁ → c.maxLocals = maxL → (∀ x ∈ c.exceptionTable.toList, False) → Pc args s →
      W p l e (headSpec ws rm).room s m args below meth c s.heap [] 0 0 (vx_MQ below Qc XC args s mc ms free) (entryFrame m args maxL)) : vx_Met l y ws rm Pc Qc XC mc ms free := by
  refine MetFree.of_bodyS (code := cc) (maxLocals := maxL) (ret := ret) hy ?_ ?_
  · intro args s m h hn
    obtain ⟨meth, c, h1, h2, h3, h4, h5, h6, -, -⟩ := Cond.code_spec hn (atoms_spec (ws := ws) h _ (by rw [hw]; exact List.mem_cons_self))
    exact ⟨meth, c, h1, h2, h3, h4, h5, h6⟩
  · intro p e s m args below meth c s₁ B hml hP _
    have hh0 : s₁.heap = s.heap := by rw [B.state]; rfl
    have ht : ∀ x ∈ c.exceptionTable.toList, False := by
      obtain ⟨meth9, c9, h1, h2, -, -, -, -, h7, -⟩ := Cond.code_spec B.named (atoms_spec (ws := ws) B.pre _ (by rw [hw]; exact List.mem_cons_self))
      cases Option.some.inj (h1.symm.trans B.method)
      cases Option.some.inj (h2.symm.trans (Stand.of_body B).code)
      intro x hx
      rw [Array.isEmpty_iff.mp h7] at hx
      cases hx
    obtain ⟨t, a1, o, b1, b2, b3⟩ := body p e s m args below meth c s₁ B hml ht hP s₁ hh0 (Stand.of_body B)
    exact ⟨t, o, a1, b1, b2, b3⟩
/-- the table of a body with handlers -/
theorem vx_table {p : Program} {x y : MethodName} {S : Spec} {cc bytes : ByteArray} {maxL maxL' : Nat} {ret ret' : Option FieldType} {e : Env} {s s₁ : State} {m : MethodId} {args : Array Value} {below : List Frame} {meth : Method} {c : Code} {hh : List (Nat × Nat × Nat × Nat)}
    (B : BodyLoose p l y S cc maxL ret e s m args below meth c s₁) (h : (Cond.codeWith y bytes maxL' ret' hh).before args s = true) : c.exceptionTable.toList = tableOf hh := by
  obtain ⟨m9, meth9, c9, hn9, h1, h2, -, -, h6, -⟩ := Cond.codeWith_spec h
  cases Option.some.inj (hn9.symm.trans B.named)
  cases Option.some.inj (h1.symm.trans B.method)
  cases Option.some.inj (h2.symm.trans (Stand.of_body B).code)
  rw [← h6, table_eq]
end Bodies
end VXA
/-! ===== END ===== -/
/-! ===== BEGIN a static call of a method with an exception table ===== -/
section VXS
variable {p : Program} {l : Launch} {e : Env} {R : Room} {s : State} {m : MethodId} {args : Array Value} {below : List Frame} {meth : Method} {c : Code} {T : State} {H : Heap} {locs : List Loc} {cells slots : Nat}
abbrev vx_CSW (R : Room) (s : State) (args : Array Value) (own : String) (index : Nat) (y : MethodName) (bytes : ByteArray) (maxL : Nat) (ret : Option FieldType) (hh : List (Nat × Nat × Nat × Nat)) (ws : List Cond) (rm : Room) (mc ms n : Nat) : Prop :=
  (rm.cells = mc ∧ rm.slots = ms ∧ rm.frames + 1 ≤ R.frames ∧ 8 + (maxL + 11) + rm.locals ≤ R.locals ∧ (∀ w ∈ ws, ∀ (a' : Array Value) (U : State), s.WarmedH U.vm → w.before a' U = true) ∧ Cond.codeWith y bytes maxL ret hh ∈ ws) ∧
  (Cond.codeWith y bytes maxL ret hh).before args s = true ∧ (Cond.initialized y.cls).before args s = true ∧ (y.cls ≠ "java/lang/invoke/MethodHandle" ∧ y.cls ≠ "java/lang/invoke/VarHandle") ∧
  (∀ sig, parseMethodDescriptor y.desc = some sig → n = sig.parameters.length) ∧ (Cond.methodLink own index y).before args s = true ∧ (Cond.static y).before args s = true
theorem vx_cwSW {own : String} {index maxL mc ms : Nat} {y : MethodName} {bytes : ByteArray} {ret : Option FieldType} {hh : List (Nat × Nat × Nat × Nat)} {Ts ws ws' : List Cond} {rm : Room} (n : Nat) (ht : ∀ w ∈ Ts, w.before args s = true) (hT : GoodIn Ts (va_wsS own index y ws)) (hw : ws = Cond.codeWith y bytes maxL ret hh :: ws') (hrc : rm.cells = mc) (hrs : rm.slots = ms)
    (hd : y.cls ≠ "java/lang/invoke/MethodHandle" ∧ y.cls ≠ "java/lang/invoke/VarHandle" ∧ (parseMethodDescriptor y.desc).map (fun d => d.parameters.length) = some n) (hR : rm.frames + 1 ≤ R.frames ∧ 8 + (maxL + 11) + rm.locals ≤ R.locals) :
    vx_CSW R s args own index y bytes maxL ret hh ws rm mc ms n := by
  have ok : ∀ w ∈ va_wsS own index y ws, w.before args s = true := fun w h => ht w (hT w h).1
  have hG : GoodIn Ts ws := fun w h => hT w (by unfold va_wsS; exact List.mem_append_right _ h)
  have hc : Cond.codeWith y bytes maxL ret hh ∈ ws := by rw [hw]; exact List.mem_cons_self
  refine ⟨⟨hrc, hrs, hR.1, hR.2, pay_in ht hG, hc⟩, ht _ (hG _ hc).1, ok _ (by simp [va_wsS]), ⟨hd.1, hd.2.1⟩, fun sig h => ?_, ok _ (by simp [va_wsS]), ok _ (by simp [va_wsS])⟩
  have h2 := hd.2.2
  rw [h] at h2
  exact (Option.some.inj h2).symm
theorem vx_callSW (X : Stand p l e R s m args below meth c T locs cells slots) (hexec : p.tables.exec = Jvm.exec) {own : String} {index : Nat} {y : MethodName} {bytes : ByteArray} {maxL : Nat} {ret : Option FieldType} {hh : List (Nat × Nat × Nat × Nat)}
    (hown : s.vm.findClass own = some m.cls) (hlink : (Cond.methodLink own index y).before args s = true) (hstat : (Cond.static y).before args s = true) (hinit : (Cond.initialized y.cls).before args s = true)
    (hcode : (Cond.codeWith y bytes maxL ret hh).before args s = true) (hy : y.cls ≠ "java/lang/invoke/MethodHandle" ∧ y.cls ≠ "java/lang/invoke/VarHandle")
    {W9 : Nat} {Pre : Pt → Array Value → Prop} {Post : Pt → Array Value → Option Value → Pt → Prop} (hK : Back l R p e below s args y 3 W9 Pre Post)
    {g : JFrame} (hg : g.method = m) (hsize : g.locals.size = c.maxLocals) {argsL rest : List Value} (hlen : ∀ sig, parseMethodDescriptor y.desc = some sig → argsL.length = sig.parameters.length)
    (hstack : g.stack = argsL.reverse ++ rest) (hW : 2 * g.monitorRoom + (rest.map fun v => v.category).sum ≤ W9) (hdg : decode c.code g.pc = .ok (.invokestatic index, 3))
    (hpre : ∀ vm₁, s.WarmedH vm₁ → Pre ⟨T.setVm vm₁, locs, cells, slots⟩ argsL.toArray) :
    ∃ (v : Option Value) (vm₁ : Vm) (B : Pt), s.WarmedH vm₁ ∧ Stand p l e R s m args below meth c B.U B.locs B.cells B.slots ∧ Post ⟨T.setVm vm₁, locs, cells, slots⟩ argsL.toArray v B ∧
      ∀ target, Steps p.tables e below (B.U.setTop { g with pc := g.pc + 3, stack := v.toList ++ rest }) target → Steps p.tables e below (T.setTop g) target := by
  obtain ⟨mk, methM, cM, hnamed, hmethM, -, -, -, -, -, -, hsigM⟩ := Cond.codeWith_spec hcode
  have hstatic : methM.isStatic = true := Cond.static_spec hnamed hmethM hstat
  obtain ⟨kP, hkP, -⟩ := className_of_methodNamed hnamed
  have hinitP : kP.init = .initialized := Cond.initialized_spec (findClass_of_methodNamed hnamed) hkP hinit
  obtain ⟨vm₁, X₁, hstep₁⟩ := X.invokestatic hexec hown hlink hnamed hmethM hstatic hkP hinitP hy (g := g) hg (argsL := argsL) (rest := rest) (hlen _ hsigM) hstack hdg
  obtain ⟨v, B, X', hpost, hsteps⟩ := hK m meth c ⟨T.setVm vm₁, locs, cells, slots⟩ { g with stack := rest } (.invokestatic index) mk argsL.toArray X₁ hg hsize hdg hW (X₁.named hnamed) (hpre vm₁ X₁.warmed)
  exact ⟨v, vm₁, B, X₁.warmed, X', hpost, fun target h => hstep₁ _ fun acts => by rw [doInvoke_state]; exact hsteps.trans h⟩
theorem vx_runSW {y : MethodName} {bytes cc : ByteArray} {maxL nL mc ms n index : Nat} {ret : Option FieldType} {hh : List (Nat × Nat × Nat × Nat)} {ws : List Cond} {rm : Room} {Pc : Array Value → State → Prop} {Qc : Array Value → State → Outcome → State → Prop} {free : Addr → Prop} {Ts : List Cond} {own : String} {As rest : List Value} {g : JFrame}
    (S : CallFix p m c cc nL s args Ts own) (hM : Met l y ws rm Pc Qc mc ms free) (cw : vx_CSW R s args own index y bytes maxL ret hh ws rm mc ms n) (hp : PreS s H Pc As)
    (hg : g.method = m) (hn : As.length = n) (hsize : g.locals.size = nL) (hstack : g.stack = As.reverse ++ rest) (hW : 2 * g.monitorRoom + (rest.map fun v => v.category).sum ≤ 8) (hdg : decode cc g.pc = .ok (.invokestatic index, 3)) (hf : cells + mc ≤ R.cells ∧ slots + ms ≤ R.slots) :
    va_Run p l e R s m args below meth c H locs cells slots mc ms g rest (Qc As.toArray) (free) := by
  obtain ⟨⟨hrc, hrs, hfr, hlo, hws, hcw⟩, hcode, hini, hy, hlen, hl, hstt⟩ := cw
  have hK : Back l R p e below s args y 3 8 (PreOf R mc ms Pc) (PostOf Qc mc ms free) := va_backW (hh := hh) (bytes := bytes) (maxL := maxL) (ret := ret) hM hp.1 hrc hrs hfr hlo hws hcw (fun a' U hW => word_at hW (Or.inl (by first | rfl | simp [Cond.onTables, Cond.keeps, Cond.steady])) hini)
  obtain ⟨hx, hb, hml, ho, -⟩ := S
  intro T hT X
  obtain ⟨v, vm₁, ⟨U', l2, c2, s2⟩, hW₁, X', ⟨g', mk, t, L, e1, e2, hq, h1, hL, h2, h3⟩, st⟩ := vx_callSW X hx (hh := hh) (bytes := bytes) (maxL := maxL) (ret := ret) ho hl hstt hini hcode hy hK hg (hsize.trans hml.symm) (argsL := As) (rest := rest) (fun sig h => hn.trans (hlen sig h)) hstack hW (by rw [hb]; exact hdg)
    (fun vm₁ hW₁ => ⟨hf.1, hf.2, hp.2 (T.setVm vm₁) hT hW₁⟩)
  dsimp only [Pt.U, Pt.locs, Pt.cells, Pt.slots] at X' e1 e2 h1 h2 h3 st
  subst h1; subst h2; subst h3
  exact ⟨v, (T.setVm vm₁).calling g' mk As.toArray, t, U', L, hT, X', hL, e1, e2, hq, st⟩
/-- not caught here, past rows that name other classes: it goes on to the caller -/
theorem vx_outP {p : Program} {l : Launch} {e : Env} {R : Room} {s : State} {m : MethodId} {args : Array Value} {below : List Frame} {meth : Method} {c : Code} {H : Heap} {locs : List Loc} {cells slots : Nat} {free : Addr → Prop} {ls : Array Slot} {rest : List Value} {Qc : Array Value → State → Outcome → State → Prop} {XC : String → State → State → Prop}
    {pc : Nat} {own E : String} {ce : Cell} {q : Addr} {mc ms : Nat} (hown : s.vm.findClass own = some m.cls) (hlocks : meth.locks = false)
    (hpass : ∀ z ∈ c.exceptionTable.toList, covers z pc = false ∨ (z.catchType ≠ 0 ∧ ∃ nm : String, (Cond.classLink own z.catchType nm).before args s = true ∧ va_Nc E nm s)) (hcell : H[q]? = some ce) (hv : ce.vm = .none) (hcl : s.vm.findClass E = some ce.cls)
    (hx : ∀ t : State, t.heap = H → s.vm.Alike t.vm → XC E s t) (hf : ∀ z ∈ locs, free z.base) (hc : cells ≤ mc) (hs : slots ≤ ms) :
    vx_W p l e R s m args below meth c H locs cells slots (vx_MQ below Qc XC args s mc ms free) (F0 m pc ls rest) q := by
  intro T hT X
  have hpl : e.platform.magicAccessors = ({} : Platform).magicAccessors := by rw [X.admits.platform]
  obtain ⟨vm', hW', X', st⟩ := X.outThrough hlocks q (g := F0 m pc ls rest) rfl rfl rfl (cell := ce) (by rw [hT]; exact hcell) (by rw [hv]; rfl)
    (by obtain ⟨k9, h9, -⟩ := Vm.findClass_spec hcl; exact ⟨k9, h9⟩) (fun z hz => by
      rcases hpass z hz with h | ⟨hz0, nm, hl1, hn1⟩
      · exact Or.inl h
      · obtain ⟨c6, hc6, hcl6⟩ := Cond.classLink_spec hown hl1 e.platform hpl
        obtain ⟨a8, b8, h1, h2, h3⟩ := hn1
        cases Option.some.inj (h1.symm.trans hcl)
        cases Option.some.inj (h2.symm.trans hc6)
        exact Or.inr ⟨hz0, _, hcl6, h3⟩)
  obtain ⟨g₀, hfr⟩ := X'.frames_eq
  have hcell9 : ((T.setVm vm').setFrames (.throwing q :: below)).heap[q]? = some ce := by
    show T.heap[q]? = some ce
    rw [hT]; exact hcell
  have hend : Ended ((T.setVm vm').setFrames (.throwing q :: below)) below (.threw q) := State.frames_setFrames _ (State.cur_lt_of_frames hfr)
  refine ⟨(T.setVm vm').setFrames (.throwing q :: below), ?_, .threw q, X'.here.running, hend, Or.inr ⟨q, rfl, E, ce, locs, hx _ hT (X'.ends _).1.alike, hcell9, hv, hcl, (X'.ends _).1, (X'.ends _).2.mono hc hs, hf⟩⟩
  rw [X.pushThrowing_eq]
  exact st
/-- a thing of a world lies in the heap -/
theorem vx_lt {D : va_G} {cl : List vw_C} {ws : va_W} {H1 : Heap} (h : va_P D cl ws H1) {k : Nat} {q : Nat × va_E} (hk : ws[k]? = some q) : q.1 < H1.size := (h k q hk).lt
end VXS
/-! ===== END ===== -/
/-! ===== BEGIN methods with a table of their own: called by a name, returning or throwing ===== -/
section VXH
/-! vx_backW, vx_callVX, vx_callSX, vx_callVW, vx_runVW, vx_runVX, vx_runSX, vx_ofWH follow the same proofs as their sisters above (Free/Laws.lean, Shelf42/LK1.lean); vx_outP calls Shelf42/NT130.lean (outThrough). -/
section
variable {l : Launch} {R : Room} {p : Program} {e : Env} {below : List Frame} {s : State} {sargs : Array Value} {y : MethodName} {len W9 : Nat}
theorem vx_backW {ws : List Cond} {rm : Room} {Pc : Array Value → State → Prop} {Qc : Array Value → State → Outcome → State → Prop} {XC : String → State → State → Prop} {mc ms : Nat} {free : Addr → Prop} {bytes : ByteArray} {maxL : Nat} {ret : Option FieldType} {hh : List (Nat × Nat × Nat × Nat)}
    (hM : vx_Met l y ws rm Pc Qc XC mc ms free) (hblind : FrameBlind Pc) (hrc : rm.cells = mc) (hrs : rm.slots = ms)
    (hframes : rm.frames + 1 ≤ R.frames) (hlocals : W9 + (maxL + 11) + rm.locals ≤ R.locals)
    (hws : ∀ w ∈ ws, ∀ a' U, s.WarmedH U.vm → w.before a' U = true) (hcode : Cond.codeWith y bytes maxL ret hh ∈ ws) (hinit : ∀ a' U, s.WarmedH U.vm → (Cond.initialized y.cls).before a' U = true) :
    vx_Back l R p e below s sargs y len W9 (PreOf R mc ms Pc) (PostOf Qc mc ms free) (vx_Post XC mc ms free) := by
  intro m meth c A g ig mk a X hg hsize hdg hW hn hp
  have h1 : (headSpec ws rm).pre.before a A.U = true := atoms_intro fun w hw => hws w hw _ _ X.warmed
  have h2 : (Cond.codeWith y bytes maxL ret hh).before a A.U = true := hws _ hcode _ _ X.warmed
  have h3 : (Cond.initialized y.cls).before a A.U = true := hinit _ _ X.warmed
  have h4 : A.cells + (headSpec ws rm).room.cells ≤ R.cells := by rw [show (headSpec ws rm).room.cells = mc from hrc]; exact hp.1
  have h5 : A.slots + (headSpec ws rm).room.slots ≤ R.slots := by rw [show (headSpec ws rm).room.slots = ms from hrs]; exact hp.2.1
  have hPc : Pc a (A.U.calling g mk a) := hblind _ _ _ _ hp.2.2
  obtain ⟨U, Ls, c0, s0⟩ := A
  dsimp only [Pt.U, Pt.locs, Pt.cells, Pt.slots] at h1 h2 h3 h4 h5 X hn hPc ⊢
  obtain ⟨m9, methY, cY, hn9, hmY, hcY, -, hlY, -⟩ := Cond.codeWith_spec h2
  cases Option.some.inj (hn9.symm.trans hn)
  obtain ⟨kY, hkY, -⟩ := className_of_methodNamed hn
  have hinitY : kY.init = .initialized := Cond.initialized_spec (findClass_of_methodNamed hn) hkY h3
  have h : At U g.method c below := by rw [hg]; exact X.here
  have hlocals9 : W9 + (maxL + 11) + (headSpec ws rm).room.locals ≤ R.locals := hlocals
  have happ : (headSpec ws rm).appliesLoose y e.platform (U.calling g mk a) = true :=
    Spec.appliesLoose_calling (g := g) h hdg hn hkY hinitY
      (X.room_calling (g := g) (R' := (headSpec ws rm).room) hsize hmY hcY hframes (by rw [hlY]; omega) h4 h5) h1
  obtain ⟨mid, hmid⟩ := h.above
  have hfr : (U.setTop g).frames = (.java g :: mid) ++ below := by rw [State.frames_setTop' g h.top, hmid]; rfl
  obtain ⟨o, s₂, hsteps, -, hend, hq⟩ := Steps.callFree hM p X.admits X.cas X.clock (acts := []) hfr happ hPc trivial
  have hq' : vx_Q Qc XC mc ms free a (U.calling g mk a) o s₂ := hq
  rw [State.frames_setTop' g h.top] at hend
  obtain ⟨g₀, hg0⟩ := Option.isSome_iff_exists.mp h.top
  obtain ⟨r, hr⟩ := State.topJava?_eq_some.mp hg0
  have hr' : (({ U with heap := s₂.heap, slotsUsed := s₂.slotsUsed } : State).setVm s₂.vm).frames = .java g₀ :: r := hr
  rcases hq' with ⟨hqc, L, hfe, hL⟩ | ⟨q, rfl, E, ce, L, hx, hce, hcv, hcl, hW₂, hsm, hL⟩
  · obtain ⟨⟨v, rfl⟩, hW₂, e2, q2, q3, q4, q5, q6⟩ := id hfe
    have e3 : s₂ = ({ (U.calling g mk a).setFrames s₂.frames with heap := s₂.heap, slotsUsed := s₂.slotsUsed } : State).setVm s₂.vm := by
      have : s₂ = ({ s₂ with vm := (U.calling g mk a).vm } : State).setVm s₂.vm := rfl
      rw [e2] at this
      exact this
    obtain ⟨c₂, i₂, len₂, hc₂, hd₂, hf₂⟩ := hend
    have hW' : U.WarmedH s₂.vm := hW₂
    have hcc : c₂ = c := by
      have h1 : s₂.code? g.method = U.code? g.method := by
        rw [State.code?_eq, State.code?_eq, hW'.alike.method?]
      exact Option.some.inj (hc₂.symm.trans (h1.trans h.code))
    subst hcc
    have hlen : len₂ = len := by rw [hdg] at hd₂; cases hd₂; rfl
    subst hlen
    have hs₂ : s₂ = (({ U with heap := s₂.heap, slotsUsed := s₂.slotsUsed } : State).setVm s₂.vm).setTop { g with pc := g.pc + len₂, stack := v.toList ++ g.stack } := by
      refine e3.trans ?_
      rw [hf₂, State.calling_eq h.top, State.setFrames_setFrames, State.setTop_of_frames _ hr', hr]
      rfl
    have hsame : U.sameButNew ({ U with heap := s₂.heap, slotsUsed := s₂.slotsUsed } : State) L mc ms := by
      refine ⟨?_, q2, q3, q4, q5, q6⟩
      obtain ⟨t, ht, -⟩ := State.frames_cons hr
      show ({ U with heap := s₂.heap, slotsUsed := s₂.slotsUsed } : State) = { U.setFrames U.frames with heap := s₂.heap, slotsUsed := s₂.slotsUsed }
      rw [State.setFrames_self ht]
    subst hg
    refine Or.inl ⟨v, ⟨(({ U with heap := s₂.heap, slotsUsed := s₂.slotsUsed } : State).setVm s₂.vm), Ls ++ L, c0 + mc, s0 + ms⟩,
      ⟨X.admits, X.cas, X.clock, X.frames, X.room, X.hears, X.method, X.code, (X.here.setHeapUsed s₂.heap s₂.slotsUsed).setVm hW'.alike, X.tail, State.WarmedH.trans X.warmed hW', X.limits, X.bytes, X.same.trans (hsame.setVm s.vm)⟩,
      ⟨g, mk, s₂, L, rfl, rfl, hqc, rfl, hL, rfl, rfl⟩, ?_⟩
    show Steps p.tables e below _ ((({ U with heap := s₂.heap, slotsUsed := s₂.slotsUsed } : State).setVm s₂.vm).setTop { g with pc := g.pc + len₂, stack := v.toList ++ g.stack })
    rw [← hs₂]
    exact hsteps
  · obtain ⟨e2, q2, q3, q4, q5, q6⟩ := id hsm
    have e3 : s₂ = ({ (U.calling g mk a).setFrames s₂.frames with heap := s₂.heap, slotsUsed := s₂.slotsUsed } : State).setVm s₂.vm := by
      have : s₂ = ({ s₂ with vm := (U.calling g mk a).vm } : State).setVm s₂.vm := rfl
      rw [e2] at this
      exact this
    have hf₂ : s₂.frames = .throwing q :: .java g :: U.frames.tail := hend
    have hW' : U.WarmedH s₂.vm := hW₂
    have hs₂ : s₂ = ((({ U with heap := s₂.heap, slotsUsed := s₂.slotsUsed } : State).setVm s₂.vm).setTop g).pushFrame (.throwing q) := by
      refine e3.trans ?_
      rw [hf₂, State.calling_eq h.top, State.setFrames_setFrames, State.pushFrame, State.frames_setTop _ hr', State.setTop_of_frames _ hr', State.setFrames_setFrames, hr]
      rfl
    have hsame : U.sameButNew ({ U with heap := s₂.heap, slotsUsed := s₂.slotsUsed } : State) L mc ms := by
      refine ⟨?_, q2, q3, q4, q5, q6⟩
      obtain ⟨t, ht, -⟩ := State.frames_cons hr
      show ({ U with heap := s₂.heap, slotsUsed := s₂.slotsUsed } : State) = { U.setFrames U.frames with heap := s₂.heap, slotsUsed := s₂.slotsUsed }
      rw [State.setFrames_self ht]
    subst hg
    refine Or.inr ⟨q, ⟨(({ U with heap := s₂.heap, slotsUsed := s₂.slotsUsed } : State).setVm s₂.vm), Ls ++ L, c0 + mc, s0 + ms⟩,
      ⟨X.admits, X.cas, X.clock, X.frames, X.room, X.hears, X.method, X.code, (X.here.setHeapUsed s₂.heap s₂.slotsUsed).setVm hW'.alike, X.tail, State.WarmedH.trans X.warmed hW', X.limits, X.bytes, X.same.trans (hsame.setVm s.vm)⟩,
      ⟨g, mk, s₂, L, E, ce, rfl, rfl, hx, hce, hcv, hcl, rfl, hL, rfl, rfl⟩, ?_⟩
    show Steps p.tables e below _ (((({ U with heap := s₂.heap, slotsUsed := s₂.slotsUsed } : State).setVm s₂.vm).setTop g).pushFrame (.throwing q))
    rw [← hs₂]
    exact hsteps
end
variable {p : Program} {l : Launch} {e : Env} {R : Room} {s : State} {m : MethodId} {args : Array Value} {below : List Frame} {meth : Method} {c : Code} {T : State} {H : Heap} {locs : List Loc} {cells slots : Nat}
theorem vx_callVX (X : Stand p l e R s m args below meth c T locs cells slots) (hexec : p.tables.exec = Jvm.exec) {own C : String} {index : Nat} {y : MethodName} {bytes : ByteArray} {maxL : Nat} {ret : Option FieldType} {hh : List (Nat × Nat × Nat × Nat)}
    (hown : s.vm.findClass own = some m.cls) (hlink : (Cond.methodLink own index y).before args s = true) (hinst : (Cond.instanceMethod y).before args s = true) (hsel : (Cond.selects C y y).before args s = true)
    (hcode : (Cond.codeWith y bytes maxL ret hh).before args s = true) (hy : y.cls ≠ "java/lang/invoke/MethodHandle" ∧ y.cls ≠ "java/lang/invoke/VarHandle")
    {W9 : Nat} {Pre : Pt → Array Value → Prop} {Post : Pt → Array Value → Option Value → Pt → Prop} {PostX : Pt → Array Value → Addr → Pt → Prop} (hK : vx_Back l R p e below s args y 3 W9 Pre Post PostX)
    {b : Addr} {cellB : Cell} (hcell : T.heap[b]? = some cellB) (hobj : cellB.vm.isStatics = false) (hcls : s.vm.findClass C = some cellB.cls)
    {g : JFrame} (hg : g.method = m) (hsize : g.locals.size = c.maxLocals) {argsL rest : List Value} (hlen : ∀ sig, parseMethodDescriptor y.desc = some sig → argsL.length = sig.parameters.length)
    (hstack : g.stack = argsL.reverse ++ .ref b :: rest) (hW : 2 * g.monitorRoom + (rest.map fun v => v.category).sum ≤ W9) (hdg : decode c.code g.pc = .ok (.invokevirtual index, 3))
    (hpre : ∀ vm₁, s.WarmedH vm₁ → Pre ⟨T.setVm vm₁, locs, cells, slots⟩ (Value.ref b :: argsL).toArray) :
    (∃ (v : Option Value) (vm₁ : Vm) (B : Pt), s.WarmedH vm₁ ∧ Stand p l e R s m args below meth c B.U B.locs B.cells B.slots ∧ Post ⟨T.setVm vm₁, locs, cells, slots⟩ (Value.ref b :: argsL).toArray v B ∧
      ∀ target, Steps p.tables e below (B.U.setTop { g with pc := g.pc + 3, stack := v.toList ++ rest }) target → Steps p.tables e below (T.setTop g) target) ∨
    (∃ (q : Addr) (vm₁ : Vm) (B : Pt), s.WarmedH vm₁ ∧ Stand p l e R s m args below meth c B.U B.locs B.cells B.slots ∧ PostX ⟨T.setVm vm₁, locs, cells, slots⟩ (Value.ref b :: argsL).toArray q B ∧
      Steps p.tables e below (T.setTop g) ((B.U.setTop { g with stack := rest }).pushFrame (.throwing q))) := by
  obtain ⟨mk, methM, hnamed, hmethM, hstM, habM⟩ := Cond.instanceMethod_spec hinst
  obtain ⟨m8, methM', cM, hn8, hmethM', -, -, -, -, -, -, hsigM⟩ := Cond.codeWith_spec hcode
  cases Option.some.inj (hn8.symm.trans hnamed)
  cases hmethM.symm.trans hmethM'
  obtain ⟨c2, r2, m2, q1, q2, q3, q4, kP, hkP, hkPi⟩ := Cond.selects_spec hsel
  cases hcls.symm.trans q1
  cases (State.methodFound?_of_named hnamed hy).symm.trans q2
  cases hnamed.symm.trans q3
  have hselP : selectMethod e.platform s.vm cellB.cls mk = .method mk := by rw [Launch.admits_selectMethod X.admits]; exact q4
  obtain ⟨vm₁, X₁, hstep₁⟩ := X.invokevirtual hexec hown hlink hnamed hmethM hstM hkP hkPi hy (a := b) (cell := cellB) hcell
    (fun z h => by rw [h] at hobj; cases hobj) hselP hmethM habM hkP hkPi (g := g) hg (argsL := argsL) (rest := rest) (hlen _ hsigM) hstack hdg
  rcases hK m meth c ⟨T.setVm vm₁, locs, cells, slots⟩ { g with stack := rest } (.invokevirtual index) mk (Value.ref b :: argsL).toArray X₁ hg hsize hdg hW (X₁.named hnamed) (hpre vm₁ X₁.warmed) with ⟨v, B, X', hpost, hsteps⟩ | ⟨q, B, X', hpost, hsteps⟩
  · exact Or.inl ⟨v, vm₁, B, X₁.warmed, X', hpost, fun target h => hstep₁ _ fun acts => by rw [doInvoke_state]; exact hsteps.trans h⟩
  · exact Or.inr ⟨q, vm₁, B, X₁.warmed, X', hpost, hstep₁ _ fun acts => by rw [doInvoke_state]; exact hsteps⟩
theorem vx_callSX (X : Stand p l e R s m args below meth c T locs cells slots) (hexec : p.tables.exec = Jvm.exec) {own : String} {index : Nat} {y : MethodName} {bytes : ByteArray} {maxL : Nat} {ret : Option FieldType} {hh : List (Nat × Nat × Nat × Nat)}
    (hown : s.vm.findClass own = some m.cls) (hlink : (Cond.methodLink own index y).before args s = true) (hstat : (Cond.static y).before args s = true) (hinit : (Cond.initialized y.cls).before args s = true)
    (hcode : (Cond.codeWith y bytes maxL ret hh).before args s = true) (hy : y.cls ≠ "java/lang/invoke/MethodHandle" ∧ y.cls ≠ "java/lang/invoke/VarHandle")
    {W9 : Nat} {Pre : Pt → Array Value → Prop} {Post : Pt → Array Value → Option Value → Pt → Prop} {PostX : Pt → Array Value → Addr → Pt → Prop} (hK : vx_Back l R p e below s args y 3 W9 Pre Post PostX)
    {g : JFrame} (hg : g.method = m) (hsize : g.locals.size = c.maxLocals) {argsL rest : List Value} (hlen : ∀ sig, parseMethodDescriptor y.desc = some sig → argsL.length = sig.parameters.length)
    (hstack : g.stack = argsL.reverse ++ rest) (hW : 2 * g.monitorRoom + (rest.map fun v => v.category).sum ≤ W9) (hdg : decode c.code g.pc = .ok (.invokestatic index, 3))
    (hpre : ∀ vm₁, s.WarmedH vm₁ → Pre ⟨T.setVm vm₁, locs, cells, slots⟩ argsL.toArray) :
    (∃ (v : Option Value) (vm₁ : Vm) (B : Pt), s.WarmedH vm₁ ∧ Stand p l e R s m args below meth c B.U B.locs B.cells B.slots ∧ Post ⟨T.setVm vm₁, locs, cells, slots⟩ argsL.toArray v B ∧
      ∀ target, Steps p.tables e below (B.U.setTop { g with pc := g.pc + 3, stack := v.toList ++ rest }) target → Steps p.tables e below (T.setTop g) target) ∨
    (∃ (q : Addr) (vm₁ : Vm) (B : Pt), s.WarmedH vm₁ ∧ Stand p l e R s m args below meth c B.U B.locs B.cells B.slots ∧ PostX ⟨T.setVm vm₁, locs, cells, slots⟩ argsL.toArray q B ∧
      Steps p.tables e below (T.setTop g) ((B.U.setTop { g with stack := rest }).pushFrame (.throwing q))) := by
  obtain ⟨mk, methM, cM, hnamed, hmethM, -, -, -, -, -, -, hsigM⟩ := Cond.codeWith_spec hcode
  have hstatic : methM.isStatic = true := Cond.static_spec hnamed hmethM hstat
  obtain ⟨kP, hkP, -⟩ := className_of_methodNamed hnamed
  have hinitP : kP.init = .initialized := Cond.initialized_spec (findClass_of_methodNamed hnamed) hkP hinit
  obtain ⟨vm₁, X₁, hstep₁⟩ := X.invokestatic hexec hown hlink hnamed hmethM hstatic hkP hinitP hy (g := g) hg (argsL := argsL) (rest := rest) (hlen _ hsigM) hstack hdg
  rcases hK m meth c ⟨T.setVm vm₁, locs, cells, slots⟩ { g with stack := rest } (.invokestatic index) mk argsL.toArray X₁ hg hsize hdg hW (X₁.named hnamed) (hpre vm₁ X₁.warmed) with ⟨v, B, X', hpost, hsteps⟩ | ⟨q, B, X', hpost, hsteps⟩
  · exact Or.inl ⟨v, vm₁, B, X₁.warmed, X', hpost, fun target h => hstep₁ _ fun acts => by rw [doInvoke_state]; exact hsteps.trans h⟩
  · exact Or.inr ⟨q, vm₁, B, X₁.warmed, X', hpost, hstep₁ _ fun acts => by rw [doInvoke_state]; exact hsteps⟩
theorem vx_callVW (X : Stand p l e R s m args below meth c T locs cells slots) (hexec : p.tables.exec = Jvm.exec) {own C : String} {index : Nat} {y : MethodName} {bytes : ByteArray} {maxL : Nat} {ret : Option FieldType} {hh : List (Nat × Nat × Nat × Nat)}
    (hown : s.vm.findClass own = some m.cls) (hlink : (Cond.methodLink own index y).before args s = true) (hinst : (Cond.instanceMethod y).before args s = true) (hsel : (Cond.selects C y y).before args s = true)
    (hcode : (Cond.codeWith y bytes maxL ret hh).before args s = true) (hy : y.cls ≠ "java/lang/invoke/MethodHandle" ∧ y.cls ≠ "java/lang/invoke/VarHandle")
    {W9 : Nat} {Pre : Pt → Array Value → Prop} {Post : Pt → Array Value → Option Value → Pt → Prop} (hK : Back l R p e below s args y 3 W9 Pre Post)
    {b : Addr} {cellB : Cell} (hcell : T.heap[b]? = some cellB) (hobj : cellB.vm.isStatics = false) (hcls : s.vm.findClass C = some cellB.cls)
    {g : JFrame} (hg : g.method = m) (hsize : g.locals.size = c.maxLocals) {argsL rest : List Value} (hlen : ∀ sig, parseMethodDescriptor y.desc = some sig → argsL.length = sig.parameters.length)
    (hstack : g.stack = argsL.reverse ++ .ref b :: rest) (hW : 2 * g.monitorRoom + (rest.map fun v => v.category).sum ≤ W9) (hdg : decode c.code g.pc = .ok (.invokevirtual index, 3))
    (hpre : ∀ vm₁, s.WarmedH vm₁ → Pre ⟨T.setVm vm₁, locs, cells, slots⟩ (Value.ref b :: argsL).toArray) :
    ∃ (v : Option Value) (vm₁ : Vm) (B : Pt), s.WarmedH vm₁ ∧ Stand p l e R s m args below meth c B.U B.locs B.cells B.slots ∧ Post ⟨T.setVm vm₁, locs, cells, slots⟩ (Value.ref b :: argsL).toArray v B ∧
      ∀ target, Steps p.tables e below (B.U.setTop { g with pc := g.pc + 3, stack := v.toList ++ rest }) target → Steps p.tables e below (T.setTop g) target := by
  obtain ⟨mk, methM, hnamed, hmethM, hstM, habM⟩ := Cond.instanceMethod_spec hinst
  obtain ⟨m8, methM', cM, hn8, hmethM', -, -, -, -, -, -, hsigM⟩ := Cond.codeWith_spec hcode
  cases Option.some.inj (hn8.symm.trans hnamed)
  cases hmethM.symm.trans hmethM'
  obtain ⟨c2, r2, m2, q1, q2, q3, q4, kP, hkP, hkPi⟩ := Cond.selects_spec hsel
  cases hcls.symm.trans q1
  cases (State.methodFound?_of_named hnamed hy).symm.trans q2
  cases hnamed.symm.trans q3
  have hselP : selectMethod e.platform s.vm cellB.cls mk = .method mk := by rw [Launch.admits_selectMethod X.admits]; exact q4
  obtain ⟨vm₁, X₁, hstep₁⟩ := X.invokevirtual hexec hown hlink hnamed hmethM hstM hkP hkPi hy (a := b) (cell := cellB) hcell
    (fun z h => by rw [h] at hobj; cases hobj) hselP hmethM habM hkP hkPi (g := g) hg (argsL := argsL) (rest := rest) (hlen _ hsigM) hstack hdg
  obtain ⟨v, B, X', hpost, hsteps⟩ := hK m meth c ⟨T.setVm vm₁, locs, cells, slots⟩ { g with stack := rest } (.invokevirtual index) mk (Value.ref b :: argsL).toArray X₁ hg hsize hdg hW (X₁.named hnamed) (hpre vm₁ X₁.warmed)
  exact ⟨v, vm₁, B, X₁.warmed, X', hpost, fun target h => hstep₁ _ fun acts => by rw [doInvoke_state]; exact hsteps.trans h⟩
abbrev vx_CVW (R : Room) (s : State) (args : Array Value) (own C : String) (index : Nat) (y : MethodName) (bytes : ByteArray) (maxL : Nat) (ret : Option FieldType) (hh : List (Nat × Nat × Nat × Nat)) (ws : List Cond) (rm : Room) (mc ms n : Nat) : Prop :=
  (rm.cells = mc ∧ rm.slots = ms ∧ rm.frames + 1 ≤ R.frames ∧ 8 + (maxL + 11) + rm.locals ≤ R.locals ∧ (∀ w ∈ ws, ∀ (a' : Array Value) (U : State), s.WarmedH U.vm → w.before a' U = true) ∧ Cond.codeWith y bytes maxL ret hh ∈ ws) ∧
  (Cond.codeWith y bytes maxL ret hh).before args s = true ∧ (Cond.initialized y.cls).before args s = true ∧ (y.cls ≠ "java/lang/invoke/MethodHandle" ∧ y.cls ≠ "java/lang/invoke/VarHandle") ∧
  (∀ sig, parseMethodDescriptor y.desc = some sig → n = sig.parameters.length) ∧ (Cond.methodLink own index y).before args s = true ∧ (Cond.instanceMethod y).before args s = true ∧ (Cond.selects C y y).before args s = true
theorem vx_cwVW {own C : String} {index maxL mc ms : Nat} {y : MethodName} {bytes : ByteArray} {ret : Option FieldType} {hh : List (Nat × Nat × Nat × Nat)} {Ts ws ws' : List Cond} {rm : Room} (n : Nat) (ht : ∀ w ∈ Ts, w.before args s = true) (hT : GoodIn Ts (wsV own index C y ws)) (hw : ws = Cond.codeWith y bytes maxL ret hh :: ws') (hrc : rm.cells = mc) (hrs : rm.slots = ms)
    (hd : y.cls = C ∧ y.cls ≠ "java/lang/invoke/MethodHandle" ∧ y.cls ≠ "java/lang/invoke/VarHandle" ∧ (parseMethodDescriptor y.desc).map (fun d => d.parameters.length) = some n) (hR : rm.frames + 1 ≤ R.frames ∧ 8 + (maxL + 11) + rm.locals ≤ R.locals) :
    vx_CVW R s args own C index y bytes maxL ret hh ws rm mc ms n := by
  obtain ⟨hC, hd⟩ := hd
  subst hC
  have ok : ∀ w ∈ wsV own index y.cls y ws, w.before args s = true := fun w h => ht w (hT w h).1
  have hG : GoodIn Ts ws := fun w h => hT w (by unfold wsV; exact List.mem_append_right _ h)
  have hc : Cond.codeWith y bytes maxL ret hh ∈ ws := by rw [hw]; exact List.mem_cons_self
  refine ⟨⟨hrc, hrs, hR.1, hR.2, pay_in ht hG, hc⟩, ht _ (hG _ hc).1, ok _ (by simp [wsV]), ⟨hd.1, hd.2.1⟩, fun sig h => ?_, ok _ (by simp [wsV]), ok _ (by simp [wsV]), ok _ (by simp [wsV])⟩
  have h2 := hd.2.2
  rw [h] at h2
  exact (Option.some.inj h2).symm
theorem vx_runVW {y : MethodName} {bytes cc : ByteArray} {maxL nL mc ms n index : Nat} {ret : Option FieldType} {hh : List (Nat × Nat × Nat × Nat)} {ws : List Cond} {rm : Room} {Pc : Array Value → State → Prop} {Qc : Array Value → State → Outcome → State → Prop} {free : Addr → Prop} {Ts : List Cond} {own C : String} {b : Addr} {As rest : List Value} {g : JFrame}
    (S : CallFix p m c cc nL s args Ts own) (hM : Met l y ws rm Pc Qc mc ms free) (cw : vx_CVW R s args own C index y bytes maxL ret hh ws rm mc ms n) (hp : PreV s H C b Pc As)
    (hg : g.method = m) (hn : As.length = n) (hsize : g.locals.size = nL) (hstack : g.stack = As.reverse ++ .ref b :: rest) (hW : 2 * g.monitorRoom + (rest.map fun v => v.category).sum ≤ 8) (hdg : decode cc g.pc = .ok (.invokevirtual index, 3)) (hf : cells + mc ≤ R.cells ∧ slots + ms ≤ R.slots) :
    va_Run p l e R s m args below meth c H locs cells slots mc ms g rest (Qc (Value.ref b :: As).toArray) free := by
  obtain ⟨⟨hrc, hrs, hfr, hlo, hws, hcw⟩, hcode, hini, hy, hlen, hl, hin, hse⟩ := cw
  have hK : Back l R p e below s args y 3 8 (PreOf R mc ms Pc) (PostOf Qc mc ms free) := va_backW (hh := hh) (bytes := bytes) (maxL := maxL) (ret := ret) hM hp.1 hrc hrs hfr hlo hws hcw (fun a' U hW => word_at hW (Or.inl (by first | rfl | simp [Cond.onTables, Cond.keeps, Cond.steady])) hini)
  obtain ⟨hx, hb, hml, ho, -⟩ := S
  obtain ⟨-, ⟨cellB, hcB, hoB, hclB⟩, hPc⟩ := hp
  intro T hT X
  obtain ⟨v, vm₁, ⟨U', l2, c2, s2⟩, hW₁, X', ⟨g', mk, t, L, e1, e2, hq, h1, hL, h2, h3⟩, st⟩ := vx_callVW X hx (C := C) (hh := hh) (bytes := bytes) (maxL := maxL) (ret := ret) ho hl hin hse hcode hy hK (by rw [hT]; exact hcB) hoB hclB hg (hsize.trans hml.symm) (argsL := As) (rest := rest) (fun sig h => hn.trans (hlen sig h)) hstack hW (by rw [hb]; exact hdg)
    (fun vm₁ hW₁ => ⟨hf.1, hf.2, hPc (T.setVm vm₁) hT hW₁⟩)
  dsimp only [Pt.U, Pt.locs, Pt.cells, Pt.slots] at X' e1 e2 h1 h2 h3 st
  subst h1; subst h2; subst h3
  exact ⟨v, (T.setVm vm₁).calling g' mk (Value.ref b :: As).toArray, t, U', L, hT, X', hL, e1, e2, hq, st⟩
section
variable {y : MethodName} {bytes cc : ByteArray} {maxL nL mc ms n index : Nat} {ret : Option FieldType} {ws : List Cond} {rm : Room} {Pc : Array Value → State → Prop} {Qc : Array Value → State → Outcome → State → Prop} {XC : String → State → State → Prop} {free : Addr → Prop} {Ts : List Cond} {own C : String} {b : Addr} {As rest : List Value} {g : JFrame}
theorem vx_runVX {hh : List (Nat × Nat × Nat × Nat)} (S : CallFix p m c cc nL s args Ts own) (hM : vx_Met l y ws rm Pc Qc XC mc ms free) (cw : vx_CVW R s args own C index y bytes maxL ret hh ws rm mc ms n) (hp : PreV s H C b Pc As)
    (hg : g.method = m) (hn : As.length = n) (hsize : g.locals.size = nL) (hstack : g.stack = As.reverse ++ .ref b :: rest) (hW : 2 * g.monitorRoom + (rest.map fun v => v.category).sum ≤ 8) (hdg : decode cc g.pc = .ok (.invokevirtual index, 3)) (hf : cells + mc ≤ R.cells ∧ slots + ms ≤ R.slots) :
    vx_Run p l e R s m args below meth c H locs cells slots mc ms g rest (Qc (Value.ref b :: As).toArray) XC free := by
  obtain ⟨⟨hrc, hrs, hfr, hlo, hws, hcw⟩, hcode, hini, hy, hlen, hl, hin, hse⟩ := cw
  have hK : vx_Back l R p e below s args y 3 8 (PreOf R mc ms Pc) (PostOf Qc mc ms free) (vx_Post XC mc ms free) := vx_backW (hh := hh) (bytes := bytes) (maxL := maxL) (ret := ret) hM hp.1 hrc hrs hfr hlo hws hcw (fun a' U hW => word_at hW (Or.inl (by first | rfl | simp [Cond.onTables, Cond.keeps, Cond.steady])) hini)
  obtain ⟨hx, hb, hml, ho, -⟩ := S
  obtain ⟨-, ⟨cellB, hcB, hoB, hclB⟩, hPc⟩ := hp
  intro T hT X
  rcases vx_callVX X hx (C := C) (hh := hh) (bytes := bytes) (maxL := maxL) (ret := ret) ho hl hin hse hcode hy hK (by rw [hT]; exact hcB) hoB hclB hg (hsize.trans hml.symm) (argsL := As) (rest := rest) (fun sig h => hn.trans (hlen sig h)) hstack hW (by rw [hb]; exact hdg)
    (fun vm₁ hW₁ => ⟨hf.1, hf.2, hPc (T.setVm vm₁) hT hW₁⟩) with ⟨v, vm₁, ⟨U', l2, c2, s2⟩, hW₁, X', ⟨g', mk, t, L, e1, e2, hq, h1, hL, h2, h3⟩, st⟩ | ⟨q, vm₁, ⟨U', l2, c2, s2⟩, hW₁, X', ⟨g', mk, t, L, E, ce, e1, e2, hq, hce, hcv, hcl, h1, hL, h2, h3⟩, st⟩
  · dsimp only [Pt.U, Pt.locs, Pt.cells, Pt.slots] at X' e1 e2 h1 h2 h3 st
    subst h1; subst h2; subst h3
    exact Or.inl ⟨v, (T.setVm vm₁).calling g' mk (Value.ref b :: As).toArray, t, U', L, hT, X', hL, e1, e2, hq, st⟩
  · dsimp only [Pt.U, Pt.locs, Pt.cells, Pt.slots] at X' e1 e2 h1 h2 h3 st hcl
    subst h1; subst h2; subst h3
    exact Or.inr ⟨q, (T.setVm vm₁).calling g' mk (Value.ref b :: As).toArray, t, U', L, E, ce, hT, X', hL, e1, e2, hq, hce, hcv, vx_cls hW₁ hcl, st⟩
theorem vx_runSX {hh : List (Nat × Nat × Nat × Nat)} (S : CallFix p m c cc nL s args Ts own) (hM : vx_Met l y ws rm Pc Qc XC mc ms free) (cw : vx_CSW R s args own index y bytes maxL ret hh ws rm mc ms n) (hp : PreS s H Pc As)
    (hg : g.method = m) (hn : As.length = n) (hsize : g.locals.size = nL) (hstack : g.stack = As.reverse ++ rest) (hW : 2 * g.monitorRoom + (rest.map fun v => v.category).sum ≤ 8) (hdg : decode cc g.pc = .ok (.invokestatic index, 3)) (hf : cells + mc ≤ R.cells ∧ slots + ms ≤ R.slots) :
    vx_Run p l e R s m args below meth c H locs cells slots mc ms g rest (Qc As.toArray) XC free := by
  obtain ⟨⟨hrc, hrs, hfr, hlo, hws, hcw⟩, hcode, hini, hy, hlen, hl, hstt⟩ := cw
  have hK : vx_Back l R p e below s args y 3 8 (PreOf R mc ms Pc) (PostOf Qc mc ms free) (vx_Post XC mc ms free) := vx_backW (hh := hh) (bytes := bytes) (maxL := maxL) (ret := ret) hM hp.1 hrc hrs hfr hlo hws hcw (fun a' U hW => word_at hW (Or.inl (by first | rfl | simp [Cond.onTables, Cond.keeps, Cond.steady])) hini)
  obtain ⟨hx, hb, hml, ho, -⟩ := S
  intro T hT X
  rcases vx_callSX X hx (hh := hh) (bytes := bytes) (maxL := maxL) (ret := ret) ho hl hstt hini hcode hy hK hg (hsize.trans hml.symm) (argsL := As) (rest := rest) (fun sig h => hn.trans (hlen sig h)) hstack hW (by rw [hb]; exact hdg)
    (fun vm₁ hW₁ => ⟨hf.1, hf.2, hp.2 (T.setVm vm₁) hT hW₁⟩) with ⟨v, vm₁, ⟨U', l2, c2, s2⟩, hW₁, X', ⟨g', mk, t, L, e1, e2, hq, h1, hL, h2, h3⟩, st⟩ | ⟨q, vm₁, ⟨U', l2, c2, s2⟩, hW₁, X', ⟨g', mk, t, L, E, ce, e1, e2, hq, hce, hcv, hcl, h1, hL, h2, h3⟩, st⟩
  · dsimp only [Pt.U, Pt.locs, Pt.cells, Pt.slots] at X' e1 e2 h1 h2 h3 st
    subst h1; subst h2; subst h3
    exact Or.inl ⟨v, (T.setVm vm₁).calling g' mk As.toArray, t, U', L, hT, X', hL, e1, e2, hq, st⟩
  · dsimp only [Pt.U, Pt.locs, Pt.cells, Pt.slots] at X' e1 e2 h1 h2 h3 st hcl
    subst h1; subst h2; subst h3
    exact Or.inr ⟨q, (T.setVm vm₁).calling g' mk As.toArray, t, U', L, E, ce, hT, X', hL, e1, e2, hq, hce, hcv, vx_cls hW₁ hcl, st⟩
end
end VXH
theorem vx_ofWH {l : Launch} {y : MethodName} {ws ws' : List Cond} {rm : Room} {Pc : Array Value → State → Prop} {Qc : Array Value → State → Outcome → State → Prop} {XC : String → State → State → Prop} {mc ms : Nat} {free : Addr → Prop} {cc : ByteArray} {maxL : Nat} {ret : Option FieldType} {hh : List (Nat × Nat × Nat × Nat)}
    (hy : plainName y.cls = true) (hw : ws = Cond.codeWith y cc maxL ret hh :: ws')
    (body : ∀ p e s m args below meth c s₁, BodyLoose p l y (headSpec ws rm) cc maxL ret e s m args below meth c s₁ → c.maxLocals = maxL → Pc args s →
      W p l e (headSpec ws rm).room s m args below meth c s.heap [] 0 0 (vx_MQ below Qc XC args s mc ms free) (entryFrame m args maxL)) : vx_Met l y ws rm Pc Qc XC mc ms free := by
  refine MetFree.of_bodyS (code := cc) (maxLocals := maxL) (ret := ret) hy ?_ ?_
  · intro args s m h hn
    obtain ⟨m9, meth, c, hn9, h1, h2, h3, h4, -, h5, h6, -⟩ := Cond.codeWith_spec (atoms_spec (ws := ws) h _ (by rw [hw]; exact List.mem_cons_self))
    cases hn.symm.trans hn9
    exact ⟨meth, c, h1, h2, h3, h4, h5, h6⟩
  · intro p e s m args below meth c s₁ B hml hP _
    have hh0 : s₁.heap = s.heap := by rw [B.state]; rfl
    obtain ⟨t, a1, o, b1, b2, b3⟩ := body p e s m args below meth c s₁ B hml hP s₁ hh0 (Stand.of_body B)
    exact ⟨t, o, a1, b1, b2, b3⟩
/-! ===== END ===== -/

/-! ===== BEGIN what the machine throws by itself, no traces kept ===== -/
section VXM
set_option maxHeartbeats 1000000 in
/-- the machine throws cls with the message text, no traces kept: from its note over the frame g to 'throwing' over the same frame (follows the proofs of Stand.vmThrowsMessage, Shelf/KitTracedVmS.lean, and Stand.throwsMessageColdBareV, StandMessageColdV.lean, without the step out of the frame) -/
theorem vx_vmAt {p : Program} {l : Launch} {e : Env} {R : Room} {s : State} {m₀ : MethodId} {args : Array Value} {below : List Frame} {meth : Method} {c : Code} {W : State} {locs : List Loc} {cells slots : Nat}
    (X : Stand p l e R s m₀ args below meth c W locs cells slots) (hexec : p.tables.exec = Jvm.exec) (htr : e.platform.stackTraces = false) {cls : String} {names : List String} {text : String}
    (hcls : Bundle.fit cls = true) (hnames : ∀ n ∈ names, Bundle.fit n = true) (hsoe : (cls == "java/lang/StackOverflowError") = false) (hoom : (cls == "java/lang/OutOfMemoryError") = false)
    (h : ∀ a ∈ Bundle.messageArmAtoms cls names, a.before args s = true)
    (hlocs : ∀ x ∈ locs, ∀ cell, s.heap[x.base]? = some cell → cell.vm.isStatics = false)
    (htext : (text == notModelled) = false) (hlimit : ¬ (stringBytes (stringToUtf16 text)).size > e.platform.arrayLengthLimit) (hheap : ¬ (stringBytes (stringToUtf16 text)).size * componentBytes .byte > e.platform.maxHeapBytes)
    {g : JFrame} (hg : g.method = m₀) (hsize : g.locals.size = c.maxLocals)
    (hRframes : names.length + 4 < R.frames) (hRlocals : 2 * g.monitorRoom + (g.stack.map fun v => v.category).sum + 10240 ≤ R.locals) (hshort : 13 * names.length + 55 ≤ 10240)
    (hRcells : cells + 3 ≤ R.cells) (hRslots : slots + ((stringBytes (stringToUtf16 text)).size + 4 + 6) ≤ R.slots) (hlocks : meth.locks = false) :
    ∃ (S : State) (q : Addr) (ce : Cell), (∀ target, Steps p.tables e below ((S.setTop g).pushFrame (.throwing q)) target → Steps p.tables e below ((W.setTop g).pushFrame (.throwNew cls (some text) none)) target) ∧
      Stand p l e R s m₀ args below meth c S locs (cells + 3) (slots + ((stringBytes (stringToUtf16 text)).size + 4 + 6)) ∧ S.heap[q]? = some ce ∧ s.vm.findClass cls = some ce.cls ∧ ce.vm = .none := by
  have howns : e.platform.frameOwnsMonitors = true := by rw [X.admits.platform]
  have hfin : e.platform.finalization = false := by rw [X.admits.platform]
  have hpl : e.platform.magicAccessors = ({} : Platform).magicAccessors := by rw [X.admits.platform]
  have a : ∀ x, x ∈ Bundle.messageArmAtoms cls names → x.holds args s none s [] = true := fun x hx => h x hx
  obtain ⟨T, Z0, L, -, Y⟩ := ThrowableC.of_atoms (args := args) howns hfin hpl (fun x hx => h x (by simp [Bundle.messageArmAtoms, hx]))
  obtain ⟨Z, M, LZ, LM, hnZ⟩ := Init0T.ofS_atoms (args := args) hpl L Y (fun x hx => h x (by simp [Bundle.messageArmAtoms, hx]))
  obtain ⟨P1, Ps, hlen, L1, hL, hP1m, hlink1, hlink⟩ := Bundle.chainS (args := args) hpl hnZ names cls hcls hnames (fun x hx => h x (by simp [Bundle.messageArmAtoms, hx]))
  obtain ⟨Zs, LZs, hn4, hfitv, hfitc⟩ := StringT.of_atoms (args := args) (fun x hx => h x (by simp [Bundle.messageArmAtoms, hx]))
  have hfound : s.vm.findClass cls = some P1.m.cls := findClass_of_methodNamed hP1m
  obtain ⟨c1, kX, hc1, hk, hord, -, -, hn6⟩ := Cond.instantiable_spec (a (.instantiable cls 6) (by simp [Bundle.messageArmAtoms]))
  cases Option.some.inj (hc1.symm.trans hfound)
  have hinit := Cond.initialized_spec hfound hk (a (.initialized cls) (by simp [Bundle.messageArmAtoms]))
  have hctor : kX.findMethod "<init>" "(Ljava/lang/String;)V" = some P1.m.idx := findMethod_of_methodNamed hP1m hk
  have hsel0 : selectMethod e.platform s.vm P1.m.cls T.fill0 = .method T.fill0 := by
    obtain ⟨c2, r2, m2, q1, q2, q3, q4, -⟩ := Cond.selects_spec (a (.selects cls Bundle.tFill0 Bundle.tFill0) (by simp [Bundle.messageArmAtoms]))
    cases Option.some.inj (q1.symm.trans hfound)
    cases Option.some.inj (q2.symm.trans (State.methodFound?_of_named Y.fill0 (by decide)))
    cases Option.some.inj (q3.symm.trans Y.fill0)
    rw [Launch.admits_selectMethod X.admits]; exact q4
  have hselF : selectMethod e.platform s.vm P1.m.cls T.fill = .method T.fill := by
    obtain ⟨c2, r2, m2, q1, q2, q3, q4, -⟩ := Cond.selects_spec (a (.selects cls Bundle.tFill Bundle.tFill) (by simp [Bundle.messageArmAtoms]))
    cases Option.some.inj (q1.symm.trans hfound)
    cases Option.some.inj (q2.symm.trans (State.methodFound?_of_named Y.fill (by decide)))
    cases Option.some.inj (q3.symm.trans Y.fill)
    rw [Launch.admits_selectMethod X.admits]; exact q4
  obtain ⟨cellS0, hcS0, hiss⟩ := Y.statics
  obtain ⟨u0, hu0⟩ := Cond.staticRefV Y.unassigned L.unassignedStatic L.statics hcS0 hiss (a (.isRef (.static Bundle.tN "UNASSIGNED_STACK" Bundle.steD)) (by simp [Bundle.messageArmAtoms]))
  obtain ⟨sen, hsen⟩ := Cond.staticRefV Y.sentinel L.sentinelStatic L.statics hcS0 hiss (a (.isRef (.static Bundle.tN "SUPPRESSED_SENTINEL" Bundle.listD)) (by simp [Bundle.messageArmAtoms]))
  obtain ⟨ci198, i198, fB, hk198, hg198, ha198, hsB, -, hnB, htB, hffB⟩ := Cond.ownField (t := .object "java/lang/Object") Y.found L.cls (by decide +kernel) (a (.fieldLink Bundle.tN 198 Bundle.tN "backtrace" "Ljava/lang/Object;") (by simp [Bundle.messageArmAtoms])) (a (.lays Bundle.tN Bundle.tN "backtrace" "Ljava/lang/Object;") (by simp [Bundle.messageArmAtoms])) e.platform hpl
  obtain ⟨cellS, hcS', heS, -, hkeep⟩ := X.same.2.2.2.2.2 T.aS cellS0 hcS0
  have hcellS : W.heap[T.aS]? = some cellS := hcS'
  have hout' : ∀ i, (⟨T.aS, i⟩ : Loc) ∉ locs := fun i hmem => by
    have := hlocs _ hmem cellS0 hcS0
    rw [hiss] at this; cases this
  have hknownS : cellS.vm ≠ .unknown := by
    rw [heS]; intro hu
    rw [show cellS0.vm = .unknown from hu] at hiss
    cases hiss
  have hvU : cellS.slots[T.fUnassigned.slot]? = some u0.v := by rw [hkeep _ (hout' _)]; exact hu0
  have hvSen : cellS.slots[T.fSentinel.slot]? = some sen.v := by rw [hkeep _ (hout' _)]; exact hsen
  obtain ⟨iM, hffM⟩ := Y.msg
  obtain ⟨tyC, dC, hdC, hdnC⟩ := Cond.laysAt hfound hk Y.cause (a (.lays cls Bundle.tN "cause" "Ljava/lang/Throwable;") (by simp [Bundle.messageArmAtoms]))
  obtain ⟨tyS, dS, hdS, hdnS⟩ := Cond.laysAt hfound hk Y.stack (a (.lays cls Bundle.tN "stackTrace" Bundle.steD) (by simp [Bundle.messageArmAtoms]))
  obtain ⟨tyP, dP, hdP, hdnP⟩ := Cond.laysAt hfound hk Y.supp (a (.lays cls Bundle.tN "suppressedExceptions" Bundle.listD) (by simp [Bundle.messageArmAtoms]))
  obtain ⟨tyM, dM, hdM, hdnM⟩ := Cond.laysAt hfound hk hffM (a (.lays cls Bundle.tN "detailMessage" "Ljava/lang/String;") (by simp [Bundle.messageArmAtoms]))
  obtain ⟨tyB, dB, hdB, hdnB⟩ := Cond.laysAt hfound hk hffB (a (.lays cls Bundle.tN "backtrace" "Ljava/lang/Object;") (by simp [Bundle.messageArmAtoms]))
  have bC := Cond.laysApart hdB hdC hdnB hdnC (by rw [hnB, Y.causeName]; decide)
  have bS := Cond.laysApart hdB hdS hdnB hdnS (by rw [hnB, Y.stackName]; decide)
  have bP := Cond.laysApart hdB hdP hdnB hdnP (by rw [hnB, Y.suppName]; decide)
  have hbk : ((preparedCellV T.toThrowableT (freshCell P1.m.cls kX) (W.heap.size + 2) u0 sen).withEntry W.cur).slots[fB.slot]? = some .null := by
    have := fresh_default (c := P1.m.cls) tyB
    rw [htB] at this
    simpa [preparedCellV, Cell.setSlot, Cell.withEntry, Array.getElem?_setIfInBounds, bC, bS, bP, bC.symm, bS.symm, bP.symm, defaultValue] using this
  have tkC := Takes.of_laid (v := .ref (W.heap.size + 2)) hk hord tyC (by rw [Y.causeType]; rfl)
  have tkS := Takes.of_laid (v := u0.v) hk hord tyS (by rw [Y.stackType]; exact fits_refV_array _ u0)
  have tkP := Takes.of_laid (v := sen.v) hk hord tyP (by rw [Y.suppType]; exact fits_refV_object _ sen)
  have tkM := Takes.of_laid (v := .ref (W.heap.size + 1)) hk hord tyM (by rw [Y.msgType]; rfl)
  have hskip : SkipFacts T e.platform s (fun u => u) u0 ((preparedCellV T.toThrowableT (freshCell P1.m.cls kX) (W.heap.size + 2) u0 sen).withEntry W.cur) := ⟨{ ci198 := ci198, i198 := i198, fBack := fB }, ⟨hk198, hg198, ha198, hsB⟩, hbk, fun _ _ => rfl⟩
  have h0 : At W g.method c below := by rw [hg]; exact X.here
  obtain ⟨hbeyond, hfreeW⟩ := X.vmMayThrow hsize (.throwNew cls (some text) none) (fun f hf => by cases hf) rfl hRlocals
  have hfr' : W.frames.length + Ps.length + 4 < (e.platform.stackLimits W.me).1 := by have := X.framesAbove hRframes; omega
  have hwd' : (stackUse (.java g :: W.frames.tail)).2 + 13 * Ps.length + 55 ≤ (e.platform.stackLimits W.me).2 := by have := X.stackAbove hsize (K := 13 * Ps.length + 55) (by omega); omega
  have hslots : W.slotsUsed + (stringBytes (stringToUtf16 text)).size + Zs.kS.instanceTypes.size + kX.instanceTypes.size ≤ e.platform.maxSlots := by
    have := X.slotsAbove hRslots
    rw [hn4, hn6]
    omega
  obtain ⟨vm', hW', st⟩ := Steps.vmThrowsMessageColdByV p (s₀ := s) (S := W) (g := g) h0 hexec T L Z LZ M LM X.warmed (t := W.cur) rfl Zs LZs P1 L1 Ps hL hlink1 hlink hsoe hoom hfound hk hinit hord hctor
    (Launch.admits_hotImplicitExceptions X.admits) hbeyond hfreeW htext hlimit hheap (X.cellsAbove hRcells) hslots (hfitv _) (hfitc _)
    (Nn := fun u => u) heapOnly_id (fun _ _ => rfl) (fun _ => rfl) (fun u x y => setCell_twice _ _ _ _) (fun _ => Nat.le_refl _) (cN := ((preparedCellV T.toThrowableT (freshCell P1.m.cls kX) (W.heap.size + 2) u0 sen).withEntry W.cur))
    hsel0 hcellS hknownS hvU tkS (fun _ hu => hu) (fun _ hu => hu) rfl rfl rfl (by simp [preparedCellV, Cell.setSlot, Cell.withEntry]) hskip (fun _ _ hA hW _ hroom _ hrest => L.nativeOff p htr hA hW hroom hrest) hselF hvSen tkC tkP tkM Y.objLocals rfl hfr' hwd'
  rw [plainBareV_eq T.toThrowableT (W.heap.size + 2) u0 sen (.ref (W.heap.size + 1)) W.cur rfl rfl] at st
  obtain ⟨-, -, w3, w4, -, -, -⟩ := withThrown_facts e.platform W Zs text P1.m.cls kX
  have X3 := ((X.pushed (bytesOf Zs.cB (stringToUtf16 text))).pushed (stringAt Zs.cS Zs.kS Zs.fv Zs.fc (stringToUtf16 text) W.heap.size)).pushed (freshCell P1.m.cls kX)
  rw [← withString_eq] at X3
  have X4 := X3.noted hW'
  have ha : (W.heap.size + 2) < ((withThrown W Zs text P1.m.cls kX).setVm vm').heap.size := by show _ < (withThrown W Zs text P1.m.cls kX).heap.size; rw [w3]; omega
  have hcell : ((withThrown W Zs text P1.m.cls kX).setVm vm').heap[(W.heap.size + 2)]? = some (freshCell P1.m.cls kX) := w4
  have X5 := ((((X4.stored hcell T.fCause.slot (.ref (W.heap.size + 2))).storedAgain ha T.fStack.slot u0.v).storedAgain ha T.fSupp.slot sen.v).storedAgain ha T.fStack.slot u0.v).storedAgain ha T.fMsg.slot (.ref (W.heap.size + 1))
  obtain ⟨g₁, hfrM⟩ := X5.frames_eq
  have hU : ((((withThrown W Zs text P1.m.cls kX).setVm vm').setCell (W.heap.size + 2) (plainBareV T.toThrowableT (freshCell P1.m.cls kX) (W.heap.size + 2) u0 sen (.ref (W.heap.size + 1)))).setTop g).pushFrame (.throwing (W.heap.size + 2)) = (((withThrown W Zs text P1.m.cls kX).setVm vm').setCell (W.heap.size + 2) (plainBareV T.toThrowableT (freshCell P1.m.cls kX) (W.heap.size + 2) u0 sen (.ref (W.heap.size + 1)))).setFrames (.throwing (W.heap.size + 2) :: .java g :: below) := by
    rw [State.pushFrame, State.frames_setTop _ hfrM, State.setTop_of_frames _ hfrM, State.setFrames_setFrames]
  have b1 : (bytesOf Zs.cB (stringToUtf16 text)).slots.size = (stringBytes (stringToUtf16 text)).size := by
    rw [(Cell.writeAll_facts _ _).2.2]; simp [bytes0]
  have b2 : (stringAt Zs.cS Zs.kS Zs.fv Zs.fc (stringToUtf16 text) W.heap.size).slots.size = 4 := by simp [string0, Cell.setSlot, hn4]
  have b3 : (freshCell P1.m.cls kX).slots.size = 6 := by simp [hn6]
  rw [b1, b2, b3] at X5
  have e9 : slots + (stringBytes (stringToUtf16 text)).size + 4 + 6 = slots + ((stringBytes (stringToUtf16 text)).size + 4 + 6) := by omega
  rw [e9] at X5
  simp only [List.append_assoc, List.cons_append, List.nil_append] at X5
  refine ⟨((withThrown W Zs text P1.m.cls kX).setVm vm').setCell (W.heap.size + 2) (plainBareV T.toThrowableT (freshCell P1.m.cls kX) (W.heap.size + 2) u0 sen (.ref (W.heap.size + 1))), W.heap.size + 2, _, fun target ht => st _ (by rw [X.tail, ← hU]; exact ht),
    X5.forget (fun y hy => ?_), heapAt_setCell_self _ ha, hfound, rfl⟩
  simp only [List.mem_cons, List.not_mem_nil, or_false] at hy
  have hge : s.heap.size ≤ W.heap.size := X.same.2.1
  rcases hy with rfl | rfl | rfl | rfl | rfl <;> exact Nat.le_trans hge (Nat.le_add_right _ 2)
set_option maxHeartbeats 1000000 in
/-- the machine throws NullPointerException, no traces kept: from its note over the frame g to 'throwing' over the same frame (follows the proof of Stand.vmThrowsNpe, Shelf42/KT2.lean; throwsNpeColdBareVAt, Shelf42/NT91.lean, called) -/
theorem vx_npeAt {p : Program} {l : Launch} {e : Env} {R : Room} {s : State} {m₀ : MethodId} {args : Array Value} {below : List Frame} {meth : Method} {c : Code} {W : State} {locs : List Loc} {cells slots : Nat}
    (X : Stand p l e R s m₀ args below meth c W locs cells slots) (hexec : p.tables.exec = Jvm.exec) (htr : e.platform.stackTraces = false) {n : Nat}
    (h : ∀ a ∈ Bundle.npeArmAtoms n, a.before args s = true)
    (hlocs : ∀ x ∈ locs, ∀ cell, s.heap[x.base]? = some cell → cell.vm.isStatics = false)
    {g : JFrame} (hg : g.method = m₀) (hsize : g.locals.size = c.maxLocals)
    (hRframes : 7 < R.frames) (hRlocals : 2 * g.monitorRoom + (g.stack.map fun v => v.category).sum + 10240 ≤ R.locals)
    (hRcells : cells + 1 ≤ R.cells) (hRslots : slots + n ≤ R.slots) (hlocks : meth.locks = false) :
    ∃ (S : State) (q : Addr) (ce : Cell), (∀ target, Steps p.tables e below ((S.setTop g).pushFrame (.throwing q)) target → Steps p.tables e below ((W.setTop g).pushFrame (.throwNew "java/lang/NullPointerException" none none)) target) ∧
      Stand p l e R s m₀ args below meth c S locs (cells + 1) (slots + n) ∧ S.heap[q]? = some ce ∧ s.vm.findClass "java/lang/NullPointerException" = some ce.cls ∧ ce.vm = .none := by
  have howns : e.platform.frameOwnsMonitors = true := by rw [X.admits.platform]
  have hfin : e.platform.finalization = false := by rw [X.admits.platform]
  have hpl : e.platform.magicAccessors = ({} : Platform).magicAccessors := by rw [X.admits.platform]
  have hpl2 : e.platform.arrayCloneIsPublic = true := by rw [X.admits.platform]
  have a' : ∀ x, x ∈ Bundle.npeArmAtoms n → x.holds args s none s [] = true := fun x hx => h x hx
  obtain ⟨T, Z, L, LZ, Y⟩ := ThrowableC.of_atoms (args := args) howns hfin hpl (fun x hx => h x (by simp [Bundle.npeArmAtoms, hx]))
  obtain ⟨N, LN, hcN, hnNF, hordN, hffS⟩ := NpeC.of_atoms (args := args) hpl hpl2 L Y (fun x hx => h x (by simp [Bundle.npeArmAtoms, hx]))
  obtain ⟨P1, L1, hP1m, hP1s⟩ := PassC.of_atoms (args := args) (s := s) hpl (X := Bundle.nN) (Y := Bundle.rN) (by decide) (by decide) LibCode.NullPointerException.Init0.at_0 LibCode.NullPointerException.Init0.at_1 LibCode.NullPointerException.Init0.at_4 (fun x hx => h x (by simp [Bundle.npeArmAtoms, hx]))
  obtain ⟨PR, LR, hPRm, hPRs⟩ := PassC.of_atoms (args := args) (s := s) hpl (X := Bundle.rN) (Y := Bundle.eN) (by decide) (by decide) LibCode.RuntimeException.Init0.at_0 LibCode.RuntimeException.Init0.at_1 LibCode.RuntimeException.Init0.at_4 (fun x hx => h x (by simp [Bundle.npeArmAtoms, hx]))
  obtain ⟨PE, LEx, hPEm, hPEs⟩ := PassC.of_atoms (args := args) (s := s) hpl (X := Bundle.eN) (Y := Bundle.tN) (by decide) (by decide) LibCode.Exception.Init0.at_0 LibCode.Exception.Init0.at_1 LibCode.Exception.Init0.at_4 (fun x hx => h x (by simp [Bundle.npeArmAtoms, hx]))
  have hfound : s.vm.findClass Bundle.nN = some P1.m.cls := findClass_of_methodNamed hP1m
  have ecls : N.cN = P1.m.cls := Option.some.inj (hcN.symm.trans hfound)
  have hk : s.vm.classes[P1.m.cls]? = some N.kN := by rw [← ecls]; exact LN.cls
  have hinit := Cond.initialized_spec hfound hk (a' (.initialized Bundle.nN) (by simp [Bundle.npeArmAtoms]))
  have hctor : N.kN.findMethod "<init>" "()V" = some P1.m.idx := findMethod_of_methodNamed hP1m hk
  obtain ⟨c1, k1, hc1, hk1, -, -, -, hn⟩ := Cond.instantiable_spec (a' (.instantiable Bundle.nN n) (by simp [Bundle.npeArmAtoms]))
  cases Option.some.inj (hc1.symm.trans hfound)
  cases Option.some.inj (hk1.symm.trans hk)
  have hfsz : (freshCell P1.m.cls N.kN).slots.size = n := by simp [hn]
  have hlink1 : P1.sup = PR.m := Option.some.inj (hP1s.symm.trans hPRm)
  have hlinkR : PR.sup = PE.m := Option.some.inj (hPRs.symm.trans hPEm)
  have hlinkE : PE.sup = Z.m T.toThrowableT := Option.some.inj (hPEs.symm.trans Y.init0)
  have hLs : ∀ P, P ∈ [PR, PE] → P.Links0 e.platform s := fun P hP => by
    simp only [List.mem_cons, List.not_mem_nil, or_false] at hP
    rcases hP with rfl | rfl
    · exact LR
    · exact LEx
  have hsel0 : selectMethod e.platform s.vm P1.m.cls T.fill0 = .method T.fill0 := by
    obtain ⟨c2, r2, m2, q1, q2, q3, q4, -⟩ := Cond.selects_spec (a' (.selects Bundle.nN Bundle.tFill0 Bundle.tFill0) (by simp [Bundle.npeArmAtoms]))
    cases Option.some.inj (q1.symm.trans hfound)
    cases Option.some.inj (q2.symm.trans (State.methodFound?_of_named Y.fill0 (by decide)))
    cases Option.some.inj (q3.symm.trans Y.fill0)
    rw [Launch.admits_selectMethod X.admits]; exact q4
  have hselF : selectMethod e.platform s.vm P1.m.cls T.fill = .method N.fill := by
    obtain ⟨c2, r2, m2, q1, q2, q3, q4, -⟩ := Cond.selects_spec (a' (.selects Bundle.nN Bundle.tFill Bundle.nFill) (by simp [Bundle.npeArmAtoms]))
    cases Option.some.inj (q1.symm.trans hfound)
    cases Option.some.inj (q2.symm.trans (State.methodFound?_of_named Y.fill (by decide)))
    cases Option.some.inj (q3.symm.trans hnNF)
    rw [Launch.admits_selectMethod X.admits]; exact q4
  obtain ⟨cellS0, hcS0, hiss⟩ := Y.statics
  obtain ⟨u0, hu0⟩ := Cond.staticRefV Y.unassigned L.unassignedStatic L.statics hcS0 hiss (a' (.isRef (.static Bundle.tN "UNASSIGNED_STACK" Bundle.steD)) (by simp [Bundle.npeArmAtoms]))
  obtain ⟨sen, hsen⟩ := Cond.staticRefV Y.sentinel L.sentinelStatic L.statics hcS0 hiss (a' (.isRef (.static Bundle.tN "SUPPRESSED_SENTINEL" Bundle.listD)) (by simp [Bundle.npeArmAtoms]))
  obtain ⟨ci198, i198, fB, hk198, hg198, ha198, hsB, -, hnB, htB, hffB⟩ := Cond.ownField (t := .object "java/lang/Object") Y.found L.cls (by decide +kernel) (a' (.fieldLink Bundle.tN 198 Bundle.tN "backtrace" Bundle.objD) (by simp [Bundle.npeArmAtoms])) (a' (.lays Bundle.tN Bundle.tN "backtrace" Bundle.objD) (by simp [Bundle.npeArmAtoms])) e.platform hpl
  obtain ⟨cellS, hcS', heS, -, hkeep⟩ := X.same.2.2.2.2.2 T.aS cellS0 hcS0
  have hcellS : W.heap[T.aS]? = some cellS := hcS'
  have hout' : ∀ i, (⟨T.aS, i⟩ : Loc) ∉ locs := fun i hmem => by
    have := hlocs _ hmem cellS0 hcS0
    rw [hiss] at this; cases this
  have hknownS : cellS.vm ≠ .unknown := by
    rw [heS]; intro hu
    rw [show cellS0.vm = .unknown from hu] at hiss
    cases hiss
  have hvU : cellS.slots[T.fUnassigned.slot]? = some u0.v := by rw [hkeep _ (hout' _)]; exact hu0
  have hvSen : cellS.slots[T.fSentinel.slot]? = some sen.v := by rw [hkeep _ (hout' _)]; exact hsen
  obtain ⟨tyC, dC, hdC, hdnC⟩ := Cond.laysAt hfound hk Y.cause (a' (.lays Bundle.nN Bundle.tN "cause" "Ljava/lang/Throwable;") (by simp [Bundle.npeArmAtoms]))
  obtain ⟨tyS, dS, hdS, hdnS⟩ := Cond.laysAt hfound hk Y.stack (a' (.lays Bundle.nN Bundle.tN "stackTrace" Bundle.steD) (by simp [Bundle.npeArmAtoms]))
  obtain ⟨tyP, dP, hdP, hdnP⟩ := Cond.laysAt hfound hk Y.supp (a' (.lays Bundle.nN Bundle.tN "suppressedExceptions" Bundle.listD) (by simp [Bundle.npeArmAtoms]))
  obtain ⟨tyX, dX, hdX, hdnX⟩ := Cond.laysAt hfound hk hffS (a' (.lays Bundle.nN Bundle.nN "extendedMessageState" "I") (by simp [Bundle.npeArmAtoms, Bundle.npeAtoms]))
  obtain ⟨hnX, htX⟩ := State.fieldFound?_type hffS (t := .int) (by decide +kernel)
  have xC := Cond.laysApart hdC hdX hdnC hdnX (by rw [hnX, Y.causeName]; decide)
  have xS := Cond.laysApart hdS hdX hdnS hdnX (by rw [hnX, Y.stackName]; decide)
  have xP := Cond.laysApart hdP hdX hdnP hdnX (by rw [hnX, Y.suppName]; decide)
  have hv0 : (freshCell P1.m.cls N.kN).slots[N.fState.slot]? = some (.int 0) := by
    have := fresh_default (c := P1.m.cls) tyX
    rw [htX] at this; exact this
  obtain ⟨tyB, dB, hdB, hdnB⟩ := Cond.laysAt hfound hk hffB (a' (.lays Bundle.nN Bundle.tN "backtrace" Bundle.objD) (by simp [Bundle.npeArmAtoms]))
  have bC := Cond.laysApart hdB hdC hdnB hdnC (by rw [hnB, Y.causeName]; decide)
  have bS := Cond.laysApart hdB hdS hdnB hdnS (by rw [hnB, Y.stackName]; decide)
  have bP := Cond.laysApart hdB hdP hdnB hdnP (by rw [hnB, Y.suppName]; decide)
  have bX := Cond.laysApart hdB hdX hdnB hdnX (by rw [hnB, hnX]; decide)
  have hbk : ((npeCell N.toNpeT (preparedCellV T.toThrowableT (freshCell P1.m.cls N.kN) W.heap.size u0 sen) W.cur).withEntry W.cur).slots[fB.slot]? = some .null := by
    have := fresh_default (c := P1.m.cls) tyB
    rw [htB] at this
    simpa [npeCell, preparedCellV, Cell.setSlot, Cell.withEntry, Array.getElem?_setIfInBounds, bC, bS, bP, bX, bC.symm, bS.symm, bP.symm, bX.symm, defaultValue] using this
  have tkC := Takes.of_laid (v := .ref W.heap.size) hk hordN tyC (by rw [Y.causeType]; rfl)
  have tkS := Takes.of_laid (v := u0.v) hk hordN tyS (by rw [Y.stackType]; exact fits_refV_array _ u0)
  have tkP := Takes.of_laid (v := sen.v) hk hordN tyP (by rw [Y.suppType]; exact fits_refV_object _ sen)
  have tkX := Takes.of_laid (v := .int 1) hk hordN tyX (by rw [htX]; rfl)
  have hskip : SkipFacts T e.platform s (fun u => u) u0 ((npeCell N.toNpeT (preparedCellV T.toThrowableT (freshCell P1.m.cls N.kN) W.heap.size u0 sen) W.cur).withEntry W.cur) := ⟨{ ci198 := ci198, i198 := i198, fBack := fB }, ⟨hk198, hg198, ha198, hsB⟩, hbk, fun _ _ => rfl⟩
  obtain ⟨vm', X3, st, -⟩ := X.throwsNpeColdBareVAt hexec hg hsize T L Z LZ N LN P1 L1 [PR, PE] hLs hlink1 ⟨hlinkR, hlinkE, trivial⟩ hfound hk hinit hordN hctor hsel0 hselF hcellS hknownS hvU hvSen
    hv0 xC xS xP tkC tkS tkP tkX Y.objLocals hskip (fun _ _ hA hW _ hroom _ hrest => L.nativeOff p htr hA hW hroom hrest) (by simpa using hRframes) hRlocals (by simp) hRcells (by rw [hn]; exact hRslots)
  have hlt : W.heap.size < ((W.pushCell (freshCell P1.m.cls N.kN)).setVm vm').heap.size := by
    show W.heap.size < (W.pushCell (freshCell P1.m.cls N.kN)).heap.size
    rw [State.heap_size_pushCell]; omega
  rw [hfsz] at X3
  obtain ⟨g₁, hfrM⟩ := X3.frames_eq
  have hU : ((((W.pushCell (freshCell P1.m.cls N.kN)).setVm vm').setCell W.heap.size (npeBareV T.toThrowableT N.toNpeT (freshCell P1.m.cls N.kN) W.heap.size u0 sen)).setTop g).pushFrame (.throwing W.heap.size) = (((W.pushCell (freshCell P1.m.cls N.kN)).setVm vm').setCell W.heap.size (npeBareV T.toThrowableT N.toNpeT (freshCell P1.m.cls N.kN) W.heap.size u0 sen)).setFrames (.throwing W.heap.size :: .java g :: below) := by
    rw [State.pushFrame, State.frames_setTop _ hfrM, State.setTop_of_frames _ hfrM, State.setFrames_setFrames]
  refine ⟨_, W.heap.size, _, fun target ht => st.trans (by rw [← hU]; exact ht), X3.forget (fun y hy => ?_), heapAt_setCell_self _ hlt, hfound, rfl⟩
  simp only [List.mem_cons, List.not_mem_nil, or_false] at hy
  have hge : s.heap.size ≤ W.heap.size := X.same.2.1
  rcases hy with rfl | rfl | rfl | rfl | rfl <;> exact hge
/-- the words of a machine's NullPointerException, but the four that speak of the heap -/
def vx_atN (n : Nat) : List Cond := (Bundle.npeArmAtoms n).filter vx_no
/-- the words of a machine's throw with a message, but the four that speak of the heap -/
def vx_atM (X : String) (names : List String) : List Cond := (Bundle.messageArmAtoms X names).filter vx_no
section
variable {p : Program} {l : Launch} {e : Env} {R : Room} {s : State} {m : MethodId} {args : Array Value} {below : List Frame} {meth : Method} {c : Code} {H : Heap} {locs : List Loc} {cells slots : Nat}
/-- a frame seen from a rebased start, seen from the first start again -/
theorem vx_back9 {T S : State} {R' : Room} {k n : Nat} (X : Stand p l e R s m args below meth c T locs cells slots) (Y : Stand p l e R' ((T.setVm s.vm).setFrames (.invoking m args :: below)) m args below meth c T [] 0 0) (Z : Stand p l e R' ((T.setVm s.vm).setFrames (.invoking m args :: below)) m args below meth c S [] k n) :
    Stand p l e R s m args below meth c S locs (cells + k) (slots + n) := by
  have hW0 : s.WarmedH ((T.setVm s.vm).setFrames (.invoking m args :: below)).vm := State.WarmedH.refl s
  refine { admits := X.admits, cas := X.cas, clock := X.clock, frames := X.frames, room := X.room, hears := X.hears, method := X.method, code := X.code, here := Z.here, tail := Z.tail, warmed := State.WarmedH.trans hW0 Z.warmed, limits := Z.limits.trans (Y.limits.symm.trans X.limits), bytes := Z.bytes.trans (Y.bytes.symm.trans X.bytes), same := ?_ }
  obtain ⟨e1, e2⟩ := Z.same
  rw [State.setFrames_setFrames] at e1
  have h2 : (T.setVm s.vm).sameButNew (S.setVm s.vm) [] k n := ⟨e1, e2⟩
  have h3 := X.same.trans h2
  rw [List.append_nil] at h3
  exact h3
/-- from the machine's note that E is thrown here with this text -/
def vx_Note (p : Program) (l : Launch) (e : Env) (R : Room) (s : State) (m : MethodId) (args : Array Value) (below : List Frame) (meth : Method) (c : Code) (H : Heap) (locs : List Loc) (cells slots : Nat) (Q : State → Prop) (g : JFrame) (E text : String) : Prop :=
  ∀ T : State, T.heap = H → Stand p l e R s m args below meth c T locs cells slots → ∃ t, Steps p.tables e below ((T.setTop g).pushFrame (.throwNew E (some text) none)) t ∧ Q t
theorem vx_vm {pc : Nat} {ls : Array Slot} {rest : List Value} {Q : State → Prop} (hexec : p.tables.exec = Jvm.exec) (hl : l.stackTraces = false) {cls text : String} {names : List String} {nb : Nat} {A : Nat → Prop}
    (hcls : Bundle.fit cls = true) (hnames : ∀ n ∈ names, Bundle.fit n = true) (hsoe : (cls == "java/lang/StackOverflowError") = false) (hoom : (cls == "java/lang/OutOfMemoryError") = false)
    (hat : ∀ w ∈ vx_atM cls names, w.before args s = true) (hgood : ∀ w ∈ vx_atM cls names, vx_ot w = true)
    (hU : vx_Zq Bundle.tN "UNASSIGNED_STACK" Bundle.steD A s s.heap) (hN : vx_Zq Bundle.tN "SUPPRESSED_SENTINEL" Bundle.listD A s s.heap) (hS : va_S A s.heap H locs) (hsize : ls.size = c.maxLocals)
    (htext : (text == notModelled) = false) (hnb : (stringBytes (stringToUtf16 text)).size ≤ nb) (hnb1 : nb ≤ 1000)
    (hRframes : names.length + 4 < R.frames) (hRlocals : (rest.map fun v => v.category).sum + 10240 ≤ R.locals) (hshort : 13 * names.length + 55 ≤ 10240) (hRcells : cells + 3 ≤ R.cells) (hRslots : slots + (nb + 10) ≤ R.slots) (hlocks : meth.locks = false)
    (k : ∀ (H1 : Heap) (q9 : Addr) (ce : Cell), H.size ≤ H1.size → (∀ q : Nat, q < H.size → H1[q]? = H[q]?) → va_S A s.heap H1 locs → H1[q9]? = some ce → ce.vm = .none → s.vm.findClass cls = some ce.cls → vx_W p l e R s m args below meth c H1 locs (cells + 3) (slots + (nb + 10)) Q (F0 m pc ls rest) q9) :
    vx_Note p l e R s m args below meth c H locs cells slots Q (F0 m pc ls rest) cls text := by
  intro T hT X
  have htr : e.platform.stackTraces = false := (show e.platform.stackTraces = l.stackTraces by rw [X.admits.platform]).trans hl
  have Y := vx_rebase X (R' := { frames := R.frames, locals := R.locals, cells := 3, slots := nb + 10 }) (Nat.le_refl _) (Nat.le_refl _) hRcells hRslots
  have hhp : ((T.setVm s.vm).setFrames (.invoking m args :: below)).heap = H := hT
  have hW0 : s.WarmedH ((T.setVm s.vm).setFrames (.invoking m args :: below)).vm := State.WarmedH.refl s
  have hat' : ∀ w ∈ vx_atM cls names, w.before args ((T.setVm s.vm).setFrames (.invoking m args :: below)) = true := fun w hw => vx_ot_at hW0 rfl (hgood w hw) (hat w hw)
  have hU' : vx_Zq Bundle.tN "UNASSIGNED_STACK" Bundle.steD A ((T.setVm s.vm).setFrames (.invoking m args :: below)) ((T.setVm s.vm).setFrames (.invoking m args :: below)).heap := by rw [hhp]; exact vx_Zq.moved hW0.alike (hU.kept hS.2.1)
  have hN' : vx_Zq Bundle.tN "SUPPRESSED_SENTINEL" Bundle.listD A ((T.setVm s.vm).setFrames (.invoking m args :: below)) ((T.setVm s.vm).setFrames (.invoking m args :: below)).heap := by rw [hhp]; exact vx_Zq.moved hW0.alike (hN.kept hS.2.1)
  obtain ⟨S, q, ce, st, Z, hce, hcl', hv⟩ := vx_vmAt Y hexec htr (cls := cls) (names := names) (text := text) hcls hnames hsoe hoom (vx_own hat' (vx_isRefq hU'.1) (vx_isRefq hN'.1) hU'.2.word hN'.2.word) (fun x hx => nomatch hx) htext
    (by rw [Launch.admits_arrayLengthLimit X.admits]; omega) (by rw [Launch.admits_maxHeapBytes X.admits]; simp only [componentBytes]; omega)
    (g := F0 m pc ls rest) rfl hsize hRframes (by show 2 * 0 + (rest.map fun v => v.category).sum + 10240 ≤ R.locals; omega) hshort (by show 0 + 3 ≤ 3; omega) (by show 0 + (_ + 4 + 6) ≤ nb + 10; omega) hlocks
  obtain ⟨f1, f2⟩ := vx_frame Z.same
  have f1' : H.size ≤ S.heap.size := by rw [← hT]; exact f1
  have f2' : ∀ q : Nat, q < H.size → S.heap[q]? = H[q]? := fun q hq => by
    rw [← hT]
    exact f2 q (by rw [← hT] at hq; exact hq) (fun z hz => nomatch hz)
  have X5 := vx_back9 X Y Z
  have X6 : Stand p l e R s m args below meth c S locs (cells + 3) (slots + (nb + 10)) := { X5 with same := X5.same.mono (by omega) (by omega) }
  obtain ⟨t, a1, b1⟩ := k S.heap q ce f1' f2' ⟨Nat.le_trans hS.1 f1', fun q h1 h2 => (f2' q (Nat.lt_of_lt_of_le h1 hS.1)).trans (hS.2.1 q h1 h2), hS.2.2⟩ hce hv hcl' S rfl X6
  exact ⟨t, st t a1, b1⟩
/-- from the machine's note that NullPointerException is thrown here -/
def vx_NoteN (p : Program) (l : Launch) (e : Env) (R : Room) (s : State) (m : MethodId) (args : Array Value) (below : List Frame) (meth : Method) (c : Code) (H : Heap) (locs : List Loc) (cells slots : Nat) (Q : State → Prop) (g : JFrame) : Prop :=
  ∀ T : State, T.heap = H → Stand p l e R s m args below meth c T locs cells slots → ∃ t, Steps p.tables e below ((T.setTop g).pushFrame (.throwNew "java/lang/NullPointerException" none none)) t ∧ Q t
theorem vx_npe {pc : Nat} {ls : Array Slot} {rest : List Value} {Q : State → Prop} (hexec : p.tables.exec = Jvm.exec) (hl : l.stackTraces = false) {nb : Nat} {A : Nat → Prop}
    (hat : ∀ w ∈ vx_atN nb, w.before args s = true) (hgood : ∀ w ∈ vx_atN nb, vx_ot w = true)
    (hU : vx_Zq Bundle.tN "UNASSIGNED_STACK" Bundle.steD A s s.heap) (hN : vx_Zq Bundle.tN "SUPPRESSED_SENTINEL" Bundle.listD A s s.heap) (hS : va_S A s.heap H locs) (hsize : ls.size = c.maxLocals)
    (hRframes : 7 < R.frames) (hRlocals : (rest.map fun v => v.category).sum + 10240 ≤ R.locals) (hRcells : cells + 1 ≤ R.cells) (hRslots : slots + nb ≤ R.slots) (hlocks : meth.locks = false)
    (k : ∀ (H1 : Heap) (q9 : Addr) (ce : Cell), H.size ≤ H1.size → (∀ q : Nat, q < H.size → H1[q]? = H[q]?) → va_S A s.heap H1 locs → H1[q9]? = some ce → ce.vm = .none → s.vm.findClass "java/lang/NullPointerException" = some ce.cls → vx_W p l e R s m args below meth c H1 locs (cells + 1) (slots + nb) Q (F0 m pc ls rest) q9) :
    vx_NoteN p l e R s m args below meth c H locs cells slots Q (F0 m pc ls rest) := by
  intro T hT X
  have htr : e.platform.stackTraces = false := (show e.platform.stackTraces = l.stackTraces by rw [X.admits.platform]).trans hl
  have Y := vx_rebase X (R' := { frames := R.frames, locals := R.locals, cells := 1, slots := nb }) (Nat.le_refl _) (Nat.le_refl _) hRcells hRslots
  have hhp : ((T.setVm s.vm).setFrames (.invoking m args :: below)).heap = H := hT
  have hW0 : s.WarmedH ((T.setVm s.vm).setFrames (.invoking m args :: below)).vm := State.WarmedH.refl s
  have hat' : ∀ w ∈ vx_atN nb, w.before args ((T.setVm s.vm).setFrames (.invoking m args :: below)) = true := fun w hw => vx_ot_at hW0 rfl (hgood w hw) (hat w hw)
  have hU' : vx_Zq Bundle.tN "UNASSIGNED_STACK" Bundle.steD A ((T.setVm s.vm).setFrames (.invoking m args :: below)) ((T.setVm s.vm).setFrames (.invoking m args :: below)).heap := by rw [hhp]; exact vx_Zq.moved hW0.alike (hU.kept hS.2.1)
  have hN' : vx_Zq Bundle.tN "SUPPRESSED_SENTINEL" Bundle.listD A ((T.setVm s.vm).setFrames (.invoking m args :: below)) ((T.setVm s.vm).setFrames (.invoking m args :: below)).heap := by rw [hhp]; exact vx_Zq.moved hW0.alike (hN.kept hS.2.1)
  obtain ⟨S, q, ce, st, Z, hce, hcl', hv⟩ := vx_npeAt Y hexec htr (n := nb) (vx_own hat' (vx_isRefq hU'.1) (vx_isRefq hN'.1) hU'.2.word hN'.2.word) (fun x hx => nomatch hx)
    (g := F0 m pc ls rest) rfl hsize hRframes (by show 2 * 0 + (rest.map fun v => v.category).sum + 10240 ≤ R.locals; omega) (by show 0 + 1 ≤ 1; omega) (by show 0 + nb ≤ nb; omega) hlocks
  obtain ⟨f1, f2⟩ := vx_frame Z.same
  have f1' : H.size ≤ S.heap.size := by rw [← hT]; exact f1
  have f2' : ∀ q : Nat, q < H.size → S.heap[q]? = H[q]? := fun q hq => by
    rw [← hT]
    exact f2 q (by rw [← hT] at hq; exact hq) (fun z hz => nomatch hz)
  have X5 := vx_back9 X Y Z
  have X6 : Stand p l e R s m args below meth c S locs (cells + 1) (slots + nb) := { X5 with same := X5.same.mono (by omega) (by omega) }
  obtain ⟨t, a1, b1⟩ := k S.heap q ce f1' f2' ⟨Nat.le_trans hS.1 f1', fun q h1 h2 => (f2' q (Nat.lt_of_lt_of_le h1 hS.1)).trans (hS.2.1 q h1 h2), hS.2.2⟩ hce hv hcl' S rfl X6
  exact ⟨t, st t a1, b1⟩
variable {Q : State → Prop} {cc : ByteArray} {pc : Nat} {ls : Array Slot} {rest : List Value}
theorem vx_idivZ (hexec : p.tables.exec = Jvm.exec) (hb : c.code = cc) {a b : Int32} (h0 : b = 0) (d : decode cc pc = .ok (.idiv, 1)) (k : vx_Note p l e R s m args below meth c H locs cells slots Q (F0 m pc ls rest) "java/lang/ArithmeticException" "/ by zero") :
    W p l e R s m args below meth c H locs cells slots Q (F0 m pc ls (.int b :: .int a :: rest)) := by
  intro T hT X
  obtain ⟨t, st, q⟩ := k T hT X
  exact ⟨t, X.idivZero hexec (g := F0 m pc ls (.int b :: .int a :: rest)) rfl (a := a) (rest := rest) (by rw [h0]) (by rw [hb]; exact d) t st, q⟩
theorem vx_iremZ (hexec : p.tables.exec = Jvm.exec) (hb : c.code = cc) {a b : Int32} (h0 : b = 0) (d : decode cc pc = .ok (.irem, 1)) (k : vx_Note p l e R s m args below meth c H locs cells slots Q (F0 m pc ls rest) "java/lang/ArithmeticException" "/ by zero") :
    W p l e R s m args below meth c H locs cells slots Q (F0 m pc ls (.int b :: .int a :: rest)) := by
  intro T hT X
  obtain ⟨t, st, q⟩ := k T hT X
  exact ⟨t, X.iremZero hexec (g := F0 m pc ls (.int b :: .int a :: rest)) rfl (a := a) (rest := rest) (by rw [h0]) (by rw [hb]; exact d) t st, q⟩
theorem vx_ldivZ (hexec : p.tables.exec = Jvm.exec) (hb : c.code = cc) {a b : Int64} (h0 : b = 0) (d : decode cc pc = .ok (.ldiv, 1)) (k : vx_Note p l e R s m args below meth c H locs cells slots Q (F0 m pc ls rest) "java/lang/ArithmeticException" "/ by zero") :
    W p l e R s m args below meth c H locs cells slots Q (F0 m pc ls (.long b :: .long a :: rest)) := by
  intro T hT X
  obtain ⟨t, st, q⟩ := k T hT X
  exact ⟨t, X.ldivZero hexec (g := F0 m pc ls (.long b :: .long a :: rest)) rfl (a := a) (rest := rest) (by rw [h0]) (by rw [hb]; exact d) t st, q⟩
theorem vx_lremZ (hexec : p.tables.exec = Jvm.exec) (hb : c.code = cc) {a b : Int64} (h0 : b = 0) (d : decode cc pc = .ok (.lrem, 1)) (k : vx_Note p l e R s m args below meth c H locs cells slots Q (F0 m pc ls rest) "java/lang/ArithmeticException" "/ by zero") :
    W p l e R s m args below meth c H locs cells slots Q (F0 m pc ls (.long b :: .long a :: rest)) := by
  intro T hT X
  obtain ⟨t, st, q⟩ := k T hT X
  exact ⟨t, X.lremZero hexec (g := F0 m pc ls (.long b :: .long a :: rest)) rfl (a := a) (rest := rest) (by rw [h0]) (by rw [hb]; exact d) t st, q⟩
theorem vx_ialdZ {D : va_G} {cl : List vw_C} {ws : va_W} {tys : List (ClassId × FieldType)} {a : Nat} (hexec : p.tables.exec = Jvm.exec) (hb : c.code = cc) (hK : va_K D cl tys s) (hP : va_P D cl ws H) (q0 t0 : Nat) {cA : ClassId} {n : Nat} {f : Nat → Int32} (ha : ws[q0]? = some (a, .inl (cA, n, .inl f))) (ht : tys[t0]? = some (cA, .int)) {i : Int32} (hout : ¬ vp_in i n) (hdg : decode cc pc = .ok (.iaload, 1))
    (k : ∀ tx : String, tx = (toString "Index " ++ toString i ++ toString " out of bounds for length " ++ toString n : String) → vx_Note p l e R s m args below meth c H locs cells slots Q (F0 m pc ls rest) "java/lang/ArrayIndexOutOfBoundsException" tx) : W p l e R s m args below meth c H locs cells slots Q (F0 m pc ls (.int i :: .ref a :: rest)) := by
  intro T hT X
  obtain ⟨t, st, q⟩ := k _ rfl T hT X
  refine ⟨t, ?_, q⟩
  have h1 := X.ialoadOut hexec (by rw [hT]; exact hP q0 _ ha) ((hK.2 t0 _ ht).1 n (fun j => .int (f j))) (j := i) (by show (i < 0 ∨ (arrV _ _ _).slots.size ≤ _); rw [arrV_size]; exact Classical.byContradiction hout) (g := F0 m pc ls (.int i :: .ref a :: rest)) rfl (rest := rest) rfl (by rw [hb]; exact hdg) t
  simp only [arrV_size] at h1
  exact h1 st
theorem vx_iastZ {D : va_G} {cl : List vw_C} {ws : va_W} {tys : List (ClassId × FieldType)} {a : Nat} (hexec : p.tables.exec = Jvm.exec) (hb : c.code = cc) (hK : va_K D cl tys s) (hP : va_P D cl ws H) (q0 t0 : Nat) {cA : ClassId} {n : Nat} {f : Nat → Int32} (ha : ws[q0]? = some (a, .inl (cA, n, .inl f))) (ht : tys[t0]? = some (cA, .int)) {i : Int32} {x : Int32} (hout : ¬ vp_in i n) (hdg : decode cc pc = .ok (.iastore, 1))
    (k : ∀ tx : String, tx = (toString "Index " ++ toString i ++ toString " out of bounds for length " ++ toString n : String) → vx_Note p l e R s m args below meth c H locs cells slots Q (F0 m pc ls rest) "java/lang/ArrayIndexOutOfBoundsException" tx) : W p l e R s m args below meth c H locs cells slots Q (F0 m pc ls (.int x :: .int i :: .ref a :: rest)) := by
  intro T hT X
  obtain ⟨t, st, q⟩ := k _ rfl T hT X
  refine ⟨t, ?_, q⟩
  have h1 := X.iastoreOut hexec (by rw [hT]; exact hP q0 _ ha) ((hK.2 t0 _ ht).1 n (fun j => .int (f j))) (j := i) (by show (i < 0 ∨ (arrV _ _ _).slots.size ≤ _); rw [arrV_size]; exact Classical.byContradiction hout) (g := F0 m pc ls (.int x :: .int i :: .ref a :: rest)) rfl (rest := rest) rfl (by rw [hb]; exact hdg) t
  simp only [arrV_size] at h1
  exact h1 st
theorem vx_baldZ {D : va_G} {cl : List vw_C} {ws : va_W} {tys : List (ClassId × FieldType)} {a : Nat} (hexec : p.tables.exec = Jvm.exec) (hb : c.code = cc) (hK : va_K D cl tys s) (hP : va_P D cl ws H) (q0 t0 : Nat) {cA : ClassId} {n : Nat} {f : Nat → Int32} (ha : ws[q0]? = some (a, .inl (cA, n, .inl f))) (ht : tys[t0]? = some (cA, .byte)) {i : Int32} (hout : ¬ vp_in i n) (hdg : decode cc pc = .ok (.baload, 1))
    (k : ∀ tx : String, tx = (toString "Index " ++ toString i ++ toString " out of bounds for length " ++ toString n : String) → vx_Note p l e R s m args below meth c H locs cells slots Q (F0 m pc ls rest) "java/lang/ArrayIndexOutOfBoundsException" tx) : W p l e R s m args below meth c H locs cells slots Q (F0 m pc ls (.int i :: .ref a :: rest)) := by
  intro T hT X
  obtain ⟨t, st, q⟩ := k _ rfl T hT X
  refine ⟨t, ?_, q⟩
  have h1 := X.baloadOut hexec (by rw [hT]; exact hP q0 _ ha) ((hK.2 t0 _ ht).1 n (fun j => .int (f j))) (j := i) (by show (i < 0 ∨ (arrV _ _ _).slots.size ≤ _); rw [arrV_size]; exact Classical.byContradiction hout) (g := F0 m pc ls (.int i :: .ref a :: rest)) rfl (rest := rest) rfl (by rw [hb]; exact hdg) t
  simp only [arrV_size] at h1
  exact h1 st
theorem vx_bastZ {D : va_G} {cl : List vw_C} {ws : va_W} {tys : List (ClassId × FieldType)} {a : Nat} (hexec : p.tables.exec = Jvm.exec) (hb : c.code = cc) (hK : va_K D cl tys s) (hP : va_P D cl ws H) (q0 t0 : Nat) {cA : ClassId} {n : Nat} {f : Nat → Int32} (ha : ws[q0]? = some (a, .inl (cA, n, .inl f))) (ht : tys[t0]? = some (cA, .byte)) {i : Int32} {x : Int32} (hout : ¬ vp_in i n) (hdg : decode cc pc = .ok (.bastore, 1))
    (k : ∀ tx : String, tx = (toString "Index " ++ toString i ++ toString " out of bounds for length " ++ toString n : String) → vx_Note p l e R s m args below meth c H locs cells slots Q (F0 m pc ls rest) "java/lang/ArrayIndexOutOfBoundsException" tx) : W p l e R s m args below meth c H locs cells slots Q (F0 m pc ls (.int x :: .int i :: .ref a :: rest)) := by
  intro T hT X
  obtain ⟨t, st, q⟩ := k _ rfl T hT X
  refine ⟨t, ?_, q⟩
  have h1 := X.bastoreOut hexec (by rw [hT]; exact hP q0 _ ha) ((hK.2 t0 _ ht).1 n (fun j => .int (f j))) (j := i) (by show (i < 0 ∨ (arrV _ _ _).slots.size ≤ _); rw [arrV_size]; exact Classical.byContradiction hout) (g := F0 m pc ls (.int x :: .int i :: .ref a :: rest)) rfl (rest := rest) rfl (by rw [hb]; exact hdg) t
  simp only [arrV_size] at h1
  exact h1 st
theorem vx_zaldZ {D : va_G} {cl : List vw_C} {ws : va_W} {tys : List (ClassId × FieldType)} {a : Nat} (hexec : p.tables.exec = Jvm.exec) (hb : c.code = cc) (hK : va_K D cl tys s) (hP : va_P D cl ws H) (q0 t0 : Nat) {cA : ClassId} {n : Nat} {f : Nat → Int32} (ha : ws[q0]? = some (a, .inl (cA, n, .inl f))) (ht : tys[t0]? = some (cA, .boolean)) {i : Int32} (hout : ¬ vp_in i n) (hdg : decode cc pc = .ok (.baload, 1))
    (k : ∀ tx : String, tx = (toString "Index " ++ toString i ++ toString " out of bounds for length " ++ toString n : String) → vx_Note p l e R s m args below meth c H locs cells slots Q (F0 m pc ls rest) "java/lang/ArrayIndexOutOfBoundsException" tx) : W p l e R s m args below meth c H locs cells slots Q (F0 m pc ls (.int i :: .ref a :: rest)) := by
  intro T hT X
  obtain ⟨t, st, q⟩ := k _ rfl T hT X
  refine ⟨t, ?_, q⟩
  have h1 := X.baloadOut hexec (by rw [hT]; exact hP q0 _ ha) ((hK.2 t0 _ ht).1 n (fun j => .int (f j))) (j := i) (by show (i < 0 ∨ (arrV _ _ _).slots.size ≤ _); rw [arrV_size]; exact Classical.byContradiction hout) (g := F0 m pc ls (.int i :: .ref a :: rest)) rfl (rest := rest) rfl (by rw [hb]; exact hdg) t
  simp only [arrV_size] at h1
  exact h1 st
theorem vx_zastZ {D : va_G} {cl : List vw_C} {ws : va_W} {tys : List (ClassId × FieldType)} {a : Nat} (hexec : p.tables.exec = Jvm.exec) (hb : c.code = cc) (hK : va_K D cl tys s) (hP : va_P D cl ws H) (q0 t0 : Nat) {cA : ClassId} {n : Nat} {f : Nat → Int32} (ha : ws[q0]? = some (a, .inl (cA, n, .inl f))) (ht : tys[t0]? = some (cA, .boolean)) {i : Int32} {x : Int32} (hout : ¬ vp_in i n) (hdg : decode cc pc = .ok (.bastore, 1))
    (k : ∀ tx : String, tx = (toString "Index " ++ toString i ++ toString " out of bounds for length " ++ toString n : String) → vx_Note p l e R s m args below meth c H locs cells slots Q (F0 m pc ls rest) "java/lang/ArrayIndexOutOfBoundsException" tx) : W p l e R s m args below meth c H locs cells slots Q (F0 m pc ls (.int x :: .int i :: .ref a :: rest)) := by
  intro T hT X
  obtain ⟨t, st, q⟩ := k _ rfl T hT X
  refine ⟨t, ?_, q⟩
  have h1 := X.bastoreOut hexec (by rw [hT]; exact hP q0 _ ha) ((hK.2 t0 _ ht).1 n (fun j => .int (f j))) (j := i) (by show (i < 0 ∨ (arrV _ _ _).slots.size ≤ _); rw [arrV_size]; exact Classical.byContradiction hout) (g := F0 m pc ls (.int x :: .int i :: .ref a :: rest)) rfl (rest := rest) rfl (by rw [hb]; exact hdg) t
  simp only [arrV_size] at h1
  exact h1 st
theorem vx_caldZ {D : va_G} {cl : List vw_C} {ws : va_W} {tys : List (ClassId × FieldType)} {a : Nat} (hexec : p.tables.exec = Jvm.exec) (hb : c.code = cc) (hK : va_K D cl tys s) (hP : va_P D cl ws H) (q0 t0 : Nat) {cA : ClassId} {n : Nat} {f : Nat → Int32} (ha : ws[q0]? = some (a, .inl (cA, n, .inl f))) (ht : tys[t0]? = some (cA, .char)) {i : Int32} (hout : ¬ vp_in i n) (hdg : decode cc pc = .ok (.caload, 1))
    (k : ∀ tx : String, tx = (toString "Index " ++ toString i ++ toString " out of bounds for length " ++ toString n : String) → vx_Note p l e R s m args below meth c H locs cells slots Q (F0 m pc ls rest) "java/lang/ArrayIndexOutOfBoundsException" tx) : W p l e R s m args below meth c H locs cells slots Q (F0 m pc ls (.int i :: .ref a :: rest)) := by
  intro T hT X
  obtain ⟨t, st, q⟩ := k _ rfl T hT X
  refine ⟨t, ?_, q⟩
  have h1 := X.caloadOut hexec (by rw [hT]; exact hP q0 _ ha) ((hK.2 t0 _ ht).1 n (fun j => .int (f j))) (j := i) (by show (i < 0 ∨ (arrV _ _ _).slots.size ≤ _); rw [arrV_size]; exact Classical.byContradiction hout) (g := F0 m pc ls (.int i :: .ref a :: rest)) rfl (rest := rest) rfl (by rw [hb]; exact hdg) t
  simp only [arrV_size] at h1
  exact h1 st
theorem vx_castZ {D : va_G} {cl : List vw_C} {ws : va_W} {tys : List (ClassId × FieldType)} {a : Nat} (hexec : p.tables.exec = Jvm.exec) (hb : c.code = cc) (hK : va_K D cl tys s) (hP : va_P D cl ws H) (q0 t0 : Nat) {cA : ClassId} {n : Nat} {f : Nat → Int32} (ha : ws[q0]? = some (a, .inl (cA, n, .inl f))) (ht : tys[t0]? = some (cA, .char)) {i : Int32} {x : Int32} (hout : ¬ vp_in i n) (hdg : decode cc pc = .ok (.castore, 1))
    (k : ∀ tx : String, tx = (toString "Index " ++ toString i ++ toString " out of bounds for length " ++ toString n : String) → vx_Note p l e R s m args below meth c H locs cells slots Q (F0 m pc ls rest) "java/lang/ArrayIndexOutOfBoundsException" tx) : W p l e R s m args below meth c H locs cells slots Q (F0 m pc ls (.int x :: .int i :: .ref a :: rest)) := by
  intro T hT X
  obtain ⟨t, st, q⟩ := k _ rfl T hT X
  refine ⟨t, ?_, q⟩
  have h1 := X.castoreOut hexec (by rw [hT]; exact hP q0 _ ha) ((hK.2 t0 _ ht).1 n (fun j => .int (f j))) (j := i) (by show (i < 0 ∨ (arrV _ _ _).slots.size ≤ _); rw [arrV_size]; exact Classical.byContradiction hout) (g := F0 m pc ls (.int x :: .int i :: .ref a :: rest)) rfl (rest := rest) rfl (by rw [hb]; exact hdg) t
  simp only [arrV_size] at h1
  exact h1 st
theorem vx_saldZ {D : va_G} {cl : List vw_C} {ws : va_W} {tys : List (ClassId × FieldType)} {a : Nat} (hexec : p.tables.exec = Jvm.exec) (hb : c.code = cc) (hK : va_K D cl tys s) (hP : va_P D cl ws H) (q0 t0 : Nat) {cA : ClassId} {n : Nat} {f : Nat → Int32} (ha : ws[q0]? = some (a, .inl (cA, n, .inl f))) (ht : tys[t0]? = some (cA, .short)) {i : Int32} (hout : ¬ vp_in i n) (hdg : decode cc pc = .ok (.saload, 1))
    (k : ∀ tx : String, tx = (toString "Index " ++ toString i ++ toString " out of bounds for length " ++ toString n : String) → vx_Note p l e R s m args below meth c H locs cells slots Q (F0 m pc ls rest) "java/lang/ArrayIndexOutOfBoundsException" tx) : W p l e R s m args below meth c H locs cells slots Q (F0 m pc ls (.int i :: .ref a :: rest)) := by
  intro T hT X
  obtain ⟨t, st, q⟩ := k _ rfl T hT X
  refine ⟨t, ?_, q⟩
  have h1 := X.saloadOut hexec (by rw [hT]; exact hP q0 _ ha) ((hK.2 t0 _ ht).1 n (fun j => .int (f j))) (j := i) (by show (i < 0 ∨ (arrV _ _ _).slots.size ≤ _); rw [arrV_size]; exact Classical.byContradiction hout) (g := F0 m pc ls (.int i :: .ref a :: rest)) rfl (rest := rest) rfl (by rw [hb]; exact hdg) t
  simp only [arrV_size] at h1
  exact h1 st
theorem vx_sastZ {D : va_G} {cl : List vw_C} {ws : va_W} {tys : List (ClassId × FieldType)} {a : Nat} (hexec : p.tables.exec = Jvm.exec) (hb : c.code = cc) (hK : va_K D cl tys s) (hP : va_P D cl ws H) (q0 t0 : Nat) {cA : ClassId} {n : Nat} {f : Nat → Int32} (ha : ws[q0]? = some (a, .inl (cA, n, .inl f))) (ht : tys[t0]? = some (cA, .short)) {i : Int32} {x : Int32} (hout : ¬ vp_in i n) (hdg : decode cc pc = .ok (.sastore, 1))
    (k : ∀ tx : String, tx = (toString "Index " ++ toString i ++ toString " out of bounds for length " ++ toString n : String) → vx_Note p l e R s m args below meth c H locs cells slots Q (F0 m pc ls rest) "java/lang/ArrayIndexOutOfBoundsException" tx) : W p l e R s m args below meth c H locs cells slots Q (F0 m pc ls (.int x :: .int i :: .ref a :: rest)) := by
  intro T hT X
  obtain ⟨t, st, q⟩ := k _ rfl T hT X
  refine ⟨t, ?_, q⟩
  have h1 := X.sastoreOut hexec (by rw [hT]; exact hP q0 _ ha) ((hK.2 t0 _ ht).1 n (fun j => .int (f j))) (j := i) (by show (i < 0 ∨ (arrV _ _ _).slots.size ≤ _); rw [arrV_size]; exact Classical.byContradiction hout) (g := F0 m pc ls (.int x :: .int i :: .ref a :: rest)) rfl (rest := rest) rfl (by rw [hb]; exact hdg) t
  simp only [arrV_size] at h1
  exact h1 st
theorem vx_laldZ {D : va_G} {cl : List vw_C} {ws : va_W} {tys : List (ClassId × FieldType)} {a : Nat} (hexec : p.tables.exec = Jvm.exec) (hb : c.code = cc) (hK : va_K D cl tys s) (hP : va_P D cl ws H) (q0 t0 : Nat) {cA : ClassId} {n : Nat} {f : Nat → Int64} (ha : ws[q0]? = some (a, .inl (cA, n, .inr (.inl f)))) (ht : tys[t0]? = some (cA, .long)) {i : Int32} (hout : ¬ vp_in i n) (hdg : decode cc pc = .ok (.laload, 1))
    (k : ∀ tx : String, tx = (toString "Index " ++ toString i ++ toString " out of bounds for length " ++ toString n : String) → vx_Note p l e R s m args below meth c H locs cells slots Q (F0 m pc ls rest) "java/lang/ArrayIndexOutOfBoundsException" tx) : W p l e R s m args below meth c H locs cells slots Q (F0 m pc ls (.int i :: .ref a :: rest)) := by
  intro T hT X
  obtain ⟨t, st, q⟩ := k _ rfl T hT X
  refine ⟨t, ?_, q⟩
  have h1 := X.laloadOut hexec (by rw [hT]; exact hP q0 _ ha) ((hK.2 t0 _ ht).1 n (fun j => .long (f j))) (j := i) (by show (i < 0 ∨ (arrV _ _ _).slots.size ≤ _); rw [arrV_size]; exact Classical.byContradiction hout) (g := F0 m pc ls (.int i :: .ref a :: rest)) rfl (rest := rest) rfl (by rw [hb]; exact hdg) t
  simp only [arrV_size] at h1
  exact h1 st
theorem vx_lastZ {D : va_G} {cl : List vw_C} {ws : va_W} {tys : List (ClassId × FieldType)} {a : Nat} (hexec : p.tables.exec = Jvm.exec) (hb : c.code = cc) (hK : va_K D cl tys s) (hP : va_P D cl ws H) (q0 t0 : Nat) {cA : ClassId} {n : Nat} {f : Nat → Int64} (ha : ws[q0]? = some (a, .inl (cA, n, .inr (.inl f)))) (ht : tys[t0]? = some (cA, .long)) {i : Int32} {x : Int64} (hout : ¬ vp_in i n) (hdg : decode cc pc = .ok (.lastore, 1))
    (k : ∀ tx : String, tx = (toString "Index " ++ toString i ++ toString " out of bounds for length " ++ toString n : String) → vx_Note p l e R s m args below meth c H locs cells slots Q (F0 m pc ls rest) "java/lang/ArrayIndexOutOfBoundsException" tx) : W p l e R s m args below meth c H locs cells slots Q (F0 m pc ls (.long x :: .int i :: .ref a :: rest)) := by
  intro T hT X
  obtain ⟨t, st, q⟩ := k _ rfl T hT X
  refine ⟨t, ?_, q⟩
  have h1 := X.lastoreOut hexec (by rw [hT]; exact hP q0 _ ha) ((hK.2 t0 _ ht).1 n (fun j => .long (f j))) (j := i) (by show (i < 0 ∨ (arrV _ _ _).slots.size ≤ _); rw [arrV_size]; exact Classical.byContradiction hout) (g := F0 m pc ls (.long x :: .int i :: .ref a :: rest)) rfl (rest := rest) rfl (by rw [hb]; exact hdg) t
  simp only [arrV_size] at h1
  exact h1 st
theorem vx_faldZ {D : va_G} {cl : List vw_C} {ws : va_W} {tys : List (ClassId × FieldType)} {a : Nat} (hexec : p.tables.exec = Jvm.exec) (hb : c.code = cc) (hK : va_K D cl tys s) (hP : va_P D cl ws H) (q0 t0 : Nat) {cA : ClassId} {n : Nat} {f : Nat → UInt32} (ha : ws[q0]? = some (a, .inl (cA, n, .inr (.inr (.inl f))))) (ht : tys[t0]? = some (cA, .float)) {i : Int32} (hout : ¬ vp_in i n) (hdg : decode cc pc = .ok (.faload, 1))
    (k : ∀ tx : String, tx = (toString "Index " ++ toString i ++ toString " out of bounds for length " ++ toString n : String) → vx_Note p l e R s m args below meth c H locs cells slots Q (F0 m pc ls rest) "java/lang/ArrayIndexOutOfBoundsException" tx) : W p l e R s m args below meth c H locs cells slots Q (F0 m pc ls (.int i :: .ref a :: rest)) := by
  intro T hT X
  obtain ⟨t, st, q⟩ := k _ rfl T hT X
  refine ⟨t, ?_, q⟩
  have h1 := X.faloadOut hexec (by rw [hT]; exact hP q0 _ ha) ((hK.2 t0 _ ht).1 n (fun j => .float (f j))) (j := i) (by show (i < 0 ∨ (arrV _ _ _).slots.size ≤ _); rw [arrV_size]; exact Classical.byContradiction hout) (g := F0 m pc ls (.int i :: .ref a :: rest)) rfl (rest := rest) rfl (by rw [hb]; exact hdg) t
  simp only [arrV_size] at h1
  exact h1 st
theorem vx_fastZ {D : va_G} {cl : List vw_C} {ws : va_W} {tys : List (ClassId × FieldType)} {a : Nat} (hexec : p.tables.exec = Jvm.exec) (hb : c.code = cc) (hK : va_K D cl tys s) (hP : va_P D cl ws H) (q0 t0 : Nat) {cA : ClassId} {n : Nat} {f : Nat → UInt32} (ha : ws[q0]? = some (a, .inl (cA, n, .inr (.inr (.inl f))))) (ht : tys[t0]? = some (cA, .float)) {i : Int32} {x : UInt32} (hout : ¬ vp_in i n) (hdg : decode cc pc = .ok (.fastore, 1))
    (k : ∀ tx : String, tx = (toString "Index " ++ toString i ++ toString " out of bounds for length " ++ toString n : String) → vx_Note p l e R s m args below meth c H locs cells slots Q (F0 m pc ls rest) "java/lang/ArrayIndexOutOfBoundsException" tx) : W p l e R s m args below meth c H locs cells slots Q (F0 m pc ls (.float x :: .int i :: .ref a :: rest)) := by
  intro T hT X
  obtain ⟨t, st, q⟩ := k _ rfl T hT X
  refine ⟨t, ?_, q⟩
  have h1 := X.fastoreOut hexec (by rw [hT]; exact hP q0 _ ha) ((hK.2 t0 _ ht).1 n (fun j => .float (f j))) (j := i) (by show (i < 0 ∨ (arrV _ _ _).slots.size ≤ _); rw [arrV_size]; exact Classical.byContradiction hout) (g := F0 m pc ls (.float x :: .int i :: .ref a :: rest)) rfl (rest := rest) rfl (by rw [hb]; exact hdg) t
  simp only [arrV_size] at h1
  exact h1 st
theorem vx_daldZ {D : va_G} {cl : List vw_C} {ws : va_W} {tys : List (ClassId × FieldType)} {a : Nat} (hexec : p.tables.exec = Jvm.exec) (hb : c.code = cc) (hK : va_K D cl tys s) (hP : va_P D cl ws H) (q0 t0 : Nat) {cA : ClassId} {n : Nat} {f : Nat → UInt64} (ha : ws[q0]? = some (a, .inl (cA, n, .inr (.inr (.inr (.inl f)))))) (ht : tys[t0]? = some (cA, .double)) {i : Int32} (hout : ¬ vp_in i n) (hdg : decode cc pc = .ok (.daload, 1))
    (k : ∀ tx : String, tx = (toString "Index " ++ toString i ++ toString " out of bounds for length " ++ toString n : String) → vx_Note p l e R s m args below meth c H locs cells slots Q (F0 m pc ls rest) "java/lang/ArrayIndexOutOfBoundsException" tx) : W p l e R s m args below meth c H locs cells slots Q (F0 m pc ls (.int i :: .ref a :: rest)) := by
  intro T hT X
  obtain ⟨t, st, q⟩ := k _ rfl T hT X
  refine ⟨t, ?_, q⟩
  have h1 := X.daloadOut hexec (by rw [hT]; exact hP q0 _ ha) ((hK.2 t0 _ ht).1 n (fun j => .double (f j))) (j := i) (by show (i < 0 ∨ (arrV _ _ _).slots.size ≤ _); rw [arrV_size]; exact Classical.byContradiction hout) (g := F0 m pc ls (.int i :: .ref a :: rest)) rfl (rest := rest) rfl (by rw [hb]; exact hdg) t
  simp only [arrV_size] at h1
  exact h1 st
theorem vx_dastZ {D : va_G} {cl : List vw_C} {ws : va_W} {tys : List (ClassId × FieldType)} {a : Nat} (hexec : p.tables.exec = Jvm.exec) (hb : c.code = cc) (hK : va_K D cl tys s) (hP : va_P D cl ws H) (q0 t0 : Nat) {cA : ClassId} {n : Nat} {f : Nat → UInt64} (ha : ws[q0]? = some (a, .inl (cA, n, .inr (.inr (.inr (.inl f)))))) (ht : tys[t0]? = some (cA, .double)) {i : Int32} {x : UInt64} (hout : ¬ vp_in i n) (hdg : decode cc pc = .ok (.dastore, 1))
    (k : ∀ tx : String, tx = (toString "Index " ++ toString i ++ toString " out of bounds for length " ++ toString n : String) → vx_Note p l e R s m args below meth c H locs cells slots Q (F0 m pc ls rest) "java/lang/ArrayIndexOutOfBoundsException" tx) : W p l e R s m args below meth c H locs cells slots Q (F0 m pc ls (.double x :: .int i :: .ref a :: rest)) := by
  intro T hT X
  obtain ⟨t, st, q⟩ := k _ rfl T hT X
  refine ⟨t, ?_, q⟩
  have h1 := X.dastoreOut hexec (by rw [hT]; exact hP q0 _ ha) ((hK.2 t0 _ ht).1 n (fun j => .double (f j))) (j := i) (by show (i < 0 ∨ (arrV _ _ _).slots.size ≤ _); rw [arrV_size]; exact Classical.byContradiction hout) (g := F0 m pc ls (.double x :: .int i :: .ref a :: rest)) rfl (rest := rest) rfl (by rw [hb]; exact hdg) t
  simp only [arrV_size] at h1
  exact h1 st
theorem vx_arraylengthN (hexec : p.tables.exec = Jvm.exec) (hb : c.code = cc) (hdg : decode cc pc = .ok (.arraylength, 1)) (k : vx_NoteN p l e R s m args below meth c H locs cells slots Q (F0 m pc ls rest)) : W p l e R s m args below meth c H locs cells slots Q (F0 m pc ls (.null :: rest)) := by
  intro T hT X
  obtain ⟨t, st, q⟩ := k T hT X
  exact ⟨t, X.arraylengthNull hexec (g := F0 m pc ls (.null :: rest)) rfl (rest := rest) rfl (by rw [hb]; exact hdg) t st, q⟩
theorem vx_ialoadN (hexec : p.tables.exec = Jvm.exec) (hb : c.code = cc) {i : Int32} (hdg : decode cc pc = .ok (.iaload, 1)) (k : vx_NoteN p l e R s m args below meth c H locs cells slots Q (F0 m pc ls rest)) : W p l e R s m args below meth c H locs cells slots Q (F0 m pc ls (.int i :: .null :: rest)) := by
  intro T hT X
  obtain ⟨t, st, q⟩ := k T hT X
  exact ⟨t, X.ialoadNull hexec (g := F0 m pc ls (.int i :: .null :: rest)) rfl (rest := rest) rfl (by rw [hb]; exact hdg) t st, q⟩
theorem vx_laloadN (hexec : p.tables.exec = Jvm.exec) (hb : c.code = cc) {i : Int32} (hdg : decode cc pc = .ok (.laload, 1)) (k : vx_NoteN p l e R s m args below meth c H locs cells slots Q (F0 m pc ls rest)) : W p l e R s m args below meth c H locs cells slots Q (F0 m pc ls (.int i :: .null :: rest)) := by
  intro T hT X
  obtain ⟨t, st, q⟩ := k T hT X
  exact ⟨t, X.laloadNull hexec (g := F0 m pc ls (.int i :: .null :: rest)) rfl (rest := rest) rfl (by rw [hb]; exact hdg) t st, q⟩
theorem vx_faloadN (hexec : p.tables.exec = Jvm.exec) (hb : c.code = cc) {i : Int32} (hdg : decode cc pc = .ok (.faload, 1)) (k : vx_NoteN p l e R s m args below meth c H locs cells slots Q (F0 m pc ls rest)) : W p l e R s m args below meth c H locs cells slots Q (F0 m pc ls (.int i :: .null :: rest)) := by
  intro T hT X
  obtain ⟨t, st, q⟩ := k T hT X
  exact ⟨t, X.faloadNull hexec (g := F0 m pc ls (.int i :: .null :: rest)) rfl (rest := rest) rfl (by rw [hb]; exact hdg) t st, q⟩
theorem vx_daloadN (hexec : p.tables.exec = Jvm.exec) (hb : c.code = cc) {i : Int32} (hdg : decode cc pc = .ok (.daload, 1)) (k : vx_NoteN p l e R s m args below meth c H locs cells slots Q (F0 m pc ls rest)) : W p l e R s m args below meth c H locs cells slots Q (F0 m pc ls (.int i :: .null :: rest)) := by
  intro T hT X
  obtain ⟨t, st, q⟩ := k T hT X
  exact ⟨t, X.daloadNull hexec (g := F0 m pc ls (.int i :: .null :: rest)) rfl (rest := rest) rfl (by rw [hb]; exact hdg) t st, q⟩
theorem vx_aaloadN (hexec : p.tables.exec = Jvm.exec) (hb : c.code = cc) {i : Int32} (hdg : decode cc pc = .ok (.aaload, 1)) (k : vx_NoteN p l e R s m args below meth c H locs cells slots Q (F0 m pc ls rest)) : W p l e R s m args below meth c H locs cells slots Q (F0 m pc ls (.int i :: .null :: rest)) := by
  intro T hT X
  obtain ⟨t, st, q⟩ := k T hT X
  exact ⟨t, X.aaloadNull hexec (g := F0 m pc ls (.int i :: .null :: rest)) rfl (rest := rest) rfl (by rw [hb]; exact hdg) t st, q⟩
theorem vx_baloadN (hexec : p.tables.exec = Jvm.exec) (hb : c.code = cc) {i : Int32} (hdg : decode cc pc = .ok (.baload, 1)) (k : vx_NoteN p l e R s m args below meth c H locs cells slots Q (F0 m pc ls rest)) : W p l e R s m args below meth c H locs cells slots Q (F0 m pc ls (.int i :: .null :: rest)) := by
  intro T hT X
  obtain ⟨t, st, q⟩ := k T hT X
  exact ⟨t, X.baloadNull hexec (g := F0 m pc ls (.int i :: .null :: rest)) rfl (rest := rest) rfl (by rw [hb]; exact hdg) t st, q⟩
theorem vx_caloadN (hexec : p.tables.exec = Jvm.exec) (hb : c.code = cc) {i : Int32} (hdg : decode cc pc = .ok (.caload, 1)) (k : vx_NoteN p l e R s m args below meth c H locs cells slots Q (F0 m pc ls rest)) : W p l e R s m args below meth c H locs cells slots Q (F0 m pc ls (.int i :: .null :: rest)) := by
  intro T hT X
  obtain ⟨t, st, q⟩ := k T hT X
  exact ⟨t, X.caloadNull hexec (g := F0 m pc ls (.int i :: .null :: rest)) rfl (rest := rest) rfl (by rw [hb]; exact hdg) t st, q⟩
theorem vx_saloadN (hexec : p.tables.exec = Jvm.exec) (hb : c.code = cc) {i : Int32} (hdg : decode cc pc = .ok (.saload, 1)) (k : vx_NoteN p l e R s m args below meth c H locs cells slots Q (F0 m pc ls rest)) : W p l e R s m args below meth c H locs cells slots Q (F0 m pc ls (.int i :: .null :: rest)) := by
  intro T hT X
  obtain ⟨t, st, q⟩ := k T hT X
  exact ⟨t, X.saloadNull hexec (g := F0 m pc ls (.int i :: .null :: rest)) rfl (rest := rest) rfl (by rw [hb]; exact hdg) t st, q⟩
theorem vx_iastoreN (hexec : p.tables.exec = Jvm.exec) (hb : c.code = cc) {x : Int32} {i : Int32} (hdg : decode cc pc = .ok (.iastore, 1)) (k : vx_NoteN p l e R s m args below meth c H locs cells slots Q (F0 m pc ls rest)) : W p l e R s m args below meth c H locs cells slots Q (F0 m pc ls (.int x :: .int i :: .null :: rest)) := by
  intro T hT X
  obtain ⟨t, st, q⟩ := k T hT X
  exact ⟨t, X.iastoreNull hexec (g := F0 m pc ls (.int x :: .int i :: .null :: rest)) rfl (rest := rest) rfl (by rw [hb]; exact hdg) t st, q⟩
theorem vx_lastoreN (hexec : p.tables.exec = Jvm.exec) (hb : c.code = cc) {x : Int64} {i : Int32} (hdg : decode cc pc = .ok (.lastore, 1)) (k : vx_NoteN p l e R s m args below meth c H locs cells slots Q (F0 m pc ls rest)) : W p l e R s m args below meth c H locs cells slots Q (F0 m pc ls (.long x :: .int i :: .null :: rest)) := by
  intro T hT X
  obtain ⟨t, st, q⟩ := k T hT X
  exact ⟨t, X.lastoreNull hexec (g := F0 m pc ls (.long x :: .int i :: .null :: rest)) rfl (rest := rest) rfl (by rw [hb]; exact hdg) t st, q⟩
theorem vx_fastoreN (hexec : p.tables.exec = Jvm.exec) (hb : c.code = cc) {x : UInt32} {i : Int32} (hdg : decode cc pc = .ok (.fastore, 1)) (k : vx_NoteN p l e R s m args below meth c H locs cells slots Q (F0 m pc ls rest)) : W p l e R s m args below meth c H locs cells slots Q (F0 m pc ls (.float x :: .int i :: .null :: rest)) := by
  intro T hT X
  obtain ⟨t, st, q⟩ := k T hT X
  exact ⟨t, X.fastoreNull hexec (g := F0 m pc ls (.float x :: .int i :: .null :: rest)) rfl (rest := rest) rfl (by rw [hb]; exact hdg) t st, q⟩
theorem vx_dastoreN (hexec : p.tables.exec = Jvm.exec) (hb : c.code = cc) {x : UInt64} {i : Int32} (hdg : decode cc pc = .ok (.dastore, 1)) (k : vx_NoteN p l e R s m args below meth c H locs cells slots Q (F0 m pc ls rest)) : W p l e R s m args below meth c H locs cells slots Q (F0 m pc ls (.double x :: .int i :: .null :: rest)) := by
  intro T hT X
  obtain ⟨t, st, q⟩ := k T hT X
  exact ⟨t, X.dastoreNull hexec (g := F0 m pc ls (.double x :: .int i :: .null :: rest)) rfl (rest := rest) rfl (by rw [hb]; exact hdg) t st, q⟩
theorem vx_bastoreN (hexec : p.tables.exec = Jvm.exec) (hb : c.code = cc) {x : Int32} {i : Int32} (hdg : decode cc pc = .ok (.bastore, 1)) (k : vx_NoteN p l e R s m args below meth c H locs cells slots Q (F0 m pc ls rest)) : W p l e R s m args below meth c H locs cells slots Q (F0 m pc ls (.int x :: .int i :: .null :: rest)) := by
  intro T hT X
  obtain ⟨t, st, q⟩ := k T hT X
  exact ⟨t, X.bastoreNull hexec (g := F0 m pc ls (.int x :: .int i :: .null :: rest)) rfl (rest := rest) rfl (by rw [hb]; exact hdg) t st, q⟩
theorem vx_castoreN (hexec : p.tables.exec = Jvm.exec) (hb : c.code = cc) {x : Int32} {i : Int32} (hdg : decode cc pc = .ok (.castore, 1)) (k : vx_NoteN p l e R s m args below meth c H locs cells slots Q (F0 m pc ls rest)) : W p l e R s m args below meth c H locs cells slots Q (F0 m pc ls (.int x :: .int i :: .null :: rest)) := by
  intro T hT X
  obtain ⟨t, st, q⟩ := k T hT X
  exact ⟨t, X.castoreNull hexec (g := F0 m pc ls (.int x :: .int i :: .null :: rest)) rfl (rest := rest) rfl (by rw [hb]; exact hdg) t st, q⟩
theorem vx_sastoreN (hexec : p.tables.exec = Jvm.exec) (hb : c.code = cc) {x : Int32} {i : Int32} (hdg : decode cc pc = .ok (.sastore, 1)) (k : vx_NoteN p l e R s m args below meth c H locs cells slots Q (F0 m pc ls rest)) : W p l e R s m args below meth c H locs cells slots Q (F0 m pc ls (.int x :: .int i :: .null :: rest)) := by
  intro T hT X
  obtain ⟨t, st, q⟩ := k T hT X
  exact ⟨t, X.sastoreNull hexec (g := F0 m pc ls (.int x :: .int i :: .null :: rest)) rfl (rest := rest) rfl (by rw [hb]; exact hdg) t st, q⟩
theorem vx_invokeN {own C : String} {index maxL : Nat} {y : MethodName} {bytes : ByteArray} {ret : Option FieldType} (hexec : p.tables.exec = Jvm.exec) (hb : c.code = cc) (hown : s.vm.findClass own = some m.cls) (hlink : (Cond.methodLink own index y).before args s = true) (hinst : (Cond.instanceMethod y).before args s = true) (hcode : (Cond.code y bytes maxL ret).before args s = true) (hsel : (Cond.selects C y y).before args s = true)
    (hx : y.cls ≠ "java/lang/invoke/MethodHandle" ∧ y.cls ≠ "java/lang/invoke/VarHandle") {As : List Value} (hlen : (parseMethodDescriptor y.desc).map (fun d => d.parameters.length) = some As.length) (hdg : decode cc pc = .ok (.invokevirtual index, 3))
    (k : vx_NoteN p l e R s m args below meth c H locs cells slots Q (F0 m pc ls rest)) {st0 : List Value} (hst : st0 = As.reverse ++ .null :: rest) : W p l e R s m args below meth c H locs cells slots Q (F0 m pc ls st0) := by
  intro T hT X
  obtain ⟨r0, r, hn, hrm, hstR, hsigR⟩ := va_Decl.of hinst hcode
  obtain ⟨c2, r2, m2, q1, q2, q3, q4, kP, hkP, hkPi⟩ := Cond.selects_spec hsel
  cases hn.symm.trans q3
  have hl9 : As.length = r.sig.parameters.length := by
    rw [hsigR] at hlen
    exact (Option.some.inj hlen).symm
  obtain ⟨vm', X1, st1⟩ := X.invokevirtualNull hexec hown hlink hn hrm hstR hkP hkPi hx (g := F0 m pc ls st0) rfl (argsL := As) (rest := rest) hl9 hst (by rw [hb]; exact hdg)
  obtain ⟨t, st, q⟩ := k (T.setVm vm') hT X1
  exact ⟨t, st1 t st, q⟩
theorem vx_newarrayZ {atype : ArrayType} (hexec : p.tables.exec = Jvm.exec) (hb : c.code = cc) {n : Int32} (h0 : n < 0) (hdg : decode cc pc = .ok (.newarray atype, 2)) (k : ∀ tx : String, tx = toString n → vx_Note p l e R s m args below meth c H locs cells slots Q (F0 m pc ls rest) "java/lang/NegativeArraySizeException" tx) : W p l e R s m args below meth c H locs cells slots Q (F0 m pc ls (.int n :: rest)) := by
  intro T hT X
  obtain ⟨t, st, q⟩ := k _ rfl T hT X
  exact ⟨t, X.newarrayNegative hexec (g := F0 m pc ls (.int n :: rest)) rfl h0 (rest := rest) rfl (by rw [hb]; exact hdg) t st, q⟩
end
end VXM
/-! ===== END ===== -/
end
section
def RX0 : String := "CheeseTwins$Board"
def TX0 : u_T := fun k => match k with
  | 0 => ("CheeseTwins$Board", "pieces", "LCheeseTwins$Pieces;", true)
  | 1 => ("CheeseTwins$Board", "loans", "LCheeseTwins$Loans;", true)
  | _ => ("CheeseTwins$Board", "waiting", "LCheeseTwins$Waiting;", true)
def tyX0 : Nat → FieldType := fun k => match k with
  | 0 => .object "CheeseTwins$Pieces"
  | 1 => .object "CheeseTwins$Loans"
  | _ => .object "CheeseTwins$Waiting"
theorem nmX0 : ∀ a, a < 3 → ∀ b, b < 3 → a ≠ b → (TX0 a).2.1 ≠ (TX0 b).2.1 := by decide +kernel
theorem tyX0_ok : ∀ k, k < 3 → parseFieldDescriptor (TX0 k).2.2.1 = some (tyX0 k) := by decide +kernel
abbrev cX0_init : ByteArray := prog_2_method_1_code
def yX0_init : MethodName := ⟨RX0, "<init>", "()V"⟩
abbrev cX0_copyFrom : ByteArray := prog_2_method_2_code
def yX0_copyFrom : MethodName := ⟨RX0, "copyFrom", "(LCheeseTwins$Board;)V"⟩
abbrev cX0_canLend : ByteArray := prog_2_method_3_code
def yX0_canLend : MethodName := ⟨RX0, "canLend", "(I)Z"⟩
abbrev cX0_lendTo : ByteArray := prog_2_method_4_code
def yX0_lendTo : MethodName := ⟨RX0, "lendTo", "(II)I"⟩
abbrev cX0_lendOrQueue : ByteArray := prog_2_method_5_code
def yX0_lendOrQueue : MethodName := ⟨RX0, "lendOrQueue", "(II)I"⟩
abbrev cX0_giveBack : ByteArray := prog_2_method_6_code
def yX0_giveBack : MethodName := ⟨RX0, "giveBack", "(I)I"⟩
abbrev cX0_giveBackAll : ByteArray := prog_2_method_7_code
def yX0_giveBackAll : MethodName := ⟨RX0, "giveBackAll", "(I)I"⟩
abbrev cX0_releaseLoan : ByteArray := prog_2_method_8_code
def yX0_releaseLoan : MethodName := ⟨RX0, "releaseLoan", "(I)V"⟩
abbrev cX0_changeAmount : ByteArray := prog_2_method_9_code
def yX0_changeAmount : MethodName := ⟨RX0, "changeAmount", "(II)I"⟩
abbrev cX0_changeWay : ByteArray := prog_2_method_10_code
def yX0_changeWay : MethodName := ⟨RX0, "changeWay", "(I)I"⟩
abbrev cX0_serveWaiting : ByteArray := prog_2_method_11_code
def yX0_serveWaiting : MethodName := ⟨RX0, "serveWaiting", "()I"⟩
abbrev cX0_greatestSizeWithout : ByteArray := prog_2_method_12_code
def yX0_greatestSizeWithout : MethodName := ⟨RX0, "greatestSizeWithout", "(I)I"⟩
abbrev cX0_pieceStart : ByteArray := prog_2_method_13_code
def yX0_pieceStart : MethodName := ⟨RX0, "pieceStart", "(I)I"⟩
abbrev cX0_pieceSize : ByteArray := prog_2_method_14_code
def yX0_pieceSize : MethodName := ⟨RX0, "pieceSize", "(I)I"⟩
abbrev cX0_countFreeParts : ByteArray := prog_2_method_15_code
def yX0_countFreeParts : MethodName := ⟨RX0, "countFreeParts", "(I)I"⟩
abbrev cX0_isBoardOrHalfOfMixed : ByteArray := prog_2_method_16_code
def yX0_isBoardOrHalfOfMixed : MethodName := ⟨RX0, "isBoardOrHalfOfMixed", "(II)Z"⟩
abbrev cX0_isCovered : ByteArray := prog_2_method_17_code
def yX0_isCovered : MethodName := ⟨RX0, "isCovered", "()Z"⟩
abbrev cX0_isCountedAlike : ByteArray := prog_2_method_18_code
def yX0_isCountedAlike : MethodName := ⟨RX0, "isCountedAlike", "()Z"⟩
abbrev cX0_isSomebodyLeft : ByteArray := prog_2_method_19_code
def yX0_isSomebodyLeft : MethodName := ⟨RX0, "isSomebodyLeft", "()Z"⟩
abbrev cX0_writePieces : ByteArray := prog_2_method_20_code
def yX0_writePieces : MethodName := ⟨RX0, "writePieces", "(LCheeseTwins$Line;)V"⟩
abbrev cX0_writePiece : ByteArray := prog_2_method_21_code
def yX0_writePiece : MethodName := ⟨RX0, "writePiece", "(LCheeseTwins$Line;I)V"⟩
abbrev cX0_writeUnits : ByteArray := prog_2_method_22_code
def yX0_writeUnits : MethodName := ⟨RX0, "writeUnits", "(LCheeseTwins$Line;)V"⟩
def RX1 : String := "CheeseTwins$History"
def TX1 : u_T := fun k => match k with
  | 0 => ("CheeseTwins$History", "ring", "[LCheeseTwins$Board;", true)
  | 1 => ("CheeseTwins$History", "next", "I", false)
  | _ => ("CheeseTwins$History", "count", "I", false)
def tyX1 : Nat → FieldType := fun k => match k with
  | 0 => .array (.object "CheeseTwins$Board")
  | 1 => .int
  | _ => .int
theorem nmX1 : ∀ a, a < 3 → ∀ b, b < 3 → a ≠ b → (TX1 a).2.1 ≠ (TX1 b).2.1 := by decide +kernel
theorem tyX1_ok : ∀ k, k < 3 → parseFieldDescriptor (TX1 k).2.2.1 = some (tyX1 k) := by decide +kernel
abbrev cX1_init : ByteArray := prog_3_method_1_code
def yX1_init : MethodName := ⟨RX1, "<init>", "()V"⟩
abbrev cX1_keep : ByteArray := prog_3_method_2_code
def yX1_keep : MethodName := ⟨RX1, "keep", "(LCheeseTwins$Board;)V"⟩
abbrev cX1_takeBack : ByteArray := prog_3_method_3_code
def yX1_takeBack : MethodName := ⟨RX1, "takeBack", "(LCheeseTwins$Board;)V"⟩
abbrev cX1_keptAt : ByteArray := prog_3_method_4_code
def yX1_keptAt : MethodName := ⟨RX1, "keptAt", "(I)LCheeseTwins$Board;"⟩
abbrev cX1_clear : ByteArray := prog_3_method_5_code
def yX1_clear : MethodName := ⟨RX1, "clear", "()V"⟩
def RX2 : String := "CheeseTwins$Line"
def TX2 : u_T := fun k => match k with
  | 0 => ("CheeseTwins$Line", "signs", "[C", true)
  | _ => ("CheeseTwins$Line", "length", "I", false)
def tyX2 : Nat → FieldType := fun k => match k with
  | 0 => .array .char
  | _ => .int
theorem nmX2 : ∀ a, a < 2 → ∀ b, b < 2 → a ≠ b → (TX2 a).2.1 ≠ (TX2 b).2.1 := by decide +kernel
theorem tyX2_ok : ∀ k, k < 2 → parseFieldDescriptor (TX2 k).2.2.1 = some (tyX2 k) := by decide +kernel
abbrev cX2_init : ByteArray := prog_4_method_1_code
def yX2_init : MethodName := ⟨RX2, "<init>", "()V"⟩
abbrev cX2_clear : ByteArray := prog_4_method_2_code
def yX2_clear : MethodName := ⟨RX2, "clear", "()V"⟩
abbrev cX2_has : ByteArray := prog_4_method_3_code
def yX2_has : MethodName := ⟨RX2, "has", "(I)Z"⟩
abbrev cX2_signAt : ByteArray := prog_4_method_4_code
def yX2_signAt : MethodName := ⟨RX2, "signAt", "(I)C"⟩
abbrev cX2_put : ByteArray := prog_4_method_5_code
def yX2_put : MethodName := ⟨RX2, "put", "(C)V"⟩
abbrev cX2_putNumber : ByteArray := prog_4_method_6_code
def yX2_putNumber : MethodName := ⟨RX2, "putNumber", "(I)V"⟩
def RX3 : String := "CheeseTwins$Loans"
def TX3 : u_T := fun k => match k with
  | 0 => ("CheeseTwins$Loans", "names", "[I", true)
  | 1 => ("CheeseTwins$Loans", "amounts", "[I", true)
  | 2 => ("CheeseTwins$Loans", "starts", "[I", true)
  | 3 => ("CheeseTwins$Loans", "sizes", "[I", true)
  | _ => ("CheeseTwins$Loans", "count", "I", false)
def tyX3 : Nat → FieldType := fun k => match k with
  | 0 => .array .int
  | 1 => .array .int
  | 2 => .array .int
  | 3 => .array .int
  | _ => .int
theorem nmX3 : ∀ a, a < 5 → ∀ b, b < 5 → a ≠ b → (TX3 a).2.1 ≠ (TX3 b).2.1 := by decide +kernel
theorem tyX3_ok : ∀ k, k < 5 → parseFieldDescriptor (TX3 k).2.2.1 = some (tyX3 k) := by decide +kernel
abbrev cX3_init : ByteArray := prog_5_method_1_code
def yX3_init : MethodName := ⟨RX3, "<init>", "()V"⟩
abbrev cX3_copyFrom : ByteArray := prog_5_method_2_code
def yX3_copyFrom : MethodName := ⟨RX3, "copyFrom", "(LCheeseTwins$Loans;)V"⟩
abbrev cX3_has : ByteArray := prog_5_method_3_code
def yX3_has : MethodName := ⟨RX3, "has", "(I)Z"⟩
abbrev cX3_nameAt : ByteArray := prog_5_method_4_code
def yX3_nameAt : MethodName := ⟨RX3, "nameAt", "(I)I"⟩
abbrev cX3_amountAt : ByteArray := prog_5_method_5_code
def yX3_amountAt : MethodName := ⟨RX3, "amountAt", "(I)I"⟩
abbrev cX3_startAt : ByteArray := prog_5_method_6_code
def yX3_startAt : MethodName := ⟨RX3, "startAt", "(I)I"⟩
abbrev cX3_sizeAt : ByteArray := prog_5_method_7_code
def yX3_sizeAt : MethodName := ⟨RX3, "sizeAt", "(I)I"⟩
abbrev cX3_add : ByteArray := prog_5_method_8_code
def yX3_add : MethodName := ⟨RX3, "add", "(IIII)I"⟩
abbrev cX3_put : ByteArray := prog_5_method_9_code
def yX3_put : MethodName := ⟨RX3, "put", "(IIII)V"⟩
abbrev cX3_remove : ByteArray := prog_5_method_10_code
def yX3_remove : MethodName := ⟨RX3, "remove", "(I)V"⟩
abbrev cX3_countOf : ByteArray := prog_5_method_11_code
def yX3_countOf : MethodName := ⟨RX3, "countOf", "(I)I"⟩
abbrev cX3_amountsOf : ByteArray := prog_5_method_12_code
def yX3_amountsOf : MethodName := ⟨RX3, "amountsOf", "(I)I"⟩
abbrev cX3_sizesOf : ByteArray := prog_5_method_13_code
def yX3_sizesOf : MethodName := ⟨RX3, "sizesOf", "(I)I"⟩
abbrev cX3_allAmounts : ByteArray := prog_5_method_14_code
def yX3_allAmounts : MethodName := ⟨RX3, "allAmounts", "()I"⟩
abbrev cX3_allSizes : ByteArray := prog_5_method_15_code
def yX3_allSizes : MethodName := ⟨RX3, "allSizes", "()I"⟩
abbrev cX3_holderOf : ByteArray := prog_5_method_16_code
def yX3_holderOf : MethodName := ⟨RX3, "holderOf", "(I)I"⟩
abbrev cX3_countIn : ByteArray := prog_5_method_17_code
def yX3_countIn : MethodName := ⟨RX3, "countIn", "(II)I"⟩
abbrev cX3_isIn : ByteArray := prog_5_method_18_code
def yX3_isIn : MethodName := ⟨RX3, "isIn", "(III)Z"⟩
abbrev cX3_fewestInPart : ByteArray := prog_5_method_19_code
def yX3_fewestInPart : MethodName := ⟨RX3, "fewestInPart", "(I)I"⟩
abbrev cX3_nameOfRank : ByteArray := prog_5_method_20_code
def yX3_nameOfRank : MethodName := ⟨RX3, "nameOfRank", "(I)I"⟩
abbrev cX3_countAhead : ByteArray := prog_5_method_21_code
def yX3_countAhead : MethodName := ⟨RX3, "countAhead", "(I)I"⟩
abbrev cX3_isFirstOfName : ByteArray := prog_5_method_22_code
def yX3_isFirstOfName : MethodName := ⟨RX3, "isFirstOfName", "(I)Z"⟩
abbrev cX3_isEachNeedMet : ByteArray := prog_5_method_23_code
def yX3_isEachNeedMet : MethodName := ⟨RX3, "isEachNeedMet", "()Z"⟩
def RX4 : String := "CheeseTwins$Orders"
def TX4 : u_T := fun k => match k with
  | 0 => ("CheeseTwins$Orders", "kinds", "[I", true)
  | 1 => ("CheeseTwins$Orders", "firsts", "[I", true)
  | 2 => ("CheeseTwins$Orders", "seconds", "[I", true)
  | 3 => ("CheeseTwins$Orders", "count", "I", false)
  | 4 => ("CheeseTwins$Orders", "text", "[C", true)
  | 5 => ("CheeseTwins$Orders", "length", "I", false)
  | 6 => ("CheeseTwins$Orders", "at", "I", false)
  | _ => ("CheeseTwins$Orders", "number", "I", false)
def tyX4 : Nat → FieldType := fun k => match k with
  | 0 => .array .int
  | 1 => .array .int
  | 2 => .array .int
  | 3 => .int
  | 4 => .array .char
  | 5 => .int
  | 6 => .int
  | _ => .int
theorem nmX4 : ∀ a, a < 8 → ∀ b, b < 8 → a ≠ b → (TX4 a).2.1 ≠ (TX4 b).2.1 := by decide +kernel
theorem tyX4_ok : ∀ k, k < 8 → parseFieldDescriptor (TX4 k).2.2.1 = some (tyX4 k) := by decide +kernel
abbrev cX4_init : ByteArray := prog_6_method_1_code
def yX4_init : MethodName := ⟨RX4, "<init>", "()V"⟩
abbrev cX4_kindAt : ByteArray := prog_6_method_2_code
def yX4_kindAt : MethodName := ⟨RX4, "kindAt", "(I)I"⟩
abbrev cX4_firstAt : ByteArray := prog_6_method_3_code
def yX4_firstAt : MethodName := ⟨RX4, "firstAt", "(I)I"⟩
abbrev cX4_secondAt : ByteArray := prog_6_method_4_code
def yX4_secondAt : MethodName := ⟨RX4, "secondAt", "(I)I"⟩
abbrev cX4_has : ByteArray := prog_6_method_5_code
def yX4_has : MethodName := ⟨RX4, "has", "(I)Z"⟩
abbrev cX4_isFull : ByteArray := prog_6_method_6_code
def yX4_isFull : MethodName := ⟨RX4, "isFull", "()Z"⟩
abbrev cX4_addSign : ByteArray := prog_6_method_7_code
def yX4_addSign : MethodName := ⟨RX4, "addSign", "(C)V"⟩
abbrev cX4_clearText : ByteArray := prog_6_method_8_code
def yX4_clearText : MethodName := ⟨RX4, "clearText", "()V"⟩
abbrev cX4_read : ByteArray := prog_6_method_9_code
def yX4_read : MethodName := ⟨RX4, "read", "()I"⟩
abbrev cX4_readOrder : ByteArray := prog_6_method_10_code
def yX4_readOrder : MethodName := ⟨RX4, "readOrder", "(I)Z"⟩
abbrev cX4_isKind : ByteArray := prog_6_method_11_code
def yX4_isKind : MethodName := ⟨RX4, "isKind", "(I)Z"⟩
abbrev cX4_hasAmount : ByteArray := prog_6_method_12_code
def yX4_hasAmount : MethodName := ⟨RX4, "hasAmount", "(I)Z"⟩
abbrev cX4_put : ByteArray := prog_6_method_13_code
def yX4_put : MethodName := ⟨RX4, "put", "(IIII)V"⟩
abbrev cX4_readNumber : ByteArray := prog_6_method_14_code
def yX4_readNumber : MethodName := ⟨RX4, "readNumber", "()Z"⟩
abbrev cX4_readDigit : ByteArray := prog_6_method_15_code
def yX4_readDigit : MethodName := ⟨RX4, "readDigit", "()Z"⟩
abbrev cX4_readSign : ByteArray := prog_6_method_16_code
def yX4_readSign : MethodName := ⟨RX4, "readSign", "(I)Z"⟩
abbrev cX4_sign : ByteArray := prog_6_method_17_code
def yX4_sign : MethodName := ⟨RX4, "sign", "()I"⟩
def RX5 : String := "CheeseTwins$Pieces"
def TX5 : u_T := fun k => match k with
  | 0 => ("CheeseTwins$Pieces", "sizes", "[I", true)
  | 1 => ("CheeseTwins$Pieces", "way", "I", false)
  | 2 => ("CheeseTwins$Pieces", "halvings", "I", false)
  | _ => ("CheeseTwins$Pieces", "joinings", "I", false)
def tyX5 : Nat → FieldType := fun k => match k with
  | 0 => .array .int
  | 1 => .int
  | 2 => .int
  | _ => .int
theorem nmX5 : ∀ a, a < 4 → ∀ b, b < 4 → a ≠ b → (TX5 a).2.1 ≠ (TX5 b).2.1 := by decide +kernel
theorem tyX5_ok : ∀ k, k < 4 → parseFieldDescriptor (TX5 k).2.2.1 = some (tyX5 k) := by decide +kernel
abbrev cX5_init : ByteArray := prog_7_method_1_code
def yX5_init : MethodName := ⟨RX5, "<init>", "()V"⟩
abbrev cX5_copyFrom : ByteArray := prog_7_method_2_code
def yX5_copyFrom : MethodName := ⟨RX5, "copyFrom", "(LCheeseTwins$Pieces;)V"⟩
abbrev cX5_sizeAt : ByteArray := prog_7_method_3_code
def yX5_sizeAt : MethodName := ⟨RX5, "sizeAt", "(I)I"⟩
abbrev cX5_setSize : ByteArray := prog_7_method_4_code
def yX5_setSize : MethodName := ⟨RX5, "setSize", "(II)V"⟩
abbrev cX5_isUpperTaken : ByteArray := prog_7_method_5_code
def yX5_isUpperTaken : MethodName := ⟨RX5, "isUpperTaken", "()Z"⟩
abbrev cX5_find : ByteArray := prog_7_method_6_code
def yX5_find : MethodName := ⟨RX5, "find", "(I)I"⟩
abbrev cX5_isPreferred : ByteArray := prog_7_method_7_code
def yX5_isPreferred : MethodName := ⟨RX5, "isPreferred", "(II)Z"⟩
abbrev cX5_take : ByteArray := prog_7_method_8_code
def yX5_take : MethodName := ⟨RX5, "take", "(I)I"⟩
abbrev cX5_cutDown : ByteArray := prog_7_method_9_code
def yX5_cutDown : MethodName := ⟨RX5, "cutDown", "(III)I"⟩
abbrev cX5_release : ByteArray := prog_7_method_10_code
def yX5_release : MethodName := ⟨RX5, "release", "(II)V"⟩
abbrev cX5_joinedSize : ByteArray := prog_7_method_11_code
def yX5_joinedSize : MethodName := ⟨RX5, "joinedSize", "(II)I"⟩
abbrev cX5_greatestSize : ByteArray := prog_7_method_12_code
def yX5_greatestSize : MethodName := ⟨RX5, "greatestSize", "()I"⟩
abbrev cX5_countOfSize : ByteArray := prog_7_method_13_code
def yX5_countOfSize : MethodName := ⟨RX5, "countOfSize", "(I)I"⟩
abbrev cX5_countAll : ByteArray := prog_7_method_14_code
def yX5_countAll : MethodName := ⟨RX5, "countAll", "()I"⟩
abbrev cX5_countRoomFor : ByteArray := prog_7_method_15_code
def yX5_countRoomFor : MethodName := ⟨RX5, "countRoomFor", "(I)I"⟩
abbrev cX5_startOfPlace : ByteArray := prog_7_method_16_code
def yX5_startOfPlace : MethodName := ⟨RX5, "startOfPlace", "(I)I"⟩
abbrev cX5_startOf : ByteArray := prog_7_method_17_code
def yX5_startOf : MethodName := ⟨RX5, "startOf", "(I)I"⟩
abbrev cX5_countWith : ByteArray := prog_7_method_18_code
def yX5_countWith : MethodName := ⟨RX5, "countWith", "(I)I"⟩
abbrev cX5_isWithin : ByteArray := prog_7_method_19_code
def yX5_isWithin : MethodName := ⟨RX5, "isWithin", "(III)Z"⟩
def RX6 : String := "CheeseTwins$Waiting"
def TX6 : u_T := fun k => match k with
  | 0 => ("CheeseTwins$Waiting", "names", "[I", true)
  | 1 => ("CheeseTwins$Waiting", "amounts", "[I", true)
  | _ => ("CheeseTwins$Waiting", "count", "I", false)
def tyX6 : Nat → FieldType := fun k => match k with
  | 0 => .array .int
  | 1 => .array .int
  | _ => .int
theorem nmX6 : ∀ a, a < 3 → ∀ b, b < 3 → a ≠ b → (TX6 a).2.1 ≠ (TX6 b).2.1 := by decide +kernel
theorem tyX6_ok : ∀ k, k < 3 → parseFieldDescriptor (TX6 k).2.2.1 = some (tyX6 k) := by decide +kernel
abbrev cX6_init : ByteArray := prog_8_method_1_code
def yX6_init : MethodName := ⟨RX6, "<init>", "()V"⟩
abbrev cX6_copyFrom : ByteArray := prog_8_method_2_code
def yX6_copyFrom : MethodName := ⟨RX6, "copyFrom", "(LCheeseTwins$Waiting;)V"⟩
abbrev cX6_has : ByteArray := prog_8_method_3_code
def yX6_has : MethodName := ⟨RX6, "has", "(I)Z"⟩
abbrev cX6_nameAt : ByteArray := prog_8_method_4_code
def yX6_nameAt : MethodName := ⟨RX6, "nameAt", "(I)I"⟩
abbrev cX6_amountAt : ByteArray := prog_8_method_5_code
def yX6_amountAt : MethodName := ⟨RX6, "amountAt", "(I)I"⟩
abbrev cX6_add : ByteArray := prog_8_method_6_code
def yX6_add : MethodName := ⟨RX6, "add", "(II)V"⟩
abbrev cX6_remove : ByteArray := prog_8_method_7_code
def yX6_remove : MethodName := ⟨RX6, "remove", "(I)V"⟩
abbrev cX6_countOf : ByteArray := prog_8_method_8_code
def yX6_countOf : MethodName := ⟨RX6, "countOf", "(I)I"⟩
def RX7 : String := "CheeseTwins"
def TX7 : u_T := fun k => match k with
  | 0 => ("CheeseTwins", "board", "LCheeseTwins$Board;", true)
  | 1 => ("CheeseTwins", "beforeRun", "LCheeseTwins$Board;", true)
  | 2 => ("CheeseTwins", "snapshot", "LCheeseTwins$Board;", true)
  | 3 => ("CheeseTwins", "history", "LCheeseTwins$History;", true)
  | 4 => ("CheeseTwins", "line", "LCheeseTwins$Line;", true)
  | 5 => ("CheeseTwins", "orders", "LCheeseTwins$Orders;", true)
  | 6 => ("CheeseTwins", "lastError", "I", false)
  | 7 => ("CheeseTwins", "hasSnapshot", "Z", false)
  | 8 => ("CheeseTwins", "reason", "I", false)
  | _ => ("CheeseTwins", "detail", "I", false)
def tyX7 : Nat → FieldType := fun k => match k with
  | 0 => .object "CheeseTwins$Board"
  | 1 => .object "CheeseTwins$Board"
  | 2 => .object "CheeseTwins$Board"
  | 3 => .object "CheeseTwins$History"
  | 4 => .object "CheeseTwins$Line"
  | 5 => .object "CheeseTwins$Orders"
  | 6 => .int
  | 7 => .boolean
  | 8 => .int
  | _ => .int
theorem nmX7 : ∀ a, a < 10 → ∀ b, b < 10 → a ≠ b → (TX7 a).2.1 ≠ (TX7 b).2.1 := by decide +kernel
theorem tyX7_ok : ∀ k, k < 10 → parseFieldDescriptor (TX7 k).2.2.1 = some (tyX7 k) := by decide +kernel
abbrev cX7_init : ByteArray := prog_1_method_1_code
def yX7_init : MethodName := ⟨RX7, "<init>", "()V"⟩
abbrev cX7_lend : ByteArray := prog_1_method_2_code
def yX7_lend : MethodName := ⟨RX7, "lend", "(II)I"⟩
abbrev cX7_ask : ByteArray := prog_1_method_3_code
def yX7_ask : MethodName := ⟨RX7, "ask", "(II)I"⟩
abbrev cX7_give : ByteArray := prog_1_method_4_code
def yX7_give : MethodName := ⟨RX7, "give", "(I)I"⟩
abbrev cX7_giveAll : ByteArray := prog_1_method_5_code
def yX7_giveAll : MethodName := ⟨RX7, "giveAll", "(I)I"⟩
abbrev cX7_resize : ByteArray := prog_1_method_6_code
def yX7_resize : MethodName := ⟨RX7, "resize", "(II)I"⟩
abbrev cX7_way : ByteArray := prog_1_method_7_code
def yX7_way : MethodName := ⟨RX7, "way", "(I)I"⟩
abbrev cX7_forget : ByteArray := prog_1_method_8_code
def yX7_forget : MethodName := ⟨RX7, "forget", "(I)I"⟩
abbrev cX7_loanOf : ByteArray := prog_1_method_9_code
def yX7_loanOf : MethodName := ⟨RX7, "loanOf", "(II)I"⟩
abbrev cX7_nameOf : ByteArray := prog_1_method_10_code
def yX7_nameOf : MethodName := ⟨RX7, "nameOf", "(II)I"⟩
abbrev cX7_waitingOf : ByteArray := prog_1_method_11_code
def yX7_waitingOf : MethodName := ⟨RX7, "waitingOf", "(II)I"⟩
abbrev cX7_pieceOf : ByteArray := prog_1_method_12_code
def yX7_pieceOf : MethodName := ⟨RX7, "pieceOf", "(II)I"⟩
abbrev cX7_free : ByteArray := prog_1_method_13_code
def yX7_free : MethodName := ⟨RX7, "free", "(IZ)I"⟩
abbrev cX7_greatest : ByteArray := prog_1_method_14_code
def yX7_greatest : MethodName := ⟨RX7, "greatest", "()I"⟩
abbrev cX7_would : ByteArray := prog_1_method_15_code
def yX7_would : MethodName := ⟨RX7, "would", "(I)I"⟩
abbrev cX7_cuts : ByteArray := prog_1_method_16_code
def yX7_cuts : MethodName := ⟨RX7, "cuts", "(I)I"⟩
abbrev cX7_fits : ByteArray := prog_1_method_17_code
def yX7_fits : MethodName := ⟨RX7, "fits", "(I)I"⟩
abbrev cX7_hole : ByteArray := prog_1_method_18_code
def yX7_hole : MethodName := ⟨RX7, "hole", "(I)I"⟩
abbrev cX7_inTheWay : ByteArray := prog_1_method_19_code
def yX7_inTheWay : MethodName := ⟨RX7, "inTheWay", "(I)I"⟩
abbrev cX7_ranked : ByteArray := prog_1_method_20_code
def yX7_ranked : MethodName := ⟨RX7, "ranked", "(I)I"⟩
abbrev cX7_line : ByteArray := prog_1_method_21_code
def yX7_line : MethodName := ⟨RX7, "line", "()I"⟩
abbrev cX7_map : ByteArray := prog_1_method_22_code
def yX7_map : MethodName := ⟨RX7, "map", "()I"⟩
abbrev cX7_character : ByteArray := prog_1_method_23_code
def yX7_character : MethodName := ⟨RX7, "character", "(I)C"⟩
abbrev cX7_append : ByteArray := prog_1_method_24_code
def yX7_append : MethodName := ⟨RX7, "append", "(C)I"⟩
abbrev cX7_run : ByteArray := prog_1_method_25_code
def yX7_run : MethodName := ⟨RX7, "run", "()I"⟩
abbrev cX7_errorPosition : ByteArray := prog_1_method_26_code
def yX7_errorPosition : MethodName := ⟨RX7, "errorPosition", "()I"⟩
abbrev cX7_refusal : ByteArray := prog_1_method_27_code
def yX7_refusal : MethodName := ⟨RX7, "refusal", "(Z)I"⟩
abbrev cX7_account : ByteArray := prog_1_method_28_code
def yX7_account : MethodName := ⟨RX7, "account", "(I)I"⟩
abbrev cX7_isWell : ByteArray := prog_1_method_29_code
def yX7_isWell : MethodName := ⟨RX7, "isWell", "()Z"⟩
abbrev cX7_meanWaste : ByteArray := prog_1_method_30_code
def yX7_meanWaste : MethodName := ⟨RX7, "meanWaste", "()D"⟩
abbrev cX7_lentShare : ByteArray := prog_1_method_31_code
def yX7_lentShare : MethodName := ⟨RX7, "lentShare", "()F"⟩
abbrev cX7_undo : ByteArray := prog_1_method_32_code
def yX7_undo : MethodName := ⟨RX7, "undo", "()I"⟩
abbrev cX7_save : ByteArray := prog_1_method_33_code
def yX7_save : MethodName := ⟨RX7, "save", "()I"⟩
abbrev cX7_restore : ByteArray := prog_1_method_34_code
def yX7_restore : MethodName := ⟨RX7, "restore", "()I"⟩
abbrev cX7_judgeLend : ByteArray := prog_1_method_35_code
def yX7_judgeLend : MethodName := ⟨RX7, "judgeLend", "(II)I"⟩
abbrev cX7_judgeAsk : ByteArray := prog_1_method_36_code
def yX7_judgeAsk : MethodName := ⟨RX7, "judgeAsk", "(II)I"⟩
abbrev cX7_judgeGive : ByteArray := prog_1_method_37_code
def yX7_judgeGive : MethodName := ⟨RX7, "judgeGive", "(I)I"⟩
abbrev cX7_judgeGiveAll : ByteArray := prog_1_method_38_code
def yX7_judgeGiveAll : MethodName := ⟨RX7, "judgeGiveAll", "(I)I"⟩
abbrev cX7_judgeResize : ByteArray := prog_1_method_39_code
def yX7_judgeResize : MethodName := ⟨RX7, "judgeResize", "(II)I"⟩
abbrev cX7_judgeWay : ByteArray := prog_1_method_40_code
def yX7_judgeWay : MethodName := ⟨RX7, "judgeWay", "(I)I"⟩
abbrev cX7_refuse : ByteArray := prog_1_method_41_code
def yX7_refuse : MethodName := ⟨RX7, "refuse", "(II)I"⟩
abbrev cX7_insist : ByteArray := prog_1_method_42_code
def yX7_insist : MethodName := ⟨RX7, "insist", "(I)V"⟩
abbrev cX7_insistOnNeed : ByteArray := prog_1_method_43_code
def yX7_insistOnNeed : MethodName := ⟨RX7, "insistOnNeed", "(I)I"⟩
abbrev cX7_insistOnPiece : ByteArray := prog_1_method_44_code
def yX7_insistOnPiece : MethodName := ⟨RX7, "insistOnPiece", "(I)I"⟩
abbrev cX7_judgeOrder : ByteArray := prog_1_method_45_code
def yX7_judgeOrder : MethodName := ⟨RX7, "judgeOrder", "(III)I"⟩
abbrev cX7_carryOut : ByteArray := prog_1_method_46_code
def yX7_carryOut : MethodName := ⟨RX7, "carryOut", "(III)V"⟩
abbrev cX7_isName : ByteArray := prog_1_method_47_code
def yX7_isName : MethodName := ⟨RX7, "isName", "(I)Z"⟩
abbrev cX7_isAmount : ByteArray := prog_1_method_48_code
def yX7_isAmount : MethodName := ⟨RX7, "isAmount", "(I)Z"⟩
abbrev cX7_isUnit : ByteArray := prog_1_method_49_code
def yX7_isUnit : MethodName := ⟨RX7, "isUnit", "(I)Z"⟩
abbrev cX7_isSize : ByteArray := prog_1_method_50_code
def yX7_isSize : MethodName := ⟨RX7, "isSize", "(I)Z"⟩
abbrev cX7_needOf : ByteArray := prog_1_method_51_code
def yX7_needOf : MethodName := ⟨RX7, "needOf", "(I)I"⟩
abbrev cX7_partOf : ByteArray := prog_1_method_52_code
def yX7_partOf : MethodName := ⟨RX7, "partOf", "(II)I"⟩
abbrev cX7_twinOf : ByteArray := prog_1_method_53_code
def yX7_twinOf : MethodName := ⟨RX7, "twinOf", "(II)I"⟩
def RX8 : String := "CheeseTwinsModel"
def TX8 : u_T := fun k => match k with
  | 0 => ("CheeseTwinsModel", "g", "[I", true)
  | 1 => ("CheeseTwinsModel", "before", "[I", true)
  | 2 => ("CheeseTwinsModel", "history", "[I", true)
  | 3 => ("CheeseTwinsModel", "changes", "I", false)
  | 4 => ("CheeseTwinsModel", "savedOnes", "[I", true)
  | 5 => ("CheeseTwinsModel", "hasSaved", "Z", false)
  | 6 => ("CheeseTwinsModel", "input", "[C", true)
  | 7 => ("CheeseTwinsModel", "typed", "I", false)
  | 8 => ("CheeseTwinsModel", "errorAt", "I", false)
  | 9 => ("CheeseTwinsModel", "why", "I", false)
  | 10 => ("CheeseTwinsModel", "whyDetail", "I", false)
  | 11 => ("CheeseTwinsModel", "isRefused", "Z", false)
  | 12 => ("CheeseTwinsModel", "letters", "[C", true)
  | 13 => ("CheeseTwinsModel", "lined", "I", false)
  | 14 => ("CheeseTwinsModel", "thrown", "I", false)
  | 15 => ("CheeseTwinsModel", "spot", "I", false)
  | 16 => ("CheeseTwinsModel", "isWrong", "Z", false)
  | _ => ("CheeseTwinsModel", "told", "[I", true)
def tyX8 : Nat → FieldType := fun k => match k with
  | 0 => .array .int
  | 1 => .array .int
  | 2 => .array .int
  | 3 => .int
  | 4 => .array .int
  | 5 => .boolean
  | 6 => .array .char
  | 7 => .int
  | 8 => .int
  | 9 => .int
  | 10 => .int
  | 11 => .boolean
  | 12 => .array .char
  | 13 => .int
  | 14 => .int
  | 15 => .int
  | 16 => .boolean
  | _ => .array .int
theorem nmX8 : ∀ a, a < 18 → ∀ b, b < 18 → a ≠ b → (TX8 a).2.1 ≠ (TX8 b).2.1 := by decide +kernel
theorem tyX8_ok : ∀ k, k < 18 → parseFieldDescriptor (TX8 k).2.2.1 = some (tyX8 k) := by decide +kernel
abbrev cX8_init : ByteArray := prog_10_method_1_code
def yX8_init : MethodName := ⟨RX8, "<init>", "()V"⟩
abbrev cX8_thrown : ByteArray := prog_10_method_2_code
def yX8_thrown : MethodName := ⟨RX8, "thrown", "()I"⟩
abbrev cX8_in : ByteArray := prog_10_method_3_code
def yX8_in : MethodName := ⟨RX8, "in", "(III)Z"⟩
abbrev cX8_done : ByteArray := prog_10_method_4_code
def yX8_done : MethodName := ⟨RX8, "done", "(I)I"⟩
abbrev cX8_fails : ByteArray := prog_10_method_5_code
def yX8_fails : MethodName := ⟨RX8, "fails", "(I)I"⟩
abbrev cX8_refused : ByteArray := prog_10_method_6_code
def yX8_refused : MethodName := ⟨RX8, "refused", "(III)I"⟩
abbrev cX8_copy : ByteArray := prog_10_method_7_code
def yX8_copy : MethodName := ⟨RX8, "copy", "([II[II)V"⟩
abbrev cX8_looksBack : ByteArray := prog_10_method_8_code
def yX8_looksBack : MethodName := ⟨RX8, "looksBack", "()V"⟩
abbrev cX8_kept : ByteArray := prog_10_method_9_code
def yX8_kept : MethodName := ⟨RX8, "kept", "(I)I"⟩
abbrev cX8_isName : ByteArray := prog_10_method_10_code
def yX8_isName : MethodName := ⟨RX8, "isName", "(I)Z"⟩
abbrev cX8_isAmount : ByteArray := prog_10_method_11_code
def yX8_isAmount : MethodName := ⟨RX8, "isAmount", "(I)Z"⟩
abbrev cX8_isLoan : ByteArray := prog_10_method_12_code
def yX8_isLoan : MethodName := ⟨RX8, "isLoan", "(I)Z"⟩
abbrev cX8_need : ByteArray := prog_10_method_13_code
def yX8_need : MethodName := ⟨RX8, "need", "(I)I"⟩
abbrev cX8_loanAt : ByteArray := prog_10_method_14_code
def yX8_loanAt : MethodName := ⟨RX8, "loanAt", "(I)I"⟩
abbrev cX8_isFreeAt : ByteArray := prog_10_method_15_code
def yX8_isFreeAt : MethodName := ⟨RX8, "isFreeAt", "(I)Z"⟩
abbrev cX8_isBetter : ByteArray := prog_10_method_16_code
def yX8_isBetter : MethodName := ⟨RX8, "isBetter", "(II)Z"⟩
abbrev cX8_finds : ByteArray := prog_10_method_17_code
def yX8_finds : MethodName := ⟨RX8, "finds", "(I)I"⟩
abbrev cX8_greatestFree : ByteArray := prog_10_method_18_code
def yX8_greatestFree : MethodName := ⟨RX8, "greatestFree", "()I"⟩
abbrev cX8_halves : ByteArray := prog_10_method_19_code
def yX8_halves : MethodName := ⟨RX8, "halves", "(II)I"⟩
abbrev cX8_joins : ByteArray := prog_10_method_20_code
def yX8_joins : MethodName := ⟨RX8, "joins", "(I)V"⟩
abbrev cX8_canLend : ByteArray := prog_10_method_21_code
def yX8_canLend : MethodName := ⟨RX8, "canLend", "(I)Z"⟩
abbrev cX8_lendsTo : ByteArray := prog_10_method_22_code
def yX8_lendsTo : MethodName := ⟨RX8, "lendsTo", "(II)I"⟩
abbrev cX8_leaves : ByteArray := prog_10_method_23_code
def yX8_leaves : MethodName := ⟨RX8, "leaves", "(I)V"⟩
abbrev cX8_serves : ByteArray := prog_10_method_24_code
def yX8_serves : MethodName := ⟨RX8, "serves", "()I"⟩
abbrev cX8_lends : ByteArray := prog_10_method_25_code
def yX8_lends : MethodName := ⟨RX8, "lends", "(II)I"⟩
abbrev cX8_lend : ByteArray := prog_10_method_26_code
def yX8_lend : MethodName := ⟨RX8, "lend", "(II)I"⟩
abbrev cX8_asks : ByteArray := prog_10_method_27_code
def yX8_asks : MethodName := ⟨RX8, "asks", "(II)I"⟩
abbrev cX8_ask : ByteArray := prog_10_method_28_code
def yX8_ask : MethodName := ⟨RX8, "ask", "(II)I"⟩
abbrev cX8_comesBack : ByteArray := prog_10_method_29_code
def yX8_comesBack : MethodName := ⟨RX8, "comesBack", "(I)V"⟩
abbrev cX8_gives : ByteArray := prog_10_method_30_code
def yX8_gives : MethodName := ⟨RX8, "gives", "(I)I"⟩
abbrev cX8_give : ByteArray := prog_10_method_31_code
def yX8_give : MethodName := ⟨RX8, "give", "(I)I"⟩
abbrev cX8_waitingFor : ByteArray := prog_10_method_32_code
def yX8_waitingFor : MethodName := ⟨RX8, "waitingFor", "(I)I"⟩
abbrev cX8_givesAll : ByteArray := prog_10_method_33_code
def yX8_givesAll : MethodName := ⟨RX8, "givesAll", "(I)I"⟩
abbrev cX8_giveAll : ByteArray := prog_10_method_34_code
def yX8_giveAll : MethodName := ⟨RX8, "giveAll", "(I)I"⟩
abbrev cX8_grows : ByteArray := prog_10_method_35_code
def yX8_grows : MethodName := ⟨RX8, "grows", "(II)Z"⟩
abbrev cX8_resizes : ByteArray := prog_10_method_36_code
def yX8_resizes : MethodName := ⟨RX8, "resizes", "(II)I"⟩
abbrev cX8_resize : ByteArray := prog_10_method_37_code
def yX8_resize : MethodName := ⟨RX8, "resize", "(II)I"⟩
abbrev cX8_wayIs : ByteArray := prog_10_method_38_code
def yX8_wayIs : MethodName := ⟨RX8, "wayIs", "(I)I"⟩
abbrev cX8_way : ByteArray := prog_10_method_39_code
def yX8_way : MethodName := ⟨RX8, "way", "(I)I"⟩
abbrev cX8_forgets : ByteArray := prog_10_method_40_code
def yX8_forgets : MethodName := ⟨RX8, "forgets", "(I)I"⟩
abbrev cX8_forget : ByteArray := prog_10_method_41_code
def yX8_forget : MethodName := ⟨RX8, "forget", "(I)I"⟩
abbrev cX8_sizeOf : ByteArray := prog_10_method_42_code
def yX8_sizeOf : MethodName := ⟨RX8, "sizeOf", "(I)I"⟩
abbrev cX8_loanOf : ByteArray := prog_10_method_43_code
def yX8_loanOf : MethodName := ⟨RX8, "loanOf", "(II)I"⟩
abbrev cX8_held : ByteArray := prog_10_method_44_code
def yX8_held : MethodName := ⟨RX8, "held", "(II)I"⟩
abbrev cX8_nameOf : ByteArray := prog_10_method_45_code
def yX8_nameOf : MethodName := ⟨RX8, "nameOf", "(II)I"⟩
abbrev cX8_waitingOf : ByteArray := prog_10_method_46_code
def yX8_waitingOf : MethodName := ⟨RX8, "waitingOf", "(II)I"⟩
abbrev cX8_startOf : ByteArray := prog_10_method_47_code
def yX8_startOf : MethodName := ⟨RX8, "startOf", "(I)I"⟩
abbrev cX8_pieceOf : ByteArray := prog_10_method_48_code
def yX8_pieceOf : MethodName := ⟨RX8, "pieceOf", "(II)I"⟩
abbrev cX8_freeOf : ByteArray := prog_10_method_49_code
def yX8_freeOf : MethodName := ⟨RX8, "freeOf", "(I)I"⟩
abbrev cX8_free : ByteArray := prog_10_method_50_code
def yX8_free : MethodName := ⟨RX8, "free", "(IZ)I"⟩
abbrev cX8_greatest : ByteArray := prog_10_method_51_code
def yX8_greatest : MethodName := ⟨RX8, "greatest", "()I"⟩
abbrev cX8_would : ByteArray := prog_10_method_52_code
def yX8_would : MethodName := ⟨RX8, "would", "(I)I"⟩
abbrev cX8_cuts : ByteArray := prog_10_method_53_code
def yX8_cuts : MethodName := ⟨RX8, "cuts", "(I)I"⟩
abbrev cX8_fits : ByteArray := prog_10_method_54_code
def yX8_fits : MethodName := ⟨RX8, "fits", "(I)I"⟩
abbrev cX8_hole : ByteArray := prog_10_method_55_code
def yX8_hole : MethodName := ⟨RX8, "hole", "(I)I"⟩
abbrev cX8_loansIn : ByteArray := prog_10_method_56_code
def yX8_loansIn : MethodName := ⟨RX8, "loansIn", "(II)I"⟩
abbrev cX8_inTheWay : ByteArray := prog_10_method_57_code
def yX8_inTheWay : MethodName := ⟨RX8, "inTheWay", "(I)I"⟩
abbrev cX8_ranked : ByteArray := prog_10_method_58_code
def yX8_ranked : MethodName := ⟨RX8, "ranked", "(I)I"⟩
abbrev cX8_writes : ByteArray := prog_10_method_59_code
def yX8_writes : MethodName := ⟨RX8, "writes", "(I)V"⟩
abbrev cX8_writesNumber : ByteArray := prog_10_method_60_code
def yX8_writesNumber : MethodName := ⟨RX8, "writesNumber", "(I)V"⟩
abbrev cX8_line : ByteArray := prog_10_method_61_code
def yX8_line : MethodName := ⟨RX8, "line", "()I"⟩
abbrev cX8_map : ByteArray := prog_10_method_62_code
def yX8_map : MethodName := ⟨RX8, "map", "()I"⟩
abbrev cX8_character : ByteArray := prog_10_method_63_code
def yX8_character : MethodName := ⟨RX8, "character", "(I)C"⟩
abbrev cX8_append : ByteArray := prog_10_method_64_code
def yX8_append : MethodName := ⟨RX8, "append", "(C)I"⟩
abbrev cX8_here : ByteArray := prog_10_method_65_code
def yX8_here : MethodName := ⟨RX8, "here", "()I"⟩
abbrev cX8_figures : ByteArray := prog_10_method_66_code
def yX8_figures : MethodName := ⟨RX8, "figures", "(I)I"⟩
abbrev cX8_readsOrder : ByteArray := prog_10_method_67_code
def yX8_readsOrder : MethodName := ⟨RX8, "readsOrder", "(I)V"⟩
abbrev cX8_does : ByteArray := prog_10_method_68_code
def yX8_does : MethodName := ⟨RX8, "does", "(I)I"⟩
abbrev cX8_run : ByteArray := prog_10_method_69_code
def yX8_run : MethodName := ⟨RX8, "run", "()I"⟩
abbrev cX8_errorPosition : ByteArray := prog_10_method_70_code
def yX8_errorPosition : MethodName := ⟨RX8, "errorPosition", "()I"⟩
abbrev cX8_refusal : ByteArray := prog_10_method_71_code
def yX8_refusal : MethodName := ⟨RX8, "refusal", "(Z)I"⟩
abbrev cX8_all : ByteArray := prog_10_method_72_code
def yX8_all : MethodName := ⟨RX8, "all", "(I)I"⟩
abbrev cX8_freePieces : ByteArray := prog_10_method_73_code
def yX8_freePieces : MethodName := ⟨RX8, "freePieces", "()I"⟩
abbrev cX8_account : ByteArray := prog_10_method_74_code
def yX8_account : MethodName := ⟨RX8, "account", "(I)I"⟩
abbrev cX8_isWell : ByteArray := prog_10_method_75_code
def yX8_isWell : MethodName := ⟨RX8, "isWell", "()Z"⟩
abbrev cX8_meanWaste : ByteArray := prog_10_method_76_code
def yX8_meanWaste : MethodName := ⟨RX8, "meanWaste", "()D"⟩
abbrev cX8_lentShare : ByteArray := prog_10_method_77_code
def yX8_lentShare : MethodName := ⟨RX8, "lentShare", "()F"⟩
abbrev cX8_undo : ByteArray := prog_10_method_78_code
def yX8_undo : MethodName := ⟨RX8, "undo", "()I"⟩
abbrev cX8_save : ByteArray := prog_10_method_79_code
def yX8_save : MethodName := ⟨RX8, "save", "()I"⟩
abbrev cX8_restore : ByteArray := prog_10_method_80_code
def yX8_restore : MethodName := ⟨RX8, "restore", "()I"⟩
def RJx00060 : String := "java/lang/ArrayIndexOutOfBoundsException"
def TJx00060 : u_T := fun k => match k with
  | 0 => ("java/lang/Throwable", "backtrace", "Ljava/lang/Object;", false)
  | 1 => ("java/lang/Throwable", "detailMessage", "Ljava/lang/String;", false)
  | 2 => ("java/lang/Throwable", "cause", "Ljava/lang/Throwable;", false)
  | 3 => ("java/lang/Throwable", "stackTrace", "[Ljava/lang/StackTraceElement;", false)
  | 4 => ("java/lang/Throwable", "depth", "I", false)
  | _ => ("java/lang/Throwable", "suppressedExceptions", "Ljava/util/List;", false)
def tyJx00060 : Nat → FieldType := fun k => match k with
  | 0 => .object "java/lang/Object"
  | 1 => .object "java/lang/String"
  | 2 => .object "java/lang/Throwable"
  | 3 => .array (.object "java/lang/StackTraceElement")
  | 4 => .int
  | _ => .object "java/util/List"
theorem nmJx00060 : ∀ a, a < 6 → ∀ b, b < 6 → a ≠ b → (TJx00060 a).2.1 ≠ (TJx00060 b).2.1 := by decide +kernel
theorem tyJx00060_ok : ∀ k, k < 6 → parseFieldDescriptor (TJx00060 k).2.2.1 = some (tyJx00060 k) := by decide +kernel
def RJ0 : String := "java/lang/String"
def TJ0 : u_T := fun k => match k with
  | 0 => ("java/lang/String", "value", "[B", true)
  | _ => ("java/lang/String", "coder", "B", true)
def tyJ0 : Nat → FieldType := fun k => match k with
  | 0 => .array .byte
  | _ => .byte
theorem nmJ0 : ∀ a, a < 2 → ∀ b, b < 2 → a ≠ b → (TJ0 a).2.1 ≠ (TJ0 b).2.1 := by decide +kernel
theorem tyJ0_ok : ∀ k, k < 2 → parseFieldDescriptor (TJ0 k).2.2.1 = some (tyJ0 k) := by decide +kernel
def RL : String := "CheeseTwinsLaw"
abbrev cL_lend : ByteArray := method_3_code
def yL_lend : MethodName := ⟨RL, "lend", "(LCheeseTwins;II[J)I"⟩
abbrev cL_ask : ByteArray := method_4_code
def yL_ask : MethodName := ⟨RL, "ask", "(LCheeseTwins;II[J)I"⟩
abbrev cL_give : ByteArray := method_5_code
def yL_give : MethodName := ⟨RL, "give", "(LCheeseTwins;I[J)I"⟩
abbrev cL_giveAll : ByteArray := method_6_code
def yL_giveAll : MethodName := ⟨RL, "giveAll", "(LCheeseTwins;I[J)I"⟩
abbrev cL_resize : ByteArray := method_7_code
def yL_resize : MethodName := ⟨RL, "resize", "(LCheeseTwins;II[J)I"⟩
abbrev cL_way : ByteArray := method_8_code
def yL_way : MethodName := ⟨RL, "way", "(LCheeseTwins;I[J)I"⟩
abbrev cL_forget : ByteArray := method_9_code
def yL_forget : MethodName := ⟨RL, "forget", "(LCheeseTwins;I[J)I"⟩
abbrev cL_loanOf : ByteArray := method_10_code
def yL_loanOf : MethodName := ⟨RL, "loanOf", "(LCheeseTwins;II[J)I"⟩
abbrev cL_nameOf : ByteArray := method_11_code
def yL_nameOf : MethodName := ⟨RL, "nameOf", "(LCheeseTwins;II[J)I"⟩
abbrev cL_waitingOf : ByteArray := method_12_code
def yL_waitingOf : MethodName := ⟨RL, "waitingOf", "(LCheeseTwins;II[J)I"⟩
abbrev cL_pieceOf : ByteArray := method_13_code
def yL_pieceOf : MethodName := ⟨RL, "pieceOf", "(LCheeseTwins;II[J)I"⟩
abbrev cL_free : ByteArray := method_14_code
def yL_free : MethodName := ⟨RL, "free", "(LCheeseTwins;IZ[J)I"⟩
abbrev cL_greatest : ByteArray := method_15_code
def yL_greatest : MethodName := ⟨RL, "greatest", "(LCheeseTwins;[J)I"⟩
abbrev cL_would : ByteArray := method_16_code
def yL_would : MethodName := ⟨RL, "would", "(LCheeseTwins;I[J)I"⟩
abbrev cL_cuts : ByteArray := method_17_code
def yL_cuts : MethodName := ⟨RL, "cuts", "(LCheeseTwins;I[J)I"⟩
abbrev cL_fits : ByteArray := method_18_code
def yL_fits : MethodName := ⟨RL, "fits", "(LCheeseTwins;I[J)I"⟩
abbrev cL_hole : ByteArray := method_19_code
def yL_hole : MethodName := ⟨RL, "hole", "(LCheeseTwins;I[J)I"⟩
abbrev cL_inTheWay : ByteArray := method_20_code
def yL_inTheWay : MethodName := ⟨RL, "inTheWay", "(LCheeseTwins;I[J)I"⟩
abbrev cL_ranked : ByteArray := method_21_code
def yL_ranked : MethodName := ⟨RL, "ranked", "(LCheeseTwins;I[J)I"⟩
abbrev cL_character : ByteArray := method_22_code
def yL_character : MethodName := ⟨RL, "character", "(LCheeseTwins;I[J)I"⟩
abbrev cL_append : ByteArray := method_23_code
def yL_append : MethodName := ⟨RL, "append", "(LCheeseTwins;C[J)I"⟩
abbrev cL_run : ByteArray := method_24_code
def yL_run : MethodName := ⟨RL, "run", "(LCheeseTwins;[J)I"⟩
abbrev cL_refusal : ByteArray := method_25_code
def yL_refusal : MethodName := ⟨RL, "refusal", "(LCheeseTwins;Z[J)I"⟩
abbrev cL_account : ByteArray := method_26_code
def yL_account : MethodName := ⟨RL, "account", "(LCheeseTwins;I[J)I"⟩
abbrev cL_meanWaste : ByteArray := method_27_code
def yL_meanWaste : MethodName := ⟨RL, "meanWaste", "(LCheeseTwins;[D)I"⟩
abbrev cL_undo : ByteArray := method_28_code
def yL_undo : MethodName := ⟨RL, "undo", "(LCheeseTwins;[J)I"⟩
abbrev cL_restore : ByteArray := method_29_code
def yL_restore : MethodName := ⟨RL, "restore", "(LCheeseTwins;[J)I"⟩
abbrev cL_law : ByteArray := code
def yL_law : MethodName := ⟨RL, "law", "([I)Z"⟩
abbrev vwCl : List vw_C := [(RJ0, TJ0, 2), (RJx00060, TJx00060, 6), (RX0, TX0, 3), (RX1, TX1, 3), (RX2, TX2, 2), (RX3, TX3, 5), (RX4, TX4, 8), (RX5, TX5, 4), (RX6, TX6, 3), (RX7, TX7, 10), (RX8, TX8, 18)]
/-! word facts -/
def wok (w : Cond) : Prop := w ∈ lw_tbl ∧ goodWord w = true
theorem tin_1 : ∀ w ∈ tables_1_1, w ∈ lw_tbl := fun w h => List.mem_append_right _ (show w ∈ tables_1 from List.mem_append_left _ h)
theorem wo1 {w : Cond} (i : Nat) (h : tables_1_1[i]? = some w) (g : goodWord w = true) : wok w := ⟨tin_1 w (List.mem_of_getElem? h), g⟩
theorem tin_2 : ∀ w ∈ tables_1_2, w ∈ lw_tbl := fun w h => List.mem_append_right _ (show w ∈ tables_1 from List.mem_append_right _ (List.mem_append_left _ h))
theorem wo2 {w : Cond} (i : Nat) (h : tables_1_2[i]? = some w) (g : goodWord w = true) : wok w := ⟨tin_2 w (List.mem_of_getElem? h), g⟩
theorem tin_3 : ∀ w ∈ tables_1_3, w ∈ lw_tbl := fun w h => List.mem_append_right _ (show w ∈ tables_1 from List.mem_append_right _ (List.mem_append_right _ (List.mem_append_left _ h)))
theorem wo3 {w : Cond} (i : Nat) (h : tables_1_3[i]? = some w) (g : goodWord w = true) : wok w := ⟨tin_3 w (List.mem_of_getElem? h), g⟩
theorem tin_4 : ∀ w ∈ tables_1_4, w ∈ lw_tbl := fun w h => List.mem_append_right _ (show w ∈ tables_1 from List.mem_append_right _ (List.mem_append_right _ (List.mem_append_right _ (List.mem_append_left _ h))))
theorem wo4 {w : Cond} (i : Nat) (h : tables_1_4[i]? = some w) (g : goodWord w = true) : wok w := ⟨tin_4 w (List.mem_of_getElem? h), g⟩
theorem tin_5 : ∀ w ∈ tables_1_5, w ∈ lw_tbl := fun w h => List.mem_append_right _ (show w ∈ tables_1 from List.mem_append_right _ (List.mem_append_right _ (List.mem_append_right _ (List.mem_append_right _ (List.mem_append_left _ h)))))
theorem wo5 {w : Cond} (i : Nat) (h : tables_1_5[i]? = some w) (g : goodWord w = true) : wok w := ⟨tin_5 w (List.mem_of_getElem? h), g⟩
theorem tin_6 : ∀ w ∈ tables_1_6, w ∈ lw_tbl := fun w h => List.mem_append_right _ (show w ∈ tables_1 from List.mem_append_right _ (List.mem_append_right _ (List.mem_append_right _ (List.mem_append_right _ (List.mem_append_right _ (List.mem_append_left _ h))))))
theorem wo6 {w : Cond} (i : Nat) (h : tables_1_6[i]? = some w) (g : goodWord w = true) : wok w := ⟨tin_6 w (List.mem_of_getElem? h), g⟩
theorem tin_7 : ∀ w ∈ tables_1_7, w ∈ lw_tbl := fun w h => List.mem_append_right _ (show w ∈ tables_1 from List.mem_append_right _ (List.mem_append_right _ (List.mem_append_right _ (List.mem_append_right _ (List.mem_append_right _ (List.mem_append_right _ (h)))))))
theorem wo7 {w : Cond} (i : Nat) (h : tables_1_7[i]? = some w) (g : goodWord w = true) : wok w := ⟨tin_7 w (List.mem_of_getElem? h), g⟩
theorem pin_1 (q : MethodName × Nat) (h : q ∈ lw_privs_1) : wok (.selects q.1.cls q.1 q.1) := ⟨List.mem_append_left _ (List.mem_map.mpr ⟨q, show q ∈ lw_privs_1 ++ (lw_privs_2 ++ (lw_privs_3 ++ (lw_privs_4 ++ lw_privs_5))) from List.mem_append_left _ h, rfl⟩), rfl⟩
theorem pin_2 (q : MethodName × Nat) (h : q ∈ lw_privs_2) : wok (.selects q.1.cls q.1 q.1) := ⟨List.mem_append_left _ (List.mem_map.mpr ⟨q, show q ∈ lw_privs_1 ++ (lw_privs_2 ++ (lw_privs_3 ++ (lw_privs_4 ++ lw_privs_5))) from List.mem_append_right _ (List.mem_append_left _ h), rfl⟩), rfl⟩
theorem pin_3 (q : MethodName × Nat) (h : q ∈ lw_privs_3) : wok (.selects q.1.cls q.1 q.1) := ⟨List.mem_append_left _ (List.mem_map.mpr ⟨q, show q ∈ lw_privs_1 ++ (lw_privs_2 ++ (lw_privs_3 ++ (lw_privs_4 ++ lw_privs_5))) from List.mem_append_right _ (List.mem_append_right _ (List.mem_append_left _ h)), rfl⟩), rfl⟩
theorem pin_4 (q : MethodName × Nat) (h : q ∈ lw_privs_4) : wok (.selects q.1.cls q.1 q.1) := ⟨List.mem_append_left _ (List.mem_map.mpr ⟨q, show q ∈ lw_privs_1 ++ (lw_privs_2 ++ (lw_privs_3 ++ (lw_privs_4 ++ lw_privs_5))) from List.mem_append_right _ (List.mem_append_right _ (List.mem_append_right _ (List.mem_append_left _ h))), rfl⟩), rfl⟩
theorem pin_5 (q : MethodName × Nat) (h : q ∈ lw_privs_5) : wok (.selects q.1.cls q.1 q.1) := ⟨List.mem_append_left _ (List.mem_map.mpr ⟨q, show q ∈ lw_privs_1 ++ (lw_privs_2 ++ (lw_privs_3 ++ (lw_privs_4 ++ lw_privs_5))) from List.mem_append_right _ (List.mem_append_right _ (List.mem_append_right _ (List.mem_append_right _ (h)))), rfl⟩), rfl⟩
theorem iw_L : wok (.initialized RL) := wo1 0 rfl rfl
theorem iw_X7 : wok (.initialized RX7) := wo1 1 rfl rfl
theorem iw_X0 : wok (.initialized RX0) := wo1 2 rfl rfl
theorem iw_X5 : wok (.initialized RX5) := wo1 3 rfl rfl
theorem iw_X3 : wok (.initialized RX3) := wo1 4 rfl rfl
theorem iw_X6 : wok (.initialized RX6) := wo1 5 rfl rfl
theorem iw_X1 : wok (.initialized RX1) := wo1 6 rfl rfl
theorem iw_X2 : wok (.initialized RX2) := wo1 7 rfl rfl
theorem iw_X4 : wok (.initialized RX4) := wo1 8 rfl rfl
theorem iw_X8 : wok (.initialized RX8) := wo1 9 rfl rfl
theorem iw_Math : wok (.initialized "java/lang/Math") := wo1 10 rfl rfl
theorem iw_Throwable : wok (.initialized "java/lang/Throwable") := wo1 11 rfl rfl
theorem iw_Exception : wok (.initialized "java/lang/Exception") := wo1 12 rfl rfl
theorem iw_RuntimeException : wok (.initialized "java/lang/RuntimeException") := wo1 13 rfl rfl
theorem iw_IndexOutOfBoundsException : wok (.initialized "java/lang/IndexOutOfBoundsException") := wo1 14 rfl rfl
theorem iw_IllegalArgumentException : wok (.initialized "java/lang/IllegalArgumentException") := wo1 15 rfl rfl
theorem iw_UnsupportedOperationException : wok (.initialized "java/lang/UnsupportedOperationException") := wo1 16 rfl rfl
theorem iw_System : wok (.initialized "java/lang/System") := wo1 17 rfl rfl
theorem iw_Jx00060 : wok (.initialized RJx00060) := wo1 18 rfl rfl
theorem iw_J0 : wok (.initialized RJ0) := wo1 19 rfl rfl
theorem iw_NoSuchElementException : wok (.initialized "java/util/NoSuchElementException") := wo1 20 rfl rfl
theorem iw_IllegalStateException : wok (.initialized "java/lang/IllegalStateException") := wo1 21 rfl rfl
theorem iw_ArithmeticException : wok (.initialized "java/lang/ArithmeticException") := wo1 22 rfl rfl
theorem kw_L_8 : wok (.classLink RL 8 RX7) := wo1 23 rfl rfl
theorem aw_X7 : wok (.instantiable RX7 10) := wo1 24 rfl rfl
theorem mw_L_110 : wok (.methodLink RL 110 yX7_init) := wo1 25 rfl rfl
theorem vwX7_init : wok (.instanceMethod yX7_init) := wo1 26 rfl rfl
theorem owX7_init : wok (.code yX7_init cX7_init 1 none) := wo1 27 rfl rfl
theorem mw_X7_3 : wok (.methodLink RX7 3 Lib.objectInit) := wo1 28 rfl rfl
theorem vw_objectInit : wok (.instanceMethod Lib.objectInit) := wo1 29 rfl rfl
theorem ow_objectInit : wok (.code Lib.objectInit ⟨#[0xb1]⟩ 1 none) := wo1 30 rfl rfl
theorem kw_X7_9 : wok (.classLink RX7 9 RX0) := wo1 31 rfl rfl
theorem aw_X0 : wok (.instantiable RX0 3) := wo1 32 rfl rfl
theorem nw_X7_11 : (Cond.methodLinkNest RX7 11 yX0_init RX7) ∈ lw_tbl := tin_1 _ (List.mem_of_getElem? (i := 33) rfl)
theorem vwX0_init : wok (.instanceMethod yX0_init) := wo1 34 rfl rfl
theorem owX0_init : wok (.code yX0_init cX0_init 1 none) := wo1 35 rfl rfl
theorem mw_X0_3 : wok (.methodLink RX0 3 Lib.objectInit) := wo1 36 rfl rfl
theorem kw_X0_9 : wok (.classLink RX0 9 RX5) := wo1 37 rfl rfl
theorem aw_X5 : wok (.instantiable RX5 4) := wo1 38 rfl rfl
theorem mw_X0_11 : wok (.methodLink RX0 11 yX5_init) := wo1 39 rfl rfl
theorem vwX5_init : wok (.instanceMethod yX5_init) := wo1 40 rfl rfl
theorem owX5_init : wok (.code yX5_init cX5_init 1 none) := wo1 41 rfl rfl
theorem mw_X5_3 : wok (.methodLink RX5 3 Lib.objectInit) := wo1 42 rfl rfl
theorem fw_X5_9 : wok (.fieldLink RX5 9 "CheeseTwins$Pieces" "sizes" "[I") := wo1 43 rfl rfl
theorem fw_X5_15 : wok (.fieldLink RX5 15 "CheeseTwins$Pieces" "way" "I") := wo1 44 rfl rfl
theorem fw_X0_102 : wok (.fieldLink RX0 102 "CheeseTwins$Pieces" "way" "I") := wo1 45 rfl rfl
theorem fw_X7_327 : wok (.fieldLink RX7 327 "CheeseTwins$Pieces" "way" "I") := wo1 46 rfl rfl
theorem fw_X5_19 : wok (.fieldLink RX5 19 "CheeseTwins$Pieces" "halvings" "I") := wo1 47 rfl rfl
theorem fw_X7_321 : wok (.fieldLink RX7 321 "CheeseTwins$Pieces" "halvings" "I") := wo1 48 rfl rfl
theorem fw_X5_22 : wok (.fieldLink RX5 22 "CheeseTwins$Pieces" "joinings" "I") := wo1 49 rfl rfl
theorem fw_X7_324 : wok (.fieldLink RX7 324 "CheeseTwins$Pieces" "joinings" "I") := wo1 50 rfl rfl
theorem cw_int : wok (.arrayClass .int) := wo1 60 rfl rfl
theorem kw_X0_18 : wok (.classLink RX0 18 RX3) := wo1 61 rfl rfl
theorem aw_X3 : wok (.instantiable RX3 5) := wo1 62 rfl rfl
theorem nw_X0_20 : (Cond.methodLinkNest RX0 20 yX3_init RX7) ∈ lw_tbl := tin_1 _ (List.mem_of_getElem? (i := 63) rfl)
theorem vwX3_init : wok (.instanceMethod yX3_init) := wo1 64 rfl rfl
theorem owX3_init : wok (.code yX3_init cX3_init 1 none) := wo1 65 rfl rfl
theorem mw_X3_3 : wok (.methodLink RX3 3 Lib.objectInit) := wo1 66 rfl rfl
theorem fw_X3_9 : wok (.fieldLink RX3 9 "CheeseTwins$Loans" "names" "[I") := wo1 67 rfl rfl
theorem fw_X3_15 : wok (.fieldLink RX3 15 "CheeseTwins$Loans" "amounts" "[I") := wo1 68 rfl rfl
theorem fw_X3_18 : wok (.fieldLink RX3 18 "CheeseTwins$Loans" "starts" "[I") := wo1 69 rfl rfl
theorem fw_X3_21 : wok (.fieldLink RX3 21 "CheeseTwins$Loans" "sizes" "[I") := wo1 70 rfl rfl
theorem fw_X3_24 : wok (.fieldLink RX3 24 "CheeseTwins$Loans" "count" "I") := wo1 71 rfl rfl
theorem fw_X0_42 : wok (.fieldLink RX0 42 "CheeseTwins$Loans" "count" "I") := wo1 72 rfl rfl
theorem fw_X7_311 : wok (.fieldLink RX7 311 "CheeseTwins$Loans" "count" "I") := wo1 73 rfl rfl
theorem kw_X0_25 : wok (.classLink RX0 25 RX6) := wo1 85 rfl rfl
theorem aw_X6 : wok (.instantiable RX6 3) := wo1 86 rfl rfl
theorem nw_X0_27 : (Cond.methodLinkNest RX0 27 yX6_init RX7) ∈ lw_tbl := tin_1 _ (List.mem_of_getElem? (i := 87) rfl)
theorem vwX6_init : wok (.instanceMethod yX6_init) := wo1 88 rfl rfl
theorem owX6_init : wok (.code yX6_init cX6_init 1 none) := wo1 89 rfl rfl
theorem mw_X6_3 : wok (.methodLink RX6 3 Lib.objectInit) := wo1 90 rfl rfl
theorem fw_X6_9 : wok (.fieldLink RX6 9 "CheeseTwins$Waiting" "names" "[I") := wo1 91 rfl rfl
theorem fw_X6_15 : wok (.fieldLink RX6 15 "CheeseTwins$Waiting" "amounts" "[I") := wo1 92 rfl rfl
theorem fw_X6_18 : wok (.fieldLink RX6 18 "CheeseTwins$Waiting" "count" "I") := wo1 93 rfl rfl
theorem fw_X7_123 : wok (.fieldLink RX7 123 "CheeseTwins$Waiting" "count" "I") := wo1 94 rfl rfl
theorem fw_X0_105 : wok (.fieldLink RX0 105 "CheeseTwins$Waiting" "count" "I") := wo1 95 rfl rfl
theorem fw_X0_12 : wok (.fieldLink RX0 12 "CheeseTwins$Board" "pieces" "LCheeseTwins$Pieces;") := wo1 103 rfl rfl
theorem fw_X7_203 : wok (.fieldLink RX7 203 "CheeseTwins$Board" "pieces" "LCheeseTwins$Pieces;") := wo1 104 rfl rfl
theorem fw_X0_21 : wok (.fieldLink RX0 21 "CheeseTwins$Board" "loans" "LCheeseTwins$Loans;") := wo1 105 rfl rfl
theorem fw_X7_126 : wok (.fieldLink RX7 126 "CheeseTwins$Board" "loans" "LCheeseTwins$Loans;") := wo1 106 rfl rfl
theorem fw_X0_28 : wok (.fieldLink RX0 28 "CheeseTwins$Board" "waiting" "LCheeseTwins$Waiting;") := wo1 107 rfl rfl
theorem fw_X7_103 : wok (.fieldLink RX7 103 "CheeseTwins$Board" "waiting" "LCheeseTwins$Waiting;") := wo1 108 rfl rfl
theorem kw_X7_22 : wok (.classLink RX7 22 RX1) := wo1 116 rfl rfl
theorem aw_X1 : wok (.instantiable RX1 3) := wo1 117 rfl rfl
theorem mw_X7_24 : wok (.methodLink RX7 24 yX1_init) := wo1 118 rfl rfl
theorem vwX1_init : wok (.instanceMethod yX1_init) := wo1 119 rfl rfl
theorem owX1_init : wok (.code yX1_init cX1_init 2 none) := wo1 120 rfl rfl
theorem mw_X1_3 : wok (.methodLink RX1 3 Lib.objectInit) := wo1 121 rfl rfl
theorem kw_X1_9 : wok (.classLink RX1 9 RX0) := wo1 122 rfl rfl
theorem nw_X1_24 : (Cond.methodLinkNest RX1 24 yX0_init RX7) ∈ lw_tbl := tin_1 _ (List.mem_of_getElem? (i := 124) rfl)
theorem fw_X1_11 : wok (.fieldLink RX1 11 "CheeseTwins$History" "ring" "[LCheeseTwins$Board;") := wo1 125 rfl rfl
theorem fw_X1_17 : wok (.fieldLink RX1 17 "CheeseTwins$History" "next" "I") := wo1 126 rfl rfl
theorem fw_X1_21 : wok (.fieldLink RX1 21 "CheeseTwins$History" "count" "I") := wo1 127 rfl rfl
theorem fw_X7_330 : wok (.fieldLink RX7 330 "CheeseTwins$History" "count" "I") := wo1 128 rfl rfl
theorem kw_X7_29 : wok (.classLink RX7 29 RX2) := wo1 136 rfl rfl
theorem aw_X2 : wok (.instantiable RX2 2) := wo1 137 rfl rfl
theorem nw_X7_31 : (Cond.methodLinkNest RX7 31 yX2_init RX7) ∈ lw_tbl := tin_1 _ (List.mem_of_getElem? (i := 138) rfl)
theorem vwX2_init : wok (.instanceMethod yX2_init) := wo1 139 rfl rfl
theorem owX2_init : wok (.code yX2_init cX2_init 1 none) := wo1 140 rfl rfl
theorem mw_X2_3 : wok (.methodLink RX2 3 Lib.objectInit) := wo1 141 rfl rfl
theorem fw_X2_9 : wok (.fieldLink RX2 9 "CheeseTwins$Line" "signs" "[C") := wo1 142 rfl rfl
theorem fw_X2_15 : wok (.fieldLink RX2 15 "CheeseTwins$Line" "length" "I") := wo1 143 rfl rfl
theorem fw_X7_247 : wok (.fieldLink RX7 247 "CheeseTwins$Line" "length" "I") := wo1 144 rfl rfl
theorem cw_char : wok (.arrayClass .char) := wo1 150 rfl rfl
theorem kw_X7_36 : wok (.classLink RX7 36 RX4) := wo1 151 rfl rfl
theorem aw_X4 : wok (.instantiable RX4 8) := wo1 152 rfl rfl
theorem nw_X7_38 : (Cond.methodLinkNest RX7 38 yX4_init RX7) ∈ lw_tbl := tin_1 _ (List.mem_of_getElem? (i := 153) rfl)
theorem vwX4_init : wok (.instanceMethod yX4_init) := wo1 154 rfl rfl
theorem owX4_init : wok (.code yX4_init cX4_init 1 none) := wo1 155 rfl rfl
theorem mw_X4_3 : wok (.methodLink RX4 3 Lib.objectInit) := wo1 156 rfl rfl
theorem fw_X4_9 : wok (.fieldLink RX4 9 "CheeseTwins$Orders" "kinds" "[I") := wo1 157 rfl rfl
theorem fw_X4_15 : wok (.fieldLink RX4 15 "CheeseTwins$Orders" "firsts" "[I") := wo1 158 rfl rfl
theorem fw_X4_18 : wok (.fieldLink RX4 18 "CheeseTwins$Orders" "seconds" "[I") := wo1 159 rfl rfl
theorem fw_X4_21 : wok (.fieldLink RX4 21 "CheeseTwins$Orders" "count" "I") := wo1 160 rfl rfl
theorem fw_X7_284 : wok (.fieldLink RX7 284 "CheeseTwins$Orders" "count" "I") := wo1 161 rfl rfl
theorem fw_X4_25 : wok (.fieldLink RX4 25 "CheeseTwins$Orders" "text" "[C") := wo1 162 rfl rfl
theorem fw_X4_29 : wok (.fieldLink RX4 29 "CheeseTwins$Orders" "length" "I") := wo1 163 rfl rfl
theorem fw_X7_272 : wok (.fieldLink RX7 272 "CheeseTwins$Orders" "length" "I") := wo1 164 rfl rfl
theorem fw_X4_32 : wok (.fieldLink RX4 32 "CheeseTwins$Orders" "at" "I") := wo1 165 rfl rfl
theorem fw_X4_35 : wok (.fieldLink RX4 35 "CheeseTwins$Orders" "number" "I") := wo1 166 rfl rfl
theorem fw_X7_12 : wok (.fieldLink RX7 12 "CheeseTwins" "board" "LCheeseTwins$Board;") := wo1 184 rfl rfl
theorem fw_X7_16 : wok (.fieldLink RX7 16 "CheeseTwins" "beforeRun" "LCheeseTwins$Board;") := wo1 185 rfl rfl
theorem fw_X7_19 : wok (.fieldLink RX7 19 "CheeseTwins" "snapshot" "LCheeseTwins$Board;") := wo1 186 rfl rfl
theorem fw_X7_25 : wok (.fieldLink RX7 25 "CheeseTwins" "history" "LCheeseTwins$History;") := wo1 187 rfl rfl
theorem fw_X7_32 : wok (.fieldLink RX7 32 "CheeseTwins" "line" "LCheeseTwins$Line;") := wo1 188 rfl rfl
theorem fw_X7_39 : wok (.fieldLink RX7 39 "CheeseTwins" "orders" "LCheeseTwins$Orders;") := wo1 189 rfl rfl
theorem fw_X7_43 : wok (.fieldLink RX7 43 "CheeseTwins" "lastError" "I") := wo1 190 rfl rfl
theorem fw_X7_47 : wok (.fieldLink RX7 47 "CheeseTwins" "hasSnapshot" "Z") := wo1 191 rfl rfl
theorem fw_X7_51 : wok (.fieldLink RX7 51 "CheeseTwins" "reason" "I") := wo1 192 rfl rfl
theorem fw_X7_54 : wok (.fieldLink RX7 54 "CheeseTwins" "detail" "I") := wo1 193 rfl rfl
theorem mw_L_180 : wok (.methodLink RL 180 yX7_line) := wo1 215 rfl rfl
theorem vwX7_line : wok (.instanceMethod yX7_line) := wo1 216 rfl rfl
theorem lwX7_line : wok (.selects RX7 yX7_line yX7_line) := wo1 217 rfl rfl
theorem owX7_line : wok (.code yX7_line cX7_line 1 (some (.int))) := wo1 218 rfl rfl
theorem mw_X7_243 : wok (.methodLink RX7 243 yX0_writePieces) := wo1 219 rfl rfl
theorem vwX0_writePieces : wok (.instanceMethod yX0_writePieces) := wo1 220 rfl rfl
theorem lwX0_writePieces : wok (.selects RX0 yX0_writePieces yX0_writePieces) := wo1 221 rfl rfl
theorem owX0_writePieces : wok (.code yX0_writePieces cX0_writePieces 3 none) := wo1 222 rfl rfl
theorem mw_X0_145 : wok (.methodLink RX0 145 yX2_clear) := wo1 223 rfl rfl
theorem vwX2_clear : wok (.instanceMethod yX2_clear) := wo1 224 rfl rfl
theorem lwX2_clear : wok (.selects RX2 yX2_clear yX2_clear) := wo1 225 rfl rfl
theorem owX2_clear : wok (.code yX2_clear cX2_clear 1 none) := wo1 226 rfl rfl
theorem mw_X0_150 : wok (.methodLink RX0 150 yX0_pieceStart) := wo1 227 rfl rfl
theorem vwX0_pieceStart : wok (.instanceMethod yX0_pieceStart) := wo1 228 rfl rfl
theorem lwX0_pieceStart : wok (.selects RX0 yX0_pieceStart yX0_pieceStart) := wo1 229 rfl rfl
theorem owX0_pieceStart : wok (.code yX0_pieceStart cX0_pieceStart 3 (some (.int))) := wo1 230 rfl rfl
theorem mw_X0_119 : wok (.methodLink RX0 119 yX3_holderOf) := wo1 231 rfl rfl
theorem vwX3_holderOf : wok (.instanceMethod yX3_holderOf) := wo1 232 rfl rfl
theorem lwX3_holderOf : wok (.selects RX3 yX3_holderOf yX3_holderOf) := wo1 233 rfl rfl
theorem owX3_holderOf : wok (.code yX3_holderOf cX3_holderOf 3 (some (.int))) := wo1 234 rfl rfl
theorem mw_X3_52 : wok (.methodLink RX3 52 yX3_isIn) := wo1 235 rfl rfl
theorem vwX3_isIn : wok (.instanceMethod yX3_isIn) := wo1 237 rfl rfl
theorem owX3_isIn : wok (.code yX3_isIn cX3_isIn 4 (some (.boolean))) := wo1 238 rfl rfl
theorem mw_X3_34 : wok (.methodLink RX3 34 yX3_has) := wo1 239 rfl rfl
theorem vwX3_has : wok (.instanceMethod yX3_has) := wo2 0 rfl rfl
theorem lwX3_has : wok (.selects RX3 yX3_has yX3_has) := wo2 1 rfl rfl
theorem owX3_has : wok (.code yX3_has cX3_has 2 (some (.boolean))) := wo2 2 rfl rfl
theorem mw_X0_69 : wok (.methodLink RX0 69 yX3_startAt) := wo2 3 rfl rfl
theorem vwX3_startAt : wok (.instanceMethod yX3_startAt) := wo2 4 rfl rfl
theorem lwX3_startAt : wok (.selects RX3 yX3_startAt yX3_startAt) := wo2 5 rfl rfl
theorem owX3_startAt : wok (.code yX3_startAt cX3_startAt 2 (some (.int))) := wo2 6 rfl rfl
theorem mw_X0_122 : wok (.methodLink RX0 122 yX5_startOf) := wo2 7 rfl rfl
theorem vwX5_startOf : wok (.instanceMethod yX5_startOf) := wo2 8 rfl rfl
theorem lwX5_startOf : wok (.selects RX5 yX5_startOf yX5_startOf) := wo2 9 rfl rfl
theorem owX5_startOf : wok (.code yX5_startOf cX5_startOf 3 (some (.int))) := wo2 10 rfl rfl
theorem mw_X5_72 : wok (.methodLink RX5 72 yX5_isWithin) := wo2 11 rfl rfl
theorem swX5_isWithin : wok (.static yX5_isWithin) := wo2 12 rfl rfl
theorem owX5_isWithin : wok (.code yX5_isWithin cX5_isWithin 3 (some (.boolean))) := wo2 13 rfl rfl
theorem mw_X0_153 : wok (.methodLink RX0 153 yX2_put) := wo2 14 rfl rfl
theorem vwX2_put : wok (.instanceMethod yX2_put) := wo2 15 rfl rfl
theorem lwX2_put : wok (.selects RX2 yX2_put yX2_put) := wo2 16 rfl rfl
theorem owX2_put : wok (.code yX2_put cX2_put 2 none) := wo2 17 rfl rfl
theorem mw_X0_156 : wok (.methodLink RX0 156 yX0_writePiece) := wo2 18 rfl rfl
theorem vwX0_writePiece : wok (.instanceMethod yX0_writePiece) := wo2 20 rfl rfl
theorem owX0_writePiece : wok (.code yX0_writePiece cX0_writePiece 4 none) := wo2 21 rfl rfl
theorem mw_X0_160 : wok (.methodLink RX0 160 yX0_pieceSize) := wo2 22 rfl rfl
theorem vwX0_pieceSize : wok (.instanceMethod yX0_pieceSize) := wo2 23 rfl rfl
theorem lwX0_pieceSize : wok (.selects RX0 yX0_pieceSize yX0_pieceSize) := wo2 24 rfl rfl
theorem owX0_pieceSize : wok (.code yX0_pieceSize cX0_pieceSize 3 (some (.int))) := wo2 25 rfl rfl
theorem mw_X0_85 : wok (.methodLink RX0 85 yX3_sizeAt) := wo2 26 rfl rfl
theorem vwX3_sizeAt : wok (.instanceMethod yX3_sizeAt) := wo2 27 rfl rfl
theorem lwX3_sizeAt : wok (.selects RX3 yX3_sizeAt yX3_sizeAt) := wo2 28 rfl rfl
theorem owX3_sizeAt : wok (.code yX3_sizeAt cX3_sizeAt 2 (some (.int))) := wo2 29 rfl rfl
theorem mw_X0_125 : wok (.methodLink RX0 125 yX5_sizeAt) := wo2 30 rfl rfl
theorem vwX5_sizeAt : wok (.instanceMethod yX5_sizeAt) := wo2 31 rfl rfl
theorem lwX5_sizeAt : wok (.selects RX5 yX5_sizeAt yX5_sizeAt) := wo2 32 rfl rfl
theorem owX5_sizeAt : wok (.code yX5_sizeAt cX5_sizeAt 2 (some (.int))) := wo2 33 rfl rfl
theorem mw_X0_163 : wok (.methodLink RX0 163 yX2_putNumber) := wo2 34 rfl rfl
theorem vwX2_putNumber : wok (.instanceMethod yX2_putNumber) := wo2 35 rfl rfl
theorem lwX2_putNumber : wok (.selects RX2 yX2_putNumber yX2_putNumber) := wo2 36 rfl rfl
theorem owX2_putNumber : wok (.code yX2_putNumber cX2_putNumber 2 none) := wo2 37 rfl rfl
theorem mw_X2_23 : wok (.methodLink RX2 23 yX2_put) := wo2 38 rfl rfl
theorem mw_L_184 : wok (.methodLink RL 184 yX7_map) := wo2 39 rfl rfl
theorem vwX7_map : wok (.instanceMethod yX7_map) := wo2 40 rfl rfl
theorem lwX7_map : wok (.selects RX7 yX7_map yX7_map) := wo2 41 rfl rfl
theorem owX7_map : wok (.code yX7_map cX7_map 1 (some (.int))) := wo2 42 rfl rfl
theorem mw_X7_250 : wok (.methodLink RX7 250 yX0_writeUnits) := wo2 43 rfl rfl
theorem vwX0_writeUnits : wok (.instanceMethod yX0_writeUnits) := wo2 44 rfl rfl
theorem lwX0_writeUnits : wok (.selects RX0 yX0_writeUnits yX0_writeUnits) := wo2 45 rfl rfl
theorem owX0_writeUnits : wok (.code yX0_writeUnits cX0_writeUnits 4 none) := wo2 46 rfl rfl
theorem mw_L_198 : wok (.methodLink RL 198 yX7_errorPosition) := wo2 47 rfl rfl
theorem vwX7_errorPosition : wok (.instanceMethod yX7_errorPosition) := wo2 48 rfl rfl
theorem lwX7_errorPosition : wok (.selects RX7 yX7_errorPosition yX7_errorPosition) := wo2 49 rfl rfl
theorem owX7_errorPosition : wok (.code yX7_errorPosition cX7_errorPosition 1 (some (.int))) := wo2 50 rfl rfl
theorem mw_L_209 : wok (.methodLink RL 209 yX7_isWell) := wo2 51 rfl rfl
theorem vwX7_isWell : wok (.instanceMethod yX7_isWell) := wo2 52 rfl rfl
theorem lwX7_isWell : wok (.selects RX7 yX7_isWell yX7_isWell) := wo2 53 rfl rfl
theorem owX7_isWell : wok (.code yX7_isWell cX7_isWell 1 (some (.boolean))) := wo2 54 rfl rfl
theorem mw_X7_333 : wok (.methodLink RX7 333 yX0_isCovered) := wo2 55 rfl rfl
theorem vwX0_isCovered : wok (.instanceMethod yX0_isCovered) := wo2 56 rfl rfl
theorem lwX0_isCovered : wok (.selects RX0 yX0_isCovered yX0_isCovered) := wo2 57 rfl rfl
theorem owX0_isCovered : wok (.code yX0_isCovered cX0_isCovered 2 (some (.boolean))) := wo2 58 rfl rfl
theorem mw_X0_126 : wok (.methodLink RX0 126 yX3_countIn) := wo2 59 rfl rfl
theorem vwX3_countIn : wok (.instanceMethod yX3_countIn) := wo2 60 rfl rfl
theorem lwX3_countIn : wok (.selects RX3 yX3_countIn yX3_countIn) := wo2 61 rfl rfl
theorem owX3_countIn : wok (.code yX3_countIn cX3_countIn 5 (some (.int))) := wo2 62 rfl rfl
theorem mw_X0_136 : wok (.methodLink RX0 136 yX5_countWith) := wo2 63 rfl rfl
theorem vwX5_countWith : wok (.instanceMethod yX5_countWith) := wo2 64 rfl rfl
theorem lwX5_countWith : wok (.selects RX5 yX5_countWith yX5_countWith) := wo2 65 rfl rfl
theorem owX5_countWith : wok (.code yX5_countWith cX5_countWith 4 (some (.int))) := wo2 66 rfl rfl
theorem mw_X7_336 : wok (.methodLink RX7 336 yX0_isCountedAlike) := wo2 67 rfl rfl
theorem vwX0_isCountedAlike : wok (.instanceMethod yX0_isCountedAlike) := wo2 68 rfl rfl
theorem lwX0_isCountedAlike : wok (.selects RX0 yX0_isCountedAlike yX0_isCountedAlike) := wo2 69 rfl rfl
theorem owX0_isCountedAlike : wok (.code yX0_isCountedAlike cX0_isCountedAlike 2 (some (.boolean))) := wo2 70 rfl rfl
theorem mw_X0_139 : wok (.methodLink RX0 139 yX5_countOfSize) := wo2 71 rfl rfl
theorem vwX5_countOfSize : wok (.instanceMethod yX5_countOfSize) := wo2 72 rfl rfl
theorem lwX5_countOfSize : wok (.selects RX5 yX5_countOfSize yX5_countOfSize) := wo2 73 rfl rfl
theorem owX5_countOfSize : wok (.code yX5_countOfSize cX5_countOfSize 4 (some (.int))) := wo2 74 rfl rfl
theorem mw_X0_142 : wok (.methodLink RX0 142 yX0_countFreeParts) := wo2 75 rfl rfl
theorem vwX0_countFreeParts : wok (.instanceMethod yX0_countFreeParts) := wo2 76 rfl rfl
theorem lwX0_countFreeParts : wok (.selects RX0 yX0_countFreeParts yX0_countFreeParts) := wo2 77 rfl rfl
theorem owX0_countFreeParts : wok (.code yX0_countFreeParts cX0_countFreeParts 4 (some (.int))) := wo2 78 rfl rfl
theorem mw_X0_129 : wok (.methodLink RX0 129 yX0_isBoardOrHalfOfMixed) := wo2 79 rfl rfl
theorem vwX0_isBoardOrHalfOfMixed : wok (.instanceMethod yX0_isBoardOrHalfOfMixed) := wo2 81 rfl rfl
theorem owX0_isBoardOrHalfOfMixed : wok (.code yX0_isBoardOrHalfOfMixed cX0_isBoardOrHalfOfMixed 3 (some (.boolean))) := wo2 82 rfl rfl
theorem nw_X0_133 : (Cond.methodLinkNest RX0 133 yX7_partOf RX7) ∈ lw_tbl := tin_2 _ (List.mem_of_getElem? (i := 83) rfl)
theorem swX7_partOf : wok (.static yX7_partOf) := wo2 84 rfl rfl
theorem owX7_partOf : wok (.code yX7_partOf cX7_partOf 2 (some (.int))) := wo2 85 rfl rfl
theorem mw_X7_339 : wok (.methodLink RX7 339 yX3_isEachNeedMet) := wo2 86 rfl rfl
theorem vwX3_isEachNeedMet : wok (.instanceMethod yX3_isEachNeedMet) := wo2 87 rfl rfl
theorem lwX3_isEachNeedMet : wok (.selects RX3 yX3_isEachNeedMet yX3_isEachNeedMet) := wo2 88 rfl rfl
theorem owX3_isEachNeedMet : wok (.code yX3_isEachNeedMet cX3_isEachNeedMet 2 (some (.boolean))) := wo2 89 rfl rfl
theorem mw_X3_49 : wok (.methodLink RX3 49 yX3_sizeAt) := wo2 90 rfl rfl
theorem mw_X3_46 : wok (.methodLink RX3 46 yX3_amountAt) := wo2 91 rfl rfl
theorem vwX3_amountAt : wok (.instanceMethod yX3_amountAt) := wo2 92 rfl rfl
theorem lwX3_amountAt : wok (.selects RX3 yX3_amountAt yX3_amountAt) := wo2 93 rfl rfl
theorem owX3_amountAt : wok (.code yX3_amountAt cX3_amountAt 2 (some (.int))) := wo2 94 rfl rfl
theorem mw_X7_342 : wok (.methodLink RX7 342 yX0_isSomebodyLeft) := wo2 95 rfl rfl
theorem vwX0_isSomebodyLeft : wok (.instanceMethod yX0_isSomebodyLeft) := wo2 96 rfl rfl
theorem lwX0_isSomebodyLeft : wok (.selects RX0 yX0_isSomebodyLeft yX0_isSomebodyLeft) := wo2 97 rfl rfl
theorem owX0_isSomebodyLeft : wok (.code yX0_isSomebodyLeft cX0_isSomebodyLeft 2 (some (.boolean))) := wo2 98 rfl rfl
theorem mw_X0_106 : wok (.methodLink RX0 106 yX6_amountAt) := wo2 99 rfl rfl
theorem vwX6_amountAt : wok (.instanceMethod yX6_amountAt) := wo2 100 rfl rfl
theorem lwX6_amountAt : wok (.selects RX6 yX6_amountAt yX6_amountAt) := wo2 101 rfl rfl
theorem owX6_amountAt : wok (.code yX6_amountAt cX6_amountAt 2 (some (.int))) := wo2 102 rfl rfl
theorem mw_X6_28 : wok (.methodLink RX6 28 yX6_has) := wo2 103 rfl rfl
theorem vwX6_has : wok (.instanceMethod yX6_has) := wo2 104 rfl rfl
theorem lwX6_has : wok (.selects RX6 yX6_has yX6_has) := wo2 105 rfl rfl
theorem owX6_has : wok (.code yX6_has cX6_has 2 (some (.boolean))) := wo2 106 rfl rfl
theorem mw_X0_61 : wok (.methodLink RX0 61 yX0_canLend) := wo2 107 rfl rfl
theorem vwX0_canLend : wok (.instanceMethod yX0_canLend) := wo2 108 rfl rfl
theorem lwX0_canLend : wok (.selects RX0 yX0_canLend yX0_canLend) := wo2 109 rfl rfl
theorem owX0_canLend : wok (.code yX0_canLend cX0_canLend 2 (some (.boolean))) := wo2 110 rfl rfl
theorem mw_X0_46 : wok (.methodLink RX0 46 yX5_greatestSize) := wo2 111 rfl rfl
theorem vwX5_greatestSize : wok (.instanceMethod yX5_greatestSize) := wo2 112 rfl rfl
theorem lwX5_greatestSize : wok (.selects RX5 yX5_greatestSize yX5_greatestSize) := wo2 113 rfl rfl
theorem owX5_greatestSize : wok (.code yX5_greatestSize cX5_greatestSize 3 (some (.int))) := wo2 114 rfl rfl
theorem mw_X5_64 : wok (.methodLink RX5 64 Lib.Math.max.name) := wo2 115 rfl rfl
theorem sw_Math_max : wok (.static Lib.Math.max.name) := wo2 116 rfl rfl
theorem ow_Math_max : wok (.code Lib.Math.max.name Lib.Math.max.code 2 (some .int)) := wo2 117 rfl rfl
theorem nw_X0_50 : (Cond.methodLinkNest RX0 50 yX7_needOf RX7) ∈ lw_tbl := tin_2 _ (List.mem_of_getElem? (i := 118) rfl)
theorem swX7_needOf : wok (.static yX7_needOf) := wo2 119 rfl rfl
theorem owX7_needOf : wok (.code yX7_needOf cX7_needOf 2 (some (.int))) := wo2 120 rfl rfl
theorem mw_L_218 : wok (.methodLink RL 218 yX7_lentShare) := wo2 121 rfl rfl
theorem vwX7_lentShare : wok (.instanceMethod yX7_lentShare) := wo2 122 rfl rfl
theorem lwX7_lentShare : wok (.selects RX7 yX7_lentShare yX7_lentShare) := wo2 123 rfl rfl
theorem owX7_lentShare : wok (.code yX7_lentShare cX7_lentShare 1 (some (.float))) := wo2 124 rfl rfl
theorem mw_X7_315 : wok (.methodLink RX7 315 yX3_allSizes) := wo2 125 rfl rfl
theorem vwX3_allSizes : wok (.instanceMethod yX3_allSizes) := wo2 126 rfl rfl
theorem lwX3_allSizes : wok (.selects RX3 yX3_allSizes yX3_allSizes) := wo2 127 rfl rfl
theorem owX3_allSizes : wok (.code yX3_allSizes cX3_allSizes 3 (some (.int))) := wo2 128 rfl rfl
theorem mw_L_226 : wok (.methodLink RL 226 yX7_save) := wo2 130 rfl rfl
theorem vwX7_save : wok (.instanceMethod yX7_save) := wo2 131 rfl rfl
theorem lwX7_save : wok (.selects RX7 yX7_save yX7_save) := wo2 132 rfl rfl
theorem owX7_save : wok (.code yX7_save cX7_save 1 (some (.int))) := wo2 133 rfl rfl
theorem mw_X7_281 : wok (.methodLink RX7 281 yX0_copyFrom) := wo2 134 rfl rfl
theorem vwX0_copyFrom : wok (.instanceMethod yX0_copyFrom) := wo2 135 rfl rfl
theorem lwX0_copyFrom : wok (.selects RX0 yX0_copyFrom yX0_copyFrom) := wo2 136 rfl rfl
theorem owX0_copyFrom : wok (.code yX0_copyFrom cX0_copyFrom 2 none) := wo2 137 rfl rfl
theorem mw_X0_32 : wok (.methodLink RX0 32 yX5_copyFrom) := wo2 138 rfl rfl
theorem vwX5_copyFrom : wok (.instanceMethod yX5_copyFrom) := wo2 139 rfl rfl
theorem lwX5_copyFrom : wok (.selects RX5 yX5_copyFrom yX5_copyFrom) := wo2 140 rfl rfl
theorem owX5_copyFrom : wok (.code yX5_copyFrom cX5_copyFrom 2 none) := wo2 141 rfl rfl
theorem mw_X5_25 : wok (.methodLink RX5 25 arraycopyName) := wo2 142 rfl rfl
theorem sw_arraycopy : wok (.static arraycopyName) := wo2 143 rfl rfl
theorem nat_arraycopy : wok (.native arraycopyName) := wo2 144 rfl rfl
theorem mw_X0_36 : wok (.methodLink RX0 36 yX3_copyFrom) := wo2 145 rfl rfl
theorem vwX3_copyFrom : wok (.instanceMethod yX3_copyFrom) := wo2 146 rfl rfl
theorem lwX3_copyFrom : wok (.selects RX3 yX3_copyFrom yX3_copyFrom) := wo2 147 rfl rfl
theorem owX3_copyFrom : wok (.code yX3_copyFrom cX3_copyFrom 2 none) := wo2 148 rfl rfl
theorem mw_X3_28 : wok (.methodLink RX3 28 arraycopyName) := wo2 149 rfl rfl
theorem mw_X0_39 : wok (.methodLink RX0 39 yX6_copyFrom) := wo2 150 rfl rfl
theorem vwX6_copyFrom : wok (.instanceMethod yX6_copyFrom) := wo2 151 rfl rfl
theorem lwX6_copyFrom : wok (.selects RX6 yX6_copyFrom yX6_copyFrom) := wo2 152 rfl rfl
theorem owX6_copyFrom : wok (.code yX6_copyFrom cX6_copyFrom 2 none) := wo2 153 rfl rfl
theorem mw_X6_22 : wok (.methodLink RX6 22 arraycopyName) := wo2 154 rfl rfl
theorem mw_L_114 : wok (.methodLink RL 114 yL_lend) := wo2 155 rfl rfl
theorem swL_lend : wok (.static yL_lend) := wo2 156 rfl rfl
theorem owL_lend : wok (.codeWith yL_lend cL_lend 5 (some (.int)) [(0, 10, 13, 13), (0, 10, 17, 15)]) := wo2 157 rfl rfl
theorem kw_L_13 : wok (.classLink RL 13 "java/lang/IllegalArgumentException") := wo2 158 rfl rfl
theorem kw_L_15 : wok (.classLink RL 15 "java/lang/UnsupportedOperationException") := wo2 159 rfl rfl
theorem mw_L_7 : wok (.methodLink RL 7 yX7_lend) := wo2 160 rfl rfl
theorem vwX7_lend : wok (.instanceMethod yX7_lend) := wo2 161 rfl rfl
theorem lwX7_lend : wok (.selects RX7 yX7_lend yX7_lend) := wo2 162 rfl rfl
theorem owX7_lend : wok (.code yX7_lend cX7_lend 3 (some (.int))) := wo2 163 rfl rfl
theorem mw_X7_57 : wok (.methodLink RX7 57 yX7_judgeLend) := wo2 164 rfl rfl
theorem vwX7_judgeLend : wok (.instanceMethod yX7_judgeLend) := wo2 166 rfl rfl
theorem owX7_judgeLend : wok (.code yX7_judgeLend cX7_judgeLend 4 (some (.int))) := wo2 167 rfl rfl
theorem mw_X7_152 : wok (.methodLink RX7 152 yX7_isName) := wo2 168 rfl rfl
theorem swX7_isName : wok (.static yX7_isName) := wo2 169 rfl rfl
theorem owX7_isName : wok (.code yX7_isName cX7_isName 1 (some (.boolean))) := wo2 170 rfl rfl
theorem mw_X7_361 : wok (.methodLink RX7 361 yX7_isAmount) := wo2 171 rfl rfl
theorem swX7_isAmount : wok (.static yX7_isAmount) := wo2 172 rfl rfl
theorem owX7_isAmount : wok (.code yX7_isAmount cX7_isAmount 1 (some (.boolean))) := wo2 173 rfl rfl
theorem mw_X7_364 : wok (.methodLink RX7 364 yX7_refuse) := wo2 174 rfl rfl
theorem vwX7_refuse : wok (.instanceMethod yX7_refuse) := wo2 176 rfl rfl
theorem owX7_refuse : wok (.code yX7_refuse cX7_refuse 3 (some (.int))) := wo2 177 rfl rfl
theorem mw_X7_212 : wok (.methodLink RX7 212 yX5_greatestSize) := wo2 178 rfl rfl
theorem mw_X7_367 : wok (.methodLink RX7 367 yX7_needOf) := wo2 179 rfl rfl
theorem mw_X7_61 : wok (.methodLink RX7 61 yX7_insist) := wo2 180 rfl rfl
theorem swX7_insist : wok (.static yX7_insist) := wo2 181 rfl rfl
theorem owX7_insist : wok (.code yX7_insist cX7_insist 1 none) := wo2 182 rfl rfl
theorem kw_X7_113 : wok (.classLink RX7 113 "java/lang/IndexOutOfBoundsException") := wo2 183 rfl rfl
theorem cw_byte : wok (.arrayClass .byte) := wo3 14 rfl rfl
theorem kw_X7_147 : wok (.classLink RX7 147 "java/lang/IllegalArgumentException") := wo3 15 rfl rfl
theorem kw_X7_302 : wok (.classLink RX7 302 "java/lang/UnsupportedOperationException") := wo3 31 rfl rfl
theorem mw_X7_65 : wok (.methodLink RX7 65 yX1_keep) := wo3 47 rfl rfl
theorem vwX1_keep : wok (.instanceMethod yX1_keep) := wo3 48 rfl rfl
theorem lwX1_keep : wok (.selects RX1 yX1_keep yX1_keep) := wo3 49 rfl rfl
theorem owX1_keep : wok (.code yX1_keep cX1_keep 3 none) := wo3 50 rfl rfl
theorem mw_X1_25 : wok (.methodLink RX1 25 yX1_keptAt) := wo3 51 rfl rfl
theorem vwX1_keptAt : wok (.instanceMethod yX1_keptAt) := wo3 53 rfl rfl
theorem owX1_keptAt : wok (.code yX1_keptAt cX1_keptAt 2 (some (.object "CheeseTwins$Board"))) := wo3 54 rfl rfl
theorem mw_X1_29 : wok (.methodLink RX1 29 yX0_copyFrom) := wo3 55 rfl rfl
theorem mw_X1_33 : wok (.methodLink RX1 33 Lib.Math.min.name) := wo3 56 rfl rfl
theorem sw_Math_min : wok (.static Lib.Math.min.name) := wo3 57 rfl rfl
theorem ow_Math_min : wok (.code Lib.Math.min.name Lib.Math.min.code 2 (some .int)) := wo3 58 rfl rfl
theorem mw_X7_69 : wok (.methodLink RX7 69 yX0_lendTo) := wo3 59 rfl rfl
theorem vwX0_lendTo : wok (.instanceMethod yX0_lendTo) := wo3 60 rfl rfl
theorem lwX0_lendTo : wok (.selects RX0 yX0_lendTo yX0_lendTo) := wo3 61 rfl rfl
theorem owX0_lendTo : wok (.code yX0_lendTo cX0_lendTo 5 (some (.int))) := wo3 62 rfl rfl
theorem mw_X0_54 : wok (.methodLink RX0 54 yX5_take) := wo3 63 rfl rfl
theorem vwX5_take : wok (.instanceMethod yX5_take) := wo3 64 rfl rfl
theorem lwX5_take : wok (.selects RX5 yX5_take yX5_take) := wo3 65 rfl rfl
theorem owX5_take : wok (.code yX5_take cX5_take 4 (some (.int))) := wo3 66 rfl rfl
theorem mw_X5_35 : wok (.methodLink RX5 35 yX5_find) := wo3 67 rfl rfl
theorem vwX5_find : wok (.instanceMethod yX5_find) := wo3 68 rfl rfl
theorem lwX5_find : wok (.selects RX5 yX5_find yX5_find) := wo3 69 rfl rfl
theorem owX5_find : wok (.code yX5_find cX5_find 6 (some (.int))) := wo3 70 rfl rfl
theorem mw_X5_31 : wok (.methodLink RX5 31 yX5_isPreferred) := wo3 71 rfl rfl
theorem vwX5_isPreferred : wok (.instanceMethod yX5_isPreferred) := wo3 73 rfl rfl
theorem owX5_isPreferred : wok (.code yX5_isPreferred cX5_isPreferred 3 (some (.boolean))) := wo3 74 rfl rfl
theorem mw_X5_39 : wok (.methodLink RX5 39 yX5_sizeAt) := wo3 75 rfl rfl
theorem mw_X5_42 : wok (.methodLink RX5 42 yX5_setSize) := wo3 76 rfl rfl
theorem vwX5_setSize : wok (.instanceMethod yX5_setSize) := wo3 78 rfl rfl
theorem owX5_setSize : wok (.code yX5_setSize cX5_setSize 3 none) := wo3 79 rfl rfl
theorem mw_X5_46 : wok (.methodLink RX5 46 yX5_cutDown) := wo3 80 rfl rfl
theorem vwX5_cutDown : wok (.instanceMethod yX5_cutDown) := wo3 81 rfl rfl
theorem lwX5_cutDown : wok (.selects RX5 yX5_cutDown yX5_cutDown) := wo3 82 rfl rfl
theorem owX5_cutDown : wok (.code yX5_cutDown cX5_cutDown 6 (some (.int))) := wo3 83 rfl rfl
theorem mw_X5_50 : wok (.methodLink RX5 50 yX5_isUpperTaken) := wo3 84 rfl rfl
theorem vwX5_isUpperTaken : wok (.instanceMethod yX5_isUpperTaken) := wo3 85 rfl rfl
theorem lwX5_isUpperTaken : wok (.selects RX5 yX5_isUpperTaken yX5_isUpperTaken) := wo3 86 rfl rfl
theorem owX5_isUpperTaken : wok (.code yX5_isUpperTaken cX5_isUpperTaken 1 (some (.boolean))) := wo3 87 rfl rfl
theorem mw_X0_57 : wok (.methodLink RX0 57 yX3_add) := wo3 88 rfl rfl
theorem vwX3_add : wok (.instanceMethod yX3_add) := wo3 89 rfl rfl
theorem lwX3_add : wok (.selects RX3 yX3_add yX3_add) := wo3 90 rfl rfl
theorem owX3_add : wok (.code yX3_add cX3_add 5 (some (.int))) := wo3 91 rfl rfl
theorem mw_X3_38 : wok (.methodLink RX3 38 yX3_put) := wo3 92 rfl rfl
theorem vwX3_put : wok (.instanceMethod yX3_put) := wo3 93 rfl rfl
theorem lwX3_put : wok (.selects RX3 yX3_put yX3_put) := wo3 94 rfl rfl
theorem owX3_put : wok (.code yX3_put cX3_put 5 none) := wo3 95 rfl rfl
theorem mw_L_123 : wok (.methodLink RL 123 yL_ask) := wo3 96 rfl rfl
theorem swL_ask : wok (.static yL_ask) := wo3 97 rfl rfl
theorem owL_ask : wok (.codeWith yL_ask cL_ask 5 (some (.int)) [(0, 10, 13, 13), (0, 10, 17, 15)]) := wo3 98 rfl rfl
theorem mw_L_17 : wok (.methodLink RL 17 yX7_ask) := wo3 99 rfl rfl
theorem vwX7_ask : wok (.instanceMethod yX7_ask) := wo3 100 rfl rfl
theorem lwX7_ask : wok (.selects RX7 yX7_ask yX7_ask) := wo3 101 rfl rfl
theorem owX7_ask : wok (.code yX7_ask cX7_ask 3 (some (.int))) := wo3 102 rfl rfl
theorem mw_X7_72 : wok (.methodLink RX7 72 yX7_judgeAsk) := wo3 103 rfl rfl
theorem vwX7_judgeAsk : wok (.instanceMethod yX7_judgeAsk) := wo3 105 rfl rfl
theorem owX7_judgeAsk : wok (.code yX7_judgeAsk cX7_judgeAsk 3 (some (.int))) := wo3 106 rfl rfl
theorem mw_X7_370 : wok (.methodLink RX7 370 yX0_canLend) := wo3 107 rfl rfl
theorem mw_X7_75 : wok (.methodLink RX7 75 yX0_lendOrQueue) := wo3 108 rfl rfl
theorem vwX0_lendOrQueue : wok (.instanceMethod yX0_lendOrQueue) := wo3 109 rfl rfl
theorem lwX0_lendOrQueue : wok (.selects RX0 yX0_lendOrQueue yX0_lendOrQueue) := wo3 110 rfl rfl
theorem owX0_lendOrQueue : wok (.code yX0_lendOrQueue cX0_lendOrQueue 3 (some (.int))) := wo3 111 rfl rfl
theorem mw_X0_65 : wok (.methodLink RX0 65 yX0_lendTo) := wo3 112 rfl rfl
theorem mw_X0_72 : wok (.methodLink RX0 72 yX6_add) := wo3 113 rfl rfl
theorem vwX6_add : wok (.instanceMethod yX6_add) := wo3 114 rfl rfl
theorem lwX6_add : wok (.selects RX6 yX6_add yX6_add) := wo3 115 rfl rfl
theorem owX6_add : wok (.code yX6_add cX6_add 3 none) := wo3 116 rfl rfl
theorem mw_L_126 : wok (.methodLink RL 126 yL_give) := wo3 117 rfl rfl
theorem swL_give : wok (.static yL_give) := wo3 118 rfl rfl
theorem owL_give : wok (.codeWith yL_give cL_give 4 (some (.int)) [(0, 9, 12, 24)]) := wo3 119 rfl rfl
theorem kw_L_24 : wok (.classLink RL 24 "java/lang/IndexOutOfBoundsException") := wo3 120 rfl rfl
theorem aw_Jx00060 : wok (.instantiable RJx00060 6) := wo3 121 rfl rfl
theorem aw_J0 : wok (.instantiable RJ0 4) := wo3 136 rfl rfl
theorem mw_L_20 : wok (.methodLink RL 20 yX7_give) := wo3 141 rfl rfl
theorem vwX7_give : wok (.instanceMethod yX7_give) := wo3 142 rfl rfl
theorem lwX7_give : wok (.selects RX7 yX7_give yX7_give) := wo3 143 rfl rfl
theorem owX7_give : wok (.code yX7_give cX7_give 2 (some (.int))) := wo3 144 rfl rfl
theorem mw_X7_78 : wok (.methodLink RX7 78 yX7_judgeGive) := wo3 145 rfl rfl
theorem vwX7_judgeGive : wok (.instanceMethod yX7_judgeGive) := wo3 147 rfl rfl
theorem owX7_judgeGive : wok (.code yX7_judgeGive cX7_judgeGive 2 (some (.int))) := wo3 148 rfl rfl
theorem mw_X7_130 : wok (.methodLink RX7 130 yX3_has) := wo3 149 rfl rfl
theorem mw_X7_82 : wok (.methodLink RX7 82 yX0_giveBack) := wo3 150 rfl rfl
theorem vwX0_giveBack : wok (.instanceMethod yX0_giveBack) := wo3 151 rfl rfl
theorem lwX0_giveBack : wok (.selects RX0 yX0_giveBack yX0_giveBack) := wo3 152 rfl rfl
theorem owX0_giveBack : wok (.code yX0_giveBack cX0_giveBack 2 (some (.int))) := wo3 153 rfl rfl
theorem mw_X0_75 : wok (.methodLink RX0 75 yX0_releaseLoan) := wo3 154 rfl rfl
theorem vwX0_releaseLoan : wok (.instanceMethod yX0_releaseLoan) := wo3 156 rfl rfl
theorem owX0_releaseLoan : wok (.code yX0_releaseLoan cX0_releaseLoan 4 none) := wo3 157 rfl rfl
theorem mw_X0_88 : wok (.methodLink RX0 88 yX3_remove) := wo3 158 rfl rfl
theorem vwX3_remove : wok (.instanceMethod yX3_remove) := wo3 159 rfl rfl
theorem lwX3_remove : wok (.selects RX3 yX3_remove yX3_remove) := wo3 160 rfl rfl
theorem owX3_remove : wok (.code yX3_remove cX3_remove 3 none) := wo3 161 rfl rfl
theorem mw_X0_91 : wok (.methodLink RX0 91 yX5_release) := wo3 162 rfl rfl
theorem vwX5_release : wok (.instanceMethod yX5_release) := wo3 163 rfl rfl
theorem lwX5_release : wok (.selects RX5 yX5_release yX5_release) := wo3 164 rfl rfl
theorem owX5_release : wok (.code yX5_release cX5_release 5 none) := wo3 165 rfl rfl
theorem mw_X5_54 : wok (.methodLink RX5 54 yX5_joinedSize) := wo3 166 rfl rfl
theorem vwX5_joinedSize : wok (.instanceMethod yX5_joinedSize) := wo3 167 rfl rfl
theorem lwX5_joinedSize : wok (.selects RX5 yX5_joinedSize yX5_joinedSize) := wo3 168 rfl rfl
theorem owX5_joinedSize : wok (.code yX5_joinedSize cX5_joinedSize 4 (some (.int))) := wo3 169 rfl rfl
theorem nw_X5_58 : (Cond.methodLinkNest RX5 58 yX7_twinOf RX7) ∈ lw_tbl := tin_3 _ (List.mem_of_getElem? (i := 170) rfl)
theorem swX7_twinOf : wok (.static yX7_twinOf) := wo3 171 rfl rfl
theorem owX7_twinOf : wok (.code yX7_twinOf cX7_twinOf 2 (some (.int))) := wo3 172 rfl rfl
theorem mw_X7_387 : wok (.methodLink RX7 387 yX7_partOf) := wo3 173 rfl rfl
theorem nw_X5_61 : (Cond.methodLinkNest RX5 61 yX7_partOf RX7) ∈ lw_tbl := tin_3 _ (List.mem_of_getElem? (i := 174) rfl)
theorem mw_X0_79 : wok (.methodLink RX0 79 yX0_serveWaiting) := wo3 175 rfl rfl
theorem vwX0_serveWaiting : wok (.instanceMethod yX0_serveWaiting) := wo3 177 rfl rfl
theorem owX0_serveWaiting : wok (.code yX0_serveWaiting cX0_serveWaiting 5 (some (.int))) := wo3 178 rfl rfl
theorem mw_X0_109 : wok (.methodLink RX0 109 yX6_nameAt) := wo3 179 rfl rfl
theorem vwX6_nameAt : wok (.instanceMethod yX6_nameAt) := wo3 180 rfl rfl
theorem lwX6_nameAt : wok (.selects RX6 yX6_nameAt yX6_nameAt) := wo3 181 rfl rfl
theorem owX6_nameAt : wok (.code yX6_nameAt cX6_nameAt 2 (some (.int))) := wo3 182 rfl rfl
theorem mw_X0_110 : wok (.methodLink RX0 110 yX6_remove) := wo3 183 rfl rfl
theorem vwX6_remove : wok (.instanceMethod yX6_remove) := wo3 184 rfl rfl
theorem lwX6_remove : wok (.selects RX6 yX6_remove yX6_remove) := wo3 185 rfl rfl
theorem owX6_remove : wok (.code yX6_remove cX6_remove 3 none) := wo3 186 rfl rfl
theorem mw_L_130 : wok (.methodLink RL 130 yL_giveAll) := wo3 187 rfl rfl
theorem swL_giveAll : wok (.static yL_giveAll) := wo3 188 rfl rfl
theorem owL_giveAll : wok (.codeWith yL_giveAll cL_giveAll 4 (some (.int)) [(0, 9, 12, 13), (0, 9, 15, 15)]) := wo3 189 rfl rfl
theorem mw_L_26 : wok (.methodLink RL 26 yX7_giveAll) := wo3 190 rfl rfl
theorem vwX7_giveAll : wok (.instanceMethod yX7_giveAll) := wo3 191 rfl rfl
theorem lwX7_giveAll : wok (.selects RX7 yX7_giveAll yX7_giveAll) := wo3 192 rfl rfl
theorem owX7_giveAll : wok (.code yX7_giveAll cX7_giveAll 2 (some (.int))) := wo3 193 rfl rfl
theorem mw_X7_85 : wok (.methodLink RX7 85 yX7_judgeGiveAll) := wo3 194 rfl rfl
theorem vwX7_judgeGiveAll : wok (.instanceMethod yX7_judgeGiveAll) := wo3 196 rfl rfl
theorem owX7_judgeGiveAll : wok (.code yX7_judgeGiveAll cX7_judgeGiveAll 2 (some (.int))) := wo3 197 rfl rfl
theorem mw_X7_157 : wok (.methodLink RX7 157 yX3_countOf) := wo3 198 rfl rfl
theorem vwX3_countOf : wok (.instanceMethod yX3_countOf) := wo3 199 rfl rfl
theorem lwX3_countOf : wok (.selects RX3 yX3_countOf yX3_countOf) := wo3 200 rfl rfl
theorem owX3_countOf : wok (.code yX3_countOf cX3_countOf 4 (some (.int))) := wo3 201 rfl rfl
theorem mw_X3_42 : wok (.methodLink RX3 42 yX3_nameAt) := wo3 202 rfl rfl
theorem vwX3_nameAt : wok (.instanceMethod yX3_nameAt) := wo3 203 rfl rfl
theorem lwX3_nameAt : wok (.selects RX3 yX3_nameAt yX3_nameAt) := wo3 204 rfl rfl
theorem owX3_nameAt : wok (.code yX3_nameAt cX3_nameAt 2 (some (.int))) := wo3 205 rfl rfl
theorem mw_X7_166 : wok (.methodLink RX7 166 yX6_countOf) := wo3 206 rfl rfl
theorem vwX6_countOf : wok (.instanceMethod yX6_countOf) := wo3 207 rfl rfl
theorem lwX6_countOf : wok (.selects RX6 yX6_countOf yX6_countOf) := wo3 208 rfl rfl
theorem owX6_countOf : wok (.code yX6_countOf cX6_countOf 4 (some (.int))) := wo3 209 rfl rfl
theorem mw_X6_32 : wok (.methodLink RX6 32 yX6_nameAt) := wo3 210 rfl rfl
theorem mw_X7_88 : wok (.methodLink RX7 88 yX0_giveBackAll) := wo3 211 rfl rfl
theorem vwX0_giveBackAll : wok (.instanceMethod yX0_giveBackAll) := wo3 212 rfl rfl
theorem lwX0_giveBackAll : wok (.selects RX0 yX0_giveBackAll yX0_giveBackAll) := wo3 213 rfl rfl
theorem owX0_giveBackAll : wok (.code yX0_giveBackAll cX0_giveBackAll 4 (some (.int))) := wo3 214 rfl rfl
theorem mw_X0_82 : wok (.methodLink RX0 82 yX3_nameAt) := wo3 215 rfl rfl
theorem mw_L_133 : wok (.methodLink RL 133 yL_resize) := wo3 216 rfl rfl
theorem swL_resize : wok (.static yL_resize) := wo3 217 rfl rfl
theorem owL_resize : wok (.codeWith yL_resize cL_resize 5 (some (.int)) [(0, 10, 13, 24), (0, 10, 17, 13), (0, 10, 21, 15)]) := wo3 218 rfl rfl
theorem mw_L_29 : wok (.methodLink RL 29 yX7_resize) := wo3 219 rfl rfl
theorem vwX7_resize : wok (.instanceMethod yX7_resize) := wo3 220 rfl rfl
theorem lwX7_resize : wok (.selects RX7 yX7_resize yX7_resize) := wo3 221 rfl rfl
theorem owX7_resize : wok (.code yX7_resize cX7_resize 3 (some (.int))) := wo3 222 rfl rfl
theorem mw_X7_91 : wok (.methodLink RX7 91 yX7_judgeResize) := wo3 223 rfl rfl
theorem vwX7_judgeResize : wok (.instanceMethod yX7_judgeResize) := wo3 225 rfl rfl
theorem owX7_judgeResize : wok (.code yX7_judgeResize cX7_judgeResize 4 (some (.int))) := wo3 226 rfl rfl
theorem mw_X7_138 : wok (.methodLink RX7 138 yX3_amountAt) := wo3 227 rfl rfl
theorem mw_X7_373 : wok (.methodLink RX7 373 yX0_greatestSizeWithout) := wo3 228 rfl rfl
theorem vwX0_greatestSizeWithout : wok (.instanceMethod yX0_greatestSizeWithout) := wo3 229 rfl rfl
theorem lwX0_greatestSizeWithout : wok (.selects RX0 yX0_greatestSizeWithout yX0_greatestSizeWithout) := wo3 230 rfl rfl
theorem owX0_greatestSizeWithout : wok (.code yX0_greatestSizeWithout cX0_greatestSizeWithout 3 (some (.int))) := wo3 231 rfl rfl
theorem mw_X0_111 : wok (.methodLink RX0 111 yX5_joinedSize) := wo3 232 rfl rfl
theorem mw_X0_114 : wok (.methodLink RX0 114 Lib.Math.max.name) := wo3 233 rfl rfl
theorem mw_X7_94 : wok (.methodLink RX7 94 yX0_changeAmount) := wo3 234 rfl rfl
theorem vwX0_changeAmount : wok (.instanceMethod yX0_changeAmount) := wo3 235 rfl rfl
theorem lwX0_changeAmount : wok (.selects RX0 yX0_changeAmount yX0_changeAmount) := wo3 236 rfl rfl
theorem owX0_changeAmount : wok (.code yX0_changeAmount cX0_changeAmount 6 (some (.int))) := wo3 237 rfl rfl
theorem mw_X0_94 : wok (.methodLink RX0 94 yX5_cutDown) := wo3 238 rfl rfl
theorem mw_X0_98 : wok (.methodLink RX0 98 yX3_put) := wo3 239 rfl rfl
theorem mw_L_136 : wok (.methodLink RL 136 yL_way) := wo4 0 rfl rfl
theorem swL_way : wok (.static yL_way) := wo4 1 rfl rfl
theorem owL_way : wok (.codeWith yL_way cL_way 4 (some (.int)) [(0, 9, 12, 13), (0, 9, 15, 15)]) := wo4 2 rfl rfl
theorem mw_L_32 : wok (.methodLink RL 32 yX7_way) := wo4 3 rfl rfl
theorem vwX7_way : wok (.instanceMethod yX7_way) := wo4 4 rfl rfl
theorem lwX7_way : wok (.selects RX7 yX7_way yX7_way) := wo4 5 rfl rfl
theorem owX7_way : wok (.code yX7_way cX7_way 2 (some (.int))) := wo4 6 rfl rfl
theorem mw_X7_97 : wok (.methodLink RX7 97 yX7_judgeWay) := wo4 7 rfl rfl
theorem vwX7_judgeWay : wok (.instanceMethod yX7_judgeWay) := wo4 9 rfl rfl
theorem owX7_judgeWay : wok (.code yX7_judgeWay cX7_judgeWay 2 (some (.int))) := wo4 10 rfl rfl
theorem mw_X7_100 : wok (.methodLink RX7 100 yX0_changeWay) := wo4 11 rfl rfl
theorem vwX0_changeWay : wok (.instanceMethod yX0_changeWay) := wo4 12 rfl rfl
theorem lwX0_changeWay : wok (.selects RX0 yX0_changeWay yX0_changeWay) := wo4 13 rfl rfl
theorem owX0_changeWay : wok (.code yX0_changeWay cX0_changeWay 3 (some (.int))) := wo4 14 rfl rfl
theorem mw_L_139 : wok (.methodLink RL 139 yL_forget) := wo4 15 rfl rfl
theorem swL_forget : wok (.static yL_forget) := wo4 16 rfl rfl
theorem owL_forget : wok (.codeWith yL_forget cL_forget 4 (some (.int)) [(0, 9, 12, 24)]) := wo4 17 rfl rfl
theorem mw_L_35 : wok (.methodLink RL 35 yX7_forget) := wo4 18 rfl rfl
theorem vwX7_forget : wok (.instanceMethod yX7_forget) := wo4 19 rfl rfl
theorem lwX7_forget : wok (.selects RX7 yX7_forget yX7_forget) := wo4 20 rfl rfl
theorem owX7_forget : wok (.code yX7_forget cX7_forget 2 (some (.int))) := wo4 21 rfl rfl
theorem mw_X7_107 : wok (.methodLink RX7 107 yX6_has) := wo4 22 rfl rfl
theorem mw_X7_120 : wok (.methodLink RX7 120 yX6_remove) := wo4 24 rfl rfl
theorem mw_L_142 : wok (.methodLink RL 142 yL_loanOf) := wo4 25 rfl rfl
theorem swL_loanOf : wok (.static yL_loanOf) := wo4 26 rfl rfl
theorem owL_loanOf : wok (.codeWith yL_loanOf cL_loanOf 5 (some (.int)) [(0, 10, 13, 24), (0, 10, 17, 13)]) := wo4 27 rfl rfl
theorem mw_L_38 : wok (.methodLink RL 38 yX7_loanOf) := wo4 28 rfl rfl
theorem vwX7_loanOf : wok (.instanceMethod yX7_loanOf) := wo4 29 rfl rfl
theorem lwX7_loanOf : wok (.selects RX7 yX7_loanOf yX7_loanOf) := wo4 30 rfl rfl
theorem owX7_loanOf : wok (.code yX7_loanOf cX7_loanOf 4 (some (.int))) := wo4 31 rfl rfl
theorem mw_X7_135 : wok (.methodLink RX7 135 yX3_nameAt) := wo4 32 rfl rfl
theorem mw_X7_141 : wok (.methodLink RX7 141 yX3_startAt) := wo4 33 rfl rfl
theorem mw_X7_144 : wok (.methodLink RX7 144 yX3_sizeAt) := wo4 34 rfl rfl
theorem mw_L_145 : wok (.methodLink RL 145 yL_nameOf) := wo4 36 rfl rfl
theorem swL_nameOf : wok (.static yL_nameOf) := wo4 37 rfl rfl
theorem owL_nameOf : wok (.codeWith yL_nameOf cL_nameOf 5 (some (.int)) [(0, 10, 13, 13), (0, 10, 17, 24)]) := wo4 38 rfl rfl
theorem mw_L_41 : wok (.methodLink RL 41 yX7_nameOf) := wo4 39 rfl rfl
theorem vwX7_nameOf : wok (.instanceMethod yX7_nameOf) := wo4 40 rfl rfl
theorem lwX7_nameOf : wok (.selects RX7 yX7_nameOf yX7_nameOf) := wo4 41 rfl rfl
theorem owX7_nameOf : wok (.code yX7_nameOf cX7_nameOf 3 (some (.int))) := wo4 42 rfl rfl
theorem mw_X7_160 : wok (.methodLink RX7 160 yX3_amountsOf) := wo4 44 rfl rfl
theorem vwX3_amountsOf : wok (.instanceMethod yX3_amountsOf) := wo4 45 rfl rfl
theorem lwX3_amountsOf : wok (.selects RX3 yX3_amountsOf yX3_amountsOf) := wo4 46 rfl rfl
theorem owX3_amountsOf : wok (.code yX3_amountsOf cX3_amountsOf 4 (some (.int))) := wo4 47 rfl rfl
theorem mw_X7_163 : wok (.methodLink RX7 163 yX3_sizesOf) := wo4 48 rfl rfl
theorem vwX3_sizesOf : wok (.instanceMethod yX3_sizesOf) := wo4 49 rfl rfl
theorem lwX3_sizesOf : wok (.selects RX3 yX3_sizesOf yX3_sizesOf) := wo4 50 rfl rfl
theorem owX3_sizesOf : wok (.code yX3_sizesOf cX3_sizesOf 4 (some (.int))) := wo4 51 rfl rfl
theorem mw_L_148 : wok (.methodLink RL 148 yL_waitingOf) := wo4 53 rfl rfl
theorem swL_waitingOf : wok (.static yL_waitingOf) := wo4 54 rfl rfl
theorem owL_waitingOf : wok (.codeWith yL_waitingOf cL_waitingOf 5 (some (.int)) [(0, 10, 13, 47), (0, 10, 17, 13)]) := wo4 55 rfl rfl
theorem kw_L_47 : wok (.classLink RL 47 "java/util/NoSuchElementException") := wo4 56 rfl rfl
theorem mw_L_44 : wok (.methodLink RL 44 yX7_waitingOf) := wo4 57 rfl rfl
theorem vwX7_waitingOf : wok (.instanceMethod yX7_waitingOf) := wo4 58 rfl rfl
theorem lwX7_waitingOf : wok (.selects RX7 yX7_waitingOf yX7_waitingOf) := wo4 59 rfl rfl
theorem owX7_waitingOf : wok (.code yX7_waitingOf cX7_waitingOf 3 (some (.int))) := wo4 60 rfl rfl
theorem kw_X7_169 : wok (.classLink RX7 169 "java/util/NoSuchElementException") := wo4 61 rfl rfl
theorem mw_X7_172 : wok (.methodLink RX7 172 yX6_nameAt) := wo4 76 rfl rfl
theorem mw_X7_173 : wok (.methodLink RX7 173 yX6_amountAt) := wo4 77 rfl rfl
theorem mw_L_151 : wok (.methodLink RL 151 yL_pieceOf) := wo4 79 rfl rfl
theorem swL_pieceOf : wok (.static yL_pieceOf) := wo4 80 rfl rfl
theorem owL_pieceOf : wok (.codeWith yL_pieceOf cL_pieceOf 5 (some (.int)) [(0, 10, 13, 24), (0, 10, 17, 13)]) := wo4 81 rfl rfl
theorem mw_L_49 : wok (.methodLink RL 49 yX7_pieceOf) := wo4 82 rfl rfl
theorem vwX7_pieceOf : wok (.instanceMethod yX7_pieceOf) := wo4 83 rfl rfl
theorem lwX7_pieceOf : wok (.selects RX7 yX7_pieceOf yX7_pieceOf) := wo4 84 rfl rfl
theorem owX7_pieceOf : wok (.code yX7_pieceOf cX7_pieceOf 6 (some (.int))) := wo4 85 rfl rfl
theorem mw_X7_176 : wok (.methodLink RX7 176 yX7_isUnit) := wo4 86 rfl rfl
theorem swX7_isUnit : wok (.static yX7_isUnit) := wo4 87 rfl rfl
theorem owX7_isUnit : wok (.code yX7_isUnit cX7_isUnit 1 (some (.boolean))) := wo4 88 rfl rfl
theorem mw_X7_181 : wok (.methodLink RX7 181 yX3_holderOf) := wo4 90 rfl rfl
theorem mw_X7_184 : wok (.methodLink RX7 184 yX0_pieceStart) := wo4 91 rfl rfl
theorem mw_X7_187 : wok (.methodLink RX7 187 yX0_pieceSize) := wo4 92 rfl rfl
theorem mw_X7_190 : wok (.methodLink RX7 190 yX7_twinOf) := wo4 93 rfl rfl
theorem mw_L_154 : wok (.methodLink RL 154 yL_free) := wo4 95 rfl rfl
theorem swL_free : wok (.static yL_free) := wo4 96 rfl rfl
theorem owL_free : wok (.codeWith yL_free cL_free 5 (some (.int)) [(0, 10, 13, 13)]) := wo4 97 rfl rfl
theorem mw_L_52 : wok (.methodLink RL 52 yX7_free) := wo4 98 rfl rfl
theorem vwX7_free : wok (.instanceMethod yX7_free) := wo4 99 rfl rfl
theorem lwX7_free : wok (.selects RX7 yX7_free yX7_free) := wo4 100 rfl rfl
theorem owX7_free : wok (.code yX7_free cX7_free 3 (some (.int))) := wo4 101 rfl rfl
theorem mw_X7_195 : wok (.methodLink RX7 195 yX7_isSize) := wo4 102 rfl rfl
theorem swX7_isSize : wok (.static yX7_isSize) := wo4 103 rfl rfl
theorem owX7_isSize : wok (.code yX7_isSize cX7_isSize 1 (some (.boolean))) := wo4 104 rfl rfl
theorem mw_X7_200 : wok (.methodLink RX7 200 yX0_countFreeParts) := wo4 106 rfl rfl
theorem mw_X7_207 : wok (.methodLink RX7 207 yX5_countOfSize) := wo4 107 rfl rfl
theorem mw_L_158 : wok (.methodLink RL 158 yL_greatest) := wo4 108 rfl rfl
theorem swL_greatest : wok (.static yL_greatest) := wo4 109 rfl rfl
theorem owL_greatest : wok (.codeWith yL_greatest cL_greatest 3 (some (.int)) [(0, 8, 11, 47)]) := wo4 110 rfl rfl
theorem mw_L_56 : wok (.methodLink RL 56 yX7_greatest) := wo4 111 rfl rfl
theorem vwX7_greatest : wok (.instanceMethod yX7_greatest) := wo4 112 rfl rfl
theorem lwX7_greatest : wok (.selects RX7 yX7_greatest yX7_greatest) := wo4 113 rfl rfl
theorem owX7_greatest : wok (.code yX7_greatest cX7_greatest 2 (some (.int))) := wo4 114 rfl rfl
theorem mw_L_162 : wok (.methodLink RL 162 yL_would) := wo4 116 rfl rfl
theorem swL_would : wok (.static yL_would) := wo4 117 rfl rfl
theorem owL_would : wok (.codeWith yL_would cL_would 4 (some (.int)) [(0, 9, 12, 13), (0, 9, 15, 47)]) := wo4 118 rfl rfl
theorem mw_L_60 : wok (.methodLink RL 60 yX7_would) := wo4 119 rfl rfl
theorem vwX7_would : wok (.instanceMethod yX7_would) := wo4 120 rfl rfl
theorem lwX7_would : wok (.selects RX7 yX7_would yX7_would) := wo4 121 rfl rfl
theorem owX7_would : wok (.code yX7_would cX7_would 4 (some (.int))) := wo4 122 rfl rfl
theorem mw_X7_218 : wok (.methodLink RX7 218 yX7_insistOnNeed) := wo4 123 rfl rfl
theorem swX7_insistOnNeed : wok (.static yX7_insistOnNeed) := wo4 124 rfl rfl
theorem owX7_insistOnNeed : wok (.code yX7_insistOnNeed cX7_insistOnNeed 1 (some (.int))) := wo4 125 rfl rfl
theorem mw_X7_221 : wok (.methodLink RX7 221 yX7_insistOnPiece) := wo4 127 rfl rfl
theorem vwX7_insistOnPiece : wok (.instanceMethod yX7_insistOnPiece) := wo4 129 rfl rfl
theorem owX7_insistOnPiece : wok (.code yX7_insistOnPiece cX7_insistOnPiece 3 (some (.int))) := wo4 130 rfl rfl
theorem mw_X7_382 : wok (.methodLink RX7 382 yX5_find) := wo4 131 rfl rfl
theorem mw_X7_224 : wok (.methodLink RX7 224 yX5_isUpperTaken) := wo4 133 rfl rfl
theorem mw_X7_228 : wok (.methodLink RX7 228 yX5_sizeAt) := wo4 134 rfl rfl
theorem mw_L_165 : wok (.methodLink RL 165 yL_cuts) := wo4 135 rfl rfl
theorem swL_cuts : wok (.static yL_cuts) := wo4 136 rfl rfl
theorem owL_cuts : wok (.codeWith yL_cuts cL_cuts 4 (some (.int)) [(0, 9, 12, 13), (0, 9, 15, 47)]) := wo4 137 rfl rfl
theorem mw_L_63 : wok (.methodLink RL 63 yX7_cuts) := wo4 138 rfl rfl
theorem vwX7_cuts : wok (.instanceMethod yX7_cuts) := wo4 139 rfl rfl
theorem lwX7_cuts : wok (.selects RX7 yX7_cuts yX7_cuts) := wo4 140 rfl rfl
theorem owX7_cuts : wok (.code yX7_cuts cX7_cuts 6 (some (.int))) := wo4 141 rfl rfl
theorem mw_L_168 : wok (.methodLink RL 168 yL_fits) := wo4 142 rfl rfl
theorem swL_fits : wok (.static yL_fits) := wo4 143 rfl rfl
theorem owL_fits : wok (.codeWith yL_fits cL_fits 4 (some (.int)) [(0, 9, 12, 13)]) := wo4 144 rfl rfl
theorem mw_L_66 : wok (.methodLink RL 66 yX7_fits) := wo4 145 rfl rfl
theorem vwX7_fits : wok (.instanceMethod yX7_fits) := wo4 146 rfl rfl
theorem lwX7_fits : wok (.selects RX7 yX7_fits yX7_fits) := wo4 147 rfl rfl
theorem owX7_fits : wok (.code yX7_fits cX7_fits 2 (some (.int))) := wo4 148 rfl rfl
theorem mw_X7_229 : wok (.methodLink RX7 229 yX5_countRoomFor) := wo4 149 rfl rfl
theorem vwX5_countRoomFor : wok (.instanceMethod yX5_countRoomFor) := wo4 150 rfl rfl
theorem lwX5_countRoomFor : wok (.selects RX5 yX5_countRoomFor yX5_countRoomFor) := wo4 151 rfl rfl
theorem owX5_countRoomFor : wok (.code yX5_countRoomFor cX5_countRoomFor 4 (some (.int))) := wo4 152 rfl rfl
theorem mw_L_171 : wok (.methodLink RL 171 yL_hole) := wo4 153 rfl rfl
theorem swL_hole : wok (.static yL_hole) := wo4 154 rfl rfl
theorem owL_hole : wok (.codeWith yL_hole cL_hole 4 (some (.int)) [(0, 9, 12, 47)]) := wo4 155 rfl rfl
theorem mw_L_69 : wok (.methodLink RL 69 yX7_hole) := wo4 156 rfl rfl
theorem vwX7_hole : wok (.instanceMethod yX7_hole) := wo4 157 rfl rfl
theorem lwX7_hole : wok (.selects RX7 yX7_hole yX7_hole) := wo4 158 rfl rfl
theorem owX7_hole : wok (.code yX7_hole cX7_hole 3 (some (.int))) := wo4 159 rfl rfl
theorem mw_X7_232 : wok (.methodLink RX7 232 yX5_startOfPlace) := wo4 160 rfl rfl
theorem vwX5_startOfPlace : wok (.instanceMethod yX5_startOfPlace) := wo4 161 rfl rfl
theorem lwX5_startOfPlace : wok (.selects RX5 yX5_startOfPlace yX5_startOfPlace) := wo4 162 rfl rfl
theorem owX5_startOfPlace : wok (.code yX5_startOfPlace cX5_startOfPlace 4 (some (.int))) := wo4 163 rfl rfl
theorem mw_L_174 : wok (.methodLink RL 174 yL_inTheWay) := wo4 165 rfl rfl
theorem swL_inTheWay : wok (.static yL_inTheWay) := wo4 166 rfl rfl
theorem owL_inTheWay : wok (.codeWith yL_inTheWay cL_inTheWay 4 (some (.int)) [(0, 9, 12, 13)]) := wo4 167 rfl rfl
theorem mw_L_72 : wok (.methodLink RL 72 yX7_inTheWay) := wo4 168 rfl rfl
theorem vwX7_inTheWay : wok (.instanceMethod yX7_inTheWay) := wo4 169 rfl rfl
theorem lwX7_inTheWay : wok (.selects RX7 yX7_inTheWay yX7_inTheWay) := wo4 170 rfl rfl
theorem owX7_inTheWay : wok (.code yX7_inTheWay cX7_inTheWay 2 (some (.int))) := wo4 171 rfl rfl
theorem mw_X7_237 : wok (.methodLink RX7 237 yX3_fewestInPart) := wo4 172 rfl rfl
theorem vwX3_fewestInPart : wok (.instanceMethod yX3_fewestInPart) := wo4 173 rfl rfl
theorem lwX3_fewestInPart : wok (.selects RX3 yX3_fewestInPart yX3_fewestInPart) := wo4 174 rfl rfl
theorem owX3_fewestInPart : wok (.code yX3_fewestInPart cX3_fewestInPart 4 (some (.int))) := wo4 175 rfl rfl
theorem mw_X3_56 : wok (.methodLink RX3 56 yX3_countIn) := wo4 176 rfl rfl
theorem mw_X3_60 : wok (.methodLink RX3 60 Lib.Math.min.name) := wo4 177 rfl rfl
theorem mw_L_177 : wok (.methodLink RL 177 yL_ranked) := wo4 178 rfl rfl
theorem swL_ranked : wok (.static yL_ranked) := wo4 179 rfl rfl
theorem owL_ranked : wok (.codeWith yL_ranked cL_ranked 4 (some (.int)) [(0, 9, 12, 47)]) := wo4 180 rfl rfl
theorem mw_L_75 : wok (.methodLink RL 75 yX7_ranked) := wo4 181 rfl rfl
theorem vwX7_ranked : wok (.instanceMethod yX7_ranked) := wo4 182 rfl rfl
theorem lwX7_ranked : wok (.selects RX7 yX7_ranked yX7_ranked) := wo4 183 rfl rfl
theorem owX7_ranked : wok (.code yX7_ranked cX7_ranked 3 (some (.int))) := wo4 184 rfl rfl
theorem mw_X7_240 : wok (.methodLink RX7 240 yX3_nameOfRank) := wo4 185 rfl rfl
theorem vwX3_nameOfRank : wok (.instanceMethod yX3_nameOfRank) := wo4 186 rfl rfl
theorem lwX3_nameOfRank : wok (.selects RX3 yX3_nameOfRank yX3_nameOfRank) := wo4 187 rfl rfl
theorem owX3_nameOfRank : wok (.code yX3_nameOfRank cX3_nameOfRank 3 (some (.int))) := wo4 188 rfl rfl
theorem mw_X3_65 : wok (.methodLink RX3 65 yX3_countAhead) := wo4 189 rfl rfl
theorem vwX3_countAhead : wok (.instanceMethod yX3_countAhead) := wo4 191 rfl rfl
theorem owX3_countAhead : wok (.code yX3_countAhead cX3_countAhead 7 (some (.int))) := wo4 192 rfl rfl
theorem mw_X3_68 : wok (.methodLink RX3 68 yX3_sizesOf) := wo4 193 rfl rfl
theorem mw_X3_71 : wok (.methodLink RX3 71 yX3_isFirstOfName) := wo4 194 rfl rfl
theorem vwX3_isFirstOfName : wok (.instanceMethod yX3_isFirstOfName) := wo4 196 rfl rfl
theorem owX3_isFirstOfName : wok (.code yX3_isFirstOfName cX3_isFirstOfName 3 (some (.boolean))) := wo4 197 rfl rfl
theorem mw_L_188 : wok (.methodLink RL 188 yL_character) := wo4 198 rfl rfl
theorem swL_character : wok (.static yL_character) := wo4 199 rfl rfl
theorem owL_character : wok (.codeWith yL_character cL_character 4 (some (.int)) [(0, 9, 12, 24)]) := wo4 200 rfl rfl
theorem mw_L_78 : wok (.methodLink RL 78 yX7_character) := wo4 201 rfl rfl
theorem vwX7_character : wok (.instanceMethod yX7_character) := wo4 202 rfl rfl
theorem lwX7_character : wok (.selects RX7 yX7_character yX7_character) := wo4 203 rfl rfl
theorem owX7_character : wok (.code yX7_character cX7_character 2 (some (.char))) := wo4 204 rfl rfl
theorem mw_X7_253 : wok (.methodLink RX7 253 yX2_has) := wo4 205 rfl rfl
theorem vwX2_has : wok (.instanceMethod yX2_has) := wo4 206 rfl rfl
theorem lwX2_has : wok (.selects RX2 yX2_has yX2_has) := wo4 207 rfl rfl
theorem owX2_has : wok (.code yX2_has cX2_has 2 (some (.boolean))) := wo4 208 rfl rfl
theorem mw_X7_256 : wok (.methodLink RX7 256 yX2_signAt) := wo4 210 rfl rfl
theorem vwX2_signAt : wok (.instanceMethod yX2_signAt) := wo4 211 rfl rfl
theorem lwX2_signAt : wok (.selects RX2 yX2_signAt yX2_signAt) := wo4 212 rfl rfl
theorem owX2_signAt : wok (.code yX2_signAt cX2_signAt 2 (some (.char))) := wo4 213 rfl rfl
theorem mw_X2_19 : wok (.methodLink RX2 19 yX2_has) := wo4 214 rfl rfl
theorem mw_L_191 : wok (.methodLink RL 191 yL_append) := wo4 215 rfl rfl
theorem swL_append : wok (.static yL_append) := wo4 216 rfl rfl
theorem owL_append : wok (.codeWith yL_append cL_append 4 (some (.int)) [(0, 9, 12, 86)]) := wo4 217 rfl rfl
theorem kw_L_86 : wok (.classLink RL 86 "java/lang/IllegalStateException") := wo4 218 rfl rfl
theorem mw_L_82 : wok (.methodLink RL 82 yX7_append) := wo4 219 rfl rfl
theorem vwX7_append : wok (.instanceMethod yX7_append) := wo4 220 rfl rfl
theorem lwX7_append : wok (.selects RX7 yX7_append yX7_append) := wo4 221 rfl rfl
theorem owX7_append : wok (.code yX7_append cX7_append 2 (some (.int))) := wo4 222 rfl rfl
theorem mw_X7_260 : wok (.methodLink RX7 260 yX4_isFull) := wo4 223 rfl rfl
theorem vwX4_isFull : wok (.instanceMethod yX4_isFull) := wo4 224 rfl rfl
theorem lwX4_isFull : wok (.selects RX4 yX4_isFull yX4_isFull) := wo4 225 rfl rfl
theorem owX4_isFull : wok (.code yX4_isFull cX4_isFull 1 (some (.boolean))) := wo4 226 rfl rfl
theorem kw_X7_263 : wok (.classLink RX7 263 "java/lang/IllegalStateException") := wo4 227 rfl rfl
theorem mw_X7_268 : wok (.methodLink RX7 268 yX4_addSign) := wo5 3 rfl rfl
theorem vwX4_addSign : wok (.instanceMethod yX4_addSign) := wo5 4 rfl rfl
theorem lwX4_addSign : wok (.selects RX4 yX4_addSign yX4_addSign) := wo5 5 rfl rfl
theorem owX4_addSign : wok (.code yX4_addSign cX4_addSign 2 none) := wo5 6 rfl rfl
theorem mw_L_195 : wok (.methodLink RL 195 yL_run) := wo5 7 rfl rfl
theorem swL_run : wok (.static yL_run) := wo5 8 rfl rfl
theorem owL_run : wok (.codeWith yL_run cL_run 3 (some (.int)) [(0, 8, 11, 13), (0, 8, 14, 15)]) := wo5 9 rfl rfl
theorem mw_L_88 : wok (.methodLink RL 88 yX7_run) := wo5 10 rfl rfl
theorem vwX7_run : wok (.instanceMethod yX7_run) := wo5 11 rfl rfl
theorem lwX7_run : wok (.selects RX7 yX7_run yX7_run) := wo5 12 rfl rfl
theorem owX7_run : wok (.code yX7_run cX7_run 3 (some (.int))) := wo5 13 rfl rfl
theorem mw_X7_273 : wok (.methodLink RX7 273 yX4_read) := wo5 14 rfl rfl
theorem vwX4_read : wok (.instanceMethod yX4_read) := wo5 15 rfl rfl
theorem lwX4_read : wok (.selects RX4 yX4_read yX4_read) := wo5 16 rfl rfl
theorem owX4_read : wok (.code yX4_read cX4_read 2 (some (.int))) := wo5 17 rfl rfl
theorem mw_X4_42 : wok (.methodLink RX4 42 yX4_readOrder) := wo5 18 rfl rfl
theorem vwX4_readOrder : wok (.instanceMethod yX4_readOrder) := wo5 20 rfl rfl
theorem owX4_readOrder : wok (.code yX4_readOrder cX4_readOrder 5 (some (.boolean))) := wo5 21 rfl rfl
theorem mw_X4_48 : wok (.methodLink RX4 48 yX4_sign) := wo5 22 rfl rfl
theorem vwX4_sign : wok (.instanceMethod yX4_sign) := wo5 24 rfl rfl
theorem owX4_sign : wok (.code yX4_sign cX4_sign 1 (some (.int))) := wo5 25 rfl rfl
theorem mw_X4_52 : wok (.methodLink RX4 52 yX4_isKind) := wo5 26 rfl rfl
theorem swX4_isKind : wok (.static yX4_isKind) := wo5 27 rfl rfl
theorem owX4_isKind : wok (.code yX4_isKind cX4_isKind 1 (some (.boolean))) := wo5 28 rfl rfl
theorem mw_X4_62 : wok (.methodLink RX4 62 yX4_hasAmount) := wo5 29 rfl rfl
theorem swX4_hasAmount : wok (.static yX4_hasAmount) := wo5 30 rfl rfl
theorem owX4_hasAmount : wok (.code yX4_hasAmount cX4_hasAmount 1 (some (.boolean))) := wo5 31 rfl rfl
theorem mw_X4_55 : wok (.methodLink RX4 55 yX4_readDigit) := wo5 32 rfl rfl
theorem vwX4_readDigit : wok (.instanceMethod yX4_readDigit) := wo5 34 rfl rfl
theorem owX4_readDigit : wok (.code yX4_readDigit cX4_readDigit 2 (some (.boolean))) := wo5 35 rfl rfl
theorem mw_X4_59 : wok (.methodLink RX4 59 yX4_readNumber) := wo5 36 rfl rfl
theorem vwX4_readNumber : wok (.instanceMethod yX4_readNumber) := wo5 38 rfl rfl
theorem owX4_readNumber : wok (.code yX4_readNumber cX4_readNumber 2 (some (.boolean))) := wo5 39 rfl rfl
theorem mw_X4_45 : wok (.methodLink RX4 45 yX4_readSign) := wo5 40 rfl rfl
theorem vwX4_readSign : wok (.instanceMethod yX4_readSign) := wo5 42 rfl rfl
theorem owX4_readSign : wok (.code yX4_readSign cX4_readSign 2 (some (.boolean))) := wo5 43 rfl rfl
theorem mw_X4_65 : wok (.methodLink RX4 65 yX4_put) := wo5 44 rfl rfl
theorem vwX4_put : wok (.instanceMethod yX4_put) := wo5 46 rfl rfl
theorem owX4_put : wok (.code yX4_put cX4_put 5 none) := wo5 47 rfl rfl
theorem mw_X7_276 : wok (.methodLink RX7 276 yX4_clearText) := wo5 48 rfl rfl
theorem vwX4_clearText : wok (.instanceMethod yX4_clearText) := wo5 49 rfl rfl
theorem lwX4_clearText : wok (.selects RX4 yX4_clearText yX4_clearText) := wo5 50 rfl rfl
theorem owX4_clearText : wok (.code yX4_clearText cX4_clearText 1 none) := wo5 51 rfl rfl
theorem mw_X7_285 : wok (.methodLink RX7 285 yX4_kindAt) := wo5 53 rfl rfl
theorem vwX4_kindAt : wok (.instanceMethod yX4_kindAt) := wo5 54 rfl rfl
theorem lwX4_kindAt : wok (.selects RX4 yX4_kindAt yX4_kindAt) := wo5 55 rfl rfl
theorem owX4_kindAt : wok (.code yX4_kindAt cX4_kindAt 2 (some (.int))) := wo5 56 rfl rfl
theorem mw_X4_38 : wok (.methodLink RX4 38 yX4_has) := wo5 57 rfl rfl
theorem vwX4_has : wok (.instanceMethod yX4_has) := wo5 59 rfl rfl
theorem owX4_has : wok (.code yX4_has cX4_has 2 (some (.boolean))) := wo5 60 rfl rfl
theorem mw_X7_288 : wok (.methodLink RX7 288 yX4_firstAt) := wo5 61 rfl rfl
theorem vwX4_firstAt : wok (.instanceMethod yX4_firstAt) := wo5 62 rfl rfl
theorem lwX4_firstAt : wok (.selects RX4 yX4_firstAt yX4_firstAt) := wo5 63 rfl rfl
theorem owX4_firstAt : wok (.code yX4_firstAt cX4_firstAt 2 (some (.int))) := wo5 64 rfl rfl
theorem mw_X7_291 : wok (.methodLink RX7 291 yX4_secondAt) := wo5 65 rfl rfl
theorem vwX4_secondAt : wok (.instanceMethod yX4_secondAt) := wo5 66 rfl rfl
theorem lwX4_secondAt : wok (.selects RX4 yX4_secondAt yX4_secondAt) := wo5 67 rfl rfl
theorem owX4_secondAt : wok (.code yX4_secondAt cX4_secondAt 2 (some (.int))) := wo5 68 rfl rfl
theorem mw_X7_294 : wok (.methodLink RX7 294 yX7_judgeOrder) := wo5 69 rfl rfl
theorem vwX7_judgeOrder : wok (.instanceMethod yX7_judgeOrder) := wo5 71 rfl rfl
theorem owX7_judgeOrder : wok (.code yX7_judgeOrder cX7_judgeOrder 4 (some (.int))) := wo5 72 rfl rfl
theorem mw_X7_298 : wok (.methodLink RX7 298 yX7_carryOut) := wo5 73 rfl rfl
theorem vwX7_carryOut : wok (.instanceMethod yX7_carryOut) := wo5 75 rfl rfl
theorem owX7_carryOut : wok (.code yX7_carryOut cX7_carryOut 4 none) := wo5 76 rfl rfl
theorem mw_L_202 : wok (.methodLink RL 202 yL_refusal) := wo5 79 rfl rfl
theorem swL_refusal : wok (.static yL_refusal) := wo5 80 rfl rfl
theorem owL_refusal : wok (.codeWith yL_refusal cL_refusal 4 (some (.int)) [(0, 9, 12, 47)]) := wo5 81 rfl rfl
theorem mw_L_91 : wok (.methodLink RL 91 yX7_refusal) := wo5 82 rfl rfl
theorem vwX7_refusal : wok (.instanceMethod yX7_refusal) := wo5 83 rfl rfl
theorem lwX7_refusal : wok (.selects RX7 yX7_refusal yX7_refusal) := wo5 84 rfl rfl
theorem owX7_refusal : wok (.code yX7_refusal cX7_refusal 2 (some (.int))) := wo5 85 rfl rfl
theorem mw_L_206 : wok (.methodLink RL 206 yL_account) := wo5 87 rfl rfl
theorem swL_account : wok (.static yL_account) := wo5 88 rfl rfl
theorem owL_account : wok (.codeWith yL_account cL_account 4 (some (.int)) [(0, 9, 12, 13)]) := wo5 89 rfl rfl
theorem mw_L_95 : wok (.methodLink RL 95 yX7_account) := wo5 90 rfl rfl
theorem vwX7_account : wok (.instanceMethod yX7_account) := wo5 91 rfl rfl
theorem lwX7_account : wok (.selects RX7 yX7_account yX7_account) := wo5 92 rfl rfl
theorem owX7_account : wok (.code yX7_account cX7_account 2 (some (.int))) := wo5 93 rfl rfl
theorem mw_X7_312 : wok (.methodLink RX7 312 yX3_allAmounts) := wo5 94 rfl rfl
theorem vwX3_allAmounts : wok (.instanceMethod yX3_allAmounts) := wo5 95 rfl rfl
theorem lwX3_allAmounts : wok (.selects RX3 yX3_allAmounts yX3_allAmounts) := wo5 96 rfl rfl
theorem owX3_allAmounts : wok (.code yX3_allAmounts cX3_allAmounts 3 (some (.int))) := wo5 97 rfl rfl
theorem mw_X7_318 : wok (.methodLink RX7 318 yX5_countAll) := wo5 98 rfl rfl
theorem vwX5_countAll : wok (.instanceMethod yX5_countAll) := wo5 99 rfl rfl
theorem lwX5_countAll : wok (.selects RX5 yX5_countAll yX5_countAll) := wo5 100 rfl rfl
theorem owX5_countAll : wok (.code yX5_countAll cX5_countAll 1 (some (.int))) := wo5 101 rfl rfl
theorem mw_X5_69 : wok (.methodLink RX5 69 yX5_countOfSize) := wo5 102 rfl rfl
theorem mw_L_214 : wok (.methodLink RL 214 yL_meanWaste) := wo5 104 rfl rfl
theorem swL_meanWaste : wok (.static yL_meanWaste) := wo5 105 rfl rfl
theorem owL_meanWaste : wok (.codeWith yL_meanWaste cL_meanWaste 3 (some (.int)) [(0, 7, 10, 102)]) := wo5 106 rfl rfl
theorem kw_L_102 : wok (.classLink RL 102 "java/lang/ArithmeticException") := wo5 107 rfl rfl
theorem mw_L_98 : wok (.methodLink RL 98 yX7_meanWaste) := wo5 121 rfl rfl
theorem vwX7_meanWaste : wok (.instanceMethod yX7_meanWaste) := wo5 122 rfl rfl
theorem lwX7_meanWaste : wok (.selects RX7 yX7_meanWaste yX7_meanWaste) := wo5 123 rfl rfl
theorem owX7_meanWaste : wok (.code yX7_meanWaste cX7_meanWaste 2 (some (.double))) := wo5 124 rfl rfl
theorem kw_X7_345 : wok (.classLink RX7 345 "java/lang/ArithmeticException") := wo5 125 rfl rfl
theorem mw_L_223 : wok (.methodLink RL 223 yL_undo) := wo5 128 rfl rfl
theorem swL_undo : wok (.static yL_undo) := wo5 129 rfl rfl
theorem owL_undo : wok (.codeWith yL_undo cL_undo 3 (some (.int)) [(0, 8, 11, 86)]) := wo5 130 rfl rfl
theorem mw_L_104 : wok (.methodLink RL 104 yX7_undo) := wo5 131 rfl rfl
theorem vwX7_undo : wok (.instanceMethod yX7_undo) := wo5 132 rfl rfl
theorem lwX7_undo : wok (.selects RX7 yX7_undo yX7_undo) := wo5 133 rfl rfl
theorem owX7_undo : wok (.code yX7_undo cX7_undo 1 (some (.int))) := wo5 134 rfl rfl
theorem mw_X7_353 : wok (.methodLink RX7 353 yX1_takeBack) := wo5 136 rfl rfl
theorem vwX1_takeBack : wok (.instanceMethod yX1_takeBack) := wo5 137 rfl rfl
theorem lwX1_takeBack : wok (.selects RX1 yX1_takeBack yX1_takeBack) := wo5 138 rfl rfl
theorem owX1_takeBack : wok (.code yX1_takeBack cX1_takeBack 4 none) := wo5 139 rfl rfl
theorem mw_L_230 : wok (.methodLink RL 230 yL_restore) := wo5 140 rfl rfl
theorem swL_restore : wok (.static yL_restore) := wo5 141 rfl rfl
theorem owL_restore : wok (.codeWith yL_restore cL_restore 3 (some (.int)) [(0, 8, 11, 86)]) := wo5 142 rfl rfl
theorem mw_L_107 : wok (.methodLink RL 107 yX7_restore) := wo5 143 rfl rfl
theorem vwX7_restore : wok (.instanceMethod yX7_restore) := wo5 144 rfl rfl
theorem lwX7_restore : wok (.selects RX7 yX7_restore yX7_restore) := wo5 145 rfl rfl
theorem owX7_restore : wok (.code yX7_restore cX7_restore 1 (some (.int))) := wo5 146 rfl rfl
theorem mw_X7_358 : wok (.methodLink RX7 358 yX1_clear) := wo5 148 rfl rfl
theorem vwX1_clear : wok (.instanceMethod yX1_clear) := wo5 149 rfl rfl
theorem lwX1_clear : wok (.selects RX1 yX1_clear yX1_clear) := wo5 150 rfl rfl
theorem owX1_clear : wok (.code yX1_clear cX1_clear 1 none) := wo5 151 rfl rfl
theorem kw_L_111 : wok (.classLink RL 111 RX8) := wo5 152 rfl rfl
theorem aw_X8 : wok (.instantiable RX8 18) := wo5 153 rfl rfl
theorem mw_L_113 : wok (.methodLink RL 113 yX8_init) := wo5 154 rfl rfl
theorem vwX8_init : wok (.instanceMethod yX8_init) := wo5 155 rfl rfl
theorem owX8_init : wok (.code yX8_init cX8_init 1 none) := wo5 156 rfl rfl
theorem mw_X8_1 : wok (.methodLink RX8 1 Lib.objectInit) := wo5 157 rfl rfl
theorem fw_X8_7 : wok (.fieldLink RX8 7 "CheeseTwinsModel" "g" "[I") := wo5 158 rfl rfl
theorem fw_X8_13 : wok (.fieldLink RX8 13 "CheeseTwinsModel" "before" "[I") := wo5 159 rfl rfl
theorem fw_X8_16 : wok (.fieldLink RX8 16 "CheeseTwinsModel" "history" "[I") := wo5 160 rfl rfl
theorem fw_X8_53 : wok (.fieldLink RX8 53 "CheeseTwinsModel" "changes" "I") := wo5 161 rfl rfl
theorem fw_X8_19 : wok (.fieldLink RX8 19 "CheeseTwinsModel" "savedOnes" "[I") := wo5 162 rfl rfl
theorem fw_X8_209 : wok (.fieldLink RX8 209 "CheeseTwinsModel" "hasSaved" "Z") := wo5 163 rfl rfl
theorem fw_X8_22 : wok (.fieldLink RX8 22 "CheeseTwinsModel" "input" "[C") := wo5 164 rfl rfl
theorem fw_X8_181 : wok (.fieldLink RX8 181 "CheeseTwinsModel" "typed" "I") := wo5 165 rfl rfl
theorem fw_X8_26 : wok (.fieldLink RX8 26 "CheeseTwinsModel" "errorAt" "I") := wo5 166 rfl rfl
theorem fw_X8_43 : wok (.fieldLink RX8 43 "CheeseTwinsModel" "why" "I") := wo5 167 rfl rfl
theorem fw_X8_46 : wok (.fieldLink RX8 46 "CheeseTwinsModel" "whyDetail" "I") := wo5 168 rfl rfl
theorem fw_X8_39 : wok (.fieldLink RX8 39 "CheeseTwinsModel" "isRefused" "Z") := wo5 169 rfl rfl
theorem fw_X8_30 : wok (.fieldLink RX8 30 "CheeseTwinsModel" "letters" "[C") := wo5 170 rfl rfl
theorem fw_X8_172 : wok (.fieldLink RX8 172 "CheeseTwinsModel" "lined" "I") := wo5 171 rfl rfl
theorem fw_X8_36 : wok (.fieldLink RX8 36 "CheeseTwinsModel" "thrown" "I") := wo5 172 rfl rfl
theorem fw_X8_184 : wok (.fieldLink RX8 184 "CheeseTwinsModel" "spot" "I") := wo5 173 rfl rfl
theorem fw_X8_187 : wok (.fieldLink RX8 187 "CheeseTwinsModel" "isWrong" "Z") := wo5 174 rfl rfl
theorem fw_X8_33 : wok (.fieldLink RX8 33 "CheeseTwinsModel" "told" "[I") := wo5 175 rfl rfl
theorem mw_L_120 : wok (.methodLink RL 120 yX8_thrown) := wo5 213 rfl rfl
theorem vwX8_thrown : wok (.instanceMethod yX8_thrown) := wo5 214 rfl rfl
theorem lwX8_thrown : wok (.selects RX8 yX8_thrown yX8_thrown) := wo5 215 rfl rfl
theorem owX8_thrown : wok (.code yX8_thrown cX8_thrown 1 (some (.int))) := wo5 216 rfl rfl
theorem mw_L_119 : wok (.methodLink RL 119 yX8_lend) := wo5 217 rfl rfl
theorem vwX8_lend : wok (.instanceMethod yX8_lend) := wo5 218 rfl rfl
theorem lwX8_lend : wok (.selects RX8 yX8_lend yX8_lend) := wo5 219 rfl rfl
theorem owX8_lend : wok (.code yX8_lend cX8_lend 3 (some (.int))) := wo5 220 rfl rfl
theorem mw_X8_112 : wok (.methodLink RX8 112 yX8_looksBack) := wo5 221 rfl rfl
theorem vwX8_looksBack : wok (.instanceMethod yX8_looksBack) := wo5 223 rfl rfl
theorem owX8_looksBack : wok (.code yX8_looksBack cX8_looksBack 1 none) := wo5 224 rfl rfl
theorem mw_X8_49 : wok (.methodLink RX8 49 yX8_copy) := wo5 225 rfl rfl
theorem swX8_copy : wok (.static yX8_copy) := wo5 226 rfl rfl
theorem owX8_copy : wok (.code yX8_copy cX8_copy 5 none) := wo5 227 rfl rfl
theorem mw_X8_115 : wok (.methodLink RX8 115 yX8_lends) := wo5 228 rfl rfl
theorem vwX8_lends : wok (.instanceMethod yX8_lends) := wo5 230 rfl rfl
theorem owX8_lends : wok (.code yX8_lends cX8_lends 3 (some (.int))) := wo5 231 rfl rfl
theorem mw_X8_92 : wok (.methodLink RX8 92 yX8_isName) := wo5 232 rfl rfl
theorem swX8_isName : wok (.static yX8_isName) := wo5 233 rfl rfl
theorem owX8_isName : wok (.code yX8_isName cX8_isName 1 (some (.boolean))) := wo5 234 rfl rfl
theorem mw_X8_56 : wok (.methodLink RX8 56 yX8_in) := wo5 235 rfl rfl
theorem swX8_in : wok (.static yX8_in) := wo5 236 rfl rfl
theorem owX8_in : wok (.code yX8_in cX8_in 3 (some (.boolean))) := wo5 237 rfl rfl
theorem mw_X8_95 : wok (.methodLink RX8 95 yX8_isAmount) := wo5 238 rfl rfl
theorem swX8_isAmount : wok (.static yX8_isAmount) := wo5 239 rfl rfl
theorem owX8_isAmount : wok (.code yX8_isAmount cX8_isAmount 1 (some (.boolean))) := wo6 0 rfl rfl
theorem mw_X8_98 : wok (.methodLink RX8 98 yX8_fails) := wo6 1 rfl rfl
theorem vwX8_fails : wok (.instanceMethod yX8_fails) := wo6 3 rfl rfl
theorem owX8_fails : wok (.code yX8_fails cX8_fails 2 (some (.int))) := wo6 4 rfl rfl
theorem mw_X8_101 : wok (.methodLink RX8 101 yX8_refused) := wo6 5 rfl rfl
theorem vwX8_refused : wok (.instanceMethod yX8_refused) := wo6 7 rfl rfl
theorem owX8_refused : wok (.code yX8_refused cX8_refused 4 (some (.int))) := wo6 8 rfl rfl
theorem mw_X8_82 : wok (.methodLink RX8 82 yX8_canLend) := wo6 9 rfl rfl
theorem vwX8_canLend : wok (.instanceMethod yX8_canLend) := wo6 11 rfl rfl
theorem owX8_canLend : wok (.code yX8_canLend cX8_canLend 2 (some (.boolean))) := wo6 12 rfl rfl
theorem mw_X8_72 : wok (.methodLink RX8 72 yX8_need) := wo6 13 rfl rfl
theorem swX8_need : wok (.static yX8_need) := wo6 14 rfl rfl
theorem owX8_need : wok (.code yX8_need cX8_need 2 (some (.int))) := wo6 15 rfl rfl
theorem mw_X8_75 : wok (.methodLink RX8 75 yX8_finds) := wo6 16 rfl rfl
theorem vwX8_finds : wok (.instanceMethod yX8_finds) := wo6 18 rfl rfl
theorem owX8_finds : wok (.code yX8_finds cX8_finds 4 (some (.int))) := wo6 19 rfl rfl
theorem mw_X8_64 : wok (.methodLink RX8 64 yX8_isFreeAt) := wo6 20 rfl rfl
theorem vwX8_isFreeAt : wok (.instanceMethod yX8_isFreeAt) := wo6 22 rfl rfl
theorem owX8_isFreeAt : wok (.code yX8_isFreeAt cX8_isFreeAt 2 (some (.boolean))) := wo6 23 rfl rfl
theorem mw_X8_60 : wok (.methodLink RX8 60 yX8_loanAt) := wo6 24 rfl rfl
theorem vwX8_loanAt : wok (.instanceMethod yX8_loanAt) := wo6 26 rfl rfl
theorem owX8_loanAt : wok (.code yX8_loanAt cX8_loanAt 3 (some (.int))) := wo6 27 rfl rfl
theorem mw_X8_68 : wok (.methodLink RX8 68 yX8_isBetter) := wo6 28 rfl rfl
theorem vwX8_isBetter : wok (.instanceMethod yX8_isBetter) := wo6 30 rfl rfl
theorem owX8_isBetter : wok (.code yX8_isBetter cX8_isBetter 3 (some (.boolean))) := wo6 31 rfl rfl
theorem mw_X8_85 : wok (.methodLink RX8 85 yX8_lendsTo) := wo6 32 rfl rfl
theorem vwX8_lendsTo : wok (.instanceMethod yX8_lendsTo) := wo6 34 rfl rfl
theorem owX8_lendsTo : wok (.code yX8_lendsTo cX8_lendsTo 5 (some (.int))) := wo6 35 rfl rfl
theorem mw_X8_78 : wok (.methodLink RX8 78 yX8_halves) := wo6 36 rfl rfl
theorem vwX8_halves : wok (.instanceMethod yX8_halves) := wo6 38 rfl rfl
theorem owX8_halves : wok (.code yX8_halves cX8_halves 5 (some (.int))) := wo6 39 rfl rfl
theorem mw_X8_105 : wok (.methodLink RX8 105 yX8_done) := wo6 40 rfl rfl
theorem vwX8_done : wok (.instanceMethod yX8_done) := wo6 42 rfl rfl
theorem owX8_done : wok (.code yX8_done cX8_done 2 (some (.int))) := wo6 43 rfl rfl
theorem mw_X8_108 : wok (.methodLink RX8 108 yX8_greatestFree) := wo6 44 rfl rfl
theorem vwX8_greatestFree : wok (.instanceMethod yX8_greatestFree) := wo6 46 rfl rfl
theorem owX8_greatestFree : wok (.code yX8_greatestFree cX8_greatestFree 3 (some (.int))) := wo6 47 rfl rfl
theorem mw_X8_118 : wok (.methodLink RX8 118 yX8_kept) := wo6 48 rfl rfl
theorem vwX8_kept : wok (.instanceMethod yX8_kept) := wo6 50 rfl rfl
theorem owX8_kept : wok (.code yX8_kept cX8_kept 3 (some (.int))) := wo6 51 rfl rfl
theorem mw_L_125 : wok (.methodLink RL 125 yX8_ask) := wo6 52 rfl rfl
theorem vwX8_ask : wok (.instanceMethod yX8_ask) := wo6 53 rfl rfl
theorem lwX8_ask : wok (.selects RX8 yX8_ask yX8_ask) := wo6 54 rfl rfl
theorem owX8_ask : wok (.code yX8_ask cX8_ask 3 (some (.int))) := wo6 55 rfl rfl
theorem mw_X8_121 : wok (.methodLink RX8 121 yX8_asks) := wo6 56 rfl rfl
theorem vwX8_asks : wok (.instanceMethod yX8_asks) := wo6 58 rfl rfl
theorem owX8_asks : wok (.code yX8_asks cX8_asks 4 (some (.int))) := wo6 59 rfl rfl
theorem mw_L_129 : wok (.methodLink RL 129 yX8_give) := wo6 60 rfl rfl
theorem vwX8_give : wok (.instanceMethod yX8_give) := wo6 61 rfl rfl
theorem lwX8_give : wok (.selects RX8 yX8_give yX8_give) := wo6 62 rfl rfl
theorem owX8_give : wok (.code yX8_give cX8_give 2 (some (.int))) := wo6 63 rfl rfl
theorem mw_X8_136 : wok (.methodLink RX8 136 yX8_gives) := wo6 64 rfl rfl
theorem vwX8_gives : wok (.instanceMethod yX8_gives) := wo6 66 rfl rfl
theorem owX8_gives : wok (.code yX8_gives cX8_gives 2 (some (.int))) := wo6 67 rfl rfl
theorem mw_X8_127 : wok (.methodLink RX8 127 yX8_isLoan) := wo6 68 rfl rfl
theorem vwX8_isLoan : wok (.instanceMethod yX8_isLoan) := wo6 70 rfl rfl
theorem owX8_isLoan : wok (.code yX8_isLoan cX8_isLoan 2 (some (.boolean))) := wo6 71 rfl rfl
theorem mw_X8_130 : wok (.methodLink RX8 130 yX8_comesBack) := wo6 72 rfl rfl
theorem vwX8_comesBack : wok (.instanceMethod yX8_comesBack) := wo6 74 rfl rfl
theorem owX8_comesBack : wok (.code yX8_comesBack cX8_comesBack 5 none) := wo6 75 rfl rfl
theorem mw_X8_124 : wok (.methodLink RX8 124 yX8_joins) := wo6 76 rfl rfl
theorem vwX8_joins : wok (.instanceMethod yX8_joins) := wo6 78 rfl rfl
theorem owX8_joins : wok (.code yX8_joins cX8_joins 6 none) := wo6 79 rfl rfl
theorem mw_X8_133 : wok (.methodLink RX8 133 yX8_serves) := wo6 80 rfl rfl
theorem vwX8_serves : wok (.instanceMethod yX8_serves) := wo6 82 rfl rfl
theorem owX8_serves : wok (.code yX8_serves cX8_serves 4 (some (.int))) := wo6 83 rfl rfl
theorem mw_X8_88 : wok (.methodLink RX8 88 yX8_leaves) := wo6 84 rfl rfl
theorem vwX8_leaves : wok (.instanceMethod yX8_leaves) := wo6 86 rfl rfl
theorem owX8_leaves : wok (.code yX8_leaves cX8_leaves 3 none) := wo6 87 rfl rfl
theorem mw_L_132 : wok (.methodLink RL 132 yX8_giveAll) := wo6 88 rfl rfl
theorem vwX8_giveAll : wok (.instanceMethod yX8_giveAll) := wo6 89 rfl rfl
theorem lwX8_giveAll : wok (.selects RX8 yX8_giveAll yX8_giveAll) := wo6 90 rfl rfl
theorem owX8_giveAll : wok (.code yX8_giveAll cX8_giveAll 2 (some (.int))) := wo6 91 rfl rfl
theorem mw_X8_142 : wok (.methodLink RX8 142 yX8_givesAll) := wo6 92 rfl rfl
theorem vwX8_givesAll : wok (.instanceMethod yX8_givesAll) := wo6 94 rfl rfl
theorem owX8_givesAll : wok (.code yX8_givesAll cX8_givesAll 4 (some (.int))) := wo6 95 rfl rfl
theorem mw_X8_139 : wok (.methodLink RX8 139 yX8_waitingFor) := wo6 96 rfl rfl
theorem vwX8_waitingFor : wok (.instanceMethod yX8_waitingFor) := wo6 98 rfl rfl
theorem owX8_waitingFor : wok (.code yX8_waitingFor cX8_waitingFor 4 (some (.int))) := wo6 99 rfl rfl
theorem mw_L_135 : wok (.methodLink RL 135 yX8_resize) := wo6 100 rfl rfl
theorem vwX8_resize : wok (.instanceMethod yX8_resize) := wo6 101 rfl rfl
theorem lwX8_resize : wok (.selects RX8 yX8_resize yX8_resize) := wo6 102 rfl rfl
theorem owX8_resize : wok (.code yX8_resize cX8_resize 3 (some (.int))) := wo6 103 rfl rfl
theorem mw_X8_148 : wok (.methodLink RX8 148 yX8_resizes) := wo6 104 rfl rfl
theorem vwX8_resizes : wok (.instanceMethod yX8_resizes) := wo6 106 rfl rfl
theorem owX8_resizes : wok (.code yX8_resizes cX8_resizes 7 (some (.int))) := wo6 107 rfl rfl
theorem mw_X8_145 : wok (.methodLink RX8 145 yX8_grows) := wo6 108 rfl rfl
theorem vwX8_grows : wok (.instanceMethod yX8_grows) := wo6 110 rfl rfl
theorem owX8_grows : wok (.code yX8_grows cX8_grows 5 (some (.boolean))) := wo6 111 rfl rfl
theorem mw_L_138 : wok (.methodLink RL 138 yX8_way) := wo6 112 rfl rfl
theorem vwX8_way : wok (.instanceMethod yX8_way) := wo6 113 rfl rfl
theorem lwX8_way : wok (.selects RX8 yX8_way yX8_way) := wo6 114 rfl rfl
theorem owX8_way : wok (.code yX8_way cX8_way 2 (some (.int))) := wo6 115 rfl rfl
theorem mw_X8_151 : wok (.methodLink RX8 151 yX8_wayIs) := wo6 116 rfl rfl
theorem vwX8_wayIs : wok (.instanceMethod yX8_wayIs) := wo6 118 rfl rfl
theorem owX8_wayIs : wok (.code yX8_wayIs cX8_wayIs 4 (some (.int))) := wo6 119 rfl rfl
theorem mw_L_141 : wok (.methodLink RL 141 yX8_forget) := wo6 120 rfl rfl
theorem vwX8_forget : wok (.instanceMethod yX8_forget) := wo6 121 rfl rfl
theorem lwX8_forget : wok (.selects RX8 yX8_forget yX8_forget) := wo6 122 rfl rfl
theorem owX8_forget : wok (.code yX8_forget cX8_forget 2 (some (.int))) := wo6 123 rfl rfl
theorem mw_X8_154 : wok (.methodLink RX8 154 yX8_forgets) := wo6 124 rfl rfl
theorem vwX8_forgets : wok (.instanceMethod yX8_forgets) := wo6 126 rfl rfl
theorem owX8_forgets : wok (.code yX8_forgets cX8_forgets 2 (some (.int))) := wo6 127 rfl rfl
theorem mw_L_144 : wok (.methodLink RL 144 yX8_loanOf) := wo6 128 rfl rfl
theorem vwX8_loanOf : wok (.instanceMethod yX8_loanOf) := wo6 129 rfl rfl
theorem lwX8_loanOf : wok (.selects RX8 yX8_loanOf yX8_loanOf) := wo6 130 rfl rfl
theorem owX8_loanOf : wok (.code yX8_loanOf cX8_loanOf 3 (some (.int))) := wo6 131 rfl rfl
theorem mw_X8_157 : wok (.methodLink RX8 157 yX8_sizeOf) := wo6 132 rfl rfl
theorem vwX8_sizeOf : wok (.instanceMethod yX8_sizeOf) := wo6 134 rfl rfl
theorem owX8_sizeOf : wok (.code yX8_sizeOf cX8_sizeOf 2 (some (.int))) := wo6 135 rfl rfl
theorem mw_L_147 : wok (.methodLink RL 147 yX8_nameOf) := wo6 136 rfl rfl
theorem vwX8_nameOf : wok (.instanceMethod yX8_nameOf) := wo6 137 rfl rfl
theorem lwX8_nameOf : wok (.selects RX8 yX8_nameOf yX8_nameOf) := wo6 138 rfl rfl
theorem owX8_nameOf : wok (.code yX8_nameOf cX8_nameOf 3 (some (.int))) := wo6 139 rfl rfl
theorem mw_X8_160 : wok (.methodLink RX8 160 yX8_held) := wo6 140 rfl rfl
theorem vwX8_held : wok (.instanceMethod yX8_held) := wo6 142 rfl rfl
theorem owX8_held : wok (.code yX8_held cX8_held 5 (some (.int))) := wo6 143 rfl rfl
theorem mw_L_150 : wok (.methodLink RL 150 yX8_waitingOf) := wo6 144 rfl rfl
theorem vwX8_waitingOf : wok (.instanceMethod yX8_waitingOf) := wo6 145 rfl rfl
theorem lwX8_waitingOf : wok (.selects RX8 yX8_waitingOf yX8_waitingOf) := wo6 146 rfl rfl
theorem owX8_waitingOf : wok (.code yX8_waitingOf cX8_waitingOf 3 (some (.int))) := wo6 147 rfl rfl
theorem mw_L_153 : wok (.methodLink RL 153 yX8_pieceOf) := wo6 148 rfl rfl
theorem vwX8_pieceOf : wok (.instanceMethod yX8_pieceOf) := wo6 149 rfl rfl
theorem lwX8_pieceOf : wok (.selects RX8 yX8_pieceOf yX8_pieceOf) := wo6 150 rfl rfl
theorem owX8_pieceOf : wok (.code yX8_pieceOf cX8_pieceOf 4 (some (.int))) := wo6 151 rfl rfl
theorem mw_X8_163 : wok (.methodLink RX8 163 yX8_startOf) := wo6 152 rfl rfl
theorem vwX8_startOf : wok (.instanceMethod yX8_startOf) := wo6 154 rfl rfl
theorem owX8_startOf : wok (.code yX8_startOf cX8_startOf 3 (some (.int))) := wo6 155 rfl rfl
theorem mw_L_157 : wok (.methodLink RL 157 yX8_free) := wo6 156 rfl rfl
theorem vwX8_free : wok (.instanceMethod yX8_free) := wo6 157 rfl rfl
theorem lwX8_free : wok (.selects RX8 yX8_free yX8_free) := wo6 158 rfl rfl
theorem owX8_free : wok (.code yX8_free cX8_free 3 (some (.int))) := wo6 159 rfl rfl
theorem mw_X8_166 : wok (.methodLink RX8 166 yX8_freeOf) := wo6 160 rfl rfl
theorem vwX8_freeOf : wok (.instanceMethod yX8_freeOf) := wo6 162 rfl rfl
theorem owX8_freeOf : wok (.code yX8_freeOf cX8_freeOf 4 (some (.int))) := wo6 163 rfl rfl
theorem mw_L_161 : wok (.methodLink RL 161 yX8_greatest) := wo6 164 rfl rfl
theorem vwX8_greatest : wok (.instanceMethod yX8_greatest) := wo6 165 rfl rfl
theorem lwX8_greatest : wok (.selects RX8 yX8_greatest yX8_greatest) := wo6 166 rfl rfl
theorem owX8_greatest : wok (.code yX8_greatest cX8_greatest 1 (some (.int))) := wo6 167 rfl rfl
theorem mw_L_164 : wok (.methodLink RL 164 yX8_would) := wo6 168 rfl rfl
theorem vwX8_would : wok (.instanceMethod yX8_would) := wo6 169 rfl rfl
theorem lwX8_would : wok (.selects RX8 yX8_would yX8_would) := wo6 170 rfl rfl
theorem owX8_would : wok (.code yX8_would cX8_would 4 (some (.int))) := wo6 171 rfl rfl
theorem mw_L_167 : wok (.methodLink RL 167 yX8_cuts) := wo6 172 rfl rfl
theorem vwX8_cuts : wok (.instanceMethod yX8_cuts) := wo6 173 rfl rfl
theorem lwX8_cuts : wok (.selects RX8 yX8_cuts yX8_cuts) := wo6 174 rfl rfl
theorem owX8_cuts : wok (.code yX8_cuts cX8_cuts 5 (some (.int))) := wo6 175 rfl rfl
theorem mw_L_170 : wok (.methodLink RL 170 yX8_fits) := wo6 176 rfl rfl
theorem vwX8_fits : wok (.instanceMethod yX8_fits) := wo6 177 rfl rfl
theorem lwX8_fits : wok (.selects RX8 yX8_fits yX8_fits) := wo6 178 rfl rfl
theorem owX8_fits : wok (.code yX8_fits cX8_fits 4 (some (.int))) := wo6 179 rfl rfl
theorem mw_L_173 : wok (.methodLink RL 173 yX8_hole) := wo6 180 rfl rfl
theorem vwX8_hole : wok (.instanceMethod yX8_hole) := wo6 181 rfl rfl
theorem lwX8_hole : wok (.selects RX8 yX8_hole yX8_hole) := wo6 182 rfl rfl
theorem owX8_hole : wok (.code yX8_hole cX8_hole 4 (some (.int))) := wo6 183 rfl rfl
theorem mw_L_176 : wok (.methodLink RL 176 yX8_inTheWay) := wo6 184 rfl rfl
theorem vwX8_inTheWay : wok (.instanceMethod yX8_inTheWay) := wo6 185 rfl rfl
theorem lwX8_inTheWay : wok (.selects RX8 yX8_inTheWay yX8_inTheWay) := wo6 186 rfl rfl
theorem owX8_inTheWay : wok (.code yX8_inTheWay cX8_inTheWay 5 (some (.int))) := wo6 187 rfl rfl
theorem mw_X8_169 : wok (.methodLink RX8 169 yX8_loansIn) := wo6 188 rfl rfl
theorem vwX8_loansIn : wok (.instanceMethod yX8_loansIn) := wo6 190 rfl rfl
theorem owX8_loansIn : wok (.code yX8_loansIn cX8_loansIn 6 (some (.int))) := wo6 191 rfl rfl
theorem mw_L_179 : wok (.methodLink RL 179 yX8_ranked) := wo6 192 rfl rfl
theorem vwX8_ranked : wok (.instanceMethod yX8_ranked) := wo6 193 rfl rfl
theorem lwX8_ranked : wok (.selects RX8 yX8_ranked yX8_ranked) := wo6 194 rfl rfl
theorem owX8_ranked : wok (.code yX8_ranked cX8_ranked 6 (some (.int))) := wo6 195 rfl rfl
theorem mw_L_183 : wok (.methodLink RL 183 yX8_line) := wo6 196 rfl rfl
theorem vwX8_line : wok (.instanceMethod yX8_line) := wo6 197 rfl rfl
theorem lwX8_line : wok (.selects RX8 yX8_line yX8_line) := wo6 198 rfl rfl
theorem owX8_line : wok (.code yX8_line cX8_line 3 (some (.int))) := wo6 199 rfl rfl
theorem mw_X8_175 : wok (.methodLink RX8 175 yX8_writes) := wo6 200 rfl rfl
theorem vwX8_writes : wok (.instanceMethod yX8_writes) := wo6 202 rfl rfl
theorem owX8_writes : wok (.code yX8_writes cX8_writes 2 none) := wo6 203 rfl rfl
theorem mw_X8_178 : wok (.methodLink RX8 178 yX8_writesNumber) := wo6 204 rfl rfl
theorem vwX8_writesNumber : wok (.instanceMethod yX8_writesNumber) := wo6 206 rfl rfl
theorem owX8_writesNumber : wok (.code yX8_writesNumber cX8_writesNumber 2 none) := wo6 207 rfl rfl
theorem mw_L_187 : wok (.methodLink RL 187 yX8_map) := wo6 208 rfl rfl
theorem vwX8_map : wok (.instanceMethod yX8_map) := wo6 209 rfl rfl
theorem lwX8_map : wok (.selects RX8 yX8_map yX8_map) := wo6 210 rfl rfl
theorem owX8_map : wok (.code yX8_map cX8_map 3 (some (.int))) := wo6 211 rfl rfl
theorem mw_L_190 : wok (.methodLink RL 190 yX8_character) := wo6 212 rfl rfl
theorem vwX8_character : wok (.instanceMethod yX8_character) := wo6 213 rfl rfl
theorem lwX8_character : wok (.selects RX8 yX8_character yX8_character) := wo6 214 rfl rfl
theorem owX8_character : wok (.code yX8_character cX8_character 2 (some (.char))) := wo6 215 rfl rfl
theorem mw_L_194 : wok (.methodLink RL 194 yX8_append) := wo6 216 rfl rfl
theorem vwX8_append : wok (.instanceMethod yX8_append) := wo6 217 rfl rfl
theorem lwX8_append : wok (.selects RX8 yX8_append yX8_append) := wo6 218 rfl rfl
theorem owX8_append : wok (.code yX8_append cX8_append 2 (some (.int))) := wo6 219 rfl rfl
theorem mw_L_197 : wok (.methodLink RL 197 yX8_run) := wo6 220 rfl rfl
theorem vwX8_run : wok (.instanceMethod yX8_run) := wo6 221 rfl rfl
theorem lwX8_run : wok (.selects RX8 yX8_run yX8_run) := wo6 222 rfl rfl
theorem owX8_run : wok (.code yX8_run cX8_run 5 (some (.int))) := wo6 223 rfl rfl
theorem mw_X8_196 : wok (.methodLink RX8 196 yX8_readsOrder) := wo6 224 rfl rfl
theorem vwX8_readsOrder : wok (.instanceMethod yX8_readsOrder) := wo6 226 rfl rfl
theorem owX8_readsOrder : wok (.code yX8_readsOrder cX8_readsOrder 3 none) := wo6 227 rfl rfl
theorem mw_X8_190 : wok (.methodLink RX8 190 yX8_here) := wo6 228 rfl rfl
theorem vwX8_here : wok (.instanceMethod yX8_here) := wo6 230 rfl rfl
theorem owX8_here : wok (.code yX8_here cX8_here 1 (some (.int))) := wo6 231 rfl rfl
theorem mw_X8_193 : wok (.methodLink RX8 193 yX8_figures) := wo6 232 rfl rfl
theorem vwX8_figures : wok (.instanceMethod yX8_figures) := wo6 234 rfl rfl
theorem owX8_figures : wok (.code yX8_figures cX8_figures 4 (some (.int))) := wo6 235 rfl rfl
theorem mw_X8_199 : wok (.methodLink RX8 199 yX8_does) := wo6 236 rfl rfl
theorem vwX8_does : wok (.instanceMethod yX8_does) := wo6 238 rfl rfl
theorem owX8_does : wok (.code yX8_does cX8_does 4 (some (.int))) := wo6 239 rfl rfl
theorem mw_L_201 : wok (.methodLink RL 201 yX8_errorPosition) := wo7 0 rfl rfl
theorem vwX8_errorPosition : wok (.instanceMethod yX8_errorPosition) := wo7 1 rfl rfl
theorem lwX8_errorPosition : wok (.selects RX8 yX8_errorPosition yX8_errorPosition) := wo7 2 rfl rfl
theorem owX8_errorPosition : wok (.code yX8_errorPosition cX8_errorPosition 1 (some (.int))) := wo7 3 rfl rfl
theorem mw_L_205 : wok (.methodLink RL 205 yX8_refusal) := wo7 4 rfl rfl
theorem vwX8_refusal : wok (.instanceMethod yX8_refusal) := wo7 5 rfl rfl
theorem lwX8_refusal : wok (.selects RX8 yX8_refusal yX8_refusal) := wo7 6 rfl rfl
theorem owX8_refusal : wok (.code yX8_refusal cX8_refusal 2 (some (.int))) := wo7 7 rfl rfl
theorem mw_L_208 : wok (.methodLink RL 208 yX8_account) := wo7 8 rfl rfl
theorem vwX8_account : wok (.instanceMethod yX8_account) := wo7 9 rfl rfl
theorem lwX8_account : wok (.selects RX8 yX8_account yX8_account) := wo7 10 rfl rfl
theorem owX8_account : wok (.code yX8_account cX8_account 2 (some (.int))) := wo7 11 rfl rfl
theorem mw_X8_202 : wok (.methodLink RX8 202 yX8_all) := wo7 12 rfl rfl
theorem vwX8_all : wok (.instanceMethod yX8_all) := wo7 14 rfl rfl
theorem owX8_all : wok (.code yX8_all cX8_all 4 (some (.int))) := wo7 15 rfl rfl
theorem mw_X8_205 : wok (.methodLink RX8 205 yX8_freePieces) := wo7 16 rfl rfl
theorem vwX8_freePieces : wok (.instanceMethod yX8_freePieces) := wo7 18 rfl rfl
theorem owX8_freePieces : wok (.code yX8_freePieces cX8_freePieces 3 (some (.int))) := wo7 19 rfl rfl
theorem mw_L_213 : wok (.methodLink RL 213 yX8_isWell) := wo7 20 rfl rfl
theorem vwX8_isWell : wok (.instanceMethod yX8_isWell) := wo7 21 rfl rfl
theorem lwX8_isWell : wok (.selects RX8 yX8_isWell yX8_isWell) := wo7 22 rfl rfl
theorem owX8_isWell : wok (.code yX8_isWell cX8_isWell 1 (some (.boolean))) := wo7 23 rfl rfl
theorem mw_L_217 : wok (.methodLink RL 217 yX8_meanWaste) := wo7 24 rfl rfl
theorem vwX8_meanWaste : wok (.instanceMethod yX8_meanWaste) := wo7 25 rfl rfl
theorem lwX8_meanWaste : wok (.selects RX8 yX8_meanWaste yX8_meanWaste) := wo7 26 rfl rfl
theorem owX8_meanWaste : wok (.code yX8_meanWaste cX8_meanWaste 1 (some (.double))) := wo7 27 rfl rfl
theorem mw_L_222 : wok (.methodLink RL 222 yX8_lentShare) := wo7 28 rfl rfl
theorem vwX8_lentShare : wok (.instanceMethod yX8_lentShare) := wo7 29 rfl rfl
theorem lwX8_lentShare : wok (.selects RX8 yX8_lentShare yX8_lentShare) := wo7 30 rfl rfl
theorem owX8_lentShare : wok (.code yX8_lentShare cX8_lentShare 1 (some (.float))) := wo7 31 rfl rfl
theorem mw_L_225 : wok (.methodLink RL 225 yX8_undo) := wo7 33 rfl rfl
theorem vwX8_undo : wok (.instanceMethod yX8_undo) := wo7 34 rfl rfl
theorem lwX8_undo : wok (.selects RX8 yX8_undo yX8_undo) := wo7 35 rfl rfl
theorem owX8_undo : wok (.code yX8_undo cX8_undo 1 (some (.int))) := wo7 36 rfl rfl
theorem mw_L_229 : wok (.methodLink RL 229 yX8_save) := wo7 37 rfl rfl
theorem vwX8_save : wok (.instanceMethod yX8_save) := wo7 38 rfl rfl
theorem lwX8_save : wok (.selects RX8 yX8_save yX8_save) := wo7 39 rfl rfl
theorem owX8_save : wok (.code yX8_save cX8_save 1 (some (.int))) := wo7 40 rfl rfl
theorem mw_L_232 : wok (.methodLink RL 232 yX8_restore) := wo7 41 rfl rfl
theorem vwX8_restore : wok (.instanceMethod yX8_restore) := wo7 42 rfl rfl
theorem lwX8_restore : wok (.selects RX8 yX8_restore yX8_restore) := wo7 43 rfl rfl
theorem owX8_restore : wok (.code yX8_restore cX8_restore 1 (some (.int))) := wo7 44 rfl rfl
theorem cw_long : wok (.arrayClass .long) := wo7 45 rfl rfl
theorem cw_double : wok (.arrayClass .double) := wo7 46 rfl rfl
theorem lwX3_isIn : wok (.selects RX3 yX3_isIn yX3_isIn) := pin_1 (yX3_isIn, _) (List.mem_of_getElem? (i := 0) rfl)
theorem lwX0_writePiece : wok (.selects RX0 yX0_writePiece yX0_writePiece) := pin_1 (yX0_writePiece, _) (List.mem_of_getElem? (i := 1) rfl)
theorem lwX0_isBoardOrHalfOfMixed : wok (.selects RX0 yX0_isBoardOrHalfOfMixed yX0_isBoardOrHalfOfMixed) := pin_1 (yX0_isBoardOrHalfOfMixed, _) (List.mem_of_getElem? (i := 2) rfl)
theorem lwX7_judgeLend : wok (.selects RX7 yX7_judgeLend yX7_judgeLend) := pin_1 (yX7_judgeLend, _) (List.mem_of_getElem? (i := 3) rfl)
theorem lwX7_refuse : wok (.selects RX7 yX7_refuse yX7_refuse) := pin_1 (yX7_refuse, _) (List.mem_of_getElem? (i := 4) rfl)
theorem lwX1_keptAt : wok (.selects RX1 yX1_keptAt yX1_keptAt) := pin_1 (yX1_keptAt, _) (List.mem_of_getElem? (i := 6) rfl)
theorem lwX5_isPreferred : wok (.selects RX5 yX5_isPreferred yX5_isPreferred) := pin_1 (yX5_isPreferred, _) (List.mem_of_getElem? (i := 7) rfl)
theorem lwX5_setSize : wok (.selects RX5 yX5_setSize yX5_setSize) := pin_1 (yX5_setSize, _) (List.mem_of_getElem? (i := 8) rfl)
theorem lwX7_judgeAsk : wok (.selects RX7 yX7_judgeAsk yX7_judgeAsk) := pin_1 (yX7_judgeAsk, _) (List.mem_of_getElem? (i := 9) rfl)
theorem lwX7_judgeGive : wok (.selects RX7 yX7_judgeGive yX7_judgeGive) := pin_1 (yX7_judgeGive, _) (List.mem_of_getElem? (i := 10) rfl)
theorem lwX0_releaseLoan : wok (.selects RX0 yX0_releaseLoan yX0_releaseLoan) := pin_1 (yX0_releaseLoan, _) (List.mem_of_getElem? (i := 11) rfl)
theorem lwX0_serveWaiting : wok (.selects RX0 yX0_serveWaiting yX0_serveWaiting) := pin_1 (yX0_serveWaiting, _) (List.mem_of_getElem? (i := 12) rfl)
theorem lwX7_judgeGiveAll : wok (.selects RX7 yX7_judgeGiveAll yX7_judgeGiveAll) := pin_1 (yX7_judgeGiveAll, _) (List.mem_of_getElem? (i := 13) rfl)
theorem lwX7_judgeResize : wok (.selects RX7 yX7_judgeResize yX7_judgeResize) := pin_1 (yX7_judgeResize, _) (List.mem_of_getElem? (i := 14) rfl)
theorem lwX7_judgeWay : wok (.selects RX7 yX7_judgeWay yX7_judgeWay) := pin_1 (yX7_judgeWay, _) (List.mem_of_getElem? (i := 15) rfl)
theorem lwX7_insistOnPiece : wok (.selects RX7 yX7_insistOnPiece yX7_insistOnPiece) := pin_2 (yX7_insistOnPiece, _) (List.mem_of_getElem? (i := 0) rfl)
theorem lwX3_countAhead : wok (.selects RX3 yX3_countAhead yX3_countAhead) := pin_2 (yX3_countAhead, _) (List.mem_of_getElem? (i := 1) rfl)
theorem lwX3_isFirstOfName : wok (.selects RX3 yX3_isFirstOfName yX3_isFirstOfName) := pin_2 (yX3_isFirstOfName, _) (List.mem_of_getElem? (i := 2) rfl)
theorem lwX4_readOrder : wok (.selects RX4 yX4_readOrder yX4_readOrder) := pin_2 (yX4_readOrder, _) (List.mem_of_getElem? (i := 3) rfl)
theorem lwX4_sign : wok (.selects RX4 yX4_sign yX4_sign) := pin_2 (yX4_sign, _) (List.mem_of_getElem? (i := 4) rfl)
theorem lwX4_readDigit : wok (.selects RX4 yX4_readDigit yX4_readDigit) := pin_2 (yX4_readDigit, _) (List.mem_of_getElem? (i := 5) rfl)
theorem lwX4_readNumber : wok (.selects RX4 yX4_readNumber yX4_readNumber) := pin_2 (yX4_readNumber, _) (List.mem_of_getElem? (i := 6) rfl)
theorem lwX4_readSign : wok (.selects RX4 yX4_readSign yX4_readSign) := pin_2 (yX4_readSign, _) (List.mem_of_getElem? (i := 7) rfl)
theorem lwX4_put : wok (.selects RX4 yX4_put yX4_put) := pin_2 (yX4_put, _) (List.mem_of_getElem? (i := 8) rfl)
theorem lwX4_has : wok (.selects RX4 yX4_has yX4_has) := pin_2 (yX4_has, _) (List.mem_of_getElem? (i := 9) rfl)
theorem lwX7_judgeOrder : wok (.selects RX7 yX7_judgeOrder yX7_judgeOrder) := pin_2 (yX7_judgeOrder, _) (List.mem_of_getElem? (i := 10) rfl)
theorem lwX7_carryOut : wok (.selects RX7 yX7_carryOut yX7_carryOut) := pin_2 (yX7_carryOut, _) (List.mem_of_getElem? (i := 11) rfl)
theorem lwX8_looksBack : wok (.selects RX8 yX8_looksBack yX8_looksBack) := pin_2 (yX8_looksBack, _) (List.mem_of_getElem? (i := 12) rfl)
theorem lwX8_lends : wok (.selects RX8 yX8_lends yX8_lends) := pin_2 (yX8_lends, _) (List.mem_of_getElem? (i := 13) rfl)
theorem lwX8_fails : wok (.selects RX8 yX8_fails yX8_fails) := pin_2 (yX8_fails, _) (List.mem_of_getElem? (i := 14) rfl)
theorem lwX8_refused : wok (.selects RX8 yX8_refused yX8_refused) := pin_2 (yX8_refused, _) (List.mem_of_getElem? (i := 15) rfl)
theorem lwX8_canLend : wok (.selects RX8 yX8_canLend yX8_canLend) := pin_3 (yX8_canLend, _) (List.mem_of_getElem? (i := 0) rfl)
theorem lwX8_finds : wok (.selects RX8 yX8_finds yX8_finds) := pin_3 (yX8_finds, _) (List.mem_of_getElem? (i := 1) rfl)
theorem lwX8_isFreeAt : wok (.selects RX8 yX8_isFreeAt yX8_isFreeAt) := pin_3 (yX8_isFreeAt, _) (List.mem_of_getElem? (i := 2) rfl)
theorem lwX8_loanAt : wok (.selects RX8 yX8_loanAt yX8_loanAt) := pin_3 (yX8_loanAt, _) (List.mem_of_getElem? (i := 3) rfl)
theorem lwX8_isBetter : wok (.selects RX8 yX8_isBetter yX8_isBetter) := pin_3 (yX8_isBetter, _) (List.mem_of_getElem? (i := 4) rfl)
theorem lwX8_lendsTo : wok (.selects RX8 yX8_lendsTo yX8_lendsTo) := pin_3 (yX8_lendsTo, _) (List.mem_of_getElem? (i := 5) rfl)
theorem lwX8_halves : wok (.selects RX8 yX8_halves yX8_halves) := pin_3 (yX8_halves, _) (List.mem_of_getElem? (i := 6) rfl)
theorem lwX8_done : wok (.selects RX8 yX8_done yX8_done) := pin_3 (yX8_done, _) (List.mem_of_getElem? (i := 7) rfl)
theorem lwX8_greatestFree : wok (.selects RX8 yX8_greatestFree yX8_greatestFree) := pin_3 (yX8_greatestFree, _) (List.mem_of_getElem? (i := 8) rfl)
theorem lwX8_kept : wok (.selects RX8 yX8_kept yX8_kept) := pin_3 (yX8_kept, _) (List.mem_of_getElem? (i := 9) rfl)
theorem lwX8_asks : wok (.selects RX8 yX8_asks yX8_asks) := pin_3 (yX8_asks, _) (List.mem_of_getElem? (i := 10) rfl)
theorem lwX8_gives : wok (.selects RX8 yX8_gives yX8_gives) := pin_3 (yX8_gives, _) (List.mem_of_getElem? (i := 11) rfl)
theorem lwX8_isLoan : wok (.selects RX8 yX8_isLoan yX8_isLoan) := pin_3 (yX8_isLoan, _) (List.mem_of_getElem? (i := 12) rfl)
theorem lwX8_comesBack : wok (.selects RX8 yX8_comesBack yX8_comesBack) := pin_3 (yX8_comesBack, _) (List.mem_of_getElem? (i := 13) rfl)
theorem lwX8_joins : wok (.selects RX8 yX8_joins yX8_joins) := pin_3 (yX8_joins, _) (List.mem_of_getElem? (i := 14) rfl)
theorem lwX8_serves : wok (.selects RX8 yX8_serves yX8_serves) := pin_3 (yX8_serves, _) (List.mem_of_getElem? (i := 15) rfl)
theorem lwX8_leaves : wok (.selects RX8 yX8_leaves yX8_leaves) := pin_4 (yX8_leaves, _) (List.mem_of_getElem? (i := 0) rfl)
theorem lwX8_givesAll : wok (.selects RX8 yX8_givesAll yX8_givesAll) := pin_4 (yX8_givesAll, _) (List.mem_of_getElem? (i := 1) rfl)
theorem lwX8_waitingFor : wok (.selects RX8 yX8_waitingFor yX8_waitingFor) := pin_4 (yX8_waitingFor, _) (List.mem_of_getElem? (i := 2) rfl)
theorem lwX8_resizes : wok (.selects RX8 yX8_resizes yX8_resizes) := pin_4 (yX8_resizes, _) (List.mem_of_getElem? (i := 3) rfl)
theorem lwX8_grows : wok (.selects RX8 yX8_grows yX8_grows) := pin_4 (yX8_grows, _) (List.mem_of_getElem? (i := 4) rfl)
theorem lwX8_wayIs : wok (.selects RX8 yX8_wayIs yX8_wayIs) := pin_4 (yX8_wayIs, _) (List.mem_of_getElem? (i := 5) rfl)
theorem lwX8_forgets : wok (.selects RX8 yX8_forgets yX8_forgets) := pin_4 (yX8_forgets, _) (List.mem_of_getElem? (i := 6) rfl)
theorem lwX8_sizeOf : wok (.selects RX8 yX8_sizeOf yX8_sizeOf) := pin_4 (yX8_sizeOf, _) (List.mem_of_getElem? (i := 7) rfl)
theorem lwX8_held : wok (.selects RX8 yX8_held yX8_held) := pin_4 (yX8_held, _) (List.mem_of_getElem? (i := 8) rfl)
theorem lwX8_startOf : wok (.selects RX8 yX8_startOf yX8_startOf) := pin_4 (yX8_startOf, _) (List.mem_of_getElem? (i := 9) rfl)
theorem lwX8_freeOf : wok (.selects RX8 yX8_freeOf yX8_freeOf) := pin_4 (yX8_freeOf, _) (List.mem_of_getElem? (i := 10) rfl)
theorem lwX8_loansIn : wok (.selects RX8 yX8_loansIn yX8_loansIn) := pin_4 (yX8_loansIn, _) (List.mem_of_getElem? (i := 11) rfl)
theorem lwX8_writes : wok (.selects RX8 yX8_writes yX8_writes) := pin_4 (yX8_writes, _) (List.mem_of_getElem? (i := 12) rfl)
theorem lwX8_writesNumber : wok (.selects RX8 yX8_writesNumber yX8_writesNumber) := pin_4 (yX8_writesNumber, _) (List.mem_of_getElem? (i := 13) rfl)
theorem lwX8_readsOrder : wok (.selects RX8 yX8_readsOrder yX8_readsOrder) := pin_4 (yX8_readsOrder, _) (List.mem_of_getElem? (i := 14) rfl)
theorem lwX8_here : wok (.selects RX8 yX8_here yX8_here) := pin_4 (yX8_here, _) (List.mem_of_getElem? (i := 15) rfl)
theorem lwX8_figures : wok (.selects RX8 yX8_figures yX8_figures) := pin_5 (yX8_figures, _) (List.mem_of_getElem? (i := 0) rfl)
theorem lwX8_does : wok (.selects RX8 yX8_does yX8_does) := pin_5 (yX8_does, _) (List.mem_of_getElem? (i := 1) rfl)
theorem lwX8_all : wok (.selects RX8 yX8_all yX8_all) := pin_5 (yX8_all, _) (List.mem_of_getElem? (i := 2) rfl)
theorem lwX8_freePieces : wok (.selects RX8 yX8_freePieces yX8_freePieces) := pin_5 (yX8_freePieces, _) (List.mem_of_getElem? (i := 3) rfl)
theorem arrOver_in : (Cond.arrayOver (.object RX0)) ∈ lw_tbl := tin_1 _ (List.mem_of_getElem? (i := 123) rfl)
theorem fc_X7_350 : wok (.constantFloat RX7 350 1115684864) := wo2 129 rfl rfl
theorem fc_X8_208 : wok (.constantFloat RX8 208 1115684864) := wo7 32 rfl rfl
theorem inX0 : ∀ w ∈ u_ws RX0 TX0 3, w ∈ lw_tbl := by
  show ∀ w ∈ ([u_lay RX0 TX0 0, u_lay RX0 TX0 1, u_lay RX0 TX0 2] : List Cond), w ∈ lw_tbl
  exact List.forall_mem_cons.mpr ⟨tin_1 _ (List.mem_of_getElem? (i := 109) rfl), List.forall_mem_cons.mpr ⟨tin_1 _ (List.mem_of_getElem? (i := 111) rfl), List.forall_mem_cons.mpr ⟨tin_1 _ (List.mem_of_getElem? (i := 113) rfl), fun _ h => absurd h List.not_mem_nil⟩⟩⟩
theorem inX1 : ∀ w ∈ u_ws RX1 TX1 3, w ∈ lw_tbl := by
  show ∀ w ∈ ([u_lay RX1 TX1 0, u_lay RX1 TX1 1, u_lay RX1 TX1 2] : List Cond), w ∈ lw_tbl
  exact List.forall_mem_cons.mpr ⟨tin_1 _ (List.mem_of_getElem? (i := 129) rfl), List.forall_mem_cons.mpr ⟨tin_1 _ (List.mem_of_getElem? (i := 131) rfl), List.forall_mem_cons.mpr ⟨tin_1 _ (List.mem_of_getElem? (i := 133) rfl), fun _ h => absurd h List.not_mem_nil⟩⟩⟩
theorem inX2 : ∀ w ∈ u_ws RX2 TX2 2, w ∈ lw_tbl := by
  show ∀ w ∈ ([u_lay RX2 TX2 0, u_lay RX2 TX2 1] : List Cond), w ∈ lw_tbl
  exact List.forall_mem_cons.mpr ⟨tin_1 _ (List.mem_of_getElem? (i := 145) rfl), List.forall_mem_cons.mpr ⟨tin_1 _ (List.mem_of_getElem? (i := 147) rfl), fun _ h => absurd h List.not_mem_nil⟩⟩
theorem inX3 : ∀ w ∈ u_ws RX3 TX3 5, w ∈ lw_tbl := by
  show ∀ w ∈ ([u_lay RX3 TX3 0, u_lay RX3 TX3 1, u_lay RX3 TX3 2, u_lay RX3 TX3 3, u_lay RX3 TX3 4] : List Cond), w ∈ lw_tbl
  exact List.forall_mem_cons.mpr ⟨tin_1 _ (List.mem_of_getElem? (i := 74) rfl), List.forall_mem_cons.mpr ⟨tin_1 _ (List.mem_of_getElem? (i := 76) rfl), List.forall_mem_cons.mpr ⟨tin_1 _ (List.mem_of_getElem? (i := 78) rfl), List.forall_mem_cons.mpr ⟨tin_1 _ (List.mem_of_getElem? (i := 80) rfl), List.forall_mem_cons.mpr ⟨tin_1 _ (List.mem_of_getElem? (i := 82) rfl), fun _ h => absurd h List.not_mem_nil⟩⟩⟩⟩⟩
theorem inX4 : ∀ w ∈ u_ws RX4 TX4 8, w ∈ lw_tbl := by
  show ∀ w ∈ ([u_lay RX4 TX4 0, u_lay RX4 TX4 1, u_lay RX4 TX4 2, u_lay RX4 TX4 3, u_lay RX4 TX4 4, u_lay RX4 TX4 5, u_lay RX4 TX4 6, u_lay RX4 TX4 7] : List Cond), w ∈ lw_tbl
  exact List.forall_mem_cons.mpr ⟨tin_1 _ (List.mem_of_getElem? (i := 167) rfl), List.forall_mem_cons.mpr ⟨tin_1 _ (List.mem_of_getElem? (i := 169) rfl), List.forall_mem_cons.mpr ⟨tin_1 _ (List.mem_of_getElem? (i := 171) rfl), List.forall_mem_cons.mpr ⟨tin_1 _ (List.mem_of_getElem? (i := 173) rfl), List.forall_mem_cons.mpr ⟨tin_1 _ (List.mem_of_getElem? (i := 175) rfl), List.forall_mem_cons.mpr ⟨tin_1 _ (List.mem_of_getElem? (i := 177) rfl), List.forall_mem_cons.mpr ⟨tin_1 _ (List.mem_of_getElem? (i := 179) rfl), List.forall_mem_cons.mpr ⟨tin_1 _ (List.mem_of_getElem? (i := 181) rfl), fun _ h => absurd h List.not_mem_nil⟩⟩⟩⟩⟩⟩⟩⟩
theorem inX5 : ∀ w ∈ u_ws RX5 TX5 4, w ∈ lw_tbl := by
  show ∀ w ∈ ([u_lay RX5 TX5 0, u_lay RX5 TX5 1, u_lay RX5 TX5 2, u_lay RX5 TX5 3] : List Cond), w ∈ lw_tbl
  exact List.forall_mem_cons.mpr ⟨tin_1 _ (List.mem_of_getElem? (i := 51) rfl), List.forall_mem_cons.mpr ⟨tin_1 _ (List.mem_of_getElem? (i := 53) rfl), List.forall_mem_cons.mpr ⟨tin_1 _ (List.mem_of_getElem? (i := 55) rfl), List.forall_mem_cons.mpr ⟨tin_1 _ (List.mem_of_getElem? (i := 57) rfl), fun _ h => absurd h List.not_mem_nil⟩⟩⟩⟩
theorem inX6 : ∀ w ∈ u_ws RX6 TX6 3, w ∈ lw_tbl := by
  show ∀ w ∈ ([u_lay RX6 TX6 0, u_lay RX6 TX6 1, u_lay RX6 TX6 2] : List Cond), w ∈ lw_tbl
  exact List.forall_mem_cons.mpr ⟨tin_1 _ (List.mem_of_getElem? (i := 96) rfl), List.forall_mem_cons.mpr ⟨tin_1 _ (List.mem_of_getElem? (i := 98) rfl), List.forall_mem_cons.mpr ⟨tin_1 _ (List.mem_of_getElem? (i := 100) rfl), fun _ h => absurd h List.not_mem_nil⟩⟩⟩
theorem inX7 : ∀ w ∈ u_ws RX7 TX7 10, w ∈ lw_tbl := by
  show ∀ w ∈ ([u_lay RX7 TX7 0, u_lay RX7 TX7 1, u_lay RX7 TX7 2, u_lay RX7 TX7 3, u_lay RX7 TX7 4, u_lay RX7 TX7 5, u_lay RX7 TX7 6, u_lay RX7 TX7 7, u_lay RX7 TX7 8, u_lay RX7 TX7 9] : List Cond), w ∈ lw_tbl
  exact List.forall_mem_cons.mpr ⟨tin_1 _ (List.mem_of_getElem? (i := 194) rfl), List.forall_mem_cons.mpr ⟨tin_1 _ (List.mem_of_getElem? (i := 196) rfl), List.forall_mem_cons.mpr ⟨tin_1 _ (List.mem_of_getElem? (i := 198) rfl), List.forall_mem_cons.mpr ⟨tin_1 _ (List.mem_of_getElem? (i := 200) rfl), List.forall_mem_cons.mpr ⟨tin_1 _ (List.mem_of_getElem? (i := 202) rfl), List.forall_mem_cons.mpr ⟨tin_1 _ (List.mem_of_getElem? (i := 204) rfl), List.forall_mem_cons.mpr ⟨tin_1 _ (List.mem_of_getElem? (i := 206) rfl), List.forall_mem_cons.mpr ⟨tin_1 _ (List.mem_of_getElem? (i := 208) rfl), List.forall_mem_cons.mpr ⟨tin_1 _ (List.mem_of_getElem? (i := 210) rfl), List.forall_mem_cons.mpr ⟨tin_1 _ (List.mem_of_getElem? (i := 212) rfl), fun _ h => absurd h List.not_mem_nil⟩⟩⟩⟩⟩⟩⟩⟩⟩⟩
theorem inX8 : ∀ w ∈ u_ws RX8 TX8 18, w ∈ lw_tbl := by
  show ∀ w ∈ ([u_lay RX8 TX8 0, u_lay RX8 TX8 1, u_lay RX8 TX8 2, u_lay RX8 TX8 3, u_lay RX8 TX8 4, u_lay RX8 TX8 5, u_lay RX8 TX8 6, u_lay RX8 TX8 7, u_lay RX8 TX8 8, u_lay RX8 TX8 9, u_lay RX8 TX8 10, u_lay RX8 TX8 11, u_lay RX8 TX8 12, u_lay RX8 TX8 13, u_lay RX8 TX8 14, u_lay RX8 TX8 15, u_lay RX8 TX8 16, u_lay RX8 TX8 17] : List Cond), w ∈ lw_tbl
  exact List.forall_mem_cons.mpr ⟨tin_5 _ (List.mem_of_getElem? (i := 176) rfl), List.forall_mem_cons.mpr ⟨tin_5 _ (List.mem_of_getElem? (i := 178) rfl), List.forall_mem_cons.mpr ⟨tin_5 _ (List.mem_of_getElem? (i := 180) rfl), List.forall_mem_cons.mpr ⟨tin_5 _ (List.mem_of_getElem? (i := 182) rfl), List.forall_mem_cons.mpr ⟨tin_5 _ (List.mem_of_getElem? (i := 184) rfl), List.forall_mem_cons.mpr ⟨tin_5 _ (List.mem_of_getElem? (i := 186) rfl), List.forall_mem_cons.mpr ⟨tin_5 _ (List.mem_of_getElem? (i := 188) rfl), List.forall_mem_cons.mpr ⟨tin_5 _ (List.mem_of_getElem? (i := 190) rfl), List.forall_mem_cons.mpr ⟨tin_5 _ (List.mem_of_getElem? (i := 192) rfl), List.forall_mem_cons.mpr ⟨tin_5 _ (List.mem_of_getElem? (i := 194) rfl), List.forall_mem_cons.mpr ⟨tin_5 _ (List.mem_of_getElem? (i := 196) rfl), List.forall_mem_cons.mpr ⟨tin_5 _ (List.mem_of_getElem? (i := 198) rfl), List.forall_mem_cons.mpr ⟨tin_5 _ (List.mem_of_getElem? (i := 200) rfl), List.forall_mem_cons.mpr ⟨tin_5 _ (List.mem_of_getElem? (i := 202) rfl), List.forall_mem_cons.mpr ⟨tin_5 _ (List.mem_of_getElem? (i := 204) rfl), List.forall_mem_cons.mpr ⟨tin_5 _ (List.mem_of_getElem? (i := 206) rfl), List.forall_mem_cons.mpr ⟨tin_5 _ (List.mem_of_getElem? (i := 208) rfl), List.forall_mem_cons.mpr ⟨tin_5 _ (List.mem_of_getElem? (i := 210) rfl), fun _ h => absurd h List.not_mem_nil⟩⟩⟩⟩⟩⟩⟩⟩⟩⟩⟩⟩⟩⟩⟩⟩⟩⟩
end
section
theorem dX0_init_0 : decode cX0_init 0 = .ok (.aload_n 0, 1) := by decide +kernel
theorem dX0_init_1 : decode cX0_init 1 = .ok (.invokespecial 3, 3) := by decide +kernel
theorem dX0_init_4 : decode cX0_init 4 = .ok (.aload_n 0, 1) := by decide +kernel
theorem dX0_init_5 : decode cX0_init 5 = .ok (.new 9, 3) := by decide +kernel
theorem dX0_init_8 : decode cX0_init 8 = .ok (.dup, 1) := by decide +kernel
theorem dX0_init_9 : decode cX0_init 9 = .ok (.invokespecial 11, 3) := by decide +kernel
theorem dX0_init_12 : decode cX0_init 12 = .ok (.putfield 12, 3) := by decide +kernel
theorem dX0_init_15 : decode cX0_init 15 = .ok (.aload_n 0, 1) := by decide +kernel
theorem dX0_init_16 : decode cX0_init 16 = .ok (.new 18, 3) := by decide +kernel
theorem dX0_init_19 : decode cX0_init 19 = .ok (.dup, 1) := by decide +kernel
theorem dX0_init_20 : decode cX0_init 20 = .ok (.invokespecial 20, 3) := by decide +kernel
theorem dX0_init_23 : decode cX0_init 23 = .ok (.putfield 21, 3) := by decide +kernel
theorem dX0_init_26 : decode cX0_init 26 = .ok (.aload_n 0, 1) := by decide +kernel
theorem dX0_init_27 : decode cX0_init 27 = .ok (.new 25, 3) := by decide +kernel
theorem dX0_init_30 : decode cX0_init 30 = .ok (.dup, 1) := by decide +kernel
theorem dX0_init_31 : decode cX0_init 31 = .ok (.invokespecial 27, 3) := by decide +kernel
theorem dX0_init_34 : decode cX0_init 34 = .ok (.putfield 28, 3) := by decide +kernel
theorem dX0_init_37 : decode cX0_init 37 = .ok (.return_, 1) := by decide +kernel
theorem dX0_copyFrom_0 : decode cX0_copyFrom 0 = .ok (.aload_n 0, 1) := by decide +kernel
theorem dX0_copyFrom_1 : decode cX0_copyFrom 1 = .ok (.getfield 12, 3) := by decide +kernel
theorem dX0_copyFrom_4 : decode cX0_copyFrom 4 = .ok (.aload_n 1, 1) := by decide +kernel
theorem dX0_copyFrom_5 : decode cX0_copyFrom 5 = .ok (.getfield 12, 3) := by decide +kernel
theorem dX0_copyFrom_8 : decode cX0_copyFrom 8 = .ok (.invokevirtual 32, 3) := by decide +kernel
theorem dX0_copyFrom_11 : decode cX0_copyFrom 11 = .ok (.aload_n 0, 1) := by decide +kernel
theorem dX0_copyFrom_12 : decode cX0_copyFrom 12 = .ok (.getfield 21, 3) := by decide +kernel
theorem dX0_copyFrom_15 : decode cX0_copyFrom 15 = .ok (.aload_n 1, 1) := by decide +kernel
theorem dX0_copyFrom_16 : decode cX0_copyFrom 16 = .ok (.getfield 21, 3) := by decide +kernel
theorem dX0_copyFrom_19 : decode cX0_copyFrom 19 = .ok (.invokevirtual 36, 3) := by decide +kernel
theorem dX0_copyFrom_22 : decode cX0_copyFrom 22 = .ok (.aload_n 0, 1) := by decide +kernel
theorem dX0_copyFrom_23 : decode cX0_copyFrom 23 = .ok (.getfield 28, 3) := by decide +kernel
theorem dX0_copyFrom_26 : decode cX0_copyFrom 26 = .ok (.aload_n 1, 1) := by decide +kernel
theorem dX0_copyFrom_27 : decode cX0_copyFrom 27 = .ok (.getfield 28, 3) := by decide +kernel
theorem dX0_copyFrom_30 : decode cX0_copyFrom 30 = .ok (.invokevirtual 39, 3) := by decide +kernel
theorem dX0_copyFrom_33 : decode cX0_copyFrom 33 = .ok (.return_, 1) := by decide +kernel
theorem dX0_canLend_0 : decode cX0_canLend 0 = .ok (.aload_n 0, 1) := by decide +kernel
theorem dX0_canLend_1 : decode cX0_canLend 1 = .ok (.getfield 21, 3) := by decide +kernel
theorem dX0_canLend_4 : decode cX0_canLend 4 = .ok (.getfield 42, 3) := by decide +kernel
theorem dX0_canLend_7 : decode cX0_canLend 7 = .ok (.bipush 16, 2) := by decide +kernel
theorem dX0_canLend_9 : decode cX0_canLend 9 = .ok (.if_icmp .ge 21, 3) := by decide +kernel
theorem dX0_canLend_12 : decode cX0_canLend 12 = .ok (.aload_n 0, 1) := by decide +kernel
theorem dX0_canLend_13 : decode cX0_canLend 13 = .ok (.getfield 12, 3) := by decide +kernel
theorem dX0_canLend_16 : decode cX0_canLend 16 = .ok (.invokevirtual 46, 3) := by decide +kernel
theorem dX0_canLend_19 : decode cX0_canLend 19 = .ok (.iload_n 1, 1) := by decide +kernel
theorem dX0_canLend_20 : decode cX0_canLend 20 = .ok (.invokestatic 50, 3) := by decide +kernel
theorem dX0_canLend_23 : decode cX0_canLend 23 = .ok (.if_icmp .lt 7, 3) := by decide +kernel
theorem dX0_canLend_26 : decode cX0_canLend 26 = .ok (.iconst 1, 1) := by decide +kernel
theorem dX0_canLend_27 : decode cX0_canLend 27 = .ok (.goto 4, 3) := by decide +kernel
theorem dX0_canLend_30 : decode cX0_canLend 30 = .ok (.iconst 0, 1) := by decide +kernel
theorem dX0_canLend_31 : decode cX0_canLend 31 = .ok (.ireturn, 1) := by decide +kernel
theorem dX0_lendTo_0 : decode cX0_lendTo 0 = .ok (.iload_n 2, 1) := by decide +kernel
theorem dX0_lendTo_1 : decode cX0_lendTo 1 = .ok (.invokestatic 50, 3) := by decide +kernel
theorem dX0_lendTo_4 : decode cX0_lendTo 4 = .ok (.istore_n 3, 1) := by decide +kernel
theorem dX0_lendTo_5 : decode cX0_lendTo 5 = .ok (.aload_n 0, 1) := by decide +kernel
theorem dX0_lendTo_6 : decode cX0_lendTo 6 = .ok (.getfield 12, 3) := by decide +kernel
theorem dX0_lendTo_9 : decode cX0_lendTo 9 = .ok (.iload_n 3, 1) := by decide +kernel
theorem dX0_lendTo_10 : decode cX0_lendTo 10 = .ok (.invokevirtual 54, 3) := by decide +kernel
theorem dX0_lendTo_13 : decode cX0_lendTo 13 = .ok (.istore 4, 2) := by decide +kernel
theorem dX0_lendTo_15 : decode cX0_lendTo 15 = .ok (.aload_n 0, 1) := by decide +kernel
theorem dX0_lendTo_16 : decode cX0_lendTo 16 = .ok (.getfield 21, 3) := by decide +kernel
theorem dX0_lendTo_19 : decode cX0_lendTo 19 = .ok (.iload_n 1, 1) := by decide +kernel
theorem dX0_lendTo_20 : decode cX0_lendTo 20 = .ok (.iload_n 2, 1) := by decide +kernel
theorem dX0_lendTo_21 : decode cX0_lendTo 21 = .ok (.iload 4, 2) := by decide +kernel
theorem dX0_lendTo_23 : decode cX0_lendTo 23 = .ok (.iload_n 3, 1) := by decide +kernel
theorem dX0_lendTo_24 : decode cX0_lendTo 24 = .ok (.invokevirtual 57, 3) := by decide +kernel
theorem dX0_lendTo_27 : decode cX0_lendTo 27 = .ok (.ireturn, 1) := by decide +kernel
theorem dX0_lendOrQueue_0 : decode cX0_lendOrQueue 0 = .ok (.aload_n 0, 1) := by decide +kernel
theorem dX0_lendOrQueue_1 : decode cX0_lendOrQueue 1 = .ok (.iload_n 2, 1) := by decide +kernel
theorem dX0_lendOrQueue_2 : decode cX0_lendOrQueue 2 = .ok (.invokevirtual 61, 3) := by decide +kernel
theorem dX0_lendOrQueue_5 : decode cX0_lendOrQueue 5 = .ok (.ifCond .eq 17, 3) := by decide +kernel
theorem dX0_lendOrQueue_8 : decode cX0_lendOrQueue 8 = .ok (.aload_n 0, 1) := by decide +kernel
theorem dX0_lendOrQueue_9 : decode cX0_lendOrQueue 9 = .ok (.getfield 21, 3) := by decide +kernel
theorem dX0_lendOrQueue_12 : decode cX0_lendOrQueue 12 = .ok (.aload_n 0, 1) := by decide +kernel
theorem dX0_lendOrQueue_13 : decode cX0_lendOrQueue 13 = .ok (.iload_n 1, 1) := by decide +kernel
theorem dX0_lendOrQueue_14 : decode cX0_lendOrQueue 14 = .ok (.iload_n 2, 1) := by decide +kernel
theorem dX0_lendOrQueue_15 : decode cX0_lendOrQueue 15 = .ok (.invokevirtual 65, 3) := by decide +kernel
theorem dX0_lendOrQueue_18 : decode cX0_lendOrQueue 18 = .ok (.invokevirtual 69, 3) := by decide +kernel
theorem dX0_lendOrQueue_21 : decode cX0_lendOrQueue 21 = .ok (.ireturn, 1) := by decide +kernel
theorem dX0_lendOrQueue_22 : decode cX0_lendOrQueue 22 = .ok (.aload_n 0, 1) := by decide +kernel
theorem dX0_lendOrQueue_23 : decode cX0_lendOrQueue 23 = .ok (.getfield 28, 3) := by decide +kernel
theorem dX0_lendOrQueue_26 : decode cX0_lendOrQueue 26 = .ok (.iload_n 1, 1) := by decide +kernel
theorem dX0_lendOrQueue_27 : decode cX0_lendOrQueue 27 = .ok (.iload_n 2, 1) := by decide +kernel
theorem dX0_lendOrQueue_28 : decode cX0_lendOrQueue 28 = .ok (.invokevirtual 72, 3) := by decide +kernel
theorem dX0_lendOrQueue_31 : decode cX0_lendOrQueue 31 = .ok (.iconst (-1), 1) := by decide +kernel
theorem dX0_lendOrQueue_32 : decode cX0_lendOrQueue 32 = .ok (.ireturn, 1) := by decide +kernel
theorem dX0_giveBack_0 : decode cX0_giveBack 0 = .ok (.aload_n 0, 1) := by decide +kernel
theorem dX0_giveBack_1 : decode cX0_giveBack 1 = .ok (.iload_n 1, 1) := by decide +kernel
theorem dX0_giveBack_2 : decode cX0_giveBack 2 = .ok (.invokevirtual 75, 3) := by decide +kernel
theorem dX0_giveBack_5 : decode cX0_giveBack 5 = .ok (.aload_n 0, 1) := by decide +kernel
theorem dX0_giveBack_6 : decode cX0_giveBack 6 = .ok (.invokevirtual 79, 3) := by decide +kernel
theorem dX0_giveBack_9 : decode cX0_giveBack 9 = .ok (.ireturn, 1) := by decide +kernel
theorem dX0_giveBackAll_0 : decode cX0_giveBackAll 0 = .ok (.iconst 0, 1) := by decide +kernel
theorem dX0_giveBackAll_1 : decode cX0_giveBackAll 1 = .ok (.istore_n 2, 1) := by decide +kernel
theorem dX0_giveBackAll_2 : decode cX0_giveBackAll 2 = .ok (.aload_n 0, 1) := by decide +kernel
theorem dX0_giveBackAll_3 : decode cX0_giveBackAll 3 = .ok (.getfield 21, 3) := by decide +kernel
theorem dX0_giveBackAll_6 : decode cX0_giveBackAll 6 = .ok (.getfield 42, 3) := by decide +kernel
theorem dX0_giveBackAll_9 : decode cX0_giveBackAll 9 = .ok (.iconst 1, 1) := by decide +kernel
theorem dX0_giveBackAll_10 : decode cX0_giveBackAll 10 = .ok (.isub, 1) := by decide +kernel
theorem dX0_giveBackAll_11 : decode cX0_giveBackAll 11 = .ok (.istore_n 3, 1) := by decide +kernel
theorem dX0_giveBackAll_12 : decode cX0_giveBackAll 12 = .ok (.iload_n 3, 1) := by decide +kernel
theorem dX0_giveBackAll_13 : decode cX0_giveBackAll 13 = .ok (.ifCond .lt 29, 3) := by decide +kernel
theorem dX0_giveBackAll_16 : decode cX0_giveBackAll 16 = .ok (.aload_n 0, 1) := by decide +kernel
theorem dX0_giveBackAll_17 : decode cX0_giveBackAll 17 = .ok (.getfield 21, 3) := by decide +kernel
theorem dX0_giveBackAll_20 : decode cX0_giveBackAll 20 = .ok (.iload_n 3, 1) := by decide +kernel
theorem dX0_giveBackAll_21 : decode cX0_giveBackAll 21 = .ok (.invokevirtual 82, 3) := by decide +kernel
theorem dX0_giveBackAll_24 : decode cX0_giveBackAll 24 = .ok (.iload_n 1, 1) := by decide +kernel
theorem dX0_giveBackAll_25 : decode cX0_giveBackAll 25 = .ok (.if_icmp .ne 11, 3) := by decide +kernel
theorem dX0_giveBackAll_28 : decode cX0_giveBackAll 28 = .ok (.aload_n 0, 1) := by decide +kernel
theorem dX0_giveBackAll_29 : decode cX0_giveBackAll 29 = .ok (.iload_n 3, 1) := by decide +kernel
theorem dX0_giveBackAll_30 : decode cX0_giveBackAll 30 = .ok (.invokevirtual 75, 3) := by decide +kernel
theorem dX0_giveBackAll_33 : decode cX0_giveBackAll 33 = .ok (.iinc 2 1, 3) := by decide +kernel
theorem dX0_giveBackAll_36 : decode cX0_giveBackAll 36 = .ok (.iinc 3 (-1), 3) := by decide +kernel
theorem dX0_giveBackAll_39 : decode cX0_giveBackAll 39 = .ok (.goto (-27), 3) := by decide +kernel
theorem dX0_giveBackAll_42 : decode cX0_giveBackAll 42 = .ok (.aload_n 0, 1) := by decide +kernel
theorem dX0_giveBackAll_43 : decode cX0_giveBackAll 43 = .ok (.invokevirtual 79, 3) := by decide +kernel
theorem dX0_giveBackAll_46 : decode cX0_giveBackAll 46 = .ok (.pop, 1) := by decide +kernel
theorem dX0_giveBackAll_47 : decode cX0_giveBackAll 47 = .ok (.iload_n 2, 1) := by decide +kernel
theorem dX0_giveBackAll_48 : decode cX0_giveBackAll 48 = .ok (.ireturn, 1) := by decide +kernel
theorem dX0_releaseLoan_0 : decode cX0_releaseLoan 0 = .ok (.aload_n 0, 1) := by decide +kernel
theorem dX0_releaseLoan_1 : decode cX0_releaseLoan 1 = .ok (.getfield 21, 3) := by decide +kernel
theorem dX0_releaseLoan_4 : decode cX0_releaseLoan 4 = .ok (.iload_n 1, 1) := by decide +kernel
theorem dX0_releaseLoan_5 : decode cX0_releaseLoan 5 = .ok (.invokevirtual 69, 3) := by decide +kernel
theorem dX0_releaseLoan_8 : decode cX0_releaseLoan 8 = .ok (.istore_n 2, 1) := by decide +kernel
theorem dX0_releaseLoan_9 : decode cX0_releaseLoan 9 = .ok (.aload_n 0, 1) := by decide +kernel
theorem dX0_releaseLoan_10 : decode cX0_releaseLoan 10 = .ok (.getfield 21, 3) := by decide +kernel
theorem dX0_releaseLoan_13 : decode cX0_releaseLoan 13 = .ok (.iload_n 1, 1) := by decide +kernel
theorem dX0_releaseLoan_14 : decode cX0_releaseLoan 14 = .ok (.invokevirtual 85, 3) := by decide +kernel
theorem dX0_releaseLoan_17 : decode cX0_releaseLoan 17 = .ok (.istore_n 3, 1) := by decide +kernel
theorem dX0_releaseLoan_18 : decode cX0_releaseLoan 18 = .ok (.aload_n 0, 1) := by decide +kernel
theorem dX0_releaseLoan_19 : decode cX0_releaseLoan 19 = .ok (.getfield 21, 3) := by decide +kernel
theorem dX0_releaseLoan_22 : decode cX0_releaseLoan 22 = .ok (.iload_n 1, 1) := by decide +kernel
theorem dX0_releaseLoan_23 : decode cX0_releaseLoan 23 = .ok (.invokevirtual 88, 3) := by decide +kernel
theorem dX0_releaseLoan_26 : decode cX0_releaseLoan 26 = .ok (.aload_n 0, 1) := by decide +kernel
theorem dX0_releaseLoan_27 : decode cX0_releaseLoan 27 = .ok (.getfield 12, 3) := by decide +kernel
theorem dX0_releaseLoan_30 : decode cX0_releaseLoan 30 = .ok (.iload_n 2, 1) := by decide +kernel
theorem dX0_releaseLoan_31 : decode cX0_releaseLoan 31 = .ok (.iload_n 3, 1) := by decide +kernel
theorem dX0_releaseLoan_32 : decode cX0_releaseLoan 32 = .ok (.invokevirtual 91, 3) := by decide +kernel
theorem dX0_releaseLoan_35 : decode cX0_releaseLoan 35 = .ok (.return_, 1) := by decide +kernel
theorem dX0_changeAmount_0 : decode cX0_changeAmount 0 = .ok (.iload_n 2, 1) := by decide +kernel
theorem dX0_changeAmount_1 : decode cX0_changeAmount 1 = .ok (.invokestatic 50, 3) := by decide +kernel
theorem dX0_changeAmount_4 : decode cX0_changeAmount 4 = .ok (.istore_n 3, 1) := by decide +kernel
theorem dX0_changeAmount_5 : decode cX0_changeAmount 5 = .ok (.aload_n 0, 1) := by decide +kernel
theorem dX0_changeAmount_6 : decode cX0_changeAmount 6 = .ok (.getfield 21, 3) := by decide +kernel
theorem dX0_changeAmount_9 : decode cX0_changeAmount 9 = .ok (.iload_n 1, 1) := by decide +kernel
theorem dX0_changeAmount_10 : decode cX0_changeAmount 10 = .ok (.invokevirtual 69, 3) := by decide +kernel
theorem dX0_changeAmount_13 : decode cX0_changeAmount 13 = .ok (.istore 4, 2) := by decide +kernel
theorem dX0_changeAmount_15 : decode cX0_changeAmount 15 = .ok (.aload_n 0, 1) := by decide +kernel
theorem dX0_changeAmount_16 : decode cX0_changeAmount 16 = .ok (.getfield 21, 3) := by decide +kernel
theorem dX0_changeAmount_19 : decode cX0_changeAmount 19 = .ok (.iload_n 1, 1) := by decide +kernel
theorem dX0_changeAmount_20 : decode cX0_changeAmount 20 = .ok (.invokevirtual 85, 3) := by decide +kernel
theorem dX0_changeAmount_23 : decode cX0_changeAmount 23 = .ok (.istore 5, 2) := by decide +kernel
theorem dX0_changeAmount_25 : decode cX0_changeAmount 25 = .ok (.iload_n 3, 1) := by decide +kernel
theorem dX0_changeAmount_26 : decode cX0_changeAmount 26 = .ok (.iload 5, 2) := by decide +kernel
theorem dX0_changeAmount_28 : decode cX0_changeAmount 28 = .ok (.if_icmp .ge 17, 3) := by decide +kernel
theorem dX0_changeAmount_31 : decode cX0_changeAmount 31 = .ok (.aload_n 0, 1) := by decide +kernel
theorem dX0_changeAmount_32 : decode cX0_changeAmount 32 = .ok (.getfield 12, 3) := by decide +kernel
theorem dX0_changeAmount_35 : decode cX0_changeAmount 35 = .ok (.iload 4, 2) := by decide +kernel
theorem dX0_changeAmount_37 : decode cX0_changeAmount 37 = .ok (.iload 5, 2) := by decide +kernel
theorem dX0_changeAmount_39 : decode cX0_changeAmount 39 = .ok (.iload_n 3, 1) := by decide +kernel
theorem dX0_changeAmount_40 : decode cX0_changeAmount 40 = .ok (.invokevirtual 94, 3) := by decide +kernel
theorem dX0_changeAmount_43 : decode cX0_changeAmount 43 = .ok (.istore 4, 2) := by decide +kernel
theorem dX0_changeAmount_45 : decode cX0_changeAmount 45 = .ok (.iload_n 3, 1) := by decide +kernel
theorem dX0_changeAmount_46 : decode cX0_changeAmount 46 = .ok (.iload 5, 2) := by decide +kernel
theorem dX0_changeAmount_48 : decode cX0_changeAmount 48 = .ok (.if_icmp .le 24, 3) := by decide +kernel
theorem dX0_changeAmount_51 : decode cX0_changeAmount 51 = .ok (.aload_n 0, 1) := by decide +kernel
theorem dX0_changeAmount_52 : decode cX0_changeAmount 52 = .ok (.getfield 12, 3) := by decide +kernel
theorem dX0_changeAmount_55 : decode cX0_changeAmount 55 = .ok (.iload 4, 2) := by decide +kernel
theorem dX0_changeAmount_57 : decode cX0_changeAmount 57 = .ok (.iload 5, 2) := by decide +kernel
theorem dX0_changeAmount_59 : decode cX0_changeAmount 59 = .ok (.invokevirtual 91, 3) := by decide +kernel
theorem dX0_changeAmount_62 : decode cX0_changeAmount 62 = .ok (.aload_n 0, 1) := by decide +kernel
theorem dX0_changeAmount_63 : decode cX0_changeAmount 63 = .ok (.getfield 12, 3) := by decide +kernel
theorem dX0_changeAmount_66 : decode cX0_changeAmount 66 = .ok (.iload_n 3, 1) := by decide +kernel
theorem dX0_changeAmount_67 : decode cX0_changeAmount 67 = .ok (.invokevirtual 54, 3) := by decide +kernel
theorem dX0_changeAmount_70 : decode cX0_changeAmount 70 = .ok (.istore 4, 2) := by decide +kernel
theorem dX0_changeAmount_72 : decode cX0_changeAmount 72 = .ok (.aload_n 0, 1) := by decide +kernel
theorem dX0_changeAmount_73 : decode cX0_changeAmount 73 = .ok (.getfield 21, 3) := by decide +kernel
theorem dX0_changeAmount_76 : decode cX0_changeAmount 76 = .ok (.iload_n 1, 1) := by decide +kernel
theorem dX0_changeAmount_77 : decode cX0_changeAmount 77 = .ok (.iload_n 2, 1) := by decide +kernel
theorem dX0_changeAmount_78 : decode cX0_changeAmount 78 = .ok (.iload 4, 2) := by decide +kernel
theorem dX0_changeAmount_80 : decode cX0_changeAmount 80 = .ok (.iload_n 3, 1) := by decide +kernel
theorem dX0_changeAmount_81 : decode cX0_changeAmount 81 = .ok (.invokevirtual 98, 3) := by decide +kernel
theorem dX0_changeAmount_84 : decode cX0_changeAmount 84 = .ok (.iload_n 3, 1) := by decide +kernel
theorem dX0_changeAmount_85 : decode cX0_changeAmount 85 = .ok (.iload 5, 2) := by decide +kernel
theorem dX0_changeAmount_87 : decode cX0_changeAmount 87 = .ok (.if_icmp .eq 8, 3) := by decide +kernel
theorem dX0_changeAmount_90 : decode cX0_changeAmount 90 = .ok (.aload_n 0, 1) := by decide +kernel
theorem dX0_changeAmount_91 : decode cX0_changeAmount 91 = .ok (.invokevirtual 79, 3) := by decide +kernel
theorem dX0_changeAmount_94 : decode cX0_changeAmount 94 = .ok (.pop, 1) := by decide +kernel
theorem dX0_changeAmount_95 : decode cX0_changeAmount 95 = .ok (.iload 4, 2) := by decide +kernel
theorem dX0_changeAmount_97 : decode cX0_changeAmount 97 = .ok (.ireturn, 1) := by decide +kernel
theorem dX0_changeWay_0 : decode cX0_changeWay 0 = .ok (.aload_n 0, 1) := by decide +kernel
theorem dX0_changeWay_1 : decode cX0_changeWay 1 = .ok (.getfield 12, 3) := by decide +kernel
theorem dX0_changeWay_4 : decode cX0_changeWay 4 = .ok (.getfield 102, 3) := by decide +kernel
theorem dX0_changeWay_7 : decode cX0_changeWay 7 = .ok (.istore_n 2, 1) := by decide +kernel
theorem dX0_changeWay_8 : decode cX0_changeWay 8 = .ok (.aload_n 0, 1) := by decide +kernel
theorem dX0_changeWay_9 : decode cX0_changeWay 9 = .ok (.getfield 12, 3) := by decide +kernel
theorem dX0_changeWay_12 : decode cX0_changeWay 12 = .ok (.iload_n 1, 1) := by decide +kernel
theorem dX0_changeWay_13 : decode cX0_changeWay 13 = .ok (.putfield 102, 3) := by decide +kernel
theorem dX0_changeWay_16 : decode cX0_changeWay 16 = .ok (.aload_n 0, 1) := by decide +kernel
theorem dX0_changeWay_17 : decode cX0_changeWay 17 = .ok (.invokevirtual 79, 3) := by decide +kernel
theorem dX0_changeWay_20 : decode cX0_changeWay 20 = .ok (.pop, 1) := by decide +kernel
theorem dX0_changeWay_21 : decode cX0_changeWay 21 = .ok (.iload_n 2, 1) := by decide +kernel
theorem dX0_changeWay_22 : decode cX0_changeWay 22 = .ok (.ireturn, 1) := by decide +kernel
theorem dX0_serveWaiting_0 : decode cX0_serveWaiting 0 = .ok (.iconst 0, 1) := by decide +kernel
theorem dX0_serveWaiting_1 : decode cX0_serveWaiting 1 = .ok (.istore_n 1, 1) := by decide +kernel
theorem dX0_serveWaiting_2 : decode cX0_serveWaiting 2 = .ok (.aload_n 0, 1) := by decide +kernel
theorem dX0_serveWaiting_3 : decode cX0_serveWaiting 3 = .ok (.getfield 28, 3) := by decide +kernel
theorem dX0_serveWaiting_6 : decode cX0_serveWaiting 6 = .ok (.getfield 105, 3) := by decide +kernel
theorem dX0_serveWaiting_9 : decode cX0_serveWaiting 9 = .ok (.istore_n 2, 1) := by decide +kernel
theorem dX0_serveWaiting_10 : decode cX0_serveWaiting 10 = .ok (.iconst 0, 1) := by decide +kernel
theorem dX0_serveWaiting_11 : decode cX0_serveWaiting 11 = .ok (.istore_n 3, 1) := by decide +kernel
theorem dX0_serveWaiting_12 : decode cX0_serveWaiting 12 = .ok (.iload_n 3, 1) := by decide +kernel
theorem dX0_serveWaiting_13 : decode cX0_serveWaiting 13 = .ok (.iload_n 2, 1) := by decide +kernel
theorem dX0_serveWaiting_14 : decode cX0_serveWaiting 14 = .ok (.if_icmp .ge 65, 3) := by decide +kernel
theorem dX0_serveWaiting_17 : decode cX0_serveWaiting 17 = .ok (.iload_n 3, 1) := by decide +kernel
theorem dX0_serveWaiting_18 : decode cX0_serveWaiting 18 = .ok (.iload_n 1, 1) := by decide +kernel
theorem dX0_serveWaiting_19 : decode cX0_serveWaiting 19 = .ok (.isub, 1) := by decide +kernel
theorem dX0_serveWaiting_20 : decode cX0_serveWaiting 20 = .ok (.istore 4, 2) := by decide +kernel
theorem dX0_serveWaiting_22 : decode cX0_serveWaiting 22 = .ok (.aload_n 0, 1) := by decide +kernel
theorem dX0_serveWaiting_23 : decode cX0_serveWaiting 23 = .ok (.aload_n 0, 1) := by decide +kernel
theorem dX0_serveWaiting_24 : decode cX0_serveWaiting 24 = .ok (.getfield 28, 3) := by decide +kernel
theorem dX0_serveWaiting_27 : decode cX0_serveWaiting 27 = .ok (.iload 4, 2) := by decide +kernel
theorem dX0_serveWaiting_29 : decode cX0_serveWaiting 29 = .ok (.invokevirtual 106, 3) := by decide +kernel
theorem dX0_serveWaiting_32 : decode cX0_serveWaiting 32 = .ok (.invokevirtual 61, 3) := by decide +kernel
theorem dX0_serveWaiting_35 : decode cX0_serveWaiting 35 = .ok (.ifCond .eq 38, 3) := by decide +kernel
theorem dX0_serveWaiting_38 : decode cX0_serveWaiting 38 = .ok (.aload_n 0, 1) := by decide +kernel
theorem dX0_serveWaiting_39 : decode cX0_serveWaiting 39 = .ok (.aload_n 0, 1) := by decide +kernel
theorem dX0_serveWaiting_40 : decode cX0_serveWaiting 40 = .ok (.getfield 28, 3) := by decide +kernel
theorem dX0_serveWaiting_43 : decode cX0_serveWaiting 43 = .ok (.iload 4, 2) := by decide +kernel
theorem dX0_serveWaiting_45 : decode cX0_serveWaiting 45 = .ok (.invokevirtual 109, 3) := by decide +kernel
theorem dX0_serveWaiting_48 : decode cX0_serveWaiting 48 = .ok (.aload_n 0, 1) := by decide +kernel
theorem dX0_serveWaiting_49 : decode cX0_serveWaiting 49 = .ok (.getfield 28, 3) := by decide +kernel
theorem dX0_serveWaiting_52 : decode cX0_serveWaiting 52 = .ok (.iload 4, 2) := by decide +kernel
theorem dX0_serveWaiting_54 : decode cX0_serveWaiting 54 = .ok (.invokevirtual 106, 3) := by decide +kernel
theorem dX0_serveWaiting_57 : decode cX0_serveWaiting 57 = .ok (.invokevirtual 65, 3) := by decide +kernel
theorem dX0_serveWaiting_60 : decode cX0_serveWaiting 60 = .ok (.pop, 1) := by decide +kernel
theorem dX0_serveWaiting_61 : decode cX0_serveWaiting 61 = .ok (.aload_n 0, 1) := by decide +kernel
theorem dX0_serveWaiting_62 : decode cX0_serveWaiting 62 = .ok (.getfield 28, 3) := by decide +kernel
theorem dX0_serveWaiting_65 : decode cX0_serveWaiting 65 = .ok (.iload 4, 2) := by decide +kernel
theorem dX0_serveWaiting_67 : decode cX0_serveWaiting 67 = .ok (.invokevirtual 110, 3) := by decide +kernel
theorem dX0_serveWaiting_70 : decode cX0_serveWaiting 70 = .ok (.iinc 1 1, 3) := by decide +kernel
theorem dX0_serveWaiting_73 : decode cX0_serveWaiting 73 = .ok (.iinc 3 1, 3) := by decide +kernel
theorem dX0_serveWaiting_76 : decode cX0_serveWaiting 76 = .ok (.goto (-64), 3) := by decide +kernel
theorem dX0_serveWaiting_79 : decode cX0_serveWaiting 79 = .ok (.iload_n 1, 1) := by decide +kernel
theorem dX0_serveWaiting_80 : decode cX0_serveWaiting 80 = .ok (.ireturn, 1) := by decide +kernel
theorem dX0_greatestSizeWithout_0 : decode cX0_greatestSizeWithout 0 = .ok (.aload_n 0, 1) := by decide +kernel
theorem dX0_greatestSizeWithout_1 : decode cX0_greatestSizeWithout 1 = .ok (.getfield 12, 3) := by decide +kernel
theorem dX0_greatestSizeWithout_4 : decode cX0_greatestSizeWithout 4 = .ok (.aload_n 0, 1) := by decide +kernel
theorem dX0_greatestSizeWithout_5 : decode cX0_greatestSizeWithout 5 = .ok (.getfield 21, 3) := by decide +kernel
theorem dX0_greatestSizeWithout_8 : decode cX0_greatestSizeWithout 8 = .ok (.iload_n 1, 1) := by decide +kernel
theorem dX0_greatestSizeWithout_9 : decode cX0_greatestSizeWithout 9 = .ok (.invokevirtual 69, 3) := by decide +kernel
theorem dX0_greatestSizeWithout_12 : decode cX0_greatestSizeWithout 12 = .ok (.aload_n 0, 1) := by decide +kernel
theorem dX0_greatestSizeWithout_13 : decode cX0_greatestSizeWithout 13 = .ok (.getfield 21, 3) := by decide +kernel
theorem dX0_greatestSizeWithout_16 : decode cX0_greatestSizeWithout 16 = .ok (.iload_n 1, 1) := by decide +kernel
theorem dX0_greatestSizeWithout_17 : decode cX0_greatestSizeWithout 17 = .ok (.invokevirtual 85, 3) := by decide +kernel
theorem dX0_greatestSizeWithout_20 : decode cX0_greatestSizeWithout 20 = .ok (.invokevirtual 111, 3) := by decide +kernel
theorem dX0_greatestSizeWithout_23 : decode cX0_greatestSizeWithout 23 = .ok (.istore_n 2, 1) := by decide +kernel
theorem dX0_greatestSizeWithout_24 : decode cX0_greatestSizeWithout 24 = .ok (.iload_n 2, 1) := by decide +kernel
theorem dX0_greatestSizeWithout_25 : decode cX0_greatestSizeWithout 25 = .ok (.aload_n 0, 1) := by decide +kernel
theorem dX0_greatestSizeWithout_26 : decode cX0_greatestSizeWithout 26 = .ok (.getfield 12, 3) := by decide +kernel
theorem dX0_greatestSizeWithout_29 : decode cX0_greatestSizeWithout 29 = .ok (.invokevirtual 46, 3) := by decide +kernel
theorem dX0_greatestSizeWithout_32 : decode cX0_greatestSizeWithout 32 = .ok (.invokestatic 114, 3) := by decide +kernel
theorem dX0_greatestSizeWithout_35 : decode cX0_greatestSizeWithout 35 = .ok (.ireturn, 1) := by decide +kernel
theorem dX0_pieceStart_0 : decode cX0_pieceStart 0 = .ok (.aload_n 0, 1) := by decide +kernel
theorem dX0_pieceStart_1 : decode cX0_pieceStart 1 = .ok (.getfield 21, 3) := by decide +kernel
theorem dX0_pieceStart_4 : decode cX0_pieceStart 4 = .ok (.iload_n 1, 1) := by decide +kernel
theorem dX0_pieceStart_5 : decode cX0_pieceStart 5 = .ok (.invokevirtual 119, 3) := by decide +kernel
theorem dX0_pieceStart_8 : decode cX0_pieceStart 8 = .ok (.istore_n 2, 1) := by decide +kernel
theorem dX0_pieceStart_9 : decode cX0_pieceStart 9 = .ok (.iload_n 2, 1) := by decide +kernel
theorem dX0_pieceStart_10 : decode cX0_pieceStart 10 = .ok (.ifCond .lt 14, 3) := by decide +kernel
theorem dX0_pieceStart_13 : decode cX0_pieceStart 13 = .ok (.aload_n 0, 1) := by decide +kernel
theorem dX0_pieceStart_14 : decode cX0_pieceStart 14 = .ok (.getfield 21, 3) := by decide +kernel
theorem dX0_pieceStart_17 : decode cX0_pieceStart 17 = .ok (.iload_n 2, 1) := by decide +kernel
theorem dX0_pieceStart_18 : decode cX0_pieceStart 18 = .ok (.invokevirtual 69, 3) := by decide +kernel
theorem dX0_pieceStart_21 : decode cX0_pieceStart 21 = .ok (.goto 11, 3) := by decide +kernel
theorem dX0_pieceStart_24 : decode cX0_pieceStart 24 = .ok (.aload_n 0, 1) := by decide +kernel
theorem dX0_pieceStart_25 : decode cX0_pieceStart 25 = .ok (.getfield 12, 3) := by decide +kernel
theorem dX0_pieceStart_28 : decode cX0_pieceStart 28 = .ok (.iload_n 1, 1) := by decide +kernel
theorem dX0_pieceStart_29 : decode cX0_pieceStart 29 = .ok (.invokevirtual 122, 3) := by decide +kernel
theorem dX0_pieceStart_32 : decode cX0_pieceStart 32 = .ok (.ireturn, 1) := by decide +kernel
theorem dX0_pieceSize_0 : decode cX0_pieceSize 0 = .ok (.aload_n 0, 1) := by decide +kernel
theorem dX0_pieceSize_1 : decode cX0_pieceSize 1 = .ok (.getfield 21, 3) := by decide +kernel
theorem dX0_pieceSize_4 : decode cX0_pieceSize 4 = .ok (.iload_n 1, 1) := by decide +kernel
theorem dX0_pieceSize_5 : decode cX0_pieceSize 5 = .ok (.invokevirtual 119, 3) := by decide +kernel
theorem dX0_pieceSize_8 : decode cX0_pieceSize 8 = .ok (.istore_n 2, 1) := by decide +kernel
theorem dX0_pieceSize_9 : decode cX0_pieceSize 9 = .ok (.iload_n 2, 1) := by decide +kernel
theorem dX0_pieceSize_10 : decode cX0_pieceSize 10 = .ok (.ifCond .lt 14, 3) := by decide +kernel
theorem dX0_pieceSize_13 : decode cX0_pieceSize 13 = .ok (.aload_n 0, 1) := by decide +kernel
theorem dX0_pieceSize_14 : decode cX0_pieceSize 14 = .ok (.getfield 21, 3) := by decide +kernel
theorem dX0_pieceSize_17 : decode cX0_pieceSize 17 = .ok (.iload_n 2, 1) := by decide +kernel
theorem dX0_pieceSize_18 : decode cX0_pieceSize 18 = .ok (.invokevirtual 85, 3) := by decide +kernel
theorem dX0_pieceSize_21 : decode cX0_pieceSize 21 = .ok (.goto 18, 3) := by decide +kernel
theorem dX0_pieceSize_24 : decode cX0_pieceSize 24 = .ok (.aload_n 0, 1) := by decide +kernel
theorem dX0_pieceSize_25 : decode cX0_pieceSize 25 = .ok (.getfield 12, 3) := by decide +kernel
theorem dX0_pieceSize_28 : decode cX0_pieceSize 28 = .ok (.aload_n 0, 1) := by decide +kernel
theorem dX0_pieceSize_29 : decode cX0_pieceSize 29 = .ok (.getfield 12, 3) := by decide +kernel
theorem dX0_pieceSize_32 : decode cX0_pieceSize 32 = .ok (.iload_n 1, 1) := by decide +kernel
theorem dX0_pieceSize_33 : decode cX0_pieceSize 33 = .ok (.invokevirtual 122, 3) := by decide +kernel
theorem dX0_pieceSize_36 : decode cX0_pieceSize 36 = .ok (.invokevirtual 125, 3) := by decide +kernel
theorem dX0_pieceSize_39 : decode cX0_pieceSize 39 = .ok (.ireturn, 1) := by decide +kernel
theorem dX0_countFreeParts_0 : decode cX0_countFreeParts 0 = .ok (.iconst 0, 1) := by decide +kernel
theorem dX0_countFreeParts_1 : decode cX0_countFreeParts 1 = .ok (.istore_n 2, 1) := by decide +kernel
theorem dX0_countFreeParts_2 : decode cX0_countFreeParts 2 = .ok (.iconst 0, 1) := by decide +kernel
theorem dX0_countFreeParts_3 : decode cX0_countFreeParts 3 = .ok (.istore_n 3, 1) := by decide +kernel
theorem dX0_countFreeParts_4 : decode cX0_countFreeParts 4 = .ok (.iload_n 1, 1) := by decide +kernel
theorem dX0_countFreeParts_5 : decode cX0_countFreeParts 5 = .ok (.iconst 1, 1) := by decide +kernel
theorem dX0_countFreeParts_6 : decode cX0_countFreeParts 6 = .ok (.if_icmp .lt 40, 3) := by decide +kernel
theorem dX0_countFreeParts_9 : decode cX0_countFreeParts 9 = .ok (.iload_n 3, 1) := by decide +kernel
theorem dX0_countFreeParts_10 : decode cX0_countFreeParts 10 = .ok (.bipush 64, 2) := by decide +kernel
theorem dX0_countFreeParts_12 : decode cX0_countFreeParts 12 = .ok (.if_icmp .ge 34, 3) := by decide +kernel
theorem dX0_countFreeParts_15 : decode cX0_countFreeParts 15 = .ok (.aload_n 0, 1) := by decide +kernel
theorem dX0_countFreeParts_16 : decode cX0_countFreeParts 16 = .ok (.getfield 21, 3) := by decide +kernel
theorem dX0_countFreeParts_19 : decode cX0_countFreeParts 19 = .ok (.iload_n 3, 1) := by decide +kernel
theorem dX0_countFreeParts_20 : decode cX0_countFreeParts 20 = .ok (.iload_n 1, 1) := by decide +kernel
theorem dX0_countFreeParts_21 : decode cX0_countFreeParts 21 = .ok (.invokevirtual 126, 3) := by decide +kernel
theorem dX0_countFreeParts_24 : decode cX0_countFreeParts 24 = .ok (.ifCond .ne 15, 3) := by decide +kernel
theorem dX0_countFreeParts_27 : decode cX0_countFreeParts 27 = .ok (.aload_n 0, 1) := by decide +kernel
theorem dX0_countFreeParts_28 : decode cX0_countFreeParts 28 = .ok (.iload_n 3, 1) := by decide +kernel
theorem dX0_countFreeParts_29 : decode cX0_countFreeParts 29 = .ok (.iload_n 1, 1) := by decide +kernel
theorem dX0_countFreeParts_30 : decode cX0_countFreeParts 30 = .ok (.invokevirtual 129, 3) := by decide +kernel
theorem dX0_countFreeParts_33 : decode cX0_countFreeParts 33 = .ok (.ifCond .eq 6, 3) := by decide +kernel
theorem dX0_countFreeParts_36 : decode cX0_countFreeParts 36 = .ok (.iinc 2 1, 3) := by decide +kernel
theorem dX0_countFreeParts_39 : decode cX0_countFreeParts 39 = .ok (.iload_n 3, 1) := by decide +kernel
theorem dX0_countFreeParts_40 : decode cX0_countFreeParts 40 = .ok (.iload_n 1, 1) := by decide +kernel
theorem dX0_countFreeParts_41 : decode cX0_countFreeParts 41 = .ok (.iadd, 1) := by decide +kernel
theorem dX0_countFreeParts_42 : decode cX0_countFreeParts 42 = .ok (.istore_n 3, 1) := by decide +kernel
theorem dX0_countFreeParts_43 : decode cX0_countFreeParts 43 = .ok (.goto (-39), 3) := by decide +kernel
theorem dX0_countFreeParts_46 : decode cX0_countFreeParts 46 = .ok (.iload_n 2, 1) := by decide +kernel
theorem dX0_countFreeParts_47 : decode cX0_countFreeParts 47 = .ok (.ireturn, 1) := by decide +kernel
theorem dX0_isBoardOrHalfOfMixed_0 : decode cX0_isBoardOrHalfOfMixed 0 = .ok (.iload_n 2, 1) := by decide +kernel
theorem dX0_isBoardOrHalfOfMixed_1 : decode cX0_isBoardOrHalfOfMixed 1 = .ok (.bipush 64, 2) := by decide +kernel
theorem dX0_isBoardOrHalfOfMixed_3 : decode cX0_isBoardOrHalfOfMixed 3 = .ok (.if_icmp .eq 23, 3) := by decide +kernel
theorem dX0_isBoardOrHalfOfMixed_6 : decode cX0_isBoardOrHalfOfMixed 6 = .ok (.aload_n 0, 1) := by decide +kernel
theorem dX0_isBoardOrHalfOfMixed_7 : decode cX0_isBoardOrHalfOfMixed 7 = .ok (.getfield 21, 3) := by decide +kernel
theorem dX0_isBoardOrHalfOfMixed_10 : decode cX0_isBoardOrHalfOfMixed 10 = .ok (.iload_n 1, 1) := by decide +kernel
theorem dX0_isBoardOrHalfOfMixed_11 : decode cX0_isBoardOrHalfOfMixed 11 = .ok (.iconst 2, 1) := by decide +kernel
theorem dX0_isBoardOrHalfOfMixed_12 : decode cX0_isBoardOrHalfOfMixed 12 = .ok (.iload_n 2, 1) := by decide +kernel
theorem dX0_isBoardOrHalfOfMixed_13 : decode cX0_isBoardOrHalfOfMixed 13 = .ok (.imul, 1) := by decide +kernel
theorem dX0_isBoardOrHalfOfMixed_14 : decode cX0_isBoardOrHalfOfMixed 14 = .ok (.invokestatic 133, 3) := by decide +kernel
theorem dX0_isBoardOrHalfOfMixed_17 : decode cX0_isBoardOrHalfOfMixed 17 = .ok (.iconst 2, 1) := by decide +kernel
theorem dX0_isBoardOrHalfOfMixed_18 : decode cX0_isBoardOrHalfOfMixed 18 = .ok (.iload_n 2, 1) := by decide +kernel
theorem dX0_isBoardOrHalfOfMixed_19 : decode cX0_isBoardOrHalfOfMixed 19 = .ok (.imul, 1) := by decide +kernel
theorem dX0_isBoardOrHalfOfMixed_20 : decode cX0_isBoardOrHalfOfMixed 20 = .ok (.invokevirtual 126, 3) := by decide +kernel
theorem dX0_isBoardOrHalfOfMixed_23 : decode cX0_isBoardOrHalfOfMixed 23 = .ok (.ifCond .le 7, 3) := by decide +kernel
theorem dX0_isBoardOrHalfOfMixed_26 : decode cX0_isBoardOrHalfOfMixed 26 = .ok (.iconst 1, 1) := by decide +kernel
theorem dX0_isBoardOrHalfOfMixed_27 : decode cX0_isBoardOrHalfOfMixed 27 = .ok (.goto 4, 3) := by decide +kernel
theorem dX0_isBoardOrHalfOfMixed_30 : decode cX0_isBoardOrHalfOfMixed 30 = .ok (.iconst 0, 1) := by decide +kernel
theorem dX0_isBoardOrHalfOfMixed_31 : decode cX0_isBoardOrHalfOfMixed 31 = .ok (.ireturn, 1) := by decide +kernel
theorem dX0_isCovered_0 : decode cX0_isCovered 0 = .ok (.iconst 0, 1) := by decide +kernel
theorem dX0_isCovered_1 : decode cX0_isCovered 1 = .ok (.istore_n 1, 1) := by decide +kernel
theorem dX0_isCovered_2 : decode cX0_isCovered 2 = .ok (.iload_n 1, 1) := by decide +kernel
theorem dX0_isCovered_3 : decode cX0_isCovered 3 = .ok (.bipush 64, 2) := by decide +kernel
theorem dX0_isCovered_5 : decode cX0_isCovered 5 = .ok (.if_icmp .ge 33, 3) := by decide +kernel
theorem dX0_isCovered_8 : decode cX0_isCovered 8 = .ok (.aload_n 0, 1) := by decide +kernel
theorem dX0_isCovered_9 : decode cX0_isCovered 9 = .ok (.getfield 21, 3) := by decide +kernel
theorem dX0_isCovered_12 : decode cX0_isCovered 12 = .ok (.iload_n 1, 1) := by decide +kernel
theorem dX0_isCovered_13 : decode cX0_isCovered 13 = .ok (.iconst 1, 1) := by decide +kernel
theorem dX0_isCovered_14 : decode cX0_isCovered 14 = .ok (.invokevirtual 126, 3) := by decide +kernel
theorem dX0_isCovered_17 : decode cX0_isCovered 17 = .ok (.aload_n 0, 1) := by decide +kernel
theorem dX0_isCovered_18 : decode cX0_isCovered 18 = .ok (.getfield 12, 3) := by decide +kernel
theorem dX0_isCovered_21 : decode cX0_isCovered 21 = .ok (.iload_n 1, 1) := by decide +kernel
theorem dX0_isCovered_22 : decode cX0_isCovered 22 = .ok (.invokevirtual 136, 3) := by decide +kernel
theorem dX0_isCovered_25 : decode cX0_isCovered 25 = .ok (.iadd, 1) := by decide +kernel
theorem dX0_isCovered_26 : decode cX0_isCovered 26 = .ok (.iconst 1, 1) := by decide +kernel
theorem dX0_isCovered_27 : decode cX0_isCovered 27 = .ok (.if_icmp .eq 5, 3) := by decide +kernel
theorem dX0_isCovered_30 : decode cX0_isCovered 30 = .ok (.iconst 0, 1) := by decide +kernel
theorem dX0_isCovered_31 : decode cX0_isCovered 31 = .ok (.ireturn, 1) := by decide +kernel
theorem dX0_isCovered_32 : decode cX0_isCovered 32 = .ok (.iinc 1 1, 3) := by decide +kernel
theorem dX0_isCovered_35 : decode cX0_isCovered 35 = .ok (.goto (-33), 3) := by decide +kernel
theorem dX0_isCovered_38 : decode cX0_isCovered 38 = .ok (.iconst 1, 1) := by decide +kernel
theorem dX0_isCovered_39 : decode cX0_isCovered 39 = .ok (.ireturn, 1) := by decide +kernel
theorem dX0_isCountedAlike_0 : decode cX0_isCountedAlike 0 = .ok (.iconst 1, 1) := by decide +kernel
theorem dX0_isCountedAlike_1 : decode cX0_isCountedAlike 1 = .ok (.istore_n 1, 1) := by decide +kernel
theorem dX0_isCountedAlike_2 : decode cX0_isCountedAlike 2 = .ok (.iload_n 1, 1) := by decide +kernel
theorem dX0_isCountedAlike_3 : decode cX0_isCountedAlike 3 = .ok (.bipush 64, 2) := by decide +kernel
theorem dX0_isCountedAlike_5 : decode cX0_isCountedAlike 5 = .ok (.if_icmp .gt 28, 3) := by decide +kernel
theorem dX0_isCountedAlike_8 : decode cX0_isCountedAlike 8 = .ok (.aload_n 0, 1) := by decide +kernel
theorem dX0_isCountedAlike_9 : decode cX0_isCountedAlike 9 = .ok (.getfield 12, 3) := by decide +kernel
theorem dX0_isCountedAlike_12 : decode cX0_isCountedAlike 12 = .ok (.iload_n 1, 1) := by decide +kernel
theorem dX0_isCountedAlike_13 : decode cX0_isCountedAlike 13 = .ok (.invokevirtual 139, 3) := by decide +kernel
theorem dX0_isCountedAlike_16 : decode cX0_isCountedAlike 16 = .ok (.aload_n 0, 1) := by decide +kernel
theorem dX0_isCountedAlike_17 : decode cX0_isCountedAlike 17 = .ok (.iload_n 1, 1) := by decide +kernel
theorem dX0_isCountedAlike_18 : decode cX0_isCountedAlike 18 = .ok (.invokevirtual 142, 3) := by decide +kernel
theorem dX0_isCountedAlike_21 : decode cX0_isCountedAlike 21 = .ok (.if_icmp .eq 5, 3) := by decide +kernel
theorem dX0_isCountedAlike_24 : decode cX0_isCountedAlike 24 = .ok (.iconst 0, 1) := by decide +kernel
theorem dX0_isCountedAlike_25 : decode cX0_isCountedAlike 25 = .ok (.ireturn, 1) := by decide +kernel
theorem dX0_isCountedAlike_26 : decode cX0_isCountedAlike 26 = .ok (.iload_n 1, 1) := by decide +kernel
theorem dX0_isCountedAlike_27 : decode cX0_isCountedAlike 27 = .ok (.iconst 2, 1) := by decide +kernel
theorem dX0_isCountedAlike_28 : decode cX0_isCountedAlike 28 = .ok (.imul, 1) := by decide +kernel
theorem dX0_isCountedAlike_29 : decode cX0_isCountedAlike 29 = .ok (.istore_n 1, 1) := by decide +kernel
theorem dX0_isCountedAlike_30 : decode cX0_isCountedAlike 30 = .ok (.goto (-28), 3) := by decide +kernel
theorem dX0_isCountedAlike_33 : decode cX0_isCountedAlike 33 = .ok (.iconst 1, 1) := by decide +kernel
theorem dX0_isCountedAlike_34 : decode cX0_isCountedAlike 34 = .ok (.ireturn, 1) := by decide +kernel
theorem dX0_isSomebodyLeft_0 : decode cX0_isSomebodyLeft 0 = .ok (.iconst 0, 1) := by decide +kernel
theorem dX0_isSomebodyLeft_1 : decode cX0_isSomebodyLeft 1 = .ok (.istore_n 1, 1) := by decide +kernel
theorem dX0_isSomebodyLeft_2 : decode cX0_isSomebodyLeft 2 = .ok (.iload_n 1, 1) := by decide +kernel
theorem dX0_isSomebodyLeft_3 : decode cX0_isSomebodyLeft 3 = .ok (.aload_n 0, 1) := by decide +kernel
theorem dX0_isSomebodyLeft_4 : decode cX0_isSomebodyLeft 4 = .ok (.getfield 28, 3) := by decide +kernel
theorem dX0_isSomebodyLeft_7 : decode cX0_isSomebodyLeft 7 = .ok (.getfield 105, 3) := by decide +kernel
theorem dX0_isSomebodyLeft_10 : decode cX0_isSomebodyLeft 10 = .ok (.if_icmp .ge 26, 3) := by decide +kernel
theorem dX0_isSomebodyLeft_13 : decode cX0_isSomebodyLeft 13 = .ok (.aload_n 0, 1) := by decide +kernel
theorem dX0_isSomebodyLeft_14 : decode cX0_isSomebodyLeft 14 = .ok (.aload_n 0, 1) := by decide +kernel
theorem dX0_isSomebodyLeft_15 : decode cX0_isSomebodyLeft 15 = .ok (.getfield 28, 3) := by decide +kernel
theorem dX0_isSomebodyLeft_18 : decode cX0_isSomebodyLeft 18 = .ok (.iload_n 1, 1) := by decide +kernel
theorem dX0_isSomebodyLeft_19 : decode cX0_isSomebodyLeft 19 = .ok (.invokevirtual 106, 3) := by decide +kernel
theorem dX0_isSomebodyLeft_22 : decode cX0_isSomebodyLeft 22 = .ok (.invokevirtual 61, 3) := by decide +kernel
theorem dX0_isSomebodyLeft_25 : decode cX0_isSomebodyLeft 25 = .ok (.ifCond .eq 5, 3) := by decide +kernel
theorem dX0_isSomebodyLeft_28 : decode cX0_isSomebodyLeft 28 = .ok (.iconst 1, 1) := by decide +kernel
theorem dX0_isSomebodyLeft_29 : decode cX0_isSomebodyLeft 29 = .ok (.ireturn, 1) := by decide +kernel
theorem dX0_isSomebodyLeft_30 : decode cX0_isSomebodyLeft 30 = .ok (.iinc 1 1, 3) := by decide +kernel
theorem dX0_isSomebodyLeft_33 : decode cX0_isSomebodyLeft 33 = .ok (.goto (-31), 3) := by decide +kernel
theorem dX0_isSomebodyLeft_36 : decode cX0_isSomebodyLeft 36 = .ok (.iconst 0, 1) := by decide +kernel
theorem dX0_isSomebodyLeft_37 : decode cX0_isSomebodyLeft 37 = .ok (.ireturn, 1) := by decide +kernel
theorem dX0_writePieces_0 : decode cX0_writePieces 0 = .ok (.aload_n 1, 1) := by decide +kernel
theorem dX0_writePieces_1 : decode cX0_writePieces 1 = .ok (.invokevirtual 145, 3) := by decide +kernel
theorem dX0_writePieces_4 : decode cX0_writePieces 4 = .ok (.iconst 0, 1) := by decide +kernel
theorem dX0_writePieces_5 : decode cX0_writePieces 5 = .ok (.istore_n 2, 1) := by decide +kernel
theorem dX0_writePieces_6 : decode cX0_writePieces 6 = .ok (.iload_n 2, 1) := by decide +kernel
theorem dX0_writePieces_7 : decode cX0_writePieces 7 = .ok (.bipush 64, 2) := by decide +kernel
theorem dX0_writePieces_9 : decode cX0_writePieces 9 = .ok (.if_icmp .ge 34, 3) := by decide +kernel
theorem dX0_writePieces_12 : decode cX0_writePieces 12 = .ok (.aload_n 0, 1) := by decide +kernel
theorem dX0_writePieces_13 : decode cX0_writePieces 13 = .ok (.iload_n 2, 1) := by decide +kernel
theorem dX0_writePieces_14 : decode cX0_writePieces 14 = .ok (.invokevirtual 150, 3) := by decide +kernel
theorem dX0_writePieces_17 : decode cX0_writePieces 17 = .ok (.iload_n 2, 1) := by decide +kernel
theorem dX0_writePieces_18 : decode cX0_writePieces 18 = .ok (.if_icmp .ne 19, 3) := by decide +kernel
theorem dX0_writePieces_21 : decode cX0_writePieces 21 = .ok (.iload_n 2, 1) := by decide +kernel
theorem dX0_writePieces_22 : decode cX0_writePieces 22 = .ok (.ifCond .le 9, 3) := by decide +kernel
theorem dX0_writePieces_25 : decode cX0_writePieces 25 = .ok (.aload_n 1, 1) := by decide +kernel
theorem dX0_writePieces_26 : decode cX0_writePieces 26 = .ok (.bipush 32, 2) := by decide +kernel
theorem dX0_writePieces_28 : decode cX0_writePieces 28 = .ok (.invokevirtual 153, 3) := by decide +kernel
theorem dX0_writePieces_31 : decode cX0_writePieces 31 = .ok (.aload_n 0, 1) := by decide +kernel
theorem dX0_writePieces_32 : decode cX0_writePieces 32 = .ok (.aload_n 1, 1) := by decide +kernel
theorem dX0_writePieces_33 : decode cX0_writePieces 33 = .ok (.iload_n 2, 1) := by decide +kernel
theorem dX0_writePieces_34 : decode cX0_writePieces 34 = .ok (.invokevirtual 156, 3) := by decide +kernel
theorem dX0_writePieces_37 : decode cX0_writePieces 37 = .ok (.iinc 2 1, 3) := by decide +kernel
theorem dX0_writePieces_40 : decode cX0_writePieces 40 = .ok (.goto (-34), 3) := by decide +kernel
theorem dX0_writePieces_43 : decode cX0_writePieces 43 = .ok (.return_, 1) := by decide +kernel
theorem dX0_writePiece_0 : decode cX0_writePiece 0 = .ok (.aload_n 0, 1) := by decide +kernel
theorem dX0_writePiece_1 : decode cX0_writePiece 1 = .ok (.getfield 21, 3) := by decide +kernel
theorem dX0_writePiece_4 : decode cX0_writePiece 4 = .ok (.iload_n 2, 1) := by decide +kernel
theorem dX0_writePiece_5 : decode cX0_writePiece 5 = .ok (.invokevirtual 119, 3) := by decide +kernel
theorem dX0_writePiece_8 : decode cX0_writePiece 8 = .ok (.istore_n 3, 1) := by decide +kernel
theorem dX0_writePiece_9 : decode cX0_writePiece 9 = .ok (.aload_n 1, 1) := by decide +kernel
theorem dX0_writePiece_10 : decode cX0_writePiece 10 = .ok (.aload_n 0, 1) := by decide +kernel
theorem dX0_writePiece_11 : decode cX0_writePiece 11 = .ok (.iload_n 2, 1) := by decide +kernel
theorem dX0_writePiece_12 : decode cX0_writePiece 12 = .ok (.invokevirtual 160, 3) := by decide +kernel
theorem dX0_writePiece_15 : decode cX0_writePiece 15 = .ok (.invokevirtual 163, 3) := by decide +kernel
theorem dX0_writePiece_18 : decode cX0_writePiece 18 = .ok (.iload_n 3, 1) := by decide +kernel
theorem dX0_writePiece_19 : decode cX0_writePiece 19 = .ok (.ifCond .ge 12, 3) := by decide +kernel
theorem dX0_writePiece_22 : decode cX0_writePiece 22 = .ok (.aload_n 1, 1) := by decide +kernel
theorem dX0_writePiece_23 : decode cX0_writePiece 23 = .ok (.bipush 46, 2) := by decide +kernel
theorem dX0_writePiece_25 : decode cX0_writePiece 25 = .ok (.invokevirtual 153, 3) := by decide +kernel
theorem dX0_writePiece_28 : decode cX0_writePiece 28 = .ok (.goto 14, 3) := by decide +kernel
theorem dX0_writePiece_31 : decode cX0_writePiece 31 = .ok (.aload_n 1, 1) := by decide +kernel
theorem dX0_writePiece_32 : decode cX0_writePiece 32 = .ok (.bipush 61, 2) := by decide +kernel
theorem dX0_writePiece_34 : decode cX0_writePiece 34 = .ok (.invokevirtual 153, 3) := by decide +kernel
theorem dX0_writePiece_37 : decode cX0_writePiece 37 = .ok (.aload_n 1, 1) := by decide +kernel
theorem dX0_writePiece_38 : decode cX0_writePiece 38 = .ok (.iload_n 3, 1) := by decide +kernel
theorem dX0_writePiece_39 : decode cX0_writePiece 39 = .ok (.invokevirtual 163, 3) := by decide +kernel
theorem dX0_writePiece_42 : decode cX0_writePiece 42 = .ok (.return_, 1) := by decide +kernel
theorem dX0_writeUnits_0 : decode cX0_writeUnits 0 = .ok (.aload_n 1, 1) := by decide +kernel
theorem dX0_writeUnits_1 : decode cX0_writeUnits 1 = .ok (.invokevirtual 145, 3) := by decide +kernel
theorem dX0_writeUnits_4 : decode cX0_writeUnits 4 = .ok (.iconst 0, 1) := by decide +kernel
theorem dX0_writeUnits_5 : decode cX0_writeUnits 5 = .ok (.istore_n 2, 1) := by decide +kernel
theorem dX0_writeUnits_6 : decode cX0_writeUnits 6 = .ok (.iload_n 2, 1) := by decide +kernel
theorem dX0_writeUnits_7 : decode cX0_writeUnits 7 = .ok (.bipush 64, 2) := by decide +kernel
theorem dX0_writeUnits_9 : decode cX0_writeUnits 9 = .ok (.if_icmp .ge 36, 3) := by decide +kernel
theorem dX0_writeUnits_12 : decode cX0_writeUnits 12 = .ok (.aload_n 0, 1) := by decide +kernel
theorem dX0_writeUnits_13 : decode cX0_writeUnits 13 = .ok (.getfield 21, 3) := by decide +kernel
theorem dX0_writeUnits_16 : decode cX0_writeUnits 16 = .ok (.iload_n 2, 1) := by decide +kernel
theorem dX0_writeUnits_17 : decode cX0_writeUnits 17 = .ok (.invokevirtual 119, 3) := by decide +kernel
theorem dX0_writeUnits_20 : decode cX0_writeUnits 20 = .ok (.istore_n 3, 1) := by decide +kernel
theorem dX0_writeUnits_21 : decode cX0_writeUnits 21 = .ok (.aload_n 1, 1) := by decide +kernel
theorem dX0_writeUnits_22 : decode cX0_writeUnits 22 = .ok (.iload_n 3, 1) := by decide +kernel
theorem dX0_writeUnits_23 : decode cX0_writeUnits 23 = .ok (.ifCond .ge 8, 3) := by decide +kernel
theorem dX0_writeUnits_26 : decode cX0_writeUnits 26 = .ok (.bipush 46, 2) := by decide +kernel
theorem dX0_writeUnits_28 : decode cX0_writeUnits 28 = .ok (.goto 8, 3) := by decide +kernel
theorem dX0_writeUnits_31 : decode cX0_writeUnits 31 = .ok (.bipush 97, 2) := by decide +kernel
theorem dX0_writeUnits_33 : decode cX0_writeUnits 33 = .ok (.iload_n 3, 1) := by decide +kernel
theorem dX0_writeUnits_34 : decode cX0_writeUnits 34 = .ok (.iadd, 1) := by decide +kernel
theorem dX0_writeUnits_35 : decode cX0_writeUnits 35 = .ok (.i2c, 1) := by decide +kernel
theorem dX0_writeUnits_36 : decode cX0_writeUnits 36 = .ok (.invokevirtual 153, 3) := by decide +kernel
theorem dX0_writeUnits_39 : decode cX0_writeUnits 39 = .ok (.iinc 2 1, 3) := by decide +kernel
theorem dX0_writeUnits_42 : decode cX0_writeUnits 42 = .ok (.goto (-36), 3) := by decide +kernel
theorem dX0_writeUnits_45 : decode cX0_writeUnits 45 = .ok (.return_, 1) := by decide +kernel
theorem dX1_init_0 : decode cX1_init 0 = .ok (.aload_n 0, 1) := by decide +kernel
theorem dX1_init_1 : decode cX1_init 1 = .ok (.invokespecial 3, 3) := by decide +kernel
theorem dX1_init_4 : decode cX1_init 4 = .ok (.aload_n 0, 1) := by decide +kernel
theorem dX1_init_5 : decode cX1_init 5 = .ok (.bipush 8, 2) := by decide +kernel
theorem dX1_init_7 : decode cX1_init 7 = .ok (.anewarray 9, 3) := by decide +kernel
theorem dX1_init_10 : decode cX1_init 10 = .ok (.putfield 11, 3) := by decide +kernel
theorem dX1_init_13 : decode cX1_init 13 = .ok (.aload_n 0, 1) := by decide +kernel
theorem dX1_init_14 : decode cX1_init 14 = .ok (.iconst 0, 1) := by decide +kernel
theorem dX1_init_15 : decode cX1_init 15 = .ok (.putfield 17, 3) := by decide +kernel
theorem dX1_init_18 : decode cX1_init 18 = .ok (.aload_n 0, 1) := by decide +kernel
theorem dX1_init_19 : decode cX1_init 19 = .ok (.iconst 0, 1) := by decide +kernel
theorem dX1_init_20 : decode cX1_init 20 = .ok (.putfield 21, 3) := by decide +kernel
theorem dX1_init_23 : decode cX1_init 23 = .ok (.iconst 0, 1) := by decide +kernel
theorem dX1_init_24 : decode cX1_init 24 = .ok (.istore_n 1, 1) := by decide +kernel
theorem dX1_init_25 : decode cX1_init 25 = .ok (.iload_n 1, 1) := by decide +kernel
theorem dX1_init_26 : decode cX1_init 26 = .ok (.bipush 8, 2) := by decide +kernel
theorem dX1_init_28 : decode cX1_init 28 = .ok (.if_icmp .ge 22, 3) := by decide +kernel
theorem dX1_init_31 : decode cX1_init 31 = .ok (.aload_n 0, 1) := by decide +kernel
theorem dX1_init_32 : decode cX1_init 32 = .ok (.getfield 11, 3) := by decide +kernel
theorem dX1_init_35 : decode cX1_init 35 = .ok (.iload_n 1, 1) := by decide +kernel
theorem dX1_init_36 : decode cX1_init 36 = .ok (.new 9, 3) := by decide +kernel
theorem dX1_init_39 : decode cX1_init 39 = .ok (.dup, 1) := by decide +kernel
theorem dX1_init_40 : decode cX1_init 40 = .ok (.invokespecial 24, 3) := by decide +kernel
theorem dX1_init_43 : decode cX1_init 43 = .ok (.aastore, 1) := by decide +kernel
theorem dX1_init_44 : decode cX1_init 44 = .ok (.iinc 1 1, 3) := by decide +kernel
theorem dX1_init_47 : decode cX1_init 47 = .ok (.goto (-22), 3) := by decide +kernel
theorem dX1_init_50 : decode cX1_init 50 = .ok (.return_, 1) := by decide +kernel
theorem dX1_keep_0 : decode cX1_keep 0 = .ok (.aload_n 0, 1) := by decide +kernel
theorem dX1_keep_1 : decode cX1_keep 1 = .ok (.aload_n 0, 1) := by decide +kernel
theorem dX1_keep_2 : decode cX1_keep 2 = .ok (.getfield 17, 3) := by decide +kernel
theorem dX1_keep_5 : decode cX1_keep 5 = .ok (.invokevirtual 25, 3) := by decide +kernel
theorem dX1_keep_8 : decode cX1_keep 8 = .ok (.astore_n 2, 1) := by decide +kernel
theorem dX1_keep_9 : decode cX1_keep 9 = .ok (.aload_n 2, 1) := by decide +kernel
theorem dX1_keep_10 : decode cX1_keep 10 = .ok (.ifnull 48, 3) := by decide +kernel
theorem dX1_keep_13 : decode cX1_keep 13 = .ok (.aload_n 2, 1) := by decide +kernel
theorem dX1_keep_14 : decode cX1_keep 14 = .ok (.aload_n 1, 1) := by decide +kernel
theorem dX1_keep_15 : decode cX1_keep 15 = .ok (.invokevirtual 29, 3) := by decide +kernel
theorem dX1_keep_18 : decode cX1_keep 18 = .ok (.aload_n 0, 1) := by decide +kernel
theorem dX1_keep_19 : decode cX1_keep 19 = .ok (.aload_n 0, 1) := by decide +kernel
theorem dX1_keep_20 : decode cX1_keep 20 = .ok (.getfield 17, 3) := by decide +kernel
theorem dX1_keep_23 : decode cX1_keep 23 = .ok (.iconst 1, 1) := by decide +kernel
theorem dX1_keep_24 : decode cX1_keep 24 = .ok (.iadd, 1) := by decide +kernel
theorem dX1_keep_25 : decode cX1_keep 25 = .ok (.bipush 8, 2) := by decide +kernel
theorem dX1_keep_27 : decode cX1_keep 27 = .ok (.if_icmp .ge 12, 3) := by decide +kernel
theorem dX1_keep_30 : decode cX1_keep 30 = .ok (.aload_n 0, 1) := by decide +kernel
theorem dX1_keep_31 : decode cX1_keep 31 = .ok (.getfield 17, 3) := by decide +kernel
theorem dX1_keep_34 : decode cX1_keep 34 = .ok (.iconst 1, 1) := by decide +kernel
theorem dX1_keep_35 : decode cX1_keep 35 = .ok (.iadd, 1) := by decide +kernel
theorem dX1_keep_36 : decode cX1_keep 36 = .ok (.goto 4, 3) := by decide +kernel
theorem dX1_keep_39 : decode cX1_keep 39 = .ok (.iconst 0, 1) := by decide +kernel
theorem dX1_keep_40 : decode cX1_keep 40 = .ok (.putfield 17, 3) := by decide +kernel
theorem dX1_keep_43 : decode cX1_keep 43 = .ok (.aload_n 0, 1) := by decide +kernel
theorem dX1_keep_44 : decode cX1_keep 44 = .ok (.aload_n 0, 1) := by decide +kernel
theorem dX1_keep_45 : decode cX1_keep 45 = .ok (.getfield 21, 3) := by decide +kernel
theorem dX1_keep_48 : decode cX1_keep 48 = .ok (.iconst 1, 1) := by decide +kernel
theorem dX1_keep_49 : decode cX1_keep 49 = .ok (.iadd, 1) := by decide +kernel
theorem dX1_keep_50 : decode cX1_keep 50 = .ok (.bipush 8, 2) := by decide +kernel
theorem dX1_keep_52 : decode cX1_keep 52 = .ok (.invokestatic 33, 3) := by decide +kernel
theorem dX1_keep_55 : decode cX1_keep 55 = .ok (.putfield 21, 3) := by decide +kernel
theorem dX1_keep_58 : decode cX1_keep 58 = .ok (.return_, 1) := by decide +kernel
theorem dX1_takeBack_0 : decode cX1_takeBack 0 = .ok (.aload_n 0, 1) := by decide +kernel
theorem dX1_takeBack_1 : decode cX1_takeBack 1 = .ok (.getfield 17, 3) := by decide +kernel
theorem dX1_takeBack_4 : decode cX1_takeBack 4 = .ok (.ifCond .le 12, 3) := by decide +kernel
theorem dX1_takeBack_7 : decode cX1_takeBack 7 = .ok (.aload_n 0, 1) := by decide +kernel
theorem dX1_takeBack_8 : decode cX1_takeBack 8 = .ok (.getfield 17, 3) := by decide +kernel
theorem dX1_takeBack_11 : decode cX1_takeBack 11 = .ok (.iconst 1, 1) := by decide +kernel
theorem dX1_takeBack_12 : decode cX1_takeBack 12 = .ok (.isub, 1) := by decide +kernel
theorem dX1_takeBack_13 : decode cX1_takeBack 13 = .ok (.goto 5, 3) := by decide +kernel
theorem dX1_takeBack_16 : decode cX1_takeBack 16 = .ok (.bipush 7, 2) := by decide +kernel
theorem dX1_takeBack_18 : decode cX1_takeBack 18 = .ok (.istore_n 2, 1) := by decide +kernel
theorem dX1_takeBack_19 : decode cX1_takeBack 19 = .ok (.aload_n 0, 1) := by decide +kernel
theorem dX1_takeBack_20 : decode cX1_takeBack 20 = .ok (.iload_n 2, 1) := by decide +kernel
theorem dX1_takeBack_21 : decode cX1_takeBack 21 = .ok (.invokevirtual 25, 3) := by decide +kernel
theorem dX1_takeBack_24 : decode cX1_takeBack 24 = .ok (.astore_n 3, 1) := by decide +kernel
theorem dX1_takeBack_25 : decode cX1_takeBack 25 = .ok (.aload_n 3, 1) := by decide +kernel
theorem dX1_takeBack_26 : decode cX1_takeBack 26 = .ok (.ifnull 30, 3) := by decide +kernel
theorem dX1_takeBack_29 : decode cX1_takeBack 29 = .ok (.aload_n 0, 1) := by decide +kernel
theorem dX1_takeBack_30 : decode cX1_takeBack 30 = .ok (.getfield 21, 3) := by decide +kernel
theorem dX1_takeBack_33 : decode cX1_takeBack 33 = .ok (.ifCond .le 23, 3) := by decide +kernel
theorem dX1_takeBack_36 : decode cX1_takeBack 36 = .ok (.aload_n 1, 1) := by decide +kernel
theorem dX1_takeBack_37 : decode cX1_takeBack 37 = .ok (.aload_n 3, 1) := by decide +kernel
theorem dX1_takeBack_38 : decode cX1_takeBack 38 = .ok (.invokevirtual 29, 3) := by decide +kernel
theorem dX1_takeBack_41 : decode cX1_takeBack 41 = .ok (.aload_n 0, 1) := by decide +kernel
theorem dX1_takeBack_42 : decode cX1_takeBack 42 = .ok (.iload_n 2, 1) := by decide +kernel
theorem dX1_takeBack_43 : decode cX1_takeBack 43 = .ok (.putfield 17, 3) := by decide +kernel
theorem dX1_takeBack_46 : decode cX1_takeBack 46 = .ok (.aload_n 0, 1) := by decide +kernel
theorem dX1_takeBack_47 : decode cX1_takeBack 47 = .ok (.dup, 1) := by decide +kernel
theorem dX1_takeBack_48 : decode cX1_takeBack 48 = .ok (.getfield 21, 3) := by decide +kernel
theorem dX1_takeBack_51 : decode cX1_takeBack 51 = .ok (.iconst 1, 1) := by decide +kernel
theorem dX1_takeBack_52 : decode cX1_takeBack 52 = .ok (.isub, 1) := by decide +kernel
theorem dX1_takeBack_53 : decode cX1_takeBack 53 = .ok (.putfield 21, 3) := by decide +kernel
theorem dX1_takeBack_56 : decode cX1_takeBack 56 = .ok (.return_, 1) := by decide +kernel
theorem dX1_keptAt_0 : decode cX1_keptAt 0 = .ok (.iload_n 1, 1) := by decide +kernel
theorem dX1_keptAt_1 : decode cX1_keptAt 1 = .ok (.ifCond .lt 18, 3) := by decide +kernel
theorem dX1_keptAt_4 : decode cX1_keptAt 4 = .ok (.iload_n 1, 1) := by decide +kernel
theorem dX1_keptAt_5 : decode cX1_keptAt 5 = .ok (.bipush 8, 2) := by decide +kernel
theorem dX1_keptAt_7 : decode cX1_keptAt 7 = .ok (.if_icmp .ge 12, 3) := by decide +kernel
theorem dX1_keptAt_10 : decode cX1_keptAt 10 = .ok (.aload_n 0, 1) := by decide +kernel
theorem dX1_keptAt_11 : decode cX1_keptAt 11 = .ok (.getfield 11, 3) := by decide +kernel
theorem dX1_keptAt_14 : decode cX1_keptAt 14 = .ok (.iload_n 1, 1) := by decide +kernel
theorem dX1_keptAt_15 : decode cX1_keptAt 15 = .ok (.aaload, 1) := by decide +kernel
theorem dX1_keptAt_16 : decode cX1_keptAt 16 = .ok (.goto 4, 3) := by decide +kernel
theorem dX1_keptAt_19 : decode cX1_keptAt 19 = .ok (.aconst_null, 1) := by decide +kernel
theorem dX1_keptAt_20 : decode cX1_keptAt 20 = .ok (.areturn, 1) := by decide +kernel
theorem dX1_clear_0 : decode cX1_clear 0 = .ok (.aload_n 0, 1) := by decide +kernel
theorem dX1_clear_1 : decode cX1_clear 1 = .ok (.iconst 0, 1) := by decide +kernel
theorem dX1_clear_2 : decode cX1_clear 2 = .ok (.putfield 21, 3) := by decide +kernel
theorem dX1_clear_5 : decode cX1_clear 5 = .ok (.return_, 1) := by decide +kernel
theorem dX2_init_0 : decode cX2_init 0 = .ok (.aload_n 0, 1) := by decide +kernel
theorem dX2_init_1 : decode cX2_init 1 = .ok (.invokespecial 3, 3) := by decide +kernel
theorem dX2_init_4 : decode cX2_init 4 = .ok (.aload_n 0, 1) := by decide +kernel
theorem dX2_init_5 : decode cX2_init 5 = .ok (.sipush 384, 3) := by decide +kernel
theorem dX2_init_8 : decode cX2_init 8 = .ok (.newarray .char, 2) := by decide +kernel
theorem dX2_init_10 : decode cX2_init 10 = .ok (.putfield 9, 3) := by decide +kernel
theorem dX2_init_13 : decode cX2_init 13 = .ok (.aload_n 0, 1) := by decide +kernel
theorem dX2_init_14 : decode cX2_init 14 = .ok (.iconst 0, 1) := by decide +kernel
theorem dX2_init_15 : decode cX2_init 15 = .ok (.putfield 15, 3) := by decide +kernel
theorem dX2_init_18 : decode cX2_init 18 = .ok (.return_, 1) := by decide +kernel
theorem dX2_clear_0 : decode cX2_clear 0 = .ok (.aload_n 0, 1) := by decide +kernel
theorem dX2_clear_1 : decode cX2_clear 1 = .ok (.iconst 0, 1) := by decide +kernel
theorem dX2_clear_2 : decode cX2_clear 2 = .ok (.putfield 15, 3) := by decide +kernel
theorem dX2_clear_5 : decode cX2_clear 5 = .ok (.return_, 1) := by decide +kernel
theorem dX2_has_0 : decode cX2_has 0 = .ok (.iload_n 1, 1) := by decide +kernel
theorem dX2_has_1 : decode cX2_has 1 = .ok (.ifCond .lt 22, 3) := by decide +kernel
theorem dX2_has_4 : decode cX2_has 4 = .ok (.iload_n 1, 1) := by decide +kernel
theorem dX2_has_5 : decode cX2_has 5 = .ok (.aload_n 0, 1) := by decide +kernel
theorem dX2_has_6 : decode cX2_has 6 = .ok (.getfield 15, 3) := by decide +kernel
theorem dX2_has_9 : decode cX2_has 9 = .ok (.if_icmp .ge 14, 3) := by decide +kernel
theorem dX2_has_12 : decode cX2_has 12 = .ok (.iload_n 1, 1) := by decide +kernel
theorem dX2_has_13 : decode cX2_has 13 = .ok (.sipush 384, 3) := by decide +kernel
theorem dX2_has_16 : decode cX2_has 16 = .ok (.if_icmp .ge 7, 3) := by decide +kernel
theorem dX2_has_19 : decode cX2_has 19 = .ok (.iconst 1, 1) := by decide +kernel
theorem dX2_has_20 : decode cX2_has 20 = .ok (.goto 4, 3) := by decide +kernel
theorem dX2_has_23 : decode cX2_has 23 = .ok (.iconst 0, 1) := by decide +kernel
theorem dX2_has_24 : decode cX2_has 24 = .ok (.ireturn, 1) := by decide +kernel
theorem dX2_signAt_0 : decode cX2_signAt 0 = .ok (.aload_n 0, 1) := by decide +kernel
theorem dX2_signAt_1 : decode cX2_signAt 1 = .ok (.iload_n 1, 1) := by decide +kernel
theorem dX2_signAt_2 : decode cX2_signAt 2 = .ok (.invokevirtual 19, 3) := by decide +kernel
theorem dX2_signAt_5 : decode cX2_signAt 5 = .ok (.ifCond .eq 12, 3) := by decide +kernel
theorem dX2_signAt_8 : decode cX2_signAt 8 = .ok (.aload_n 0, 1) := by decide +kernel
theorem dX2_signAt_9 : decode cX2_signAt 9 = .ok (.getfield 9, 3) := by decide +kernel
theorem dX2_signAt_12 : decode cX2_signAt 12 = .ok (.iload_n 1, 1) := by decide +kernel
theorem dX2_signAt_13 : decode cX2_signAt 13 = .ok (.caload, 1) := by decide +kernel
theorem dX2_signAt_14 : decode cX2_signAt 14 = .ok (.goto 5, 3) := by decide +kernel
theorem dX2_signAt_17 : decode cX2_signAt 17 = .ok (.bipush 32, 2) := by decide +kernel
theorem dX2_signAt_19 : decode cX2_signAt 19 = .ok (.ireturn, 1) := by decide +kernel
theorem dX2_put_0 : decode cX2_put 0 = .ok (.aload_n 0, 1) := by decide +kernel
theorem dX2_put_1 : decode cX2_put 1 = .ok (.getfield 15, 3) := by decide +kernel
theorem dX2_put_4 : decode cX2_put 4 = .ok (.ifCond .lt 33, 3) := by decide +kernel
theorem dX2_put_7 : decode cX2_put 7 = .ok (.aload_n 0, 1) := by decide +kernel
theorem dX2_put_8 : decode cX2_put 8 = .ok (.getfield 15, 3) := by decide +kernel
theorem dX2_put_11 : decode cX2_put 11 = .ok (.sipush 384, 3) := by decide +kernel
theorem dX2_put_14 : decode cX2_put 14 = .ok (.if_icmp .ge 23, 3) := by decide +kernel
theorem dX2_put_17 : decode cX2_put 17 = .ok (.aload_n 0, 1) := by decide +kernel
theorem dX2_put_18 : decode cX2_put 18 = .ok (.getfield 9, 3) := by decide +kernel
theorem dX2_put_21 : decode cX2_put 21 = .ok (.aload_n 0, 1) := by decide +kernel
theorem dX2_put_22 : decode cX2_put 22 = .ok (.getfield 15, 3) := by decide +kernel
theorem dX2_put_25 : decode cX2_put 25 = .ok (.iload_n 1, 1) := by decide +kernel
theorem dX2_put_26 : decode cX2_put 26 = .ok (.castore, 1) := by decide +kernel
theorem dX2_put_27 : decode cX2_put 27 = .ok (.aload_n 0, 1) := by decide +kernel
theorem dX2_put_28 : decode cX2_put 28 = .ok (.dup, 1) := by decide +kernel
theorem dX2_put_29 : decode cX2_put 29 = .ok (.getfield 15, 3) := by decide +kernel
theorem dX2_put_32 : decode cX2_put 32 = .ok (.iconst 1, 1) := by decide +kernel
theorem dX2_put_33 : decode cX2_put 33 = .ok (.iadd, 1) := by decide +kernel
theorem dX2_put_34 : decode cX2_put 34 = .ok (.putfield 15, 3) := by decide +kernel
theorem dX2_put_37 : decode cX2_put 37 = .ok (.return_, 1) := by decide +kernel
theorem dX2_putNumber_0 : decode cX2_putNumber 0 = .ok (.iload_n 1, 1) := by decide +kernel
theorem dX2_putNumber_1 : decode cX2_putNumber 1 = .ok (.bipush 10, 2) := by decide +kernel
theorem dX2_putNumber_3 : decode cX2_putNumber 3 = .ok (.if_icmp .lt 15, 3) := by decide +kernel
theorem dX2_putNumber_6 : decode cX2_putNumber 6 = .ok (.aload_n 0, 1) := by decide +kernel
theorem dX2_putNumber_7 : decode cX2_putNumber 7 = .ok (.bipush 48, 2) := by decide +kernel
theorem dX2_putNumber_9 : decode cX2_putNumber 9 = .ok (.iload_n 1, 1) := by decide +kernel
theorem dX2_putNumber_10 : decode cX2_putNumber 10 = .ok (.bipush 10, 2) := by decide +kernel
theorem dX2_putNumber_12 : decode cX2_putNumber 12 = .ok (.idiv, 1) := by decide +kernel
theorem dX2_putNumber_13 : decode cX2_putNumber 13 = .ok (.iadd, 1) := by decide +kernel
theorem dX2_putNumber_14 : decode cX2_putNumber 14 = .ok (.i2c, 1) := by decide +kernel
theorem dX2_putNumber_15 : decode cX2_putNumber 15 = .ok (.invokevirtual 23, 3) := by decide +kernel
theorem dX2_putNumber_18 : decode cX2_putNumber 18 = .ok (.aload_n 0, 1) := by decide +kernel
theorem dX2_putNumber_19 : decode cX2_putNumber 19 = .ok (.bipush 48, 2) := by decide +kernel
theorem dX2_putNumber_21 : decode cX2_putNumber 21 = .ok (.iload_n 1, 1) := by decide +kernel
theorem dX2_putNumber_22 : decode cX2_putNumber 22 = .ok (.bipush 10, 2) := by decide +kernel
theorem dX2_putNumber_24 : decode cX2_putNumber 24 = .ok (.irem, 1) := by decide +kernel
theorem dX2_putNumber_25 : decode cX2_putNumber 25 = .ok (.iadd, 1) := by decide +kernel
theorem dX2_putNumber_26 : decode cX2_putNumber 26 = .ok (.i2c, 1) := by decide +kernel
theorem dX2_putNumber_27 : decode cX2_putNumber 27 = .ok (.invokevirtual 23, 3) := by decide +kernel
theorem dX2_putNumber_30 : decode cX2_putNumber 30 = .ok (.return_, 1) := by decide +kernel
theorem dX3_init_0 : decode cX3_init 0 = .ok (.aload_n 0, 1) := by decide +kernel
theorem dX3_init_1 : decode cX3_init 1 = .ok (.invokespecial 3, 3) := by decide +kernel
theorem dX3_init_4 : decode cX3_init 4 = .ok (.aload_n 0, 1) := by decide +kernel
theorem dX3_init_5 : decode cX3_init 5 = .ok (.bipush 16, 2) := by decide +kernel
theorem dX3_init_7 : decode cX3_init 7 = .ok (.newarray .int, 2) := by decide +kernel
theorem dX3_init_9 : decode cX3_init 9 = .ok (.putfield 9, 3) := by decide +kernel
theorem dX3_init_12 : decode cX3_init 12 = .ok (.aload_n 0, 1) := by decide +kernel
theorem dX3_init_13 : decode cX3_init 13 = .ok (.bipush 16, 2) := by decide +kernel
theorem dX3_init_15 : decode cX3_init 15 = .ok (.newarray .int, 2) := by decide +kernel
theorem dX3_init_17 : decode cX3_init 17 = .ok (.putfield 15, 3) := by decide +kernel
theorem dX3_init_20 : decode cX3_init 20 = .ok (.aload_n 0, 1) := by decide +kernel
theorem dX3_init_21 : decode cX3_init 21 = .ok (.bipush 16, 2) := by decide +kernel
theorem dX3_init_23 : decode cX3_init 23 = .ok (.newarray .int, 2) := by decide +kernel
theorem dX3_init_25 : decode cX3_init 25 = .ok (.putfield 18, 3) := by decide +kernel
theorem dX3_init_28 : decode cX3_init 28 = .ok (.aload_n 0, 1) := by decide +kernel
theorem dX3_init_29 : decode cX3_init 29 = .ok (.bipush 16, 2) := by decide +kernel
theorem dX3_init_31 : decode cX3_init 31 = .ok (.newarray .int, 2) := by decide +kernel
theorem dX3_init_33 : decode cX3_init 33 = .ok (.putfield 21, 3) := by decide +kernel
theorem dX3_init_36 : decode cX3_init 36 = .ok (.aload_n 0, 1) := by decide +kernel
theorem dX3_init_37 : decode cX3_init 37 = .ok (.iconst 0, 1) := by decide +kernel
theorem dX3_init_38 : decode cX3_init 38 = .ok (.putfield 24, 3) := by decide +kernel
theorem dX3_init_41 : decode cX3_init 41 = .ok (.return_, 1) := by decide +kernel
theorem dX3_copyFrom_0 : decode cX3_copyFrom 0 = .ok (.aload_n 1, 1) := by decide +kernel
theorem dX3_copyFrom_1 : decode cX3_copyFrom 1 = .ok (.getfield 9, 3) := by decide +kernel
theorem dX3_copyFrom_4 : decode cX3_copyFrom 4 = .ok (.iconst 0, 1) := by decide +kernel
theorem dX3_copyFrom_5 : decode cX3_copyFrom 5 = .ok (.aload_n 0, 1) := by decide +kernel
theorem dX3_copyFrom_6 : decode cX3_copyFrom 6 = .ok (.getfield 9, 3) := by decide +kernel
theorem dX3_copyFrom_9 : decode cX3_copyFrom 9 = .ok (.iconst 0, 1) := by decide +kernel
theorem dX3_copyFrom_10 : decode cX3_copyFrom 10 = .ok (.bipush 16, 2) := by decide +kernel
theorem dX3_copyFrom_12 : decode cX3_copyFrom 12 = .ok (.invokestatic 28, 3) := by decide +kernel
theorem dX3_copyFrom_15 : decode cX3_copyFrom 15 = .ok (.aload_n 1, 1) := by decide +kernel
theorem dX3_copyFrom_16 : decode cX3_copyFrom 16 = .ok (.getfield 15, 3) := by decide +kernel
theorem dX3_copyFrom_19 : decode cX3_copyFrom 19 = .ok (.iconst 0, 1) := by decide +kernel
theorem dX3_copyFrom_20 : decode cX3_copyFrom 20 = .ok (.aload_n 0, 1) := by decide +kernel
theorem dX3_copyFrom_21 : decode cX3_copyFrom 21 = .ok (.getfield 15, 3) := by decide +kernel
theorem dX3_copyFrom_24 : decode cX3_copyFrom 24 = .ok (.iconst 0, 1) := by decide +kernel
theorem dX3_copyFrom_25 : decode cX3_copyFrom 25 = .ok (.bipush 16, 2) := by decide +kernel
theorem dX3_copyFrom_27 : decode cX3_copyFrom 27 = .ok (.invokestatic 28, 3) := by decide +kernel
theorem dX3_copyFrom_30 : decode cX3_copyFrom 30 = .ok (.aload_n 1, 1) := by decide +kernel
theorem dX3_copyFrom_31 : decode cX3_copyFrom 31 = .ok (.getfield 18, 3) := by decide +kernel
theorem dX3_copyFrom_34 : decode cX3_copyFrom 34 = .ok (.iconst 0, 1) := by decide +kernel
theorem dX3_copyFrom_35 : decode cX3_copyFrom 35 = .ok (.aload_n 0, 1) := by decide +kernel
theorem dX3_copyFrom_36 : decode cX3_copyFrom 36 = .ok (.getfield 18, 3) := by decide +kernel
theorem dX3_copyFrom_39 : decode cX3_copyFrom 39 = .ok (.iconst 0, 1) := by decide +kernel
theorem dX3_copyFrom_40 : decode cX3_copyFrom 40 = .ok (.bipush 16, 2) := by decide +kernel
theorem dX3_copyFrom_42 : decode cX3_copyFrom 42 = .ok (.invokestatic 28, 3) := by decide +kernel
theorem dX3_copyFrom_45 : decode cX3_copyFrom 45 = .ok (.aload_n 1, 1) := by decide +kernel
theorem dX3_copyFrom_46 : decode cX3_copyFrom 46 = .ok (.getfield 21, 3) := by decide +kernel
theorem dX3_copyFrom_49 : decode cX3_copyFrom 49 = .ok (.iconst 0, 1) := by decide +kernel
theorem dX3_copyFrom_50 : decode cX3_copyFrom 50 = .ok (.aload_n 0, 1) := by decide +kernel
theorem dX3_copyFrom_51 : decode cX3_copyFrom 51 = .ok (.getfield 21, 3) := by decide +kernel
theorem dX3_copyFrom_54 : decode cX3_copyFrom 54 = .ok (.iconst 0, 1) := by decide +kernel
theorem dX3_copyFrom_55 : decode cX3_copyFrom 55 = .ok (.bipush 16, 2) := by decide +kernel
theorem dX3_copyFrom_57 : decode cX3_copyFrom 57 = .ok (.invokestatic 28, 3) := by decide +kernel
theorem dX3_copyFrom_60 : decode cX3_copyFrom 60 = .ok (.aload_n 0, 1) := by decide +kernel
theorem dX3_copyFrom_61 : decode cX3_copyFrom 61 = .ok (.aload_n 1, 1) := by decide +kernel
theorem dX3_copyFrom_62 : decode cX3_copyFrom 62 = .ok (.getfield 24, 3) := by decide +kernel
theorem dX3_copyFrom_65 : decode cX3_copyFrom 65 = .ok (.putfield 24, 3) := by decide +kernel
theorem dX3_copyFrom_68 : decode cX3_copyFrom 68 = .ok (.return_, 1) := by decide +kernel
theorem dX3_has_0 : decode cX3_has 0 = .ok (.iload_n 1, 1) := by decide +kernel
theorem dX3_has_1 : decode cX3_has 1 = .ok (.ifCond .lt 21, 3) := by decide +kernel
theorem dX3_has_4 : decode cX3_has 4 = .ok (.iload_n 1, 1) := by decide +kernel
theorem dX3_has_5 : decode cX3_has 5 = .ok (.aload_n 0, 1) := by decide +kernel
theorem dX3_has_6 : decode cX3_has 6 = .ok (.getfield 24, 3) := by decide +kernel
theorem dX3_has_9 : decode cX3_has 9 = .ok (.if_icmp .ge 13, 3) := by decide +kernel
theorem dX3_has_12 : decode cX3_has 12 = .ok (.iload_n 1, 1) := by decide +kernel
theorem dX3_has_13 : decode cX3_has 13 = .ok (.bipush 16, 2) := by decide +kernel
theorem dX3_has_15 : decode cX3_has 15 = .ok (.if_icmp .ge 7, 3) := by decide +kernel
theorem dX3_has_18 : decode cX3_has 18 = .ok (.iconst 1, 1) := by decide +kernel
theorem dX3_has_19 : decode cX3_has 19 = .ok (.goto 4, 3) := by decide +kernel
theorem dX3_has_22 : decode cX3_has 22 = .ok (.iconst 0, 1) := by decide +kernel
theorem dX3_has_23 : decode cX3_has 23 = .ok (.ireturn, 1) := by decide +kernel
theorem dX3_nameAt_0 : decode cX3_nameAt 0 = .ok (.aload_n 0, 1) := by decide +kernel
theorem dX3_nameAt_1 : decode cX3_nameAt 1 = .ok (.iload_n 1, 1) := by decide +kernel
theorem dX3_nameAt_2 : decode cX3_nameAt 2 = .ok (.invokevirtual 34, 3) := by decide +kernel
theorem dX3_nameAt_5 : decode cX3_nameAt 5 = .ok (.ifCond .eq 12, 3) := by decide +kernel
theorem dX3_nameAt_8 : decode cX3_nameAt 8 = .ok (.aload_n 0, 1) := by decide +kernel
theorem dX3_nameAt_9 : decode cX3_nameAt 9 = .ok (.getfield 9, 3) := by decide +kernel
theorem dX3_nameAt_12 : decode cX3_nameAt 12 = .ok (.iload_n 1, 1) := by decide +kernel
theorem dX3_nameAt_13 : decode cX3_nameAt 13 = .ok (.iaload, 1) := by decide +kernel
theorem dX3_nameAt_14 : decode cX3_nameAt 14 = .ok (.goto 4, 3) := by decide +kernel
theorem dX3_nameAt_17 : decode cX3_nameAt 17 = .ok (.iconst (-1), 1) := by decide +kernel
theorem dX3_nameAt_18 : decode cX3_nameAt 18 = .ok (.ireturn, 1) := by decide +kernel
theorem dX3_amountAt_0 : decode cX3_amountAt 0 = .ok (.aload_n 0, 1) := by decide +kernel
theorem dX3_amountAt_1 : decode cX3_amountAt 1 = .ok (.iload_n 1, 1) := by decide +kernel
theorem dX3_amountAt_2 : decode cX3_amountAt 2 = .ok (.invokevirtual 34, 3) := by decide +kernel
theorem dX3_amountAt_5 : decode cX3_amountAt 5 = .ok (.ifCond .eq 12, 3) := by decide +kernel
theorem dX3_amountAt_8 : decode cX3_amountAt 8 = .ok (.aload_n 0, 1) := by decide +kernel
theorem dX3_amountAt_9 : decode cX3_amountAt 9 = .ok (.getfield 15, 3) := by decide +kernel
theorem dX3_amountAt_12 : decode cX3_amountAt 12 = .ok (.iload_n 1, 1) := by decide +kernel
theorem dX3_amountAt_13 : decode cX3_amountAt 13 = .ok (.iaload, 1) := by decide +kernel
theorem dX3_amountAt_14 : decode cX3_amountAt 14 = .ok (.goto 4, 3) := by decide +kernel
theorem dX3_amountAt_17 : decode cX3_amountAt 17 = .ok (.iconst 0, 1) := by decide +kernel
theorem dX3_amountAt_18 : decode cX3_amountAt 18 = .ok (.ireturn, 1) := by decide +kernel
theorem dX3_startAt_0 : decode cX3_startAt 0 = .ok (.aload_n 0, 1) := by decide +kernel
theorem dX3_startAt_1 : decode cX3_startAt 1 = .ok (.iload_n 1, 1) := by decide +kernel
theorem dX3_startAt_2 : decode cX3_startAt 2 = .ok (.invokevirtual 34, 3) := by decide +kernel
theorem dX3_startAt_5 : decode cX3_startAt 5 = .ok (.ifCond .eq 12, 3) := by decide +kernel
theorem dX3_startAt_8 : decode cX3_startAt 8 = .ok (.aload_n 0, 1) := by decide +kernel
theorem dX3_startAt_9 : decode cX3_startAt 9 = .ok (.getfield 18, 3) := by decide +kernel
theorem dX3_startAt_12 : decode cX3_startAt 12 = .ok (.iload_n 1, 1) := by decide +kernel
theorem dX3_startAt_13 : decode cX3_startAt 13 = .ok (.iaload, 1) := by decide +kernel
theorem dX3_startAt_14 : decode cX3_startAt 14 = .ok (.goto 4, 3) := by decide +kernel
theorem dX3_startAt_17 : decode cX3_startAt 17 = .ok (.iconst (-1), 1) := by decide +kernel
theorem dX3_startAt_18 : decode cX3_startAt 18 = .ok (.ireturn, 1) := by decide +kernel
theorem dX3_sizeAt_0 : decode cX3_sizeAt 0 = .ok (.aload_n 0, 1) := by decide +kernel
theorem dX3_sizeAt_1 : decode cX3_sizeAt 1 = .ok (.iload_n 1, 1) := by decide +kernel
theorem dX3_sizeAt_2 : decode cX3_sizeAt 2 = .ok (.invokevirtual 34, 3) := by decide +kernel
theorem dX3_sizeAt_5 : decode cX3_sizeAt 5 = .ok (.ifCond .eq 12, 3) := by decide +kernel
theorem dX3_sizeAt_8 : decode cX3_sizeAt 8 = .ok (.aload_n 0, 1) := by decide +kernel
theorem dX3_sizeAt_9 : decode cX3_sizeAt 9 = .ok (.getfield 21, 3) := by decide +kernel
theorem dX3_sizeAt_12 : decode cX3_sizeAt 12 = .ok (.iload_n 1, 1) := by decide +kernel
theorem dX3_sizeAt_13 : decode cX3_sizeAt 13 = .ok (.iaload, 1) := by decide +kernel
theorem dX3_sizeAt_14 : decode cX3_sizeAt 14 = .ok (.goto 4, 3) := by decide +kernel
theorem dX3_sizeAt_17 : decode cX3_sizeAt 17 = .ok (.iconst 0, 1) := by decide +kernel
theorem dX3_sizeAt_18 : decode cX3_sizeAt 18 = .ok (.ireturn, 1) := by decide +kernel
theorem dX3_add_0 : decode cX3_add 0 = .ok (.iload_n 3, 1) := by decide +kernel
theorem dX3_add_1 : decode cX3_add 1 = .ok (.ifCond .lt 19, 3) := by decide +kernel
theorem dX3_add_4 : decode cX3_add 4 = .ok (.aload_n 0, 1) := by decide +kernel
theorem dX3_add_5 : decode cX3_add 5 = .ok (.getfield 24, 3) := by decide +kernel
theorem dX3_add_8 : decode cX3_add 8 = .ok (.ifCond .lt 12, 3) := by decide +kernel
theorem dX3_add_11 : decode cX3_add 11 = .ok (.aload_n 0, 1) := by decide +kernel
theorem dX3_add_12 : decode cX3_add 12 = .ok (.getfield 24, 3) := by decide +kernel
theorem dX3_add_15 : decode cX3_add 15 = .ok (.bipush 16, 2) := by decide +kernel
theorem dX3_add_17 : decode cX3_add 17 = .ok (.if_icmp .lt 5, 3) := by decide +kernel
theorem dX3_add_20 : decode cX3_add 20 = .ok (.iconst (-1), 1) := by decide +kernel
theorem dX3_add_21 : decode cX3_add 21 = .ok (.ireturn, 1) := by decide +kernel
theorem dX3_add_22 : decode cX3_add 22 = .ok (.aload_n 0, 1) := by decide +kernel
theorem dX3_add_23 : decode cX3_add 23 = .ok (.getfield 9, 3) := by decide +kernel
theorem dX3_add_26 : decode cX3_add 26 = .ok (.aload_n 0, 1) := by decide +kernel
theorem dX3_add_27 : decode cX3_add 27 = .ok (.getfield 24, 3) := by decide +kernel
theorem dX3_add_30 : decode cX3_add 30 = .ok (.iload_n 1, 1) := by decide +kernel
theorem dX3_add_31 : decode cX3_add 31 = .ok (.iastore, 1) := by decide +kernel
theorem dX3_add_32 : decode cX3_add 32 = .ok (.aload_n 0, 1) := by decide +kernel
theorem dX3_add_33 : decode cX3_add 33 = .ok (.dup, 1) := by decide +kernel
theorem dX3_add_34 : decode cX3_add 34 = .ok (.getfield 24, 3) := by decide +kernel
theorem dX3_add_37 : decode cX3_add 37 = .ok (.iconst 1, 1) := by decide +kernel
theorem dX3_add_38 : decode cX3_add 38 = .ok (.iadd, 1) := by decide +kernel
theorem dX3_add_39 : decode cX3_add 39 = .ok (.putfield 24, 3) := by decide +kernel
theorem dX3_add_42 : decode cX3_add 42 = .ok (.aload_n 0, 1) := by decide +kernel
theorem dX3_add_43 : decode cX3_add 43 = .ok (.aload_n 0, 1) := by decide +kernel
theorem dX3_add_44 : decode cX3_add 44 = .ok (.getfield 24, 3) := by decide +kernel
theorem dX3_add_47 : decode cX3_add 47 = .ok (.iconst 1, 1) := by decide +kernel
theorem dX3_add_48 : decode cX3_add 48 = .ok (.isub, 1) := by decide +kernel
theorem dX3_add_49 : decode cX3_add 49 = .ok (.iload_n 2, 1) := by decide +kernel
theorem dX3_add_50 : decode cX3_add 50 = .ok (.iload_n 3, 1) := by decide +kernel
theorem dX3_add_51 : decode cX3_add 51 = .ok (.iload 4, 2) := by decide +kernel
theorem dX3_add_53 : decode cX3_add 53 = .ok (.invokevirtual 38, 3) := by decide +kernel
theorem dX3_add_56 : decode cX3_add 56 = .ok (.aload_n 0, 1) := by decide +kernel
theorem dX3_add_57 : decode cX3_add 57 = .ok (.getfield 24, 3) := by decide +kernel
theorem dX3_add_60 : decode cX3_add 60 = .ok (.iconst 1, 1) := by decide +kernel
theorem dX3_add_61 : decode cX3_add 61 = .ok (.isub, 1) := by decide +kernel
theorem dX3_add_62 : decode cX3_add 62 = .ok (.ireturn, 1) := by decide +kernel
theorem dX3_put_0 : decode cX3_put 0 = .ok (.aload_n 0, 1) := by decide +kernel
theorem dX3_put_1 : decode cX3_put 1 = .ok (.iload_n 1, 1) := by decide +kernel
theorem dX3_put_2 : decode cX3_put 2 = .ok (.invokevirtual 34, 3) := by decide +kernel
theorem dX3_put_5 : decode cX3_put 5 = .ok (.ifCond .eq 25, 3) := by decide +kernel
theorem dX3_put_8 : decode cX3_put 8 = .ok (.aload_n 0, 1) := by decide +kernel
theorem dX3_put_9 : decode cX3_put 9 = .ok (.getfield 15, 3) := by decide +kernel
theorem dX3_put_12 : decode cX3_put 12 = .ok (.iload_n 1, 1) := by decide +kernel
theorem dX3_put_13 : decode cX3_put 13 = .ok (.iload_n 2, 1) := by decide +kernel
theorem dX3_put_14 : decode cX3_put 14 = .ok (.iastore, 1) := by decide +kernel
theorem dX3_put_15 : decode cX3_put 15 = .ok (.aload_n 0, 1) := by decide +kernel
theorem dX3_put_16 : decode cX3_put 16 = .ok (.getfield 18, 3) := by decide +kernel
theorem dX3_put_19 : decode cX3_put 19 = .ok (.iload_n 1, 1) := by decide +kernel
theorem dX3_put_20 : decode cX3_put 20 = .ok (.iload_n 3, 1) := by decide +kernel
theorem dX3_put_21 : decode cX3_put 21 = .ok (.iastore, 1) := by decide +kernel
theorem dX3_put_22 : decode cX3_put 22 = .ok (.aload_n 0, 1) := by decide +kernel
theorem dX3_put_23 : decode cX3_put 23 = .ok (.getfield 21, 3) := by decide +kernel
theorem dX3_put_26 : decode cX3_put 26 = .ok (.iload_n 1, 1) := by decide +kernel
theorem dX3_put_27 : decode cX3_put 27 = .ok (.iload 4, 2) := by decide +kernel
theorem dX3_put_29 : decode cX3_put 29 = .ok (.iastore, 1) := by decide +kernel
theorem dX3_put_30 : decode cX3_put 30 = .ok (.return_, 1) := by decide +kernel
theorem dX3_remove_0 : decode cX3_remove 0 = .ok (.aload_n 0, 1) := by decide +kernel
theorem dX3_remove_1 : decode cX3_remove 1 = .ok (.iload_n 1, 1) := by decide +kernel
theorem dX3_remove_2 : decode cX3_remove 2 = .ok (.invokevirtual 34, 3) := by decide +kernel
theorem dX3_remove_5 : decode cX3_remove 5 = .ok (.ifCond .ne 4, 3) := by decide +kernel
theorem dX3_remove_8 : decode cX3_remove 8 = .ok (.return_, 1) := by decide +kernel
theorem dX3_remove_9 : decode cX3_remove 9 = .ok (.iload_n 1, 1) := by decide +kernel
theorem dX3_remove_10 : decode cX3_remove 10 = .ok (.istore_n 2, 1) := by decide +kernel
theorem dX3_remove_11 : decode cX3_remove 11 = .ok (.iload_n 2, 1) := by decide +kernel
theorem dX3_remove_12 : decode cX3_remove 12 = .ok (.aload_n 0, 1) := by decide +kernel
theorem dX3_remove_13 : decode cX3_remove 13 = .ok (.getfield 24, 3) := by decide +kernel
theorem dX3_remove_16 : decode cX3_remove 16 = .ok (.iconst 1, 1) := by decide +kernel
theorem dX3_remove_17 : decode cX3_remove 17 = .ok (.isub, 1) := by decide +kernel
theorem dX3_remove_18 : decode cX3_remove 18 = .ok (.if_icmp .ge 71, 3) := by decide +kernel
theorem dX3_remove_21 : decode cX3_remove 21 = .ok (.iload_n 2, 1) := by decide +kernel
theorem dX3_remove_22 : decode cX3_remove 22 = .ok (.bipush 15, 2) := by decide +kernel
theorem dX3_remove_24 : decode cX3_remove 24 = .ok (.if_icmp .ge 65, 3) := by decide +kernel
theorem dX3_remove_27 : decode cX3_remove 27 = .ok (.aload_n 0, 1) := by decide +kernel
theorem dX3_remove_28 : decode cX3_remove 28 = .ok (.getfield 9, 3) := by decide +kernel
theorem dX3_remove_31 : decode cX3_remove 31 = .ok (.iload_n 2, 1) := by decide +kernel
theorem dX3_remove_32 : decode cX3_remove 32 = .ok (.aload_n 0, 1) := by decide +kernel
theorem dX3_remove_33 : decode cX3_remove 33 = .ok (.getfield 9, 3) := by decide +kernel
theorem dX3_remove_36 : decode cX3_remove 36 = .ok (.iload_n 2, 1) := by decide +kernel
theorem dX3_remove_37 : decode cX3_remove 37 = .ok (.iconst 1, 1) := by decide +kernel
theorem dX3_remove_38 : decode cX3_remove 38 = .ok (.iadd, 1) := by decide +kernel
theorem dX3_remove_39 : decode cX3_remove 39 = .ok (.iaload, 1) := by decide +kernel
theorem dX3_remove_40 : decode cX3_remove 40 = .ok (.iastore, 1) := by decide +kernel
theorem dX3_remove_41 : decode cX3_remove 41 = .ok (.aload_n 0, 1) := by decide +kernel
theorem dX3_remove_42 : decode cX3_remove 42 = .ok (.getfield 15, 3) := by decide +kernel
theorem dX3_remove_45 : decode cX3_remove 45 = .ok (.iload_n 2, 1) := by decide +kernel
theorem dX3_remove_46 : decode cX3_remove 46 = .ok (.aload_n 0, 1) := by decide +kernel
theorem dX3_remove_47 : decode cX3_remove 47 = .ok (.getfield 15, 3) := by decide +kernel
theorem dX3_remove_50 : decode cX3_remove 50 = .ok (.iload_n 2, 1) := by decide +kernel
theorem dX3_remove_51 : decode cX3_remove 51 = .ok (.iconst 1, 1) := by decide +kernel
theorem dX3_remove_52 : decode cX3_remove 52 = .ok (.iadd, 1) := by decide +kernel
theorem dX3_remove_53 : decode cX3_remove 53 = .ok (.iaload, 1) := by decide +kernel
theorem dX3_remove_54 : decode cX3_remove 54 = .ok (.iastore, 1) := by decide +kernel
theorem dX3_remove_55 : decode cX3_remove 55 = .ok (.aload_n 0, 1) := by decide +kernel
theorem dX3_remove_56 : decode cX3_remove 56 = .ok (.getfield 18, 3) := by decide +kernel
theorem dX3_remove_59 : decode cX3_remove 59 = .ok (.iload_n 2, 1) := by decide +kernel
theorem dX3_remove_60 : decode cX3_remove 60 = .ok (.aload_n 0, 1) := by decide +kernel
theorem dX3_remove_61 : decode cX3_remove 61 = .ok (.getfield 18, 3) := by decide +kernel
theorem dX3_remove_64 : decode cX3_remove 64 = .ok (.iload_n 2, 1) := by decide +kernel
theorem dX3_remove_65 : decode cX3_remove 65 = .ok (.iconst 1, 1) := by decide +kernel
theorem dX3_remove_66 : decode cX3_remove 66 = .ok (.iadd, 1) := by decide +kernel
theorem dX3_remove_67 : decode cX3_remove 67 = .ok (.iaload, 1) := by decide +kernel
theorem dX3_remove_68 : decode cX3_remove 68 = .ok (.iastore, 1) := by decide +kernel
theorem dX3_remove_69 : decode cX3_remove 69 = .ok (.aload_n 0, 1) := by decide +kernel
theorem dX3_remove_70 : decode cX3_remove 70 = .ok (.getfield 21, 3) := by decide +kernel
theorem dX3_remove_73 : decode cX3_remove 73 = .ok (.iload_n 2, 1) := by decide +kernel
theorem dX3_remove_74 : decode cX3_remove 74 = .ok (.aload_n 0, 1) := by decide +kernel
theorem dX3_remove_75 : decode cX3_remove 75 = .ok (.getfield 21, 3) := by decide +kernel
theorem dX3_remove_78 : decode cX3_remove 78 = .ok (.iload_n 2, 1) := by decide +kernel
theorem dX3_remove_79 : decode cX3_remove 79 = .ok (.iconst 1, 1) := by decide +kernel
theorem dX3_remove_80 : decode cX3_remove 80 = .ok (.iadd, 1) := by decide +kernel
theorem dX3_remove_81 : decode cX3_remove 81 = .ok (.iaload, 1) := by decide +kernel
theorem dX3_remove_82 : decode cX3_remove 82 = .ok (.iastore, 1) := by decide +kernel
theorem dX3_remove_83 : decode cX3_remove 83 = .ok (.iinc 2 1, 3) := by decide +kernel
theorem dX3_remove_86 : decode cX3_remove 86 = .ok (.goto (-75), 3) := by decide +kernel
theorem dX3_remove_89 : decode cX3_remove 89 = .ok (.aload_n 0, 1) := by decide +kernel
theorem dX3_remove_90 : decode cX3_remove 90 = .ok (.dup, 1) := by decide +kernel
theorem dX3_remove_91 : decode cX3_remove 91 = .ok (.getfield 24, 3) := by decide +kernel
theorem dX3_remove_94 : decode cX3_remove 94 = .ok (.iconst 1, 1) := by decide +kernel
theorem dX3_remove_95 : decode cX3_remove 95 = .ok (.isub, 1) := by decide +kernel
theorem dX3_remove_96 : decode cX3_remove 96 = .ok (.putfield 24, 3) := by decide +kernel
theorem dX3_remove_99 : decode cX3_remove 99 = .ok (.return_, 1) := by decide +kernel
theorem dX3_countOf_0 : decode cX3_countOf 0 = .ok (.iconst 0, 1) := by decide +kernel
theorem dX3_countOf_1 : decode cX3_countOf 1 = .ok (.istore_n 2, 1) := by decide +kernel
theorem dX3_countOf_2 : decode cX3_countOf 2 = .ok (.iconst 0, 1) := by decide +kernel
theorem dX3_countOf_3 : decode cX3_countOf 3 = .ok (.istore_n 3, 1) := by decide +kernel
theorem dX3_countOf_4 : decode cX3_countOf 4 = .ok (.iload_n 3, 1) := by decide +kernel
theorem dX3_countOf_5 : decode cX3_countOf 5 = .ok (.aload_n 0, 1) := by decide +kernel
theorem dX3_countOf_6 : decode cX3_countOf 6 = .ok (.getfield 24, 3) := by decide +kernel
theorem dX3_countOf_9 : decode cX3_countOf 9 = .ok (.if_icmp .ge 21, 3) := by decide +kernel
theorem dX3_countOf_12 : decode cX3_countOf 12 = .ok (.aload_n 0, 1) := by decide +kernel
theorem dX3_countOf_13 : decode cX3_countOf 13 = .ok (.iload_n 3, 1) := by decide +kernel
theorem dX3_countOf_14 : decode cX3_countOf 14 = .ok (.invokevirtual 42, 3) := by decide +kernel
theorem dX3_countOf_17 : decode cX3_countOf 17 = .ok (.iload_n 1, 1) := by decide +kernel
theorem dX3_countOf_18 : decode cX3_countOf 18 = .ok (.if_icmp .ne 6, 3) := by decide +kernel
theorem dX3_countOf_21 : decode cX3_countOf 21 = .ok (.iinc 2 1, 3) := by decide +kernel
theorem dX3_countOf_24 : decode cX3_countOf 24 = .ok (.iinc 3 1, 3) := by decide +kernel
theorem dX3_countOf_27 : decode cX3_countOf 27 = .ok (.goto (-23), 3) := by decide +kernel
theorem dX3_countOf_30 : decode cX3_countOf 30 = .ok (.iload_n 2, 1) := by decide +kernel
theorem dX3_countOf_31 : decode cX3_countOf 31 = .ok (.ireturn, 1) := by decide +kernel
theorem dX3_amountsOf_0 : decode cX3_amountsOf 0 = .ok (.iconst 0, 1) := by decide +kernel
theorem dX3_amountsOf_1 : decode cX3_amountsOf 1 = .ok (.istore_n 2, 1) := by decide +kernel
theorem dX3_amountsOf_2 : decode cX3_amountsOf 2 = .ok (.iconst 0, 1) := by decide +kernel
theorem dX3_amountsOf_3 : decode cX3_amountsOf 3 = .ok (.istore_n 3, 1) := by decide +kernel
theorem dX3_amountsOf_4 : decode cX3_amountsOf 4 = .ok (.iload_n 3, 1) := by decide +kernel
theorem dX3_amountsOf_5 : decode cX3_amountsOf 5 = .ok (.aload_n 0, 1) := by decide +kernel
theorem dX3_amountsOf_6 : decode cX3_amountsOf 6 = .ok (.getfield 24, 3) := by decide +kernel
theorem dX3_amountsOf_9 : decode cX3_amountsOf 9 = .ok (.if_icmp .ge 26, 3) := by decide +kernel
theorem dX3_amountsOf_12 : decode cX3_amountsOf 12 = .ok (.aload_n 0, 1) := by decide +kernel
theorem dX3_amountsOf_13 : decode cX3_amountsOf 13 = .ok (.iload_n 3, 1) := by decide +kernel
theorem dX3_amountsOf_14 : decode cX3_amountsOf 14 = .ok (.invokevirtual 42, 3) := by decide +kernel
theorem dX3_amountsOf_17 : decode cX3_amountsOf 17 = .ok (.iload_n 1, 1) := by decide +kernel
theorem dX3_amountsOf_18 : decode cX3_amountsOf 18 = .ok (.if_icmp .ne 11, 3) := by decide +kernel
theorem dX3_amountsOf_21 : decode cX3_amountsOf 21 = .ok (.iload_n 2, 1) := by decide +kernel
theorem dX3_amountsOf_22 : decode cX3_amountsOf 22 = .ok (.aload_n 0, 1) := by decide +kernel
theorem dX3_amountsOf_23 : decode cX3_amountsOf 23 = .ok (.iload_n 3, 1) := by decide +kernel
theorem dX3_amountsOf_24 : decode cX3_amountsOf 24 = .ok (.invokevirtual 46, 3) := by decide +kernel
theorem dX3_amountsOf_27 : decode cX3_amountsOf 27 = .ok (.iadd, 1) := by decide +kernel
theorem dX3_amountsOf_28 : decode cX3_amountsOf 28 = .ok (.istore_n 2, 1) := by decide +kernel
theorem dX3_amountsOf_29 : decode cX3_amountsOf 29 = .ok (.iinc 3 1, 3) := by decide +kernel
theorem dX3_amountsOf_32 : decode cX3_amountsOf 32 = .ok (.goto (-28), 3) := by decide +kernel
theorem dX3_amountsOf_35 : decode cX3_amountsOf 35 = .ok (.iload_n 2, 1) := by decide +kernel
theorem dX3_amountsOf_36 : decode cX3_amountsOf 36 = .ok (.ireturn, 1) := by decide +kernel
theorem dX3_sizesOf_0 : decode cX3_sizesOf 0 = .ok (.iconst 0, 1) := by decide +kernel
theorem dX3_sizesOf_1 : decode cX3_sizesOf 1 = .ok (.istore_n 2, 1) := by decide +kernel
theorem dX3_sizesOf_2 : decode cX3_sizesOf 2 = .ok (.iconst 0, 1) := by decide +kernel
theorem dX3_sizesOf_3 : decode cX3_sizesOf 3 = .ok (.istore_n 3, 1) := by decide +kernel
theorem dX3_sizesOf_4 : decode cX3_sizesOf 4 = .ok (.iload_n 3, 1) := by decide +kernel
theorem dX3_sizesOf_5 : decode cX3_sizesOf 5 = .ok (.aload_n 0, 1) := by decide +kernel
theorem dX3_sizesOf_6 : decode cX3_sizesOf 6 = .ok (.getfield 24, 3) := by decide +kernel
theorem dX3_sizesOf_9 : decode cX3_sizesOf 9 = .ok (.if_icmp .ge 26, 3) := by decide +kernel
theorem dX3_sizesOf_12 : decode cX3_sizesOf 12 = .ok (.aload_n 0, 1) := by decide +kernel
theorem dX3_sizesOf_13 : decode cX3_sizesOf 13 = .ok (.iload_n 3, 1) := by decide +kernel
theorem dX3_sizesOf_14 : decode cX3_sizesOf 14 = .ok (.invokevirtual 42, 3) := by decide +kernel
theorem dX3_sizesOf_17 : decode cX3_sizesOf 17 = .ok (.iload_n 1, 1) := by decide +kernel
theorem dX3_sizesOf_18 : decode cX3_sizesOf 18 = .ok (.if_icmp .ne 11, 3) := by decide +kernel
theorem dX3_sizesOf_21 : decode cX3_sizesOf 21 = .ok (.iload_n 2, 1) := by decide +kernel
theorem dX3_sizesOf_22 : decode cX3_sizesOf 22 = .ok (.aload_n 0, 1) := by decide +kernel
theorem dX3_sizesOf_23 : decode cX3_sizesOf 23 = .ok (.iload_n 3, 1) := by decide +kernel
theorem dX3_sizesOf_24 : decode cX3_sizesOf 24 = .ok (.invokevirtual 49, 3) := by decide +kernel
theorem dX3_sizesOf_27 : decode cX3_sizesOf 27 = .ok (.iadd, 1) := by decide +kernel
theorem dX3_sizesOf_28 : decode cX3_sizesOf 28 = .ok (.istore_n 2, 1) := by decide +kernel
theorem dX3_sizesOf_29 : decode cX3_sizesOf 29 = .ok (.iinc 3 1, 3) := by decide +kernel
theorem dX3_sizesOf_32 : decode cX3_sizesOf 32 = .ok (.goto (-28), 3) := by decide +kernel
theorem dX3_sizesOf_35 : decode cX3_sizesOf 35 = .ok (.iload_n 2, 1) := by decide +kernel
theorem dX3_sizesOf_36 : decode cX3_sizesOf 36 = .ok (.ireturn, 1) := by decide +kernel
theorem dX3_allAmounts_0 : decode cX3_allAmounts 0 = .ok (.iconst 0, 1) := by decide +kernel
theorem dX3_allAmounts_1 : decode cX3_allAmounts 1 = .ok (.istore_n 1, 1) := by decide +kernel
theorem dX3_allAmounts_2 : decode cX3_allAmounts 2 = .ok (.iconst 0, 1) := by decide +kernel
theorem dX3_allAmounts_3 : decode cX3_allAmounts 3 = .ok (.istore_n 2, 1) := by decide +kernel
theorem dX3_allAmounts_4 : decode cX3_allAmounts 4 = .ok (.iload_n 2, 1) := by decide +kernel
theorem dX3_allAmounts_5 : decode cX3_allAmounts 5 = .ok (.aload_n 0, 1) := by decide +kernel
theorem dX3_allAmounts_6 : decode cX3_allAmounts 6 = .ok (.getfield 24, 3) := by decide +kernel
theorem dX3_allAmounts_9 : decode cX3_allAmounts 9 = .ok (.if_icmp .ge 17, 3) := by decide +kernel
theorem dX3_allAmounts_12 : decode cX3_allAmounts 12 = .ok (.iload_n 1, 1) := by decide +kernel
theorem dX3_allAmounts_13 : decode cX3_allAmounts 13 = .ok (.aload_n 0, 1) := by decide +kernel
theorem dX3_allAmounts_14 : decode cX3_allAmounts 14 = .ok (.iload_n 2, 1) := by decide +kernel
theorem dX3_allAmounts_15 : decode cX3_allAmounts 15 = .ok (.invokevirtual 46, 3) := by decide +kernel
theorem dX3_allAmounts_18 : decode cX3_allAmounts 18 = .ok (.iadd, 1) := by decide +kernel
theorem dX3_allAmounts_19 : decode cX3_allAmounts 19 = .ok (.istore_n 1, 1) := by decide +kernel
theorem dX3_allAmounts_20 : decode cX3_allAmounts 20 = .ok (.iinc 2 1, 3) := by decide +kernel
theorem dX3_allAmounts_23 : decode cX3_allAmounts 23 = .ok (.goto (-19), 3) := by decide +kernel
theorem dX3_allAmounts_26 : decode cX3_allAmounts 26 = .ok (.iload_n 1, 1) := by decide +kernel
theorem dX3_allAmounts_27 : decode cX3_allAmounts 27 = .ok (.ireturn, 1) := by decide +kernel
theorem dX3_allSizes_0 : decode cX3_allSizes 0 = .ok (.iconst 0, 1) := by decide +kernel
theorem dX3_allSizes_1 : decode cX3_allSizes 1 = .ok (.istore_n 1, 1) := by decide +kernel
theorem dX3_allSizes_2 : decode cX3_allSizes 2 = .ok (.iconst 0, 1) := by decide +kernel
theorem dX3_allSizes_3 : decode cX3_allSizes 3 = .ok (.istore_n 2, 1) := by decide +kernel
theorem dX3_allSizes_4 : decode cX3_allSizes 4 = .ok (.iload_n 2, 1) := by decide +kernel
theorem dX3_allSizes_5 : decode cX3_allSizes 5 = .ok (.aload_n 0, 1) := by decide +kernel
theorem dX3_allSizes_6 : decode cX3_allSizes 6 = .ok (.getfield 24, 3) := by decide +kernel
theorem dX3_allSizes_9 : decode cX3_allSizes 9 = .ok (.if_icmp .ge 17, 3) := by decide +kernel
theorem dX3_allSizes_12 : decode cX3_allSizes 12 = .ok (.iload_n 1, 1) := by decide +kernel
theorem dX3_allSizes_13 : decode cX3_allSizes 13 = .ok (.aload_n 0, 1) := by decide +kernel
theorem dX3_allSizes_14 : decode cX3_allSizes 14 = .ok (.iload_n 2, 1) := by decide +kernel
theorem dX3_allSizes_15 : decode cX3_allSizes 15 = .ok (.invokevirtual 49, 3) := by decide +kernel
theorem dX3_allSizes_18 : decode cX3_allSizes 18 = .ok (.iadd, 1) := by decide +kernel
theorem dX3_allSizes_19 : decode cX3_allSizes 19 = .ok (.istore_n 1, 1) := by decide +kernel
theorem dX3_allSizes_20 : decode cX3_allSizes 20 = .ok (.iinc 2 1, 3) := by decide +kernel
theorem dX3_allSizes_23 : decode cX3_allSizes 23 = .ok (.goto (-19), 3) := by decide +kernel
theorem dX3_allSizes_26 : decode cX3_allSizes 26 = .ok (.iload_n 1, 1) := by decide +kernel
theorem dX3_allSizes_27 : decode cX3_allSizes 27 = .ok (.ireturn, 1) := by decide +kernel
theorem dX3_holderOf_0 : decode cX3_holderOf 0 = .ok (.iconst 0, 1) := by decide +kernel
theorem dX3_holderOf_1 : decode cX3_holderOf 1 = .ok (.istore_n 2, 1) := by decide +kernel
theorem dX3_holderOf_2 : decode cX3_holderOf 2 = .ok (.iload_n 2, 1) := by decide +kernel
theorem dX3_holderOf_3 : decode cX3_holderOf 3 = .ok (.aload_n 0, 1) := by decide +kernel
theorem dX3_holderOf_4 : decode cX3_holderOf 4 = .ok (.getfield 24, 3) := by decide +kernel
theorem dX3_holderOf_7 : decode cX3_holderOf 7 = .ok (.if_icmp .ge 21, 3) := by decide +kernel
theorem dX3_holderOf_10 : decode cX3_holderOf 10 = .ok (.aload_n 0, 1) := by decide +kernel
theorem dX3_holderOf_11 : decode cX3_holderOf 11 = .ok (.iload_n 2, 1) := by decide +kernel
theorem dX3_holderOf_12 : decode cX3_holderOf 12 = .ok (.iload_n 1, 1) := by decide +kernel
theorem dX3_holderOf_13 : decode cX3_holderOf 13 = .ok (.iconst 1, 1) := by decide +kernel
theorem dX3_holderOf_14 : decode cX3_holderOf 14 = .ok (.invokevirtual 52, 3) := by decide +kernel
theorem dX3_holderOf_17 : decode cX3_holderOf 17 = .ok (.ifCond .eq 5, 3) := by decide +kernel
theorem dX3_holderOf_20 : decode cX3_holderOf 20 = .ok (.iload_n 2, 1) := by decide +kernel
theorem dX3_holderOf_21 : decode cX3_holderOf 21 = .ok (.ireturn, 1) := by decide +kernel
theorem dX3_holderOf_22 : decode cX3_holderOf 22 = .ok (.iinc 2 1, 3) := by decide +kernel
theorem dX3_holderOf_25 : decode cX3_holderOf 25 = .ok (.goto (-23), 3) := by decide +kernel
theorem dX3_holderOf_28 : decode cX3_holderOf 28 = .ok (.iconst (-1), 1) := by decide +kernel
theorem dX3_holderOf_29 : decode cX3_holderOf 29 = .ok (.ireturn, 1) := by decide +kernel
theorem dX3_countIn_0 : decode cX3_countIn 0 = .ok (.iconst 0, 1) := by decide +kernel
theorem dX3_countIn_1 : decode cX3_countIn 1 = .ok (.istore_n 3, 1) := by decide +kernel
theorem dX3_countIn_2 : decode cX3_countIn 2 = .ok (.iconst 0, 1) := by decide +kernel
theorem dX3_countIn_3 : decode cX3_countIn 3 = .ok (.istore 4, 2) := by decide +kernel
theorem dX3_countIn_5 : decode cX3_countIn 5 = .ok (.iload 4, 2) := by decide +kernel
theorem dX3_countIn_7 : decode cX3_countIn 7 = .ok (.aload_n 0, 1) := by decide +kernel
theorem dX3_countIn_8 : decode cX3_countIn 8 = .ok (.getfield 24, 3) := by decide +kernel
theorem dX3_countIn_11 : decode cX3_countIn 11 = .ok (.if_icmp .ge 23, 3) := by decide +kernel
theorem dX3_countIn_14 : decode cX3_countIn 14 = .ok (.aload_n 0, 1) := by decide +kernel
theorem dX3_countIn_15 : decode cX3_countIn 15 = .ok (.iload 4, 2) := by decide +kernel
theorem dX3_countIn_17 : decode cX3_countIn 17 = .ok (.iload_n 1, 1) := by decide +kernel
theorem dX3_countIn_18 : decode cX3_countIn 18 = .ok (.iload_n 2, 1) := by decide +kernel
theorem dX3_countIn_19 : decode cX3_countIn 19 = .ok (.invokevirtual 52, 3) := by decide +kernel
theorem dX3_countIn_22 : decode cX3_countIn 22 = .ok (.ifCond .eq 6, 3) := by decide +kernel
theorem dX3_countIn_25 : decode cX3_countIn 25 = .ok (.iinc 3 1, 3) := by decide +kernel
theorem dX3_countIn_28 : decode cX3_countIn 28 = .ok (.iinc 4 1, 3) := by decide +kernel
theorem dX3_countIn_31 : decode cX3_countIn 31 = .ok (.goto (-26), 3) := by decide +kernel
theorem dX3_countIn_34 : decode cX3_countIn 34 = .ok (.iload_n 3, 1) := by decide +kernel
theorem dX3_countIn_35 : decode cX3_countIn 35 = .ok (.ireturn, 1) := by decide +kernel
theorem dX3_isIn_0 : decode cX3_isIn 0 = .ok (.aload_n 0, 1) := by decide +kernel
theorem dX3_isIn_1 : decode cX3_isIn 1 = .ok (.iload_n 1, 1) := by decide +kernel
theorem dX3_isIn_2 : decode cX3_isIn 2 = .ok (.invokevirtual 34, 3) := by decide +kernel
theorem dX3_isIn_5 : decode cX3_isIn 5 = .ok (.ifCond .eq 36, 3) := by decide +kernel
theorem dX3_isIn_8 : decode cX3_isIn 8 = .ok (.aload_n 0, 1) := by decide +kernel
theorem dX3_isIn_9 : decode cX3_isIn 9 = .ok (.getfield 18, 3) := by decide +kernel
theorem dX3_isIn_12 : decode cX3_isIn 12 = .ok (.iload_n 1, 1) := by decide +kernel
theorem dX3_isIn_13 : decode cX3_isIn 13 = .ok (.iaload, 1) := by decide +kernel
theorem dX3_isIn_14 : decode cX3_isIn 14 = .ok (.iload_n 2, 1) := by decide +kernel
theorem dX3_isIn_15 : decode cX3_isIn 15 = .ok (.iload_n 3, 1) := by decide +kernel
theorem dX3_isIn_16 : decode cX3_isIn 16 = .ok (.iadd, 1) := by decide +kernel
theorem dX3_isIn_17 : decode cX3_isIn 17 = .ok (.if_icmp .ge 24, 3) := by decide +kernel
theorem dX3_isIn_20 : decode cX3_isIn 20 = .ok (.iload_n 2, 1) := by decide +kernel
theorem dX3_isIn_21 : decode cX3_isIn 21 = .ok (.aload_n 0, 1) := by decide +kernel
theorem dX3_isIn_22 : decode cX3_isIn 22 = .ok (.getfield 18, 3) := by decide +kernel
theorem dX3_isIn_25 : decode cX3_isIn 25 = .ok (.iload_n 1, 1) := by decide +kernel
theorem dX3_isIn_26 : decode cX3_isIn 26 = .ok (.iaload, 1) := by decide +kernel
theorem dX3_isIn_27 : decode cX3_isIn 27 = .ok (.aload_n 0, 1) := by decide +kernel
theorem dX3_isIn_28 : decode cX3_isIn 28 = .ok (.getfield 21, 3) := by decide +kernel
theorem dX3_isIn_31 : decode cX3_isIn 31 = .ok (.iload_n 1, 1) := by decide +kernel
theorem dX3_isIn_32 : decode cX3_isIn 32 = .ok (.iaload, 1) := by decide +kernel
theorem dX3_isIn_33 : decode cX3_isIn 33 = .ok (.iadd, 1) := by decide +kernel
theorem dX3_isIn_34 : decode cX3_isIn 34 = .ok (.if_icmp .ge 7, 3) := by decide +kernel
theorem dX3_isIn_37 : decode cX3_isIn 37 = .ok (.iconst 1, 1) := by decide +kernel
theorem dX3_isIn_38 : decode cX3_isIn 38 = .ok (.goto 4, 3) := by decide +kernel
theorem dX3_isIn_41 : decode cX3_isIn 41 = .ok (.iconst 0, 1) := by decide +kernel
theorem dX3_isIn_42 : decode cX3_isIn 42 = .ok (.ireturn, 1) := by decide +kernel
theorem dX3_fewestInPart_0 : decode cX3_fewestInPart 0 = .ok (.aload_n 0, 1) := by decide +kernel
theorem dX3_fewestInPart_1 : decode cX3_fewestInPart 1 = .ok (.getfield 24, 3) := by decide +kernel
theorem dX3_fewestInPart_4 : decode cX3_fewestInPart 4 = .ok (.istore_n 2, 1) := by decide +kernel
theorem dX3_fewestInPart_5 : decode cX3_fewestInPart 5 = .ok (.iconst 0, 1) := by decide +kernel
theorem dX3_fewestInPart_6 : decode cX3_fewestInPart 6 = .ok (.istore_n 3, 1) := by decide +kernel
theorem dX3_fewestInPart_7 : decode cX3_fewestInPart 7 = .ok (.iload_n 1, 1) := by decide +kernel
theorem dX3_fewestInPart_8 : decode cX3_fewestInPart 8 = .ok (.iconst 1, 1) := by decide +kernel
theorem dX3_fewestInPart_9 : decode cX3_fewestInPart 9 = .ok (.if_icmp .lt 27, 3) := by decide +kernel
theorem dX3_fewestInPart_12 : decode cX3_fewestInPart 12 = .ok (.iload_n 3, 1) := by decide +kernel
theorem dX3_fewestInPart_13 : decode cX3_fewestInPart 13 = .ok (.bipush 64, 2) := by decide +kernel
theorem dX3_fewestInPart_15 : decode cX3_fewestInPart 15 = .ok (.if_icmp .ge 21, 3) := by decide +kernel
theorem dX3_fewestInPart_18 : decode cX3_fewestInPart 18 = .ok (.iload_n 2, 1) := by decide +kernel
theorem dX3_fewestInPart_19 : decode cX3_fewestInPart 19 = .ok (.aload_n 0, 1) := by decide +kernel
theorem dX3_fewestInPart_20 : decode cX3_fewestInPart 20 = .ok (.iload_n 3, 1) := by decide +kernel
theorem dX3_fewestInPart_21 : decode cX3_fewestInPart 21 = .ok (.iload_n 1, 1) := by decide +kernel
theorem dX3_fewestInPart_22 : decode cX3_fewestInPart 22 = .ok (.invokevirtual 56, 3) := by decide +kernel
theorem dX3_fewestInPart_25 : decode cX3_fewestInPart 25 = .ok (.invokestatic 60, 3) := by decide +kernel
theorem dX3_fewestInPart_28 : decode cX3_fewestInPart 28 = .ok (.istore_n 2, 1) := by decide +kernel
theorem dX3_fewestInPart_29 : decode cX3_fewestInPart 29 = .ok (.iload_n 3, 1) := by decide +kernel
theorem dX3_fewestInPart_30 : decode cX3_fewestInPart 30 = .ok (.iload_n 1, 1) := by decide +kernel
theorem dX3_fewestInPart_31 : decode cX3_fewestInPart 31 = .ok (.iadd, 1) := by decide +kernel
theorem dX3_fewestInPart_32 : decode cX3_fewestInPart 32 = .ok (.istore_n 3, 1) := by decide +kernel
theorem dX3_fewestInPart_33 : decode cX3_fewestInPart 33 = .ok (.goto (-26), 3) := by decide +kernel
theorem dX3_fewestInPart_36 : decode cX3_fewestInPart 36 = .ok (.iload_n 2, 1) := by decide +kernel
theorem dX3_fewestInPart_37 : decode cX3_fewestInPart 37 = .ok (.ireturn, 1) := by decide +kernel
theorem dX3_nameOfRank_0 : decode cX3_nameOfRank 0 = .ok (.iconst 0, 1) := by decide +kernel
theorem dX3_nameOfRank_1 : decode cX3_nameOfRank 1 = .ok (.istore_n 2, 1) := by decide +kernel
theorem dX3_nameOfRank_2 : decode cX3_nameOfRank 2 = .ok (.iload_n 2, 1) := by decide +kernel
theorem dX3_nameOfRank_3 : decode cX3_nameOfRank 3 = .ok (.aload_n 0, 1) := by decide +kernel
theorem dX3_nameOfRank_4 : decode cX3_nameOfRank 4 = .ok (.getfield 24, 3) := by decide +kernel
theorem dX3_nameOfRank_7 : decode cX3_nameOfRank 7 = .ok (.if_icmp .ge 28, 3) := by decide +kernel
theorem dX3_nameOfRank_10 : decode cX3_nameOfRank 10 = .ok (.aload_n 0, 1) := by decide +kernel
theorem dX3_nameOfRank_11 : decode cX3_nameOfRank 11 = .ok (.aload_n 0, 1) := by decide +kernel
theorem dX3_nameOfRank_12 : decode cX3_nameOfRank 12 = .ok (.iload_n 2, 1) := by decide +kernel
theorem dX3_nameOfRank_13 : decode cX3_nameOfRank 13 = .ok (.invokevirtual 42, 3) := by decide +kernel
theorem dX3_nameOfRank_16 : decode cX3_nameOfRank 16 = .ok (.invokevirtual 65, 3) := by decide +kernel
theorem dX3_nameOfRank_19 : decode cX3_nameOfRank 19 = .ok (.iload_n 1, 1) := by decide +kernel
theorem dX3_nameOfRank_20 : decode cX3_nameOfRank 20 = .ok (.if_icmp .ne 9, 3) := by decide +kernel
theorem dX3_nameOfRank_23 : decode cX3_nameOfRank 23 = .ok (.aload_n 0, 1) := by decide +kernel
theorem dX3_nameOfRank_24 : decode cX3_nameOfRank 24 = .ok (.iload_n 2, 1) := by decide +kernel
theorem dX3_nameOfRank_25 : decode cX3_nameOfRank 25 = .ok (.invokevirtual 42, 3) := by decide +kernel
theorem dX3_nameOfRank_28 : decode cX3_nameOfRank 28 = .ok (.ireturn, 1) := by decide +kernel
theorem dX3_nameOfRank_29 : decode cX3_nameOfRank 29 = .ok (.iinc 2 1, 3) := by decide +kernel
theorem dX3_nameOfRank_32 : decode cX3_nameOfRank 32 = .ok (.goto (-30), 3) := by decide +kernel
theorem dX3_nameOfRank_35 : decode cX3_nameOfRank 35 = .ok (.iconst (-1), 1) := by decide +kernel
theorem dX3_nameOfRank_36 : decode cX3_nameOfRank 36 = .ok (.ireturn, 1) := by decide +kernel
theorem dX3_countAhead_0 : decode cX3_countAhead 0 = .ok (.aload_n 0, 1) := by decide +kernel
theorem dX3_countAhead_1 : decode cX3_countAhead 1 = .ok (.iload_n 1, 1) := by decide +kernel
theorem dX3_countAhead_2 : decode cX3_countAhead 2 = .ok (.invokevirtual 68, 3) := by decide +kernel
theorem dX3_countAhead_5 : decode cX3_countAhead 5 = .ok (.istore_n 2, 1) := by decide +kernel
theorem dX3_countAhead_6 : decode cX3_countAhead 6 = .ok (.iconst 0, 1) := by decide +kernel
theorem dX3_countAhead_7 : decode cX3_countAhead 7 = .ok (.istore_n 3, 1) := by decide +kernel
theorem dX3_countAhead_8 : decode cX3_countAhead 8 = .ok (.iconst 0, 1) := by decide +kernel
theorem dX3_countAhead_9 : decode cX3_countAhead 9 = .ok (.istore 4, 2) := by decide +kernel
theorem dX3_countAhead_11 : decode cX3_countAhead 11 = .ok (.iload 4, 2) := by decide +kernel
theorem dX3_countAhead_13 : decode cX3_countAhead 13 = .ok (.aload_n 0, 1) := by decide +kernel
theorem dX3_countAhead_14 : decode cX3_countAhead 14 = .ok (.getfield 24, 3) := by decide +kernel
theorem dX3_countAhead_17 : decode cX3_countAhead 17 = .ok (.if_icmp .ge 55, 3) := by decide +kernel
theorem dX3_countAhead_20 : decode cX3_countAhead 20 = .ok (.aload_n 0, 1) := by decide +kernel
theorem dX3_countAhead_21 : decode cX3_countAhead 21 = .ok (.iload 4, 2) := by decide +kernel
theorem dX3_countAhead_23 : decode cX3_countAhead 23 = .ok (.invokevirtual 42, 3) := by decide +kernel
theorem dX3_countAhead_26 : decode cX3_countAhead 26 = .ok (.istore 5, 2) := by decide +kernel
theorem dX3_countAhead_28 : decode cX3_countAhead 28 = .ok (.aload_n 0, 1) := by decide +kernel
theorem dX3_countAhead_29 : decode cX3_countAhead 29 = .ok (.iload 5, 2) := by decide +kernel
theorem dX3_countAhead_31 : decode cX3_countAhead 31 = .ok (.invokevirtual 68, 3) := by decide +kernel
theorem dX3_countAhead_34 : decode cX3_countAhead 34 = .ok (.istore 6, 2) := by decide +kernel
theorem dX3_countAhead_36 : decode cX3_countAhead 36 = .ok (.aload_n 0, 1) := by decide +kernel
theorem dX3_countAhead_37 : decode cX3_countAhead 37 = .ok (.iload 4, 2) := by decide +kernel
theorem dX3_countAhead_39 : decode cX3_countAhead 39 = .ok (.invokevirtual 71, 3) := by decide +kernel
theorem dX3_countAhead_42 : decode cX3_countAhead 42 = .ok (.ifCond .eq 24, 3) := by decide +kernel
theorem dX3_countAhead_45 : decode cX3_countAhead 45 = .ok (.iload 6, 2) := by decide +kernel
theorem dX3_countAhead_47 : decode cX3_countAhead 47 = .ok (.iload_n 2, 1) := by decide +kernel
theorem dX3_countAhead_48 : decode cX3_countAhead 48 = .ok (.if_icmp .gt 15, 3) := by decide +kernel
theorem dX3_countAhead_51 : decode cX3_countAhead 51 = .ok (.iload 6, 2) := by decide +kernel
theorem dX3_countAhead_53 : decode cX3_countAhead 53 = .ok (.iload_n 2, 1) := by decide +kernel
theorem dX3_countAhead_54 : decode cX3_countAhead 54 = .ok (.if_icmp .ne 12, 3) := by decide +kernel
theorem dX3_countAhead_57 : decode cX3_countAhead 57 = .ok (.iload 5, 2) := by decide +kernel
theorem dX3_countAhead_59 : decode cX3_countAhead 59 = .ok (.iload_n 1, 1) := by decide +kernel
theorem dX3_countAhead_60 : decode cX3_countAhead 60 = .ok (.if_icmp .ge 6, 3) := by decide +kernel
theorem dX3_countAhead_63 : decode cX3_countAhead 63 = .ok (.iinc 3 1, 3) := by decide +kernel
theorem dX3_countAhead_66 : decode cX3_countAhead 66 = .ok (.iinc 4 1, 3) := by decide +kernel
theorem dX3_countAhead_69 : decode cX3_countAhead 69 = .ok (.goto (-58), 3) := by decide +kernel
theorem dX3_countAhead_72 : decode cX3_countAhead 72 = .ok (.iload_n 3, 1) := by decide +kernel
theorem dX3_countAhead_73 : decode cX3_countAhead 73 = .ok (.ireturn, 1) := by decide +kernel
theorem dX3_isFirstOfName_0 : decode cX3_isFirstOfName 0 = .ok (.iconst 0, 1) := by decide +kernel
theorem dX3_isFirstOfName_1 : decode cX3_isFirstOfName 1 = .ok (.istore_n 2, 1) := by decide +kernel
theorem dX3_isFirstOfName_2 : decode cX3_isFirstOfName 2 = .ok (.iload_n 2, 1) := by decide +kernel
theorem dX3_isFirstOfName_3 : decode cX3_isFirstOfName 3 = .ok (.iload_n 1, 1) := by decide +kernel
theorem dX3_isFirstOfName_4 : decode cX3_isFirstOfName 4 = .ok (.if_icmp .ge 24, 3) := by decide +kernel
theorem dX3_isFirstOfName_7 : decode cX3_isFirstOfName 7 = .ok (.aload_n 0, 1) := by decide +kernel
theorem dX3_isFirstOfName_8 : decode cX3_isFirstOfName 8 = .ok (.iload_n 2, 1) := by decide +kernel
theorem dX3_isFirstOfName_9 : decode cX3_isFirstOfName 9 = .ok (.invokevirtual 42, 3) := by decide +kernel
theorem dX3_isFirstOfName_12 : decode cX3_isFirstOfName 12 = .ok (.aload_n 0, 1) := by decide +kernel
theorem dX3_isFirstOfName_13 : decode cX3_isFirstOfName 13 = .ok (.iload_n 1, 1) := by decide +kernel
theorem dX3_isFirstOfName_14 : decode cX3_isFirstOfName 14 = .ok (.invokevirtual 42, 3) := by decide +kernel
theorem dX3_isFirstOfName_17 : decode cX3_isFirstOfName 17 = .ok (.if_icmp .ne 5, 3) := by decide +kernel
theorem dX3_isFirstOfName_20 : decode cX3_isFirstOfName 20 = .ok (.iconst 0, 1) := by decide +kernel
theorem dX3_isFirstOfName_21 : decode cX3_isFirstOfName 21 = .ok (.ireturn, 1) := by decide +kernel
theorem dX3_isFirstOfName_22 : decode cX3_isFirstOfName 22 = .ok (.iinc 2 1, 3) := by decide +kernel
theorem dX3_isFirstOfName_25 : decode cX3_isFirstOfName 25 = .ok (.goto (-23), 3) := by decide +kernel
theorem dX3_isFirstOfName_28 : decode cX3_isFirstOfName 28 = .ok (.iconst 1, 1) := by decide +kernel
theorem dX3_isFirstOfName_29 : decode cX3_isFirstOfName 29 = .ok (.ireturn, 1) := by decide +kernel
theorem dX3_isEachNeedMet_0 : decode cX3_isEachNeedMet 0 = .ok (.iconst 0, 1) := by decide +kernel
theorem dX3_isEachNeedMet_1 : decode cX3_isEachNeedMet 1 = .ok (.istore_n 1, 1) := by decide +kernel
theorem dX3_isEachNeedMet_2 : decode cX3_isEachNeedMet 2 = .ok (.iload_n 1, 1) := by decide +kernel
theorem dX3_isEachNeedMet_3 : decode cX3_isEachNeedMet 3 = .ok (.aload_n 0, 1) := by decide +kernel
theorem dX3_isEachNeedMet_4 : decode cX3_isEachNeedMet 4 = .ok (.getfield 24, 3) := by decide +kernel
theorem dX3_isEachNeedMet_7 : decode cX3_isEachNeedMet 7 = .ok (.if_icmp .ge 39, 3) := by decide +kernel
theorem dX3_isEachNeedMet_10 : decode cX3_isEachNeedMet 10 = .ok (.aload_n 0, 1) := by decide +kernel
theorem dX3_isEachNeedMet_11 : decode cX3_isEachNeedMet 11 = .ok (.iload_n 1, 1) := by decide +kernel
theorem dX3_isEachNeedMet_12 : decode cX3_isEachNeedMet 12 = .ok (.invokevirtual 49, 3) := by decide +kernel
theorem dX3_isEachNeedMet_15 : decode cX3_isEachNeedMet 15 = .ok (.aload_n 0, 1) := by decide +kernel
theorem dX3_isEachNeedMet_16 : decode cX3_isEachNeedMet 16 = .ok (.iload_n 1, 1) := by decide +kernel
theorem dX3_isEachNeedMet_17 : decode cX3_isEachNeedMet 17 = .ok (.invokevirtual 46, 3) := by decide +kernel
theorem dX3_isEachNeedMet_20 : decode cX3_isEachNeedMet 20 = .ok (.if_icmp .lt 18, 3) := by decide +kernel
theorem dX3_isEachNeedMet_23 : decode cX3_isEachNeedMet 23 = .ok (.aload_n 0, 1) := by decide +kernel
theorem dX3_isEachNeedMet_24 : decode cX3_isEachNeedMet 24 = .ok (.iload_n 1, 1) := by decide +kernel
theorem dX3_isEachNeedMet_25 : decode cX3_isEachNeedMet 25 = .ok (.invokevirtual 49, 3) := by decide +kernel
theorem dX3_isEachNeedMet_28 : decode cX3_isEachNeedMet 28 = .ok (.iconst 2, 1) := by decide +kernel
theorem dX3_isEachNeedMet_29 : decode cX3_isEachNeedMet 29 = .ok (.idiv, 1) := by decide +kernel
theorem dX3_isEachNeedMet_30 : decode cX3_isEachNeedMet 30 = .ok (.aload_n 0, 1) := by decide +kernel
theorem dX3_isEachNeedMet_31 : decode cX3_isEachNeedMet 31 = .ok (.iload_n 1, 1) := by decide +kernel
theorem dX3_isEachNeedMet_32 : decode cX3_isEachNeedMet 32 = .ok (.invokevirtual 46, 3) := by decide +kernel
theorem dX3_isEachNeedMet_35 : decode cX3_isEachNeedMet 35 = .ok (.if_icmp .lt 5, 3) := by decide +kernel
theorem dX3_isEachNeedMet_38 : decode cX3_isEachNeedMet 38 = .ok (.iconst 0, 1) := by decide +kernel
theorem dX3_isEachNeedMet_39 : decode cX3_isEachNeedMet 39 = .ok (.ireturn, 1) := by decide +kernel
theorem dX3_isEachNeedMet_40 : decode cX3_isEachNeedMet 40 = .ok (.iinc 1 1, 3) := by decide +kernel
theorem dX3_isEachNeedMet_43 : decode cX3_isEachNeedMet 43 = .ok (.goto (-41), 3) := by decide +kernel
theorem dX3_isEachNeedMet_46 : decode cX3_isEachNeedMet 46 = .ok (.iconst 1, 1) := by decide +kernel
theorem dX3_isEachNeedMet_47 : decode cX3_isEachNeedMet 47 = .ok (.ireturn, 1) := by decide +kernel
theorem dX4_init_0 : decode cX4_init 0 = .ok (.aload_n 0, 1) := by decide +kernel
theorem dX4_init_1 : decode cX4_init 1 = .ok (.invokespecial 3, 3) := by decide +kernel
theorem dX4_init_4 : decode cX4_init 4 = .ok (.aload_n 0, 1) := by decide +kernel
theorem dX4_init_5 : decode cX4_init 5 = .ok (.bipush 20, 2) := by decide +kernel
theorem dX4_init_7 : decode cX4_init 7 = .ok (.newarray .int, 2) := by decide +kernel
theorem dX4_init_9 : decode cX4_init 9 = .ok (.putfield 9, 3) := by decide +kernel
theorem dX4_init_12 : decode cX4_init 12 = .ok (.aload_n 0, 1) := by decide +kernel
theorem dX4_init_13 : decode cX4_init 13 = .ok (.bipush 20, 2) := by decide +kernel
theorem dX4_init_15 : decode cX4_init 15 = .ok (.newarray .int, 2) := by decide +kernel
theorem dX4_init_17 : decode cX4_init 17 = .ok (.putfield 15, 3) := by decide +kernel
theorem dX4_init_20 : decode cX4_init 20 = .ok (.aload_n 0, 1) := by decide +kernel
theorem dX4_init_21 : decode cX4_init 21 = .ok (.bipush 20, 2) := by decide +kernel
theorem dX4_init_23 : decode cX4_init 23 = .ok (.newarray .int, 2) := by decide +kernel
theorem dX4_init_25 : decode cX4_init 25 = .ok (.putfield 18, 3) := by decide +kernel
theorem dX4_init_28 : decode cX4_init 28 = .ok (.aload_n 0, 1) := by decide +kernel
theorem dX4_init_29 : decode cX4_init 29 = .ok (.iconst 0, 1) := by decide +kernel
theorem dX4_init_30 : decode cX4_init 30 = .ok (.putfield 21, 3) := by decide +kernel
theorem dX4_init_33 : decode cX4_init 33 = .ok (.aload_n 0, 1) := by decide +kernel
theorem dX4_init_34 : decode cX4_init 34 = .ok (.bipush 60, 2) := by decide +kernel
theorem dX4_init_36 : decode cX4_init 36 = .ok (.newarray .char, 2) := by decide +kernel
theorem dX4_init_38 : decode cX4_init 38 = .ok (.putfield 25, 3) := by decide +kernel
theorem dX4_init_41 : decode cX4_init 41 = .ok (.aload_n 0, 1) := by decide +kernel
theorem dX4_init_42 : decode cX4_init 42 = .ok (.iconst 0, 1) := by decide +kernel
theorem dX4_init_43 : decode cX4_init 43 = .ok (.putfield 29, 3) := by decide +kernel
theorem dX4_init_46 : decode cX4_init 46 = .ok (.aload_n 0, 1) := by decide +kernel
theorem dX4_init_47 : decode cX4_init 47 = .ok (.iconst 0, 1) := by decide +kernel
theorem dX4_init_48 : decode cX4_init 48 = .ok (.putfield 32, 3) := by decide +kernel
theorem dX4_init_51 : decode cX4_init 51 = .ok (.aload_n 0, 1) := by decide +kernel
theorem dX4_init_52 : decode cX4_init 52 = .ok (.iconst 0, 1) := by decide +kernel
theorem dX4_init_53 : decode cX4_init 53 = .ok (.putfield 35, 3) := by decide +kernel
theorem dX4_init_56 : decode cX4_init 56 = .ok (.return_, 1) := by decide +kernel
theorem dX4_kindAt_0 : decode cX4_kindAt 0 = .ok (.aload_n 0, 1) := by decide +kernel
theorem dX4_kindAt_1 : decode cX4_kindAt 1 = .ok (.iload_n 1, 1) := by decide +kernel
theorem dX4_kindAt_2 : decode cX4_kindAt 2 = .ok (.invokevirtual 38, 3) := by decide +kernel
theorem dX4_kindAt_5 : decode cX4_kindAt 5 = .ok (.ifCond .eq 12, 3) := by decide +kernel
theorem dX4_kindAt_8 : decode cX4_kindAt 8 = .ok (.aload_n 0, 1) := by decide +kernel
theorem dX4_kindAt_9 : decode cX4_kindAt 9 = .ok (.getfield 9, 3) := by decide +kernel
theorem dX4_kindAt_12 : decode cX4_kindAt 12 = .ok (.iload_n 1, 1) := by decide +kernel
theorem dX4_kindAt_13 : decode cX4_kindAt 13 = .ok (.iaload, 1) := by decide +kernel
theorem dX4_kindAt_14 : decode cX4_kindAt 14 = .ok (.goto 4, 3) := by decide +kernel
theorem dX4_kindAt_17 : decode cX4_kindAt 17 = .ok (.iconst 0, 1) := by decide +kernel
theorem dX4_kindAt_18 : decode cX4_kindAt 18 = .ok (.ireturn, 1) := by decide +kernel
theorem dX4_firstAt_0 : decode cX4_firstAt 0 = .ok (.aload_n 0, 1) := by decide +kernel
theorem dX4_firstAt_1 : decode cX4_firstAt 1 = .ok (.iload_n 1, 1) := by decide +kernel
theorem dX4_firstAt_2 : decode cX4_firstAt 2 = .ok (.invokevirtual 38, 3) := by decide +kernel
theorem dX4_firstAt_5 : decode cX4_firstAt 5 = .ok (.ifCond .eq 12, 3) := by decide +kernel
theorem dX4_firstAt_8 : decode cX4_firstAt 8 = .ok (.aload_n 0, 1) := by decide +kernel
theorem dX4_firstAt_9 : decode cX4_firstAt 9 = .ok (.getfield 15, 3) := by decide +kernel
theorem dX4_firstAt_12 : decode cX4_firstAt 12 = .ok (.iload_n 1, 1) := by decide +kernel
theorem dX4_firstAt_13 : decode cX4_firstAt 13 = .ok (.iaload, 1) := by decide +kernel
theorem dX4_firstAt_14 : decode cX4_firstAt 14 = .ok (.goto 4, 3) := by decide +kernel
theorem dX4_firstAt_17 : decode cX4_firstAt 17 = .ok (.iconst 0, 1) := by decide +kernel
theorem dX4_firstAt_18 : decode cX4_firstAt 18 = .ok (.ireturn, 1) := by decide +kernel
theorem dX4_secondAt_0 : decode cX4_secondAt 0 = .ok (.aload_n 0, 1) := by decide +kernel
theorem dX4_secondAt_1 : decode cX4_secondAt 1 = .ok (.iload_n 1, 1) := by decide +kernel
theorem dX4_secondAt_2 : decode cX4_secondAt 2 = .ok (.invokevirtual 38, 3) := by decide +kernel
theorem dX4_secondAt_5 : decode cX4_secondAt 5 = .ok (.ifCond .eq 12, 3) := by decide +kernel
theorem dX4_secondAt_8 : decode cX4_secondAt 8 = .ok (.aload_n 0, 1) := by decide +kernel
theorem dX4_secondAt_9 : decode cX4_secondAt 9 = .ok (.getfield 18, 3) := by decide +kernel
theorem dX4_secondAt_12 : decode cX4_secondAt 12 = .ok (.iload_n 1, 1) := by decide +kernel
theorem dX4_secondAt_13 : decode cX4_secondAt 13 = .ok (.iaload, 1) := by decide +kernel
theorem dX4_secondAt_14 : decode cX4_secondAt 14 = .ok (.goto 4, 3) := by decide +kernel
theorem dX4_secondAt_17 : decode cX4_secondAt 17 = .ok (.iconst 0, 1) := by decide +kernel
theorem dX4_secondAt_18 : decode cX4_secondAt 18 = .ok (.ireturn, 1) := by decide +kernel
theorem dX4_has_0 : decode cX4_has 0 = .ok (.iload_n 1, 1) := by decide +kernel
theorem dX4_has_1 : decode cX4_has 1 = .ok (.ifCond .lt 21, 3) := by decide +kernel
theorem dX4_has_4 : decode cX4_has 4 = .ok (.iload_n 1, 1) := by decide +kernel
theorem dX4_has_5 : decode cX4_has 5 = .ok (.aload_n 0, 1) := by decide +kernel
theorem dX4_has_6 : decode cX4_has 6 = .ok (.getfield 21, 3) := by decide +kernel
theorem dX4_has_9 : decode cX4_has 9 = .ok (.if_icmp .ge 13, 3) := by decide +kernel
theorem dX4_has_12 : decode cX4_has 12 = .ok (.iload_n 1, 1) := by decide +kernel
theorem dX4_has_13 : decode cX4_has 13 = .ok (.bipush 20, 2) := by decide +kernel
theorem dX4_has_15 : decode cX4_has 15 = .ok (.if_icmp .ge 7, 3) := by decide +kernel
theorem dX4_has_18 : decode cX4_has 18 = .ok (.iconst 1, 1) := by decide +kernel
theorem dX4_has_19 : decode cX4_has 19 = .ok (.goto 4, 3) := by decide +kernel
theorem dX4_has_22 : decode cX4_has 22 = .ok (.iconst 0, 1) := by decide +kernel
theorem dX4_has_23 : decode cX4_has 23 = .ok (.ireturn, 1) := by decide +kernel
theorem dX4_isFull_0 : decode cX4_isFull 0 = .ok (.aload_n 0, 1) := by decide +kernel
theorem dX4_isFull_1 : decode cX4_isFull 1 = .ok (.getfield 29, 3) := by decide +kernel
theorem dX4_isFull_4 : decode cX4_isFull 4 = .ok (.bipush 60, 2) := by decide +kernel
theorem dX4_isFull_6 : decode cX4_isFull 6 = .ok (.if_icmp .lt 7, 3) := by decide +kernel
theorem dX4_isFull_9 : decode cX4_isFull 9 = .ok (.iconst 1, 1) := by decide +kernel
theorem dX4_isFull_10 : decode cX4_isFull 10 = .ok (.goto 4, 3) := by decide +kernel
theorem dX4_isFull_13 : decode cX4_isFull 13 = .ok (.iconst 0, 1) := by decide +kernel
theorem dX4_isFull_14 : decode cX4_isFull 14 = .ok (.ireturn, 1) := by decide +kernel
theorem dX4_addSign_0 : decode cX4_addSign 0 = .ok (.aload_n 0, 1) := by decide +kernel
theorem dX4_addSign_1 : decode cX4_addSign 1 = .ok (.getfield 29, 3) := by decide +kernel
theorem dX4_addSign_4 : decode cX4_addSign 4 = .ok (.ifCond .lt 32, 3) := by decide +kernel
theorem dX4_addSign_7 : decode cX4_addSign 7 = .ok (.aload_n 0, 1) := by decide +kernel
theorem dX4_addSign_8 : decode cX4_addSign 8 = .ok (.getfield 29, 3) := by decide +kernel
theorem dX4_addSign_11 : decode cX4_addSign 11 = .ok (.bipush 60, 2) := by decide +kernel
theorem dX4_addSign_13 : decode cX4_addSign 13 = .ok (.if_icmp .ge 23, 3) := by decide +kernel
theorem dX4_addSign_16 : decode cX4_addSign 16 = .ok (.aload_n 0, 1) := by decide +kernel
theorem dX4_addSign_17 : decode cX4_addSign 17 = .ok (.getfield 25, 3) := by decide +kernel
theorem dX4_addSign_20 : decode cX4_addSign 20 = .ok (.aload_n 0, 1) := by decide +kernel
theorem dX4_addSign_21 : decode cX4_addSign 21 = .ok (.getfield 29, 3) := by decide +kernel
theorem dX4_addSign_24 : decode cX4_addSign 24 = .ok (.iload_n 1, 1) := by decide +kernel
theorem dX4_addSign_25 : decode cX4_addSign 25 = .ok (.castore, 1) := by decide +kernel
theorem dX4_addSign_26 : decode cX4_addSign 26 = .ok (.aload_n 0, 1) := by decide +kernel
theorem dX4_addSign_27 : decode cX4_addSign 27 = .ok (.dup, 1) := by decide +kernel
theorem dX4_addSign_28 : decode cX4_addSign 28 = .ok (.getfield 29, 3) := by decide +kernel
theorem dX4_addSign_31 : decode cX4_addSign 31 = .ok (.iconst 1, 1) := by decide +kernel
theorem dX4_addSign_32 : decode cX4_addSign 32 = .ok (.iadd, 1) := by decide +kernel
theorem dX4_addSign_33 : decode cX4_addSign 33 = .ok (.putfield 29, 3) := by decide +kernel
theorem dX4_addSign_36 : decode cX4_addSign 36 = .ok (.return_, 1) := by decide +kernel
theorem dX4_clearText_0 : decode cX4_clearText 0 = .ok (.aload_n 0, 1) := by decide +kernel
theorem dX4_clearText_1 : decode cX4_clearText 1 = .ok (.iconst 0, 1) := by decide +kernel
theorem dX4_clearText_2 : decode cX4_clearText 2 = .ok (.putfield 29, 3) := by decide +kernel
theorem dX4_clearText_5 : decode cX4_clearText 5 = .ok (.return_, 1) := by decide +kernel
theorem dX4_read_0 : decode cX4_read 0 = .ok (.aload_n 0, 1) := by decide +kernel
theorem dX4_read_1 : decode cX4_read 1 = .ok (.iconst 0, 1) := by decide +kernel
theorem dX4_read_2 : decode cX4_read 2 = .ok (.putfield 32, 3) := by decide +kernel
theorem dX4_read_5 : decode cX4_read 5 = .ok (.aload_n 0, 1) := by decide +kernel
theorem dX4_read_6 : decode cX4_read 6 = .ok (.iconst 0, 1) := by decide +kernel
theorem dX4_read_7 : decode cX4_read 7 = .ok (.putfield 21, 3) := by decide +kernel
theorem dX4_read_10 : decode cX4_read 10 = .ok (.iconst 0, 1) := by decide +kernel
theorem dX4_read_11 : decode cX4_read 11 = .ok (.istore_n 1, 1) := by decide +kernel
theorem dX4_read_12 : decode cX4_read 12 = .ok (.iload_n 1, 1) := by decide +kernel
theorem dX4_read_13 : decode cX4_read 13 = .ok (.bipush 20, 2) := by decide +kernel
theorem dX4_read_15 : decode cX4_read 15 = .ok (.if_icmp .ge 56, 3) := by decide +kernel
theorem dX4_read_18 : decode cX4_read 18 = .ok (.aload_n 0, 1) := by decide +kernel
theorem dX4_read_19 : decode cX4_read 19 = .ok (.iload_n 1, 1) := by decide +kernel
theorem dX4_read_20 : decode cX4_read 20 = .ok (.invokevirtual 42, 3) := by decide +kernel
theorem dX4_read_23 : decode cX4_read 23 = .ok (.ifCond .ne 8, 3) := by decide +kernel
theorem dX4_read_26 : decode cX4_read 26 = .ok (.aload_n 0, 1) := by decide +kernel
theorem dX4_read_27 : decode cX4_read 27 = .ok (.getfield 32, 3) := by decide +kernel
theorem dX4_read_30 : decode cX4_read 30 = .ok (.ireturn, 1) := by decide +kernel
theorem dX4_read_31 : decode cX4_read 31 = .ok (.aload_n 0, 1) := by decide +kernel
theorem dX4_read_32 : decode cX4_read 32 = .ok (.iload_n 1, 1) := by decide +kernel
theorem dX4_read_33 : decode cX4_read 33 = .ok (.iconst 1, 1) := by decide +kernel
theorem dX4_read_34 : decode cX4_read 34 = .ok (.iadd, 1) := by decide +kernel
theorem dX4_read_35 : decode cX4_read 35 = .ok (.putfield 21, 3) := by decide +kernel
theorem dX4_read_38 : decode cX4_read 38 = .ok (.aload_n 0, 1) := by decide +kernel
theorem dX4_read_39 : decode cX4_read 39 = .ok (.getfield 32, 3) := by decide +kernel
theorem dX4_read_42 : decode cX4_read 42 = .ok (.aload_n 0, 1) := by decide +kernel
theorem dX4_read_43 : decode cX4_read 43 = .ok (.getfield 29, 3) := by decide +kernel
theorem dX4_read_46 : decode cX4_read 46 = .ok (.if_icmp .ne 5, 3) := by decide +kernel
theorem dX4_read_49 : decode cX4_read 49 = .ok (.iconst (-1), 1) := by decide +kernel
theorem dX4_read_50 : decode cX4_read 50 = .ok (.ireturn, 1) := by decide +kernel
theorem dX4_read_51 : decode cX4_read 51 = .ok (.aload_n 0, 1) := by decide +kernel
theorem dX4_read_52 : decode cX4_read 52 = .ok (.bipush 59, 2) := by decide +kernel
theorem dX4_read_54 : decode cX4_read 54 = .ok (.invokevirtual 45, 3) := by decide +kernel
theorem dX4_read_57 : decode cX4_read 57 = .ok (.ifCond .ne 8, 3) := by decide +kernel
theorem dX4_read_60 : decode cX4_read 60 = .ok (.aload_n 0, 1) := by decide +kernel
theorem dX4_read_61 : decode cX4_read 61 = .ok (.getfield 32, 3) := by decide +kernel
theorem dX4_read_64 : decode cX4_read 64 = .ok (.ireturn, 1) := by decide +kernel
theorem dX4_read_65 : decode cX4_read 65 = .ok (.iinc 1 1, 3) := by decide +kernel
theorem dX4_read_68 : decode cX4_read 68 = .ok (.goto (-56), 3) := by decide +kernel
theorem dX4_read_71 : decode cX4_read 71 = .ok (.aload_n 0, 1) := by decide +kernel
theorem dX4_read_72 : decode cX4_read 72 = .ok (.getfield 32, 3) := by decide +kernel
theorem dX4_read_75 : decode cX4_read 75 = .ok (.ireturn, 1) := by decide +kernel
theorem dX4_readOrder_0 : decode cX4_readOrder 0 = .ok (.aload_n 0, 1) := by decide +kernel
theorem dX4_readOrder_1 : decode cX4_readOrder 1 = .ok (.invokevirtual 48, 3) := by decide +kernel
theorem dX4_readOrder_4 : decode cX4_readOrder 4 = .ok (.istore_n 2, 1) := by decide +kernel
theorem dX4_readOrder_5 : decode cX4_readOrder 5 = .ok (.iload_n 2, 1) := by decide +kernel
theorem dX4_readOrder_6 : decode cX4_readOrder 6 = .ok (.invokestatic 52, 3) := by decide +kernel
theorem dX4_readOrder_9 : decode cX4_readOrder 9 = .ok (.ifCond .ne 5, 3) := by decide +kernel
theorem dX4_readOrder_12 : decode cX4_readOrder 12 = .ok (.iconst 0, 1) := by decide +kernel
theorem dX4_readOrder_13 : decode cX4_readOrder 13 = .ok (.ireturn, 1) := by decide +kernel
theorem dX4_readOrder_14 : decode cX4_readOrder 14 = .ok (.aload_n 0, 1) := by decide +kernel
theorem dX4_readOrder_15 : decode cX4_readOrder 15 = .ok (.dup, 1) := by decide +kernel
theorem dX4_readOrder_16 : decode cX4_readOrder 16 = .ok (.getfield 32, 3) := by decide +kernel
theorem dX4_readOrder_19 : decode cX4_readOrder 19 = .ok (.iconst 1, 1) := by decide +kernel
theorem dX4_readOrder_20 : decode cX4_readOrder 20 = .ok (.iadd, 1) := by decide +kernel
theorem dX4_readOrder_21 : decode cX4_readOrder 21 = .ok (.putfield 32, 3) := by decide +kernel
theorem dX4_readOrder_24 : decode cX4_readOrder 24 = .ok (.iload_n 2, 1) := by decide +kernel
theorem dX4_readOrder_25 : decode cX4_readOrder 25 = .ok (.bipush 119, 2) := by decide +kernel
theorem dX4_readOrder_27 : decode cX4_readOrder 27 = .ok (.if_icmp .ne 13, 3) := by decide +kernel
theorem dX4_readOrder_30 : decode cX4_readOrder 30 = .ok (.aload_n 0, 1) := by decide +kernel
theorem dX4_readOrder_31 : decode cX4_readOrder 31 = .ok (.invokevirtual 55, 3) := by decide +kernel
theorem dX4_readOrder_34 : decode cX4_readOrder 34 = .ok (.ifCond .ne 15, 3) := by decide +kernel
theorem dX4_readOrder_37 : decode cX4_readOrder 37 = .ok (.goto 10, 3) := by decide +kernel
theorem dX4_readOrder_40 : decode cX4_readOrder 40 = .ok (.aload_n 0, 1) := by decide +kernel
theorem dX4_readOrder_41 : decode cX4_readOrder 41 = .ok (.invokevirtual 59, 3) := by decide +kernel
theorem dX4_readOrder_44 : decode cX4_readOrder 44 = .ok (.ifCond .ne 5, 3) := by decide +kernel
theorem dX4_readOrder_47 : decode cX4_readOrder 47 = .ok (.iconst 0, 1) := by decide +kernel
theorem dX4_readOrder_48 : decode cX4_readOrder 48 = .ok (.ireturn, 1) := by decide +kernel
theorem dX4_readOrder_49 : decode cX4_readOrder 49 = .ok (.aload_n 0, 1) := by decide +kernel
theorem dX4_readOrder_50 : decode cX4_readOrder 50 = .ok (.getfield 35, 3) := by decide +kernel
theorem dX4_readOrder_53 : decode cX4_readOrder 53 = .ok (.istore_n 3, 1) := by decide +kernel
theorem dX4_readOrder_54 : decode cX4_readOrder 54 = .ok (.iconst 0, 1) := by decide +kernel
theorem dX4_readOrder_55 : decode cX4_readOrder 55 = .ok (.istore 4, 2) := by decide +kernel
theorem dX4_readOrder_57 : decode cX4_readOrder 57 = .ok (.iload_n 2, 1) := by decide +kernel
theorem dX4_readOrder_58 : decode cX4_readOrder 58 = .ok (.invokestatic 62, 3) := by decide +kernel
theorem dX4_readOrder_61 : decode cX4_readOrder 61 = .ok (.ifCond .eq 27, 3) := by decide +kernel
theorem dX4_readOrder_64 : decode cX4_readOrder 64 = .ok (.aload_n 0, 1) := by decide +kernel
theorem dX4_readOrder_65 : decode cX4_readOrder 65 = .ok (.bipush 58, 2) := by decide +kernel
theorem dX4_readOrder_67 : decode cX4_readOrder 67 = .ok (.invokevirtual 45, 3) := by decide +kernel
theorem dX4_readOrder_70 : decode cX4_readOrder 70 = .ok (.ifCond .eq 10, 3) := by decide +kernel
theorem dX4_readOrder_73 : decode cX4_readOrder 73 = .ok (.aload_n 0, 1) := by decide +kernel
theorem dX4_readOrder_74 : decode cX4_readOrder 74 = .ok (.invokevirtual 59, 3) := by decide +kernel
theorem dX4_readOrder_77 : decode cX4_readOrder 77 = .ok (.ifCond .ne 5, 3) := by decide +kernel
theorem dX4_readOrder_80 : decode cX4_readOrder 80 = .ok (.iconst 0, 1) := by decide +kernel
theorem dX4_readOrder_81 : decode cX4_readOrder 81 = .ok (.ireturn, 1) := by decide +kernel
theorem dX4_readOrder_82 : decode cX4_readOrder 82 = .ok (.aload_n 0, 1) := by decide +kernel
theorem dX4_readOrder_83 : decode cX4_readOrder 83 = .ok (.getfield 35, 3) := by decide +kernel
theorem dX4_readOrder_86 : decode cX4_readOrder 86 = .ok (.istore 4, 2) := by decide +kernel
theorem dX4_readOrder_88 : decode cX4_readOrder 88 = .ok (.aload_n 0, 1) := by decide +kernel
theorem dX4_readOrder_89 : decode cX4_readOrder 89 = .ok (.iload_n 1, 1) := by decide +kernel
theorem dX4_readOrder_90 : decode cX4_readOrder 90 = .ok (.iload_n 2, 1) := by decide +kernel
theorem dX4_readOrder_91 : decode cX4_readOrder 91 = .ok (.iload_n 3, 1) := by decide +kernel
theorem dX4_readOrder_92 : decode cX4_readOrder 92 = .ok (.iload 4, 2) := by decide +kernel
theorem dX4_readOrder_94 : decode cX4_readOrder 94 = .ok (.invokevirtual 65, 3) := by decide +kernel
theorem dX4_readOrder_97 : decode cX4_readOrder 97 = .ok (.iconst 1, 1) := by decide +kernel
theorem dX4_readOrder_98 : decode cX4_readOrder 98 = .ok (.ireturn, 1) := by decide +kernel
theorem dX4_isKind_0 : decode cX4_isKind 0 = .ok (.iload_n 0, 1) := by decide +kernel
theorem dX4_isKind_1 : decode cX4_isKind 1 = .ok (.invokestatic 62, 3) := by decide +kernel
theorem dX4_isKind_4 : decode cX4_isKind 4 = .ok (.ifCond .ne 21, 3) := by decide +kernel
theorem dX4_isKind_7 : decode cX4_isKind 7 = .ok (.iload_n 0, 1) := by decide +kernel
theorem dX4_isKind_8 : decode cX4_isKind 8 = .ok (.bipush 103, 2) := by decide +kernel
theorem dX4_isKind_10 : decode cX4_isKind 10 = .ok (.if_icmp .eq 15, 3) := by decide +kernel
theorem dX4_isKind_13 : decode cX4_isKind 13 = .ok (.iload_n 0, 1) := by decide +kernel
theorem dX4_isKind_14 : decode cX4_isKind 14 = .ok (.bipush 110, 2) := by decide +kernel
theorem dX4_isKind_16 : decode cX4_isKind 16 = .ok (.if_icmp .eq 9, 3) := by decide +kernel
theorem dX4_isKind_19 : decode cX4_isKind 19 = .ok (.iload_n 0, 1) := by decide +kernel
theorem dX4_isKind_20 : decode cX4_isKind 20 = .ok (.bipush 119, 2) := by decide +kernel
theorem dX4_isKind_22 : decode cX4_isKind 22 = .ok (.if_icmp .ne 7, 3) := by decide +kernel
theorem dX4_isKind_25 : decode cX4_isKind 25 = .ok (.iconst 1, 1) := by decide +kernel
theorem dX4_isKind_26 : decode cX4_isKind 26 = .ok (.goto 4, 3) := by decide +kernel
theorem dX4_isKind_29 : decode cX4_isKind 29 = .ok (.iconst 0, 1) := by decide +kernel
theorem dX4_isKind_30 : decode cX4_isKind 30 = .ok (.ireturn, 1) := by decide +kernel
theorem dX4_hasAmount_0 : decode cX4_hasAmount 0 = .ok (.iload_n 0, 1) := by decide +kernel
theorem dX4_hasAmount_1 : decode cX4_hasAmount 1 = .ok (.bipush 108, 2) := by decide +kernel
theorem dX4_hasAmount_3 : decode cX4_hasAmount 3 = .ok (.if_icmp .eq 15, 3) := by decide +kernel
theorem dX4_hasAmount_6 : decode cX4_hasAmount 6 = .ok (.iload_n 0, 1) := by decide +kernel
theorem dX4_hasAmount_7 : decode cX4_hasAmount 7 = .ok (.bipush 113, 2) := by decide +kernel
theorem dX4_hasAmount_9 : decode cX4_hasAmount 9 = .ok (.if_icmp .eq 9, 3) := by decide +kernel
theorem dX4_hasAmount_12 : decode cX4_hasAmount 12 = .ok (.iload_n 0, 1) := by decide +kernel
theorem dX4_hasAmount_13 : decode cX4_hasAmount 13 = .ok (.bipush 114, 2) := by decide +kernel
theorem dX4_hasAmount_15 : decode cX4_hasAmount 15 = .ok (.if_icmp .ne 7, 3) := by decide +kernel
theorem dX4_hasAmount_18 : decode cX4_hasAmount 18 = .ok (.iconst 1, 1) := by decide +kernel
theorem dX4_hasAmount_19 : decode cX4_hasAmount 19 = .ok (.goto 4, 3) := by decide +kernel
theorem dX4_hasAmount_22 : decode cX4_hasAmount 22 = .ok (.iconst 0, 1) := by decide +kernel
theorem dX4_hasAmount_23 : decode cX4_hasAmount 23 = .ok (.ireturn, 1) := by decide +kernel
theorem dX4_put_0 : decode cX4_put 0 = .ok (.iload_n 1, 1) := by decide +kernel
theorem dX4_put_1 : decode cX4_put 1 = .ok (.ifCond .lt 31, 3) := by decide +kernel
theorem dX4_put_4 : decode cX4_put 4 = .ok (.iload_n 1, 1) := by decide +kernel
theorem dX4_put_5 : decode cX4_put 5 = .ok (.bipush 20, 2) := by decide +kernel
theorem dX4_put_7 : decode cX4_put 7 = .ok (.if_icmp .ge 25, 3) := by decide +kernel
theorem dX4_put_10 : decode cX4_put 10 = .ok (.aload_n 0, 1) := by decide +kernel
theorem dX4_put_11 : decode cX4_put 11 = .ok (.getfield 9, 3) := by decide +kernel
theorem dX4_put_14 : decode cX4_put 14 = .ok (.iload_n 1, 1) := by decide +kernel
theorem dX4_put_15 : decode cX4_put 15 = .ok (.iload_n 2, 1) := by decide +kernel
theorem dX4_put_16 : decode cX4_put 16 = .ok (.iastore, 1) := by decide +kernel
theorem dX4_put_17 : decode cX4_put 17 = .ok (.aload_n 0, 1) := by decide +kernel
theorem dX4_put_18 : decode cX4_put 18 = .ok (.getfield 15, 3) := by decide +kernel
theorem dX4_put_21 : decode cX4_put 21 = .ok (.iload_n 1, 1) := by decide +kernel
theorem dX4_put_22 : decode cX4_put 22 = .ok (.iload_n 3, 1) := by decide +kernel
theorem dX4_put_23 : decode cX4_put 23 = .ok (.iastore, 1) := by decide +kernel
theorem dX4_put_24 : decode cX4_put 24 = .ok (.aload_n 0, 1) := by decide +kernel
theorem dX4_put_25 : decode cX4_put 25 = .ok (.getfield 18, 3) := by decide +kernel
theorem dX4_put_28 : decode cX4_put 28 = .ok (.iload_n 1, 1) := by decide +kernel
theorem dX4_put_29 : decode cX4_put 29 = .ok (.iload 4, 2) := by decide +kernel
theorem dX4_put_31 : decode cX4_put 31 = .ok (.iastore, 1) := by decide +kernel
theorem dX4_put_32 : decode cX4_put 32 = .ok (.return_, 1) := by decide +kernel
theorem dX4_readNumber_0 : decode cX4_readNumber 0 = .ok (.aload_n 0, 1) := by decide +kernel
theorem dX4_readNumber_1 : decode cX4_readNumber 1 = .ok (.invokevirtual 55, 3) := by decide +kernel
theorem dX4_readNumber_4 : decode cX4_readNumber 4 = .ok (.ifCond .ne 5, 3) := by decide +kernel
theorem dX4_readNumber_7 : decode cX4_readNumber 7 = .ok (.iconst 0, 1) := by decide +kernel
theorem dX4_readNumber_8 : decode cX4_readNumber 8 = .ok (.ireturn, 1) := by decide +kernel
theorem dX4_readNumber_9 : decode cX4_readNumber 9 = .ok (.aload_n 0, 1) := by decide +kernel
theorem dX4_readNumber_10 : decode cX4_readNumber 10 = .ok (.getfield 35, 3) := by decide +kernel
theorem dX4_readNumber_13 : decode cX4_readNumber 13 = .ok (.istore_n 1, 1) := by decide +kernel
theorem dX4_readNumber_14 : decode cX4_readNumber 14 = .ok (.aload_n 0, 1) := by decide +kernel
theorem dX4_readNumber_15 : decode cX4_readNumber 15 = .ok (.invokevirtual 55, 3) := by decide +kernel
theorem dX4_readNumber_18 : decode cX4_readNumber 18 = .ok (.ifCond .eq 16, 3) := by decide +kernel
theorem dX4_readNumber_21 : decode cX4_readNumber 21 = .ok (.aload_n 0, 1) := by decide +kernel
theorem dX4_readNumber_22 : decode cX4_readNumber 22 = .ok (.bipush 10, 2) := by decide +kernel
theorem dX4_readNumber_24 : decode cX4_readNumber 24 = .ok (.iload_n 1, 1) := by decide +kernel
theorem dX4_readNumber_25 : decode cX4_readNumber 25 = .ok (.imul, 1) := by decide +kernel
theorem dX4_readNumber_26 : decode cX4_readNumber 26 = .ok (.aload_n 0, 1) := by decide +kernel
theorem dX4_readNumber_27 : decode cX4_readNumber 27 = .ok (.getfield 35, 3) := by decide +kernel
theorem dX4_readNumber_30 : decode cX4_readNumber 30 = .ok (.iadd, 1) := by decide +kernel
theorem dX4_readNumber_31 : decode cX4_readNumber 31 = .ok (.putfield 35, 3) := by decide +kernel
theorem dX4_readNumber_34 : decode cX4_readNumber 34 = .ok (.iconst 1, 1) := by decide +kernel
theorem dX4_readNumber_35 : decode cX4_readNumber 35 = .ok (.ireturn, 1) := by decide +kernel
theorem dX4_readDigit_0 : decode cX4_readDigit 0 = .ok (.aload_n 0, 1) := by decide +kernel
theorem dX4_readDigit_1 : decode cX4_readDigit 1 = .ok (.invokevirtual 48, 3) := by decide +kernel
theorem dX4_readDigit_4 : decode cX4_readDigit 4 = .ok (.bipush 48, 2) := by decide +kernel
theorem dX4_readDigit_6 : decode cX4_readDigit 6 = .ok (.isub, 1) := by decide +kernel
theorem dX4_readDigit_7 : decode cX4_readDigit 7 = .ok (.istore_n 1, 1) := by decide +kernel
theorem dX4_readDigit_8 : decode cX4_readDigit 8 = .ok (.iload_n 1, 1) := by decide +kernel
theorem dX4_readDigit_9 : decode cX4_readDigit 9 = .ok (.ifCond .lt 9, 3) := by decide +kernel
theorem dX4_readDigit_12 : decode cX4_readDigit 12 = .ok (.iload_n 1, 1) := by decide +kernel
theorem dX4_readDigit_13 : decode cX4_readDigit 13 = .ok (.bipush 9, 2) := by decide +kernel
theorem dX4_readDigit_15 : decode cX4_readDigit 15 = .ok (.if_icmp .le 5, 3) := by decide +kernel
theorem dX4_readDigit_18 : decode cX4_readDigit 18 = .ok (.iconst 0, 1) := by decide +kernel
theorem dX4_readDigit_19 : decode cX4_readDigit 19 = .ok (.ireturn, 1) := by decide +kernel
theorem dX4_readDigit_20 : decode cX4_readDigit 20 = .ok (.aload_n 0, 1) := by decide +kernel
theorem dX4_readDigit_21 : decode cX4_readDigit 21 = .ok (.iload_n 1, 1) := by decide +kernel
theorem dX4_readDigit_22 : decode cX4_readDigit 22 = .ok (.putfield 35, 3) := by decide +kernel
theorem dX4_readDigit_25 : decode cX4_readDigit 25 = .ok (.aload_n 0, 1) := by decide +kernel
theorem dX4_readDigit_26 : decode cX4_readDigit 26 = .ok (.dup, 1) := by decide +kernel
theorem dX4_readDigit_27 : decode cX4_readDigit 27 = .ok (.getfield 32, 3) := by decide +kernel
theorem dX4_readDigit_30 : decode cX4_readDigit 30 = .ok (.iconst 1, 1) := by decide +kernel
theorem dX4_readDigit_31 : decode cX4_readDigit 31 = .ok (.iadd, 1) := by decide +kernel
theorem dX4_readDigit_32 : decode cX4_readDigit 32 = .ok (.putfield 32, 3) := by decide +kernel
theorem dX4_readDigit_35 : decode cX4_readDigit 35 = .ok (.iconst 1, 1) := by decide +kernel
theorem dX4_readDigit_36 : decode cX4_readDigit 36 = .ok (.ireturn, 1) := by decide +kernel
theorem dX4_readSign_0 : decode cX4_readSign 0 = .ok (.aload_n 0, 1) := by decide +kernel
theorem dX4_readSign_1 : decode cX4_readSign 1 = .ok (.invokevirtual 48, 3) := by decide +kernel
theorem dX4_readSign_4 : decode cX4_readSign 4 = .ok (.iload_n 1, 1) := by decide +kernel
theorem dX4_readSign_5 : decode cX4_readSign 5 = .ok (.if_icmp .eq 5, 3) := by decide +kernel
theorem dX4_readSign_8 : decode cX4_readSign 8 = .ok (.iconst 0, 1) := by decide +kernel
theorem dX4_readSign_9 : decode cX4_readSign 9 = .ok (.ireturn, 1) := by decide +kernel
theorem dX4_readSign_10 : decode cX4_readSign 10 = .ok (.aload_n 0, 1) := by decide +kernel
theorem dX4_readSign_11 : decode cX4_readSign 11 = .ok (.dup, 1) := by decide +kernel
theorem dX4_readSign_12 : decode cX4_readSign 12 = .ok (.getfield 32, 3) := by decide +kernel
theorem dX4_readSign_15 : decode cX4_readSign 15 = .ok (.iconst 1, 1) := by decide +kernel
theorem dX4_readSign_16 : decode cX4_readSign 16 = .ok (.iadd, 1) := by decide +kernel
theorem dX4_readSign_17 : decode cX4_readSign 17 = .ok (.putfield 32, 3) := by decide +kernel
theorem dX4_readSign_20 : decode cX4_readSign 20 = .ok (.iconst 1, 1) := by decide +kernel
theorem dX4_readSign_21 : decode cX4_readSign 21 = .ok (.ireturn, 1) := by decide +kernel
theorem dX4_sign_0 : decode cX4_sign 0 = .ok (.aload_n 0, 1) := by decide +kernel
theorem dX4_sign_1 : decode cX4_sign 1 = .ok (.getfield 32, 3) := by decide +kernel
theorem dX4_sign_4 : decode cX4_sign 4 = .ok (.ifCond .lt 35, 3) := by decide +kernel
theorem dX4_sign_7 : decode cX4_sign 7 = .ok (.aload_n 0, 1) := by decide +kernel
theorem dX4_sign_8 : decode cX4_sign 8 = .ok (.getfield 32, 3) := by decide +kernel
theorem dX4_sign_11 : decode cX4_sign 11 = .ok (.aload_n 0, 1) := by decide +kernel
theorem dX4_sign_12 : decode cX4_sign 12 = .ok (.getfield 29, 3) := by decide +kernel
theorem dX4_sign_15 : decode cX4_sign 15 = .ok (.if_icmp .ge 24, 3) := by decide +kernel
theorem dX4_sign_18 : decode cX4_sign 18 = .ok (.aload_n 0, 1) := by decide +kernel
theorem dX4_sign_19 : decode cX4_sign 19 = .ok (.getfield 32, 3) := by decide +kernel
theorem dX4_sign_22 : decode cX4_sign 22 = .ok (.bipush 60, 2) := by decide +kernel
theorem dX4_sign_24 : decode cX4_sign 24 = .ok (.if_icmp .ge 15, 3) := by decide +kernel
theorem dX4_sign_27 : decode cX4_sign 27 = .ok (.aload_n 0, 1) := by decide +kernel
theorem dX4_sign_28 : decode cX4_sign 28 = .ok (.getfield 25, 3) := by decide +kernel
theorem dX4_sign_31 : decode cX4_sign 31 = .ok (.aload_n 0, 1) := by decide +kernel
theorem dX4_sign_32 : decode cX4_sign 32 = .ok (.getfield 32, 3) := by decide +kernel
theorem dX4_sign_35 : decode cX4_sign 35 = .ok (.caload, 1) := by decide +kernel
theorem dX4_sign_36 : decode cX4_sign 36 = .ok (.goto 4, 3) := by decide +kernel
theorem dX4_sign_39 : decode cX4_sign 39 = .ok (.iconst (-1), 1) := by decide +kernel
theorem dX4_sign_40 : decode cX4_sign 40 = .ok (.ireturn, 1) := by decide +kernel
theorem dX5_init_0 : decode cX5_init 0 = .ok (.aload_n 0, 1) := by decide +kernel
theorem dX5_init_1 : decode cX5_init 1 = .ok (.invokespecial 3, 3) := by decide +kernel
theorem dX5_init_4 : decode cX5_init 4 = .ok (.aload_n 0, 1) := by decide +kernel
theorem dX5_init_5 : decode cX5_init 5 = .ok (.bipush 64, 2) := by decide +kernel
theorem dX5_init_7 : decode cX5_init 7 = .ok (.newarray .int, 2) := by decide +kernel
theorem dX5_init_9 : decode cX5_init 9 = .ok (.putfield 9, 3) := by decide +kernel
theorem dX5_init_12 : decode cX5_init 12 = .ok (.aload_n 0, 1) := by decide +kernel
theorem dX5_init_13 : decode cX5_init 13 = .ok (.iconst 0, 1) := by decide +kernel
theorem dX5_init_14 : decode cX5_init 14 = .ok (.putfield 15, 3) := by decide +kernel
theorem dX5_init_17 : decode cX5_init 17 = .ok (.aload_n 0, 1) := by decide +kernel
theorem dX5_init_18 : decode cX5_init 18 = .ok (.iconst 0, 1) := by decide +kernel
theorem dX5_init_19 : decode cX5_init 19 = .ok (.putfield 19, 3) := by decide +kernel
theorem dX5_init_22 : decode cX5_init 22 = .ok (.aload_n 0, 1) := by decide +kernel
theorem dX5_init_23 : decode cX5_init 23 = .ok (.iconst 0, 1) := by decide +kernel
theorem dX5_init_24 : decode cX5_init 24 = .ok (.putfield 22, 3) := by decide +kernel
theorem dX5_init_27 : decode cX5_init 27 = .ok (.aload_n 0, 1) := by decide +kernel
theorem dX5_init_28 : decode cX5_init 28 = .ok (.getfield 9, 3) := by decide +kernel
theorem dX5_init_31 : decode cX5_init 31 = .ok (.iconst 0, 1) := by decide +kernel
theorem dX5_init_32 : decode cX5_init 32 = .ok (.bipush 64, 2) := by decide +kernel
theorem dX5_init_34 : decode cX5_init 34 = .ok (.iastore, 1) := by decide +kernel
theorem dX5_init_35 : decode cX5_init 35 = .ok (.return_, 1) := by decide +kernel
theorem dX5_copyFrom_0 : decode cX5_copyFrom 0 = .ok (.aload_n 1, 1) := by decide +kernel
theorem dX5_copyFrom_1 : decode cX5_copyFrom 1 = .ok (.getfield 9, 3) := by decide +kernel
theorem dX5_copyFrom_4 : decode cX5_copyFrom 4 = .ok (.iconst 0, 1) := by decide +kernel
theorem dX5_copyFrom_5 : decode cX5_copyFrom 5 = .ok (.aload_n 0, 1) := by decide +kernel
theorem dX5_copyFrom_6 : decode cX5_copyFrom 6 = .ok (.getfield 9, 3) := by decide +kernel
theorem dX5_copyFrom_9 : decode cX5_copyFrom 9 = .ok (.iconst 0, 1) := by decide +kernel
theorem dX5_copyFrom_10 : decode cX5_copyFrom 10 = .ok (.bipush 64, 2) := by decide +kernel
theorem dX5_copyFrom_12 : decode cX5_copyFrom 12 = .ok (.invokestatic 25, 3) := by decide +kernel
theorem dX5_copyFrom_15 : decode cX5_copyFrom 15 = .ok (.aload_n 0, 1) := by decide +kernel
theorem dX5_copyFrom_16 : decode cX5_copyFrom 16 = .ok (.aload_n 1, 1) := by decide +kernel
theorem dX5_copyFrom_17 : decode cX5_copyFrom 17 = .ok (.getfield 15, 3) := by decide +kernel
theorem dX5_copyFrom_20 : decode cX5_copyFrom 20 = .ok (.putfield 15, 3) := by decide +kernel
theorem dX5_copyFrom_23 : decode cX5_copyFrom 23 = .ok (.aload_n 0, 1) := by decide +kernel
theorem dX5_copyFrom_24 : decode cX5_copyFrom 24 = .ok (.aload_n 1, 1) := by decide +kernel
theorem dX5_copyFrom_25 : decode cX5_copyFrom 25 = .ok (.getfield 19, 3) := by decide +kernel
theorem dX5_copyFrom_28 : decode cX5_copyFrom 28 = .ok (.putfield 19, 3) := by decide +kernel
theorem dX5_copyFrom_31 : decode cX5_copyFrom 31 = .ok (.aload_n 0, 1) := by decide +kernel
theorem dX5_copyFrom_32 : decode cX5_copyFrom 32 = .ok (.aload_n 1, 1) := by decide +kernel
theorem dX5_copyFrom_33 : decode cX5_copyFrom 33 = .ok (.getfield 22, 3) := by decide +kernel
theorem dX5_copyFrom_36 : decode cX5_copyFrom 36 = .ok (.putfield 22, 3) := by decide +kernel
theorem dX5_copyFrom_39 : decode cX5_copyFrom 39 = .ok (.return_, 1) := by decide +kernel
theorem dX5_sizeAt_0 : decode cX5_sizeAt 0 = .ok (.iload_n 1, 1) := by decide +kernel
theorem dX5_sizeAt_1 : decode cX5_sizeAt 1 = .ok (.ifCond .lt 18, 3) := by decide +kernel
theorem dX5_sizeAt_4 : decode cX5_sizeAt 4 = .ok (.iload_n 1, 1) := by decide +kernel
theorem dX5_sizeAt_5 : decode cX5_sizeAt 5 = .ok (.bipush 64, 2) := by decide +kernel
theorem dX5_sizeAt_7 : decode cX5_sizeAt 7 = .ok (.if_icmp .ge 12, 3) := by decide +kernel
theorem dX5_sizeAt_10 : decode cX5_sizeAt 10 = .ok (.aload_n 0, 1) := by decide +kernel
theorem dX5_sizeAt_11 : decode cX5_sizeAt 11 = .ok (.getfield 9, 3) := by decide +kernel
theorem dX5_sizeAt_14 : decode cX5_sizeAt 14 = .ok (.iload_n 1, 1) := by decide +kernel
theorem dX5_sizeAt_15 : decode cX5_sizeAt 15 = .ok (.iaload, 1) := by decide +kernel
theorem dX5_sizeAt_16 : decode cX5_sizeAt 16 = .ok (.goto 4, 3) := by decide +kernel
theorem dX5_sizeAt_19 : decode cX5_sizeAt 19 = .ok (.iconst 0, 1) := by decide +kernel
theorem dX5_sizeAt_20 : decode cX5_sizeAt 20 = .ok (.ireturn, 1) := by decide +kernel
theorem dX5_setSize_0 : decode cX5_setSize 0 = .ok (.iload_n 1, 1) := by decide +kernel
theorem dX5_setSize_1 : decode cX5_setSize 1 = .ok (.ifCond .lt 16, 3) := by decide +kernel
theorem dX5_setSize_4 : decode cX5_setSize 4 = .ok (.iload_n 1, 1) := by decide +kernel
theorem dX5_setSize_5 : decode cX5_setSize 5 = .ok (.bipush 64, 2) := by decide +kernel
theorem dX5_setSize_7 : decode cX5_setSize 7 = .ok (.if_icmp .ge 10, 3) := by decide +kernel
theorem dX5_setSize_10 : decode cX5_setSize 10 = .ok (.aload_n 0, 1) := by decide +kernel
theorem dX5_setSize_11 : decode cX5_setSize 11 = .ok (.getfield 9, 3) := by decide +kernel
theorem dX5_setSize_14 : decode cX5_setSize 14 = .ok (.iload_n 1, 1) := by decide +kernel
theorem dX5_setSize_15 : decode cX5_setSize 15 = .ok (.iload_n 2, 1) := by decide +kernel
theorem dX5_setSize_16 : decode cX5_setSize 16 = .ok (.iastore, 1) := by decide +kernel
theorem dX5_setSize_17 : decode cX5_setSize 17 = .ok (.return_, 1) := by decide +kernel
theorem dX5_isUpperTaken_0 : decode cX5_isUpperTaken 0 = .ok (.aload_n 0, 1) := by decide +kernel
theorem dX5_isUpperTaken_1 : decode cX5_isUpperTaken 1 = .ok (.getfield 15, 3) := by decide +kernel
theorem dX5_isUpperTaken_4 : decode cX5_isUpperTaken 4 = .ok (.iconst 1, 1) := by decide +kernel
theorem dX5_isUpperTaken_5 : decode cX5_isUpperTaken 5 = .ok (.if_icmp .ne 7, 3) := by decide +kernel
theorem dX5_isUpperTaken_8 : decode cX5_isUpperTaken 8 = .ok (.iconst 1, 1) := by decide +kernel
theorem dX5_isUpperTaken_9 : decode cX5_isUpperTaken 9 = .ok (.goto 4, 3) := by decide +kernel
theorem dX5_isUpperTaken_12 : decode cX5_isUpperTaken 12 = .ok (.iconst 0, 1) := by decide +kernel
theorem dX5_isUpperTaken_13 : decode cX5_isUpperTaken 13 = .ok (.ireturn, 1) := by decide +kernel
theorem dX5_find_0 : decode cX5_find 0 = .ok (.iconst (-1), 1) := by decide +kernel
theorem dX5_find_1 : decode cX5_find 1 = .ok (.istore_n 2, 1) := by decide +kernel
theorem dX5_find_2 : decode cX5_find 2 = .ok (.iconst 0, 1) := by decide +kernel
theorem dX5_find_3 : decode cX5_find 3 = .ok (.istore_n 3, 1) := by decide +kernel
theorem dX5_find_4 : decode cX5_find 4 = .ok (.iconst 0, 1) := by decide +kernel
theorem dX5_find_5 : decode cX5_find 5 = .ok (.istore 4, 2) := by decide +kernel
theorem dX5_find_7 : decode cX5_find 7 = .ok (.iload 4, 2) := by decide +kernel
theorem dX5_find_9 : decode cX5_find 9 = .ok (.bipush 64, 2) := by decide +kernel
theorem dX5_find_11 : decode cX5_find 11 = .ok (.if_icmp .ge 49, 3) := by decide +kernel
theorem dX5_find_14 : decode cX5_find 14 = .ok (.aload_n 0, 1) := by decide +kernel
theorem dX5_find_15 : decode cX5_find 15 = .ok (.getfield 9, 3) := by decide +kernel
theorem dX5_find_18 : decode cX5_find 18 = .ok (.iload 4, 2) := by decide +kernel
theorem dX5_find_20 : decode cX5_find 20 = .ok (.iaload, 1) := by decide +kernel
theorem dX5_find_21 : decode cX5_find 21 = .ok (.istore 5, 2) := by decide +kernel
theorem dX5_find_23 : decode cX5_find 23 = .ok (.iload 5, 2) := by decide +kernel
theorem dX5_find_25 : decode cX5_find 25 = .ok (.iload_n 1, 1) := by decide +kernel
theorem dX5_find_26 : decode cX5_find 26 = .ok (.if_icmp .lt 28, 3) := by decide +kernel
theorem dX5_find_29 : decode cX5_find 29 = .ok (.iload 5, 2) := by decide +kernel
theorem dX5_find_31 : decode cX5_find 31 = .ok (.ifCond .le 23, 3) := by decide +kernel
theorem dX5_find_34 : decode cX5_find 34 = .ok (.iload_n 2, 1) := by decide +kernel
theorem dX5_find_35 : decode cX5_find 35 = .ok (.ifCond .lt 13, 3) := by decide +kernel
theorem dX5_find_38 : decode cX5_find 38 = .ok (.aload_n 0, 1) := by decide +kernel
theorem dX5_find_39 : decode cX5_find 39 = .ok (.iload 5, 2) := by decide +kernel
theorem dX5_find_41 : decode cX5_find 41 = .ok (.iload_n 3, 1) := by decide +kernel
theorem dX5_find_42 : decode cX5_find 42 = .ok (.invokevirtual 31, 3) := by decide +kernel
theorem dX5_find_45 : decode cX5_find 45 = .ok (.ifCond .eq 9, 3) := by decide +kernel
theorem dX5_find_48 : decode cX5_find 48 = .ok (.iload 4, 2) := by decide +kernel
theorem dX5_find_50 : decode cX5_find 50 = .ok (.istore_n 2, 1) := by decide +kernel
theorem dX5_find_51 : decode cX5_find 51 = .ok (.iload 5, 2) := by decide +kernel
theorem dX5_find_53 : decode cX5_find 53 = .ok (.istore_n 3, 1) := by decide +kernel
theorem dX5_find_54 : decode cX5_find 54 = .ok (.iinc 4 1, 3) := by decide +kernel
theorem dX5_find_57 : decode cX5_find 57 = .ok (.goto (-50), 3) := by decide +kernel
theorem dX5_find_60 : decode cX5_find 60 = .ok (.iload_n 2, 1) := by decide +kernel
theorem dX5_find_61 : decode cX5_find 61 = .ok (.ireturn, 1) := by decide +kernel
theorem dX5_isPreferred_0 : decode cX5_isPreferred 0 = .ok (.aload_n 0, 1) := by decide +kernel
theorem dX5_isPreferred_1 : decode cX5_isPreferred 1 = .ok (.getfield 15, 3) := by decide +kernel
theorem dX5_isPreferred_4 : decode cX5_isPreferred 4 = .ok (.lookupswitch 50 #[(0, 28), (1, 39)], 28) := by decide +kernel
theorem dX5_isPreferred_32 : decode cX5_isPreferred 32 = .ok (.iload_n 1, 1) := by decide +kernel
theorem dX5_isPreferred_33 : decode cX5_isPreferred 33 = .ok (.iload_n 2, 1) := by decide +kernel
theorem dX5_isPreferred_34 : decode cX5_isPreferred 34 = .ok (.if_icmp .ge 7, 3) := by decide +kernel
theorem dX5_isPreferred_37 : decode cX5_isPreferred 37 = .ok (.iconst 1, 1) := by decide +kernel
theorem dX5_isPreferred_38 : decode cX5_isPreferred 38 = .ok (.goto 4, 3) := by decide +kernel
theorem dX5_isPreferred_41 : decode cX5_isPreferred 41 = .ok (.iconst 0, 1) := by decide +kernel
theorem dX5_isPreferred_42 : decode cX5_isPreferred 42 = .ok (.ireturn, 1) := by decide +kernel
theorem dX5_isPreferred_43 : decode cX5_isPreferred 43 = .ok (.iload_n 1, 1) := by decide +kernel
theorem dX5_isPreferred_44 : decode cX5_isPreferred 44 = .ok (.iload_n 2, 1) := by decide +kernel
theorem dX5_isPreferred_45 : decode cX5_isPreferred 45 = .ok (.if_icmp .gt 7, 3) := by decide +kernel
theorem dX5_isPreferred_48 : decode cX5_isPreferred 48 = .ok (.iconst 1, 1) := by decide +kernel
theorem dX5_isPreferred_49 : decode cX5_isPreferred 49 = .ok (.goto 4, 3) := by decide +kernel
theorem dX5_isPreferred_52 : decode cX5_isPreferred 52 = .ok (.iconst 0, 1) := by decide +kernel
theorem dX5_isPreferred_53 : decode cX5_isPreferred 53 = .ok (.ireturn, 1) := by decide +kernel
theorem dX5_isPreferred_54 : decode cX5_isPreferred 54 = .ok (.iload_n 1, 1) := by decide +kernel
theorem dX5_isPreferred_55 : decode cX5_isPreferred 55 = .ok (.iload_n 2, 1) := by decide +kernel
theorem dX5_isPreferred_56 : decode cX5_isPreferred 56 = .ok (.if_icmp .le 7, 3) := by decide +kernel
theorem dX5_isPreferred_59 : decode cX5_isPreferred 59 = .ok (.iconst 1, 1) := by decide +kernel
theorem dX5_isPreferred_60 : decode cX5_isPreferred 60 = .ok (.goto 4, 3) := by decide +kernel
theorem dX5_isPreferred_63 : decode cX5_isPreferred 63 = .ok (.iconst 0, 1) := by decide +kernel
theorem dX5_isPreferred_64 : decode cX5_isPreferred 64 = .ok (.ireturn, 1) := by decide +kernel
theorem dX5_take_0 : decode cX5_take 0 = .ok (.aload_n 0, 1) := by decide +kernel
theorem dX5_take_1 : decode cX5_take 1 = .ok (.iload_n 1, 1) := by decide +kernel
theorem dX5_take_2 : decode cX5_take 2 = .ok (.invokevirtual 35, 3) := by decide +kernel
theorem dX5_take_5 : decode cX5_take 5 = .ok (.istore_n 2, 1) := by decide +kernel
theorem dX5_take_6 : decode cX5_take 6 = .ok (.iload_n 2, 1) := by decide +kernel
theorem dX5_take_7 : decode cX5_take 7 = .ok (.ifCond .ge 5, 3) := by decide +kernel
theorem dX5_take_10 : decode cX5_take 10 = .ok (.iconst (-1), 1) := by decide +kernel
theorem dX5_take_11 : decode cX5_take 11 = .ok (.ireturn, 1) := by decide +kernel
theorem dX5_take_12 : decode cX5_take 12 = .ok (.aload_n 0, 1) := by decide +kernel
theorem dX5_take_13 : decode cX5_take 13 = .ok (.iload_n 2, 1) := by decide +kernel
theorem dX5_take_14 : decode cX5_take 14 = .ok (.invokevirtual 39, 3) := by decide +kernel
theorem dX5_take_17 : decode cX5_take 17 = .ok (.istore_n 3, 1) := by decide +kernel
theorem dX5_take_18 : decode cX5_take 18 = .ok (.aload_n 0, 1) := by decide +kernel
theorem dX5_take_19 : decode cX5_take 19 = .ok (.iload_n 2, 1) := by decide +kernel
theorem dX5_take_20 : decode cX5_take 20 = .ok (.iconst 0, 1) := by decide +kernel
theorem dX5_take_21 : decode cX5_take 21 = .ok (.invokevirtual 42, 3) := by decide +kernel
theorem dX5_take_24 : decode cX5_take 24 = .ok (.aload_n 0, 1) := by decide +kernel
theorem dX5_take_25 : decode cX5_take 25 = .ok (.iload_n 2, 1) := by decide +kernel
theorem dX5_take_26 : decode cX5_take 26 = .ok (.iload_n 3, 1) := by decide +kernel
theorem dX5_take_27 : decode cX5_take 27 = .ok (.iload_n 1, 1) := by decide +kernel
theorem dX5_take_28 : decode cX5_take 28 = .ok (.invokevirtual 46, 3) := by decide +kernel
theorem dX5_take_31 : decode cX5_take 31 = .ok (.ireturn, 1) := by decide +kernel
theorem dX5_cutDown_0 : decode cX5_cutDown 0 = .ok (.iload_n 1, 1) := by decide +kernel
theorem dX5_cutDown_1 : decode cX5_cutDown 1 = .ok (.istore 4, 2) := by decide +kernel
theorem dX5_cutDown_3 : decode cX5_cutDown 3 = .ok (.iload_n 2, 1) := by decide +kernel
theorem dX5_cutDown_4 : decode cX5_cutDown 4 = .ok (.iconst 2, 1) := by decide +kernel
theorem dX5_cutDown_5 : decode cX5_cutDown 5 = .ok (.idiv, 1) := by decide +kernel
theorem dX5_cutDown_6 : decode cX5_cutDown 6 = .ok (.istore 5, 2) := by decide +kernel
theorem dX5_cutDown_8 : decode cX5_cutDown 8 = .ok (.iload 5, 2) := by decide +kernel
theorem dX5_cutDown_10 : decode cX5_cutDown 10 = .ok (.iload_n 3, 1) := by decide +kernel
theorem dX5_cutDown_11 : decode cX5_cutDown 11 = .ok (.if_icmp .lt 64, 3) := by decide +kernel
theorem dX5_cutDown_14 : decode cX5_cutDown 14 = .ok (.iload 5, 2) := by decide +kernel
theorem dX5_cutDown_16 : decode cX5_cutDown 16 = .ok (.iconst 1, 1) := by decide +kernel
theorem dX5_cutDown_17 : decode cX5_cutDown 17 = .ok (.if_icmp .lt 58, 3) := by decide +kernel
theorem dX5_cutDown_20 : decode cX5_cutDown 20 = .ok (.aload_n 0, 1) := by decide +kernel
theorem dX5_cutDown_21 : decode cX5_cutDown 21 = .ok (.dup, 1) := by decide +kernel
theorem dX5_cutDown_22 : decode cX5_cutDown 22 = .ok (.getfield 19, 3) := by decide +kernel
theorem dX5_cutDown_25 : decode cX5_cutDown 25 = .ok (.iconst 1, 1) := by decide +kernel
theorem dX5_cutDown_26 : decode cX5_cutDown 26 = .ok (.iadd, 1) := by decide +kernel
theorem dX5_cutDown_27 : decode cX5_cutDown 27 = .ok (.putfield 19, 3) := by decide +kernel
theorem dX5_cutDown_30 : decode cX5_cutDown 30 = .ok (.aload_n 0, 1) := by decide +kernel
theorem dX5_cutDown_31 : decode cX5_cutDown 31 = .ok (.invokevirtual 50, 3) := by decide +kernel
theorem dX5_cutDown_34 : decode cX5_cutDown 34 = .ok (.ifCond .eq 21, 3) := by decide +kernel
theorem dX5_cutDown_37 : decode cX5_cutDown 37 = .ok (.aload_n 0, 1) := by decide +kernel
theorem dX5_cutDown_38 : decode cX5_cutDown 38 = .ok (.iload 4, 2) := by decide +kernel
theorem dX5_cutDown_40 : decode cX5_cutDown 40 = .ok (.iload 5, 2) := by decide +kernel
theorem dX5_cutDown_42 : decode cX5_cutDown 42 = .ok (.invokevirtual 42, 3) := by decide +kernel
theorem dX5_cutDown_45 : decode cX5_cutDown 45 = .ok (.iload 4, 2) := by decide +kernel
theorem dX5_cutDown_47 : decode cX5_cutDown 47 = .ok (.iload 5, 2) := by decide +kernel
theorem dX5_cutDown_49 : decode cX5_cutDown 49 = .ok (.iadd, 1) := by decide +kernel
theorem dX5_cutDown_50 : decode cX5_cutDown 50 = .ok (.istore 4, 2) := by decide +kernel
theorem dX5_cutDown_52 : decode cX5_cutDown 52 = .ok (.goto 14, 3) := by decide +kernel
theorem dX5_cutDown_55 : decode cX5_cutDown 55 = .ok (.aload_n 0, 1) := by decide +kernel
theorem dX5_cutDown_56 : decode cX5_cutDown 56 = .ok (.iload 4, 2) := by decide +kernel
theorem dX5_cutDown_58 : decode cX5_cutDown 58 = .ok (.iload 5, 2) := by decide +kernel
theorem dX5_cutDown_60 : decode cX5_cutDown 60 = .ok (.iadd, 1) := by decide +kernel
theorem dX5_cutDown_61 : decode cX5_cutDown 61 = .ok (.iload 5, 2) := by decide +kernel
theorem dX5_cutDown_63 : decode cX5_cutDown 63 = .ok (.invokevirtual 42, 3) := by decide +kernel
theorem dX5_cutDown_66 : decode cX5_cutDown 66 = .ok (.iload 5, 2) := by decide +kernel
theorem dX5_cutDown_68 : decode cX5_cutDown 68 = .ok (.iconst 2, 1) := by decide +kernel
theorem dX5_cutDown_69 : decode cX5_cutDown 69 = .ok (.idiv, 1) := by decide +kernel
theorem dX5_cutDown_70 : decode cX5_cutDown 70 = .ok (.istore 5, 2) := by decide +kernel
theorem dX5_cutDown_72 : decode cX5_cutDown 72 = .ok (.goto (-64), 3) := by decide +kernel
theorem dX5_cutDown_75 : decode cX5_cutDown 75 = .ok (.iload 4, 2) := by decide +kernel
theorem dX5_cutDown_77 : decode cX5_cutDown 77 = .ok (.ireturn, 1) := by decide +kernel
theorem dX5_release_0 : decode cX5_release 0 = .ok (.aload_n 0, 1) := by decide +kernel
theorem dX5_release_1 : decode cX5_release 1 = .ok (.iload_n 1, 1) := by decide +kernel
theorem dX5_release_2 : decode cX5_release 2 = .ok (.iload_n 2, 1) := by decide +kernel
theorem dX5_release_3 : decode cX5_release 3 = .ok (.invokevirtual 54, 3) := by decide +kernel
theorem dX5_release_6 : decode cX5_release 6 = .ok (.istore_n 3, 1) := by decide +kernel
theorem dX5_release_7 : decode cX5_release 7 = .ok (.iload_n 2, 1) := by decide +kernel
theorem dX5_release_8 : decode cX5_release 8 = .ok (.istore 4, 2) := by decide +kernel
theorem dX5_release_10 : decode cX5_release 10 = .ok (.iload 4, 2) := by decide +kernel
theorem dX5_release_12 : decode cX5_release 12 = .ok (.iconst 1, 1) := by decide +kernel
theorem dX5_release_13 : decode cX5_release 13 = .ok (.if_icmp .lt 39, 3) := by decide +kernel
theorem dX5_release_16 : decode cX5_release 16 = .ok (.iload 4, 2) := by decide +kernel
theorem dX5_release_18 : decode cX5_release 18 = .ok (.iload_n 3, 1) := by decide +kernel
theorem dX5_release_19 : decode cX5_release 19 = .ok (.if_icmp .ge 33, 3) := by decide +kernel
theorem dX5_release_22 : decode cX5_release 22 = .ok (.aload_n 0, 1) := by decide +kernel
theorem dX5_release_23 : decode cX5_release 23 = .ok (.iload_n 1, 1) := by decide +kernel
theorem dX5_release_24 : decode cX5_release 24 = .ok (.iload 4, 2) := by decide +kernel
theorem dX5_release_26 : decode cX5_release 26 = .ok (.invokestatic 58, 3) := by decide +kernel
theorem dX5_release_29 : decode cX5_release 29 = .ok (.iconst 0, 1) := by decide +kernel
theorem dX5_release_30 : decode cX5_release 30 = .ok (.invokevirtual 42, 3) := by decide +kernel
theorem dX5_release_33 : decode cX5_release 33 = .ok (.aload_n 0, 1) := by decide +kernel
theorem dX5_release_34 : decode cX5_release 34 = .ok (.dup, 1) := by decide +kernel
theorem dX5_release_35 : decode cX5_release 35 = .ok (.getfield 22, 3) := by decide +kernel
theorem dX5_release_38 : decode cX5_release 38 = .ok (.iconst 1, 1) := by decide +kernel
theorem dX5_release_39 : decode cX5_release 39 = .ok (.iadd, 1) := by decide +kernel
theorem dX5_release_40 : decode cX5_release 40 = .ok (.putfield 22, 3) := by decide +kernel
theorem dX5_release_43 : decode cX5_release 43 = .ok (.iload 4, 2) := by decide +kernel
theorem dX5_release_45 : decode cX5_release 45 = .ok (.iconst 2, 1) := by decide +kernel
theorem dX5_release_46 : decode cX5_release 46 = .ok (.imul, 1) := by decide +kernel
theorem dX5_release_47 : decode cX5_release 47 = .ok (.istore 4, 2) := by decide +kernel
theorem dX5_release_49 : decode cX5_release 49 = .ok (.goto (-39), 3) := by decide +kernel
theorem dX5_release_52 : decode cX5_release 52 = .ok (.aload_n 0, 1) := by decide +kernel
theorem dX5_release_53 : decode cX5_release 53 = .ok (.iload_n 1, 1) := by decide +kernel
theorem dX5_release_54 : decode cX5_release 54 = .ok (.iload_n 3, 1) := by decide +kernel
theorem dX5_release_55 : decode cX5_release 55 = .ok (.invokestatic 61, 3) := by decide +kernel
theorem dX5_release_58 : decode cX5_release 58 = .ok (.iload_n 3, 1) := by decide +kernel
theorem dX5_release_59 : decode cX5_release 59 = .ok (.invokevirtual 42, 3) := by decide +kernel
theorem dX5_release_62 : decode cX5_release 62 = .ok (.return_, 1) := by decide +kernel
theorem dX5_joinedSize_0 : decode cX5_joinedSize 0 = .ok (.iload_n 2, 1) := by decide +kernel
theorem dX5_joinedSize_1 : decode cX5_joinedSize 1 = .ok (.istore_n 3, 1) := by decide +kernel
theorem dX5_joinedSize_2 : decode cX5_joinedSize 2 = .ok (.iload_n 3, 1) := by decide +kernel
theorem dX5_joinedSize_3 : decode cX5_joinedSize 3 = .ok (.iconst 1, 1) := by decide +kernel
theorem dX5_joinedSize_4 : decode cX5_joinedSize 4 = .ok (.if_icmp .lt 29, 3) := by decide +kernel
theorem dX5_joinedSize_7 : decode cX5_joinedSize 7 = .ok (.iload_n 3, 1) := by decide +kernel
theorem dX5_joinedSize_8 : decode cX5_joinedSize 8 = .ok (.bipush 64, 2) := by decide +kernel
theorem dX5_joinedSize_10 : decode cX5_joinedSize 10 = .ok (.if_icmp .ge 23, 3) := by decide +kernel
theorem dX5_joinedSize_13 : decode cX5_joinedSize 13 = .ok (.aload_n 0, 1) := by decide +kernel
theorem dX5_joinedSize_14 : decode cX5_joinedSize 14 = .ok (.iload_n 1, 1) := by decide +kernel
theorem dX5_joinedSize_15 : decode cX5_joinedSize 15 = .ok (.iload_n 3, 1) := by decide +kernel
theorem dX5_joinedSize_16 : decode cX5_joinedSize 16 = .ok (.invokestatic 58, 3) := by decide +kernel
theorem dX5_joinedSize_19 : decode cX5_joinedSize 19 = .ok (.invokevirtual 39, 3) := by decide +kernel
theorem dX5_joinedSize_22 : decode cX5_joinedSize 22 = .ok (.iload_n 3, 1) := by decide +kernel
theorem dX5_joinedSize_23 : decode cX5_joinedSize 23 = .ok (.if_icmp .ne 10, 3) := by decide +kernel
theorem dX5_joinedSize_26 : decode cX5_joinedSize 26 = .ok (.iload_n 3, 1) := by decide +kernel
theorem dX5_joinedSize_27 : decode cX5_joinedSize 27 = .ok (.iconst 2, 1) := by decide +kernel
theorem dX5_joinedSize_28 : decode cX5_joinedSize 28 = .ok (.imul, 1) := by decide +kernel
theorem dX5_joinedSize_29 : decode cX5_joinedSize 29 = .ok (.istore_n 3, 1) := by decide +kernel
theorem dX5_joinedSize_30 : decode cX5_joinedSize 30 = .ok (.goto (-28), 3) := by decide +kernel
theorem dX5_joinedSize_33 : decode cX5_joinedSize 33 = .ok (.iload_n 3, 1) := by decide +kernel
theorem dX5_joinedSize_34 : decode cX5_joinedSize 34 = .ok (.ireturn, 1) := by decide +kernel
theorem dX5_greatestSize_0 : decode cX5_greatestSize 0 = .ok (.iconst 0, 1) := by decide +kernel
theorem dX5_greatestSize_1 : decode cX5_greatestSize 1 = .ok (.istore_n 1, 1) := by decide +kernel
theorem dX5_greatestSize_2 : decode cX5_greatestSize 2 = .ok (.iconst 0, 1) := by decide +kernel
theorem dX5_greatestSize_3 : decode cX5_greatestSize 3 = .ok (.istore_n 2, 1) := by decide +kernel
theorem dX5_greatestSize_4 : decode cX5_greatestSize 4 = .ok (.iload_n 2, 1) := by decide +kernel
theorem dX5_greatestSize_5 : decode cX5_greatestSize 5 = .ok (.bipush 64, 2) := by decide +kernel
theorem dX5_greatestSize_7 : decode cX5_greatestSize 7 = .ok (.if_icmp .ge 20, 3) := by decide +kernel
theorem dX5_greatestSize_10 : decode cX5_greatestSize 10 = .ok (.iload_n 1, 1) := by decide +kernel
theorem dX5_greatestSize_11 : decode cX5_greatestSize 11 = .ok (.aload_n 0, 1) := by decide +kernel
theorem dX5_greatestSize_12 : decode cX5_greatestSize 12 = .ok (.getfield 9, 3) := by decide +kernel
theorem dX5_greatestSize_15 : decode cX5_greatestSize 15 = .ok (.iload_n 2, 1) := by decide +kernel
theorem dX5_greatestSize_16 : decode cX5_greatestSize 16 = .ok (.iaload, 1) := by decide +kernel
theorem dX5_greatestSize_17 : decode cX5_greatestSize 17 = .ok (.invokestatic 64, 3) := by decide +kernel
theorem dX5_greatestSize_20 : decode cX5_greatestSize 20 = .ok (.istore_n 1, 1) := by decide +kernel
theorem dX5_greatestSize_21 : decode cX5_greatestSize 21 = .ok (.iinc 2 1, 3) := by decide +kernel
theorem dX5_greatestSize_24 : decode cX5_greatestSize 24 = .ok (.goto (-20), 3) := by decide +kernel
theorem dX5_greatestSize_27 : decode cX5_greatestSize 27 = .ok (.iload_n 1, 1) := by decide +kernel
theorem dX5_greatestSize_28 : decode cX5_greatestSize 28 = .ok (.ireturn, 1) := by decide +kernel
theorem dX5_countOfSize_0 : decode cX5_countOfSize 0 = .ok (.iconst 0, 1) := by decide +kernel
theorem dX5_countOfSize_1 : decode cX5_countOfSize 1 = .ok (.istore_n 2, 1) := by decide +kernel
theorem dX5_countOfSize_2 : decode cX5_countOfSize 2 = .ok (.iconst 0, 1) := by decide +kernel
theorem dX5_countOfSize_3 : decode cX5_countOfSize 3 = .ok (.istore_n 3, 1) := by decide +kernel
theorem dX5_countOfSize_4 : decode cX5_countOfSize 4 = .ok (.iload_n 3, 1) := by decide +kernel
theorem dX5_countOfSize_5 : decode cX5_countOfSize 5 = .ok (.bipush 64, 2) := by decide +kernel
theorem dX5_countOfSize_7 : decode cX5_countOfSize 7 = .ok (.if_icmp .ge 22, 3) := by decide +kernel
theorem dX5_countOfSize_10 : decode cX5_countOfSize 10 = .ok (.aload_n 0, 1) := by decide +kernel
theorem dX5_countOfSize_11 : decode cX5_countOfSize 11 = .ok (.getfield 9, 3) := by decide +kernel
theorem dX5_countOfSize_14 : decode cX5_countOfSize 14 = .ok (.iload_n 3, 1) := by decide +kernel
theorem dX5_countOfSize_15 : decode cX5_countOfSize 15 = .ok (.iaload, 1) := by decide +kernel
theorem dX5_countOfSize_16 : decode cX5_countOfSize 16 = .ok (.iload_n 1, 1) := by decide +kernel
theorem dX5_countOfSize_17 : decode cX5_countOfSize 17 = .ok (.if_icmp .ne 6, 3) := by decide +kernel
theorem dX5_countOfSize_20 : decode cX5_countOfSize 20 = .ok (.iinc 2 1, 3) := by decide +kernel
theorem dX5_countOfSize_23 : decode cX5_countOfSize 23 = .ok (.iinc 3 1, 3) := by decide +kernel
theorem dX5_countOfSize_26 : decode cX5_countOfSize 26 = .ok (.goto (-22), 3) := by decide +kernel
theorem dX5_countOfSize_29 : decode cX5_countOfSize 29 = .ok (.iload_n 2, 1) := by decide +kernel
theorem dX5_countOfSize_30 : decode cX5_countOfSize 30 = .ok (.ireturn, 1) := by decide +kernel
theorem dX5_countAll_0 : decode cX5_countAll 0 = .ok (.bipush 64, 2) := by decide +kernel
theorem dX5_countAll_2 : decode cX5_countAll 2 = .ok (.aload_n 0, 1) := by decide +kernel
theorem dX5_countAll_3 : decode cX5_countAll 3 = .ok (.iconst 0, 1) := by decide +kernel
theorem dX5_countAll_4 : decode cX5_countAll 4 = .ok (.invokevirtual 69, 3) := by decide +kernel
theorem dX5_countAll_7 : decode cX5_countAll 7 = .ok (.isub, 1) := by decide +kernel
theorem dX5_countAll_8 : decode cX5_countAll 8 = .ok (.ireturn, 1) := by decide +kernel
theorem dX5_countRoomFor_0 : decode cX5_countRoomFor 0 = .ok (.iconst 0, 1) := by decide +kernel
theorem dX5_countRoomFor_1 : decode cX5_countRoomFor 1 = .ok (.istore_n 2, 1) := by decide +kernel
theorem dX5_countRoomFor_2 : decode cX5_countRoomFor 2 = .ok (.iconst 0, 1) := by decide +kernel
theorem dX5_countRoomFor_3 : decode cX5_countRoomFor 3 = .ok (.istore_n 3, 1) := by decide +kernel
theorem dX5_countRoomFor_4 : decode cX5_countRoomFor 4 = .ok (.iload_n 1, 1) := by decide +kernel
theorem dX5_countRoomFor_5 : decode cX5_countRoomFor 5 = .ok (.iconst 1, 1) := by decide +kernel
theorem dX5_countRoomFor_6 : decode cX5_countRoomFor 6 = .ok (.if_icmp .lt 26, 3) := by decide +kernel
theorem dX5_countRoomFor_9 : decode cX5_countRoomFor 9 = .ok (.iload_n 3, 1) := by decide +kernel
theorem dX5_countRoomFor_10 : decode cX5_countRoomFor 10 = .ok (.bipush 64, 2) := by decide +kernel
theorem dX5_countRoomFor_12 : decode cX5_countRoomFor 12 = .ok (.if_icmp .ge 20, 3) := by decide +kernel
theorem dX5_countRoomFor_15 : decode cX5_countRoomFor 15 = .ok (.iload_n 2, 1) := by decide +kernel
theorem dX5_countRoomFor_16 : decode cX5_countRoomFor 16 = .ok (.aload_n 0, 1) := by decide +kernel
theorem dX5_countRoomFor_17 : decode cX5_countRoomFor 17 = .ok (.getfield 9, 3) := by decide +kernel
theorem dX5_countRoomFor_20 : decode cX5_countRoomFor 20 = .ok (.iload_n 3, 1) := by decide +kernel
theorem dX5_countRoomFor_21 : decode cX5_countRoomFor 21 = .ok (.iaload, 1) := by decide +kernel
theorem dX5_countRoomFor_22 : decode cX5_countRoomFor 22 = .ok (.iload_n 1, 1) := by decide +kernel
theorem dX5_countRoomFor_23 : decode cX5_countRoomFor 23 = .ok (.idiv, 1) := by decide +kernel
theorem dX5_countRoomFor_24 : decode cX5_countRoomFor 24 = .ok (.iadd, 1) := by decide +kernel
theorem dX5_countRoomFor_25 : decode cX5_countRoomFor 25 = .ok (.istore_n 2, 1) := by decide +kernel
theorem dX5_countRoomFor_26 : decode cX5_countRoomFor 26 = .ok (.iinc 3 1, 3) := by decide +kernel
theorem dX5_countRoomFor_29 : decode cX5_countRoomFor 29 = .ok (.goto (-25), 3) := by decide +kernel
theorem dX5_countRoomFor_32 : decode cX5_countRoomFor 32 = .ok (.iload_n 2, 1) := by decide +kernel
theorem dX5_countRoomFor_33 : decode cX5_countRoomFor 33 = .ok (.ireturn, 1) := by decide +kernel
theorem dX5_startOfPlace_0 : decode cX5_startOfPlace 0 = .ok (.iconst (-1), 1) := by decide +kernel
theorem dX5_startOfPlace_1 : decode cX5_startOfPlace 1 = .ok (.istore_n 2, 1) := by decide +kernel
theorem dX5_startOfPlace_2 : decode cX5_startOfPlace 2 = .ok (.iconst 0, 1) := by decide +kernel
theorem dX5_startOfPlace_3 : decode cX5_startOfPlace 3 = .ok (.istore_n 3, 1) := by decide +kernel
theorem dX5_startOfPlace_4 : decode cX5_startOfPlace 4 = .ok (.iload_n 3, 1) := by decide +kernel
theorem dX5_startOfPlace_5 : decode cX5_startOfPlace 5 = .ok (.bipush 64, 2) := by decide +kernel
theorem dX5_startOfPlace_7 : decode cX5_startOfPlace 7 = .ok (.if_icmp .ge 28, 3) := by decide +kernel
theorem dX5_startOfPlace_10 : decode cX5_startOfPlace 10 = .ok (.aload_n 0, 1) := by decide +kernel
theorem dX5_startOfPlace_11 : decode cX5_startOfPlace 11 = .ok (.getfield 9, 3) := by decide +kernel
theorem dX5_startOfPlace_14 : decode cX5_startOfPlace 14 = .ok (.iload_n 3, 1) := by decide +kernel
theorem dX5_startOfPlace_15 : decode cX5_startOfPlace 15 = .ok (.iaload, 1) := by decide +kernel
theorem dX5_startOfPlace_16 : decode cX5_startOfPlace 16 = .ok (.ifCond .le 13, 3) := by decide +kernel
theorem dX5_startOfPlace_19 : decode cX5_startOfPlace 19 = .ok (.iinc 2 1, 3) := by decide +kernel
theorem dX5_startOfPlace_22 : decode cX5_startOfPlace 22 = .ok (.iload_n 2, 1) := by decide +kernel
theorem dX5_startOfPlace_23 : decode cX5_startOfPlace 23 = .ok (.iload_n 1, 1) := by decide +kernel
theorem dX5_startOfPlace_24 : decode cX5_startOfPlace 24 = .ok (.if_icmp .ne 5, 3) := by decide +kernel
theorem dX5_startOfPlace_27 : decode cX5_startOfPlace 27 = .ok (.iload_n 3, 1) := by decide +kernel
theorem dX5_startOfPlace_28 : decode cX5_startOfPlace 28 = .ok (.ireturn, 1) := by decide +kernel
theorem dX5_startOfPlace_29 : decode cX5_startOfPlace 29 = .ok (.iinc 3 1, 3) := by decide +kernel
theorem dX5_startOfPlace_32 : decode cX5_startOfPlace 32 = .ok (.goto (-28), 3) := by decide +kernel
theorem dX5_startOfPlace_35 : decode cX5_startOfPlace 35 = .ok (.iconst (-1), 1) := by decide +kernel
theorem dX5_startOfPlace_36 : decode cX5_startOfPlace 36 = .ok (.ireturn, 1) := by decide +kernel
theorem dX5_startOf_0 : decode cX5_startOf 0 = .ok (.iconst 0, 1) := by decide +kernel
theorem dX5_startOf_1 : decode cX5_startOf 1 = .ok (.istore_n 2, 1) := by decide +kernel
theorem dX5_startOf_2 : decode cX5_startOf 2 = .ok (.iload_n 2, 1) := by decide +kernel
theorem dX5_startOf_3 : decode cX5_startOf 3 = .ok (.bipush 64, 2) := by decide +kernel
theorem dX5_startOf_5 : decode cX5_startOf 5 = .ok (.if_icmp .ge 25, 3) := by decide +kernel
theorem dX5_startOf_8 : decode cX5_startOf 8 = .ok (.iload_n 1, 1) := by decide +kernel
theorem dX5_startOf_9 : decode cX5_startOf 9 = .ok (.iload_n 2, 1) := by decide +kernel
theorem dX5_startOf_10 : decode cX5_startOf 10 = .ok (.aload_n 0, 1) := by decide +kernel
theorem dX5_startOf_11 : decode cX5_startOf 11 = .ok (.getfield 9, 3) := by decide +kernel
theorem dX5_startOf_14 : decode cX5_startOf 14 = .ok (.iload_n 2, 1) := by decide +kernel
theorem dX5_startOf_15 : decode cX5_startOf 15 = .ok (.iaload, 1) := by decide +kernel
theorem dX5_startOf_16 : decode cX5_startOf 16 = .ok (.invokestatic 72, 3) := by decide +kernel
theorem dX5_startOf_19 : decode cX5_startOf 19 = .ok (.ifCond .eq 5, 3) := by decide +kernel
theorem dX5_startOf_22 : decode cX5_startOf 22 = .ok (.iload_n 2, 1) := by decide +kernel
theorem dX5_startOf_23 : decode cX5_startOf 23 = .ok (.ireturn, 1) := by decide +kernel
theorem dX5_startOf_24 : decode cX5_startOf 24 = .ok (.iinc 2 1, 3) := by decide +kernel
theorem dX5_startOf_27 : decode cX5_startOf 27 = .ok (.goto (-25), 3) := by decide +kernel
theorem dX5_startOf_30 : decode cX5_startOf 30 = .ok (.iconst (-1), 1) := by decide +kernel
theorem dX5_startOf_31 : decode cX5_startOf 31 = .ok (.ireturn, 1) := by decide +kernel
theorem dX5_countWith_0 : decode cX5_countWith 0 = .ok (.iconst 0, 1) := by decide +kernel
theorem dX5_countWith_1 : decode cX5_countWith 1 = .ok (.istore_n 2, 1) := by decide +kernel
theorem dX5_countWith_2 : decode cX5_countWith 2 = .ok (.iconst 0, 1) := by decide +kernel
theorem dX5_countWith_3 : decode cX5_countWith 3 = .ok (.istore_n 3, 1) := by decide +kernel
theorem dX5_countWith_4 : decode cX5_countWith 4 = .ok (.iload_n 3, 1) := by decide +kernel
theorem dX5_countWith_5 : decode cX5_countWith 5 = .ok (.bipush 64, 2) := by decide +kernel
theorem dX5_countWith_7 : decode cX5_countWith 7 = .ok (.if_icmp .ge 26, 3) := by decide +kernel
theorem dX5_countWith_10 : decode cX5_countWith 10 = .ok (.iload_n 1, 1) := by decide +kernel
theorem dX5_countWith_11 : decode cX5_countWith 11 = .ok (.iload_n 3, 1) := by decide +kernel
theorem dX5_countWith_12 : decode cX5_countWith 12 = .ok (.aload_n 0, 1) := by decide +kernel
theorem dX5_countWith_13 : decode cX5_countWith 13 = .ok (.getfield 9, 3) := by decide +kernel
theorem dX5_countWith_16 : decode cX5_countWith 16 = .ok (.iload_n 3, 1) := by decide +kernel
theorem dX5_countWith_17 : decode cX5_countWith 17 = .ok (.iaload, 1) := by decide +kernel
theorem dX5_countWith_18 : decode cX5_countWith 18 = .ok (.invokestatic 72, 3) := by decide +kernel
theorem dX5_countWith_21 : decode cX5_countWith 21 = .ok (.ifCond .eq 6, 3) := by decide +kernel
theorem dX5_countWith_24 : decode cX5_countWith 24 = .ok (.iinc 2 1, 3) := by decide +kernel
theorem dX5_countWith_27 : decode cX5_countWith 27 = .ok (.iinc 3 1, 3) := by decide +kernel
theorem dX5_countWith_30 : decode cX5_countWith 30 = .ok (.goto (-26), 3) := by decide +kernel
theorem dX5_countWith_33 : decode cX5_countWith 33 = .ok (.iload_n 2, 1) := by decide +kernel
theorem dX5_countWith_34 : decode cX5_countWith 34 = .ok (.ireturn, 1) := by decide +kernel
theorem dX5_isWithin_0 : decode cX5_isWithin 0 = .ok (.iload_n 1, 1) := by decide +kernel
theorem dX5_isWithin_1 : decode cX5_isWithin 1 = .ok (.iload_n 0, 1) := by decide +kernel
theorem dX5_isWithin_2 : decode cX5_isWithin 2 = .ok (.if_icmp .gt 14, 3) := by decide +kernel
theorem dX5_isWithin_5 : decode cX5_isWithin 5 = .ok (.iload_n 0, 1) := by decide +kernel
theorem dX5_isWithin_6 : decode cX5_isWithin 6 = .ok (.iload_n 1, 1) := by decide +kernel
theorem dX5_isWithin_7 : decode cX5_isWithin 7 = .ok (.iload_n 2, 1) := by decide +kernel
theorem dX5_isWithin_8 : decode cX5_isWithin 8 = .ok (.iadd, 1) := by decide +kernel
theorem dX5_isWithin_9 : decode cX5_isWithin 9 = .ok (.if_icmp .ge 7, 3) := by decide +kernel
theorem dX5_isWithin_12 : decode cX5_isWithin 12 = .ok (.iconst 1, 1) := by decide +kernel
theorem dX5_isWithin_13 : decode cX5_isWithin 13 = .ok (.goto 4, 3) := by decide +kernel
theorem dX5_isWithin_16 : decode cX5_isWithin 16 = .ok (.iconst 0, 1) := by decide +kernel
theorem dX5_isWithin_17 : decode cX5_isWithin 17 = .ok (.ireturn, 1) := by decide +kernel
theorem dX6_init_0 : decode cX6_init 0 = .ok (.aload_n 0, 1) := by decide +kernel
theorem dX6_init_1 : decode cX6_init 1 = .ok (.invokespecial 3, 3) := by decide +kernel
theorem dX6_init_4 : decode cX6_init 4 = .ok (.aload_n 0, 1) := by decide +kernel
theorem dX6_init_5 : decode cX6_init 5 = .ok (.bipush 6, 2) := by decide +kernel
theorem dX6_init_7 : decode cX6_init 7 = .ok (.newarray .int, 2) := by decide +kernel
theorem dX6_init_9 : decode cX6_init 9 = .ok (.putfield 9, 3) := by decide +kernel
theorem dX6_init_12 : decode cX6_init 12 = .ok (.aload_n 0, 1) := by decide +kernel
theorem dX6_init_13 : decode cX6_init 13 = .ok (.bipush 6, 2) := by decide +kernel
theorem dX6_init_15 : decode cX6_init 15 = .ok (.newarray .int, 2) := by decide +kernel
theorem dX6_init_17 : decode cX6_init 17 = .ok (.putfield 15, 3) := by decide +kernel
theorem dX6_init_20 : decode cX6_init 20 = .ok (.aload_n 0, 1) := by decide +kernel
theorem dX6_init_21 : decode cX6_init 21 = .ok (.iconst 0, 1) := by decide +kernel
theorem dX6_init_22 : decode cX6_init 22 = .ok (.putfield 18, 3) := by decide +kernel
theorem dX6_init_25 : decode cX6_init 25 = .ok (.return_, 1) := by decide +kernel
theorem dX6_copyFrom_0 : decode cX6_copyFrom 0 = .ok (.aload_n 1, 1) := by decide +kernel
theorem dX6_copyFrom_1 : decode cX6_copyFrom 1 = .ok (.getfield 9, 3) := by decide +kernel
theorem dX6_copyFrom_4 : decode cX6_copyFrom 4 = .ok (.iconst 0, 1) := by decide +kernel
theorem dX6_copyFrom_5 : decode cX6_copyFrom 5 = .ok (.aload_n 0, 1) := by decide +kernel
theorem dX6_copyFrom_6 : decode cX6_copyFrom 6 = .ok (.getfield 9, 3) := by decide +kernel
theorem dX6_copyFrom_9 : decode cX6_copyFrom 9 = .ok (.iconst 0, 1) := by decide +kernel
theorem dX6_copyFrom_10 : decode cX6_copyFrom 10 = .ok (.bipush 6, 2) := by decide +kernel
theorem dX6_copyFrom_12 : decode cX6_copyFrom 12 = .ok (.invokestatic 22, 3) := by decide +kernel
theorem dX6_copyFrom_15 : decode cX6_copyFrom 15 = .ok (.aload_n 1, 1) := by decide +kernel
theorem dX6_copyFrom_16 : decode cX6_copyFrom 16 = .ok (.getfield 15, 3) := by decide +kernel
theorem dX6_copyFrom_19 : decode cX6_copyFrom 19 = .ok (.iconst 0, 1) := by decide +kernel
theorem dX6_copyFrom_20 : decode cX6_copyFrom 20 = .ok (.aload_n 0, 1) := by decide +kernel
theorem dX6_copyFrom_21 : decode cX6_copyFrom 21 = .ok (.getfield 15, 3) := by decide +kernel
theorem dX6_copyFrom_24 : decode cX6_copyFrom 24 = .ok (.iconst 0, 1) := by decide +kernel
theorem dX6_copyFrom_25 : decode cX6_copyFrom 25 = .ok (.bipush 6, 2) := by decide +kernel
theorem dX6_copyFrom_27 : decode cX6_copyFrom 27 = .ok (.invokestatic 22, 3) := by decide +kernel
theorem dX6_copyFrom_30 : decode cX6_copyFrom 30 = .ok (.aload_n 0, 1) := by decide +kernel
theorem dX6_copyFrom_31 : decode cX6_copyFrom 31 = .ok (.aload_n 1, 1) := by decide +kernel
theorem dX6_copyFrom_32 : decode cX6_copyFrom 32 = .ok (.getfield 18, 3) := by decide +kernel
theorem dX6_copyFrom_35 : decode cX6_copyFrom 35 = .ok (.putfield 18, 3) := by decide +kernel
theorem dX6_copyFrom_38 : decode cX6_copyFrom 38 = .ok (.return_, 1) := by decide +kernel
theorem dX6_has_0 : decode cX6_has 0 = .ok (.iload_n 1, 1) := by decide +kernel
theorem dX6_has_1 : decode cX6_has 1 = .ok (.ifCond .lt 21, 3) := by decide +kernel
theorem dX6_has_4 : decode cX6_has 4 = .ok (.iload_n 1, 1) := by decide +kernel
theorem dX6_has_5 : decode cX6_has 5 = .ok (.aload_n 0, 1) := by decide +kernel
theorem dX6_has_6 : decode cX6_has 6 = .ok (.getfield 18, 3) := by decide +kernel
theorem dX6_has_9 : decode cX6_has 9 = .ok (.if_icmp .ge 13, 3) := by decide +kernel
theorem dX6_has_12 : decode cX6_has 12 = .ok (.iload_n 1, 1) := by decide +kernel
theorem dX6_has_13 : decode cX6_has 13 = .ok (.bipush 6, 2) := by decide +kernel
theorem dX6_has_15 : decode cX6_has 15 = .ok (.if_icmp .ge 7, 3) := by decide +kernel
theorem dX6_has_18 : decode cX6_has 18 = .ok (.iconst 1, 1) := by decide +kernel
theorem dX6_has_19 : decode cX6_has 19 = .ok (.goto 4, 3) := by decide +kernel
theorem dX6_has_22 : decode cX6_has 22 = .ok (.iconst 0, 1) := by decide +kernel
theorem dX6_has_23 : decode cX6_has 23 = .ok (.ireturn, 1) := by decide +kernel
theorem dX6_nameAt_0 : decode cX6_nameAt 0 = .ok (.aload_n 0, 1) := by decide +kernel
theorem dX6_nameAt_1 : decode cX6_nameAt 1 = .ok (.iload_n 1, 1) := by decide +kernel
theorem dX6_nameAt_2 : decode cX6_nameAt 2 = .ok (.invokevirtual 28, 3) := by decide +kernel
theorem dX6_nameAt_5 : decode cX6_nameAt 5 = .ok (.ifCond .eq 12, 3) := by decide +kernel
theorem dX6_nameAt_8 : decode cX6_nameAt 8 = .ok (.aload_n 0, 1) := by decide +kernel
theorem dX6_nameAt_9 : decode cX6_nameAt 9 = .ok (.getfield 9, 3) := by decide +kernel
theorem dX6_nameAt_12 : decode cX6_nameAt 12 = .ok (.iload_n 1, 1) := by decide +kernel
theorem dX6_nameAt_13 : decode cX6_nameAt 13 = .ok (.iaload, 1) := by decide +kernel
theorem dX6_nameAt_14 : decode cX6_nameAt 14 = .ok (.goto 4, 3) := by decide +kernel
theorem dX6_nameAt_17 : decode cX6_nameAt 17 = .ok (.iconst (-1), 1) := by decide +kernel
theorem dX6_nameAt_18 : decode cX6_nameAt 18 = .ok (.ireturn, 1) := by decide +kernel
theorem dX6_amountAt_0 : decode cX6_amountAt 0 = .ok (.aload_n 0, 1) := by decide +kernel
theorem dX6_amountAt_1 : decode cX6_amountAt 1 = .ok (.iload_n 1, 1) := by decide +kernel
theorem dX6_amountAt_2 : decode cX6_amountAt 2 = .ok (.invokevirtual 28, 3) := by decide +kernel
theorem dX6_amountAt_5 : decode cX6_amountAt 5 = .ok (.ifCond .eq 12, 3) := by decide +kernel
theorem dX6_amountAt_8 : decode cX6_amountAt 8 = .ok (.aload_n 0, 1) := by decide +kernel
theorem dX6_amountAt_9 : decode cX6_amountAt 9 = .ok (.getfield 15, 3) := by decide +kernel
theorem dX6_amountAt_12 : decode cX6_amountAt 12 = .ok (.iload_n 1, 1) := by decide +kernel
theorem dX6_amountAt_13 : decode cX6_amountAt 13 = .ok (.iaload, 1) := by decide +kernel
theorem dX6_amountAt_14 : decode cX6_amountAt 14 = .ok (.goto 4, 3) := by decide +kernel
theorem dX6_amountAt_17 : decode cX6_amountAt 17 = .ok (.iconst 0, 1) := by decide +kernel
theorem dX6_amountAt_18 : decode cX6_amountAt 18 = .ok (.ireturn, 1) := by decide +kernel
theorem dX6_add_0 : decode cX6_add 0 = .ok (.aload_n 0, 1) := by decide +kernel
theorem dX6_add_1 : decode cX6_add 1 = .ok (.getfield 18, 3) := by decide +kernel
theorem dX6_add_4 : decode cX6_add 4 = .ok (.ifCond .lt 42, 3) := by decide +kernel
theorem dX6_add_7 : decode cX6_add 7 = .ok (.aload_n 0, 1) := by decide +kernel
theorem dX6_add_8 : decode cX6_add 8 = .ok (.getfield 18, 3) := by decide +kernel
theorem dX6_add_11 : decode cX6_add 11 = .ok (.bipush 6, 2) := by decide +kernel
theorem dX6_add_13 : decode cX6_add 13 = .ok (.if_icmp .ge 33, 3) := by decide +kernel
theorem dX6_add_16 : decode cX6_add 16 = .ok (.aload_n 0, 1) := by decide +kernel
theorem dX6_add_17 : decode cX6_add 17 = .ok (.getfield 9, 3) := by decide +kernel
theorem dX6_add_20 : decode cX6_add 20 = .ok (.aload_n 0, 1) := by decide +kernel
theorem dX6_add_21 : decode cX6_add 21 = .ok (.getfield 18, 3) := by decide +kernel
theorem dX6_add_24 : decode cX6_add 24 = .ok (.iload_n 1, 1) := by decide +kernel
theorem dX6_add_25 : decode cX6_add 25 = .ok (.iastore, 1) := by decide +kernel
theorem dX6_add_26 : decode cX6_add 26 = .ok (.aload_n 0, 1) := by decide +kernel
theorem dX6_add_27 : decode cX6_add 27 = .ok (.getfield 15, 3) := by decide +kernel
theorem dX6_add_30 : decode cX6_add 30 = .ok (.aload_n 0, 1) := by decide +kernel
theorem dX6_add_31 : decode cX6_add 31 = .ok (.getfield 18, 3) := by decide +kernel
theorem dX6_add_34 : decode cX6_add 34 = .ok (.iload_n 2, 1) := by decide +kernel
theorem dX6_add_35 : decode cX6_add 35 = .ok (.iastore, 1) := by decide +kernel
theorem dX6_add_36 : decode cX6_add 36 = .ok (.aload_n 0, 1) := by decide +kernel
theorem dX6_add_37 : decode cX6_add 37 = .ok (.dup, 1) := by decide +kernel
theorem dX6_add_38 : decode cX6_add 38 = .ok (.getfield 18, 3) := by decide +kernel
theorem dX6_add_41 : decode cX6_add 41 = .ok (.iconst 1, 1) := by decide +kernel
theorem dX6_add_42 : decode cX6_add 42 = .ok (.iadd, 1) := by decide +kernel
theorem dX6_add_43 : decode cX6_add 43 = .ok (.putfield 18, 3) := by decide +kernel
theorem dX6_add_46 : decode cX6_add 46 = .ok (.return_, 1) := by decide +kernel
theorem dX6_remove_0 : decode cX6_remove 0 = .ok (.aload_n 0, 1) := by decide +kernel
theorem dX6_remove_1 : decode cX6_remove 1 = .ok (.iload_n 1, 1) := by decide +kernel
theorem dX6_remove_2 : decode cX6_remove 2 = .ok (.invokevirtual 28, 3) := by decide +kernel
theorem dX6_remove_5 : decode cX6_remove 5 = .ok (.ifCond .ne 4, 3) := by decide +kernel
theorem dX6_remove_8 : decode cX6_remove 8 = .ok (.return_, 1) := by decide +kernel
theorem dX6_remove_9 : decode cX6_remove 9 = .ok (.iload_n 1, 1) := by decide +kernel
theorem dX6_remove_10 : decode cX6_remove 10 = .ok (.istore_n 2, 1) := by decide +kernel
theorem dX6_remove_11 : decode cX6_remove 11 = .ok (.iload_n 2, 1) := by decide +kernel
theorem dX6_remove_12 : decode cX6_remove 12 = .ok (.aload_n 0, 1) := by decide +kernel
theorem dX6_remove_13 : decode cX6_remove 13 = .ok (.getfield 18, 3) := by decide +kernel
theorem dX6_remove_16 : decode cX6_remove 16 = .ok (.iconst 1, 1) := by decide +kernel
theorem dX6_remove_17 : decode cX6_remove 17 = .ok (.isub, 1) := by decide +kernel
theorem dX6_remove_18 : decode cX6_remove 18 = .ok (.if_icmp .ge 42, 3) := by decide +kernel
theorem dX6_remove_21 : decode cX6_remove 21 = .ok (.iload_n 2, 1) := by decide +kernel
theorem dX6_remove_22 : decode cX6_remove 22 = .ok (.iconst 5, 1) := by decide +kernel
theorem dX6_remove_23 : decode cX6_remove 23 = .ok (.if_icmp .ge 37, 3) := by decide +kernel
theorem dX6_remove_26 : decode cX6_remove 26 = .ok (.aload_n 0, 1) := by decide +kernel
theorem dX6_remove_27 : decode cX6_remove 27 = .ok (.getfield 9, 3) := by decide +kernel
theorem dX6_remove_30 : decode cX6_remove 30 = .ok (.iload_n 2, 1) := by decide +kernel
theorem dX6_remove_31 : decode cX6_remove 31 = .ok (.aload_n 0, 1) := by decide +kernel
theorem dX6_remove_32 : decode cX6_remove 32 = .ok (.getfield 9, 3) := by decide +kernel
theorem dX6_remove_35 : decode cX6_remove 35 = .ok (.iload_n 2, 1) := by decide +kernel
theorem dX6_remove_36 : decode cX6_remove 36 = .ok (.iconst 1, 1) := by decide +kernel
theorem dX6_remove_37 : decode cX6_remove 37 = .ok (.iadd, 1) := by decide +kernel
theorem dX6_remove_38 : decode cX6_remove 38 = .ok (.iaload, 1) := by decide +kernel
theorem dX6_remove_39 : decode cX6_remove 39 = .ok (.iastore, 1) := by decide +kernel
theorem dX6_remove_40 : decode cX6_remove 40 = .ok (.aload_n 0, 1) := by decide +kernel
theorem dX6_remove_41 : decode cX6_remove 41 = .ok (.getfield 15, 3) := by decide +kernel
theorem dX6_remove_44 : decode cX6_remove 44 = .ok (.iload_n 2, 1) := by decide +kernel
theorem dX6_remove_45 : decode cX6_remove 45 = .ok (.aload_n 0, 1) := by decide +kernel
theorem dX6_remove_46 : decode cX6_remove 46 = .ok (.getfield 15, 3) := by decide +kernel
theorem dX6_remove_49 : decode cX6_remove 49 = .ok (.iload_n 2, 1) := by decide +kernel
theorem dX6_remove_50 : decode cX6_remove 50 = .ok (.iconst 1, 1) := by decide +kernel
theorem dX6_remove_51 : decode cX6_remove 51 = .ok (.iadd, 1) := by decide +kernel
theorem dX6_remove_52 : decode cX6_remove 52 = .ok (.iaload, 1) := by decide +kernel
theorem dX6_remove_53 : decode cX6_remove 53 = .ok (.iastore, 1) := by decide +kernel
theorem dX6_remove_54 : decode cX6_remove 54 = .ok (.iinc 2 1, 3) := by decide +kernel
theorem dX6_remove_57 : decode cX6_remove 57 = .ok (.goto (-46), 3) := by decide +kernel
theorem dX6_remove_60 : decode cX6_remove 60 = .ok (.aload_n 0, 1) := by decide +kernel
theorem dX6_remove_61 : decode cX6_remove 61 = .ok (.dup, 1) := by decide +kernel
theorem dX6_remove_62 : decode cX6_remove 62 = .ok (.getfield 18, 3) := by decide +kernel
theorem dX6_remove_65 : decode cX6_remove 65 = .ok (.iconst 1, 1) := by decide +kernel
theorem dX6_remove_66 : decode cX6_remove 66 = .ok (.isub, 1) := by decide +kernel
theorem dX6_remove_67 : decode cX6_remove 67 = .ok (.putfield 18, 3) := by decide +kernel
theorem dX6_remove_70 : decode cX6_remove 70 = .ok (.return_, 1) := by decide +kernel
theorem dX6_countOf_0 : decode cX6_countOf 0 = .ok (.iconst 0, 1) := by decide +kernel
theorem dX6_countOf_1 : decode cX6_countOf 1 = .ok (.istore_n 2, 1) := by decide +kernel
theorem dX6_countOf_2 : decode cX6_countOf 2 = .ok (.iconst 0, 1) := by decide +kernel
theorem dX6_countOf_3 : decode cX6_countOf 3 = .ok (.istore_n 3, 1) := by decide +kernel
theorem dX6_countOf_4 : decode cX6_countOf 4 = .ok (.iload_n 3, 1) := by decide +kernel
theorem dX6_countOf_5 : decode cX6_countOf 5 = .ok (.aload_n 0, 1) := by decide +kernel
theorem dX6_countOf_6 : decode cX6_countOf 6 = .ok (.getfield 18, 3) := by decide +kernel
theorem dX6_countOf_9 : decode cX6_countOf 9 = .ok (.if_icmp .ge 21, 3) := by decide +kernel
theorem dX6_countOf_12 : decode cX6_countOf 12 = .ok (.aload_n 0, 1) := by decide +kernel
theorem dX6_countOf_13 : decode cX6_countOf 13 = .ok (.iload_n 3, 1) := by decide +kernel
theorem dX6_countOf_14 : decode cX6_countOf 14 = .ok (.invokevirtual 32, 3) := by decide +kernel
theorem dX6_countOf_17 : decode cX6_countOf 17 = .ok (.iload_n 1, 1) := by decide +kernel
theorem dX6_countOf_18 : decode cX6_countOf 18 = .ok (.if_icmp .ne 6, 3) := by decide +kernel
theorem dX6_countOf_21 : decode cX6_countOf 21 = .ok (.iinc 2 1, 3) := by decide +kernel
theorem dX6_countOf_24 : decode cX6_countOf 24 = .ok (.iinc 3 1, 3) := by decide +kernel
theorem dX6_countOf_27 : decode cX6_countOf 27 = .ok (.goto (-23), 3) := by decide +kernel
theorem dX6_countOf_30 : decode cX6_countOf 30 = .ok (.iload_n 2, 1) := by decide +kernel
theorem dX6_countOf_31 : decode cX6_countOf 31 = .ok (.ireturn, 1) := by decide +kernel
theorem dX7_init_0 : decode cX7_init 0 = .ok (.aload_n 0, 1) := by decide +kernel
theorem dX7_init_1 : decode cX7_init 1 = .ok (.invokespecial 3, 3) := by decide +kernel
theorem dX7_init_4 : decode cX7_init 4 = .ok (.aload_n 0, 1) := by decide +kernel
theorem dX7_init_5 : decode cX7_init 5 = .ok (.new 9, 3) := by decide +kernel
theorem dX7_init_8 : decode cX7_init 8 = .ok (.dup, 1) := by decide +kernel
theorem dX7_init_9 : decode cX7_init 9 = .ok (.invokespecial 11, 3) := by decide +kernel
theorem dX7_init_12 : decode cX7_init 12 = .ok (.putfield 12, 3) := by decide +kernel
theorem dX7_init_15 : decode cX7_init 15 = .ok (.aload_n 0, 1) := by decide +kernel
theorem dX7_init_16 : decode cX7_init 16 = .ok (.new 9, 3) := by decide +kernel
theorem dX7_init_19 : decode cX7_init 19 = .ok (.dup, 1) := by decide +kernel
theorem dX7_init_20 : decode cX7_init 20 = .ok (.invokespecial 11, 3) := by decide +kernel
theorem dX7_init_23 : decode cX7_init 23 = .ok (.putfield 16, 3) := by decide +kernel
theorem dX7_init_26 : decode cX7_init 26 = .ok (.aload_n 0, 1) := by decide +kernel
theorem dX7_init_27 : decode cX7_init 27 = .ok (.new 9, 3) := by decide +kernel
theorem dX7_init_30 : decode cX7_init 30 = .ok (.dup, 1) := by decide +kernel
theorem dX7_init_31 : decode cX7_init 31 = .ok (.invokespecial 11, 3) := by decide +kernel
theorem dX7_init_34 : decode cX7_init 34 = .ok (.putfield 19, 3) := by decide +kernel
theorem dX7_init_37 : decode cX7_init 37 = .ok (.aload_n 0, 1) := by decide +kernel
theorem dX7_init_38 : decode cX7_init 38 = .ok (.new 22, 3) := by decide +kernel
theorem dX7_init_41 : decode cX7_init 41 = .ok (.dup, 1) := by decide +kernel
theorem dX7_init_42 : decode cX7_init 42 = .ok (.invokespecial 24, 3) := by decide +kernel
theorem dX7_init_45 : decode cX7_init 45 = .ok (.putfield 25, 3) := by decide +kernel
theorem dX7_init_48 : decode cX7_init 48 = .ok (.aload_n 0, 1) := by decide +kernel
theorem dX7_init_49 : decode cX7_init 49 = .ok (.new 29, 3) := by decide +kernel
theorem dX7_init_52 : decode cX7_init 52 = .ok (.dup, 1) := by decide +kernel
theorem dX7_init_53 : decode cX7_init 53 = .ok (.invokespecial 31, 3) := by decide +kernel
theorem dX7_init_56 : decode cX7_init 56 = .ok (.putfield 32, 3) := by decide +kernel
theorem dX7_init_59 : decode cX7_init 59 = .ok (.aload_n 0, 1) := by decide +kernel
theorem dX7_init_60 : decode cX7_init 60 = .ok (.new 36, 3) := by decide +kernel
theorem dX7_init_63 : decode cX7_init 63 = .ok (.dup, 1) := by decide +kernel
theorem dX7_init_64 : decode cX7_init 64 = .ok (.invokespecial 38, 3) := by decide +kernel
theorem dX7_init_67 : decode cX7_init 67 = .ok (.putfield 39, 3) := by decide +kernel
theorem dX7_init_70 : decode cX7_init 70 = .ok (.aload_n 0, 1) := by decide +kernel
theorem dX7_init_71 : decode cX7_init 71 = .ok (.iconst (-1), 1) := by decide +kernel
theorem dX7_init_72 : decode cX7_init 72 = .ok (.putfield 43, 3) := by decide +kernel
theorem dX7_init_75 : decode cX7_init 75 = .ok (.aload_n 0, 1) := by decide +kernel
theorem dX7_init_76 : decode cX7_init 76 = .ok (.iconst 0, 1) := by decide +kernel
theorem dX7_init_77 : decode cX7_init 77 = .ok (.putfield 47, 3) := by decide +kernel
theorem dX7_init_80 : decode cX7_init 80 = .ok (.aload_n 0, 1) := by decide +kernel
theorem dX7_init_81 : decode cX7_init 81 = .ok (.iconst 0, 1) := by decide +kernel
theorem dX7_init_82 : decode cX7_init 82 = .ok (.putfield 51, 3) := by decide +kernel
theorem dX7_init_85 : decode cX7_init 85 = .ok (.aload_n 0, 1) := by decide +kernel
theorem dX7_init_86 : decode cX7_init 86 = .ok (.iconst 0, 1) := by decide +kernel
theorem dX7_init_87 : decode cX7_init 87 = .ok (.putfield 54, 3) := by decide +kernel
theorem dX7_init_90 : decode cX7_init 90 = .ok (.return_, 1) := by decide +kernel
theorem dX7_lend_0 : decode cX7_lend 0 = .ok (.aload_n 0, 1) := by decide +kernel
theorem dX7_lend_1 : decode cX7_lend 1 = .ok (.iload_n 1, 1) := by decide +kernel
theorem dX7_lend_2 : decode cX7_lend 2 = .ok (.iload_n 2, 1) := by decide +kernel
theorem dX7_lend_3 : decode cX7_lend 3 = .ok (.invokevirtual 57, 3) := by decide +kernel
theorem dX7_lend_6 : decode cX7_lend 6 = .ok (.invokestatic 61, 3) := by decide +kernel
theorem dX7_lend_9 : decode cX7_lend 9 = .ok (.aload_n 0, 1) := by decide +kernel
theorem dX7_lend_10 : decode cX7_lend 10 = .ok (.getfield 25, 3) := by decide +kernel
theorem dX7_lend_13 : decode cX7_lend 13 = .ok (.aload_n 0, 1) := by decide +kernel
theorem dX7_lend_14 : decode cX7_lend 14 = .ok (.getfield 12, 3) := by decide +kernel
theorem dX7_lend_17 : decode cX7_lend 17 = .ok (.invokevirtual 65, 3) := by decide +kernel
theorem dX7_lend_20 : decode cX7_lend 20 = .ok (.aload_n 0, 1) := by decide +kernel
theorem dX7_lend_21 : decode cX7_lend 21 = .ok (.getfield 12, 3) := by decide +kernel
theorem dX7_lend_24 : decode cX7_lend 24 = .ok (.iload_n 1, 1) := by decide +kernel
theorem dX7_lend_25 : decode cX7_lend 25 = .ok (.iload_n 2, 1) := by decide +kernel
theorem dX7_lend_26 : decode cX7_lend 26 = .ok (.invokevirtual 69, 3) := by decide +kernel
theorem dX7_lend_29 : decode cX7_lend 29 = .ok (.ireturn, 1) := by decide +kernel
theorem dX7_ask_0 : decode cX7_ask 0 = .ok (.aload_n 0, 1) := by decide +kernel
theorem dX7_ask_1 : decode cX7_ask 1 = .ok (.iload_n 1, 1) := by decide +kernel
theorem dX7_ask_2 : decode cX7_ask 2 = .ok (.iload_n 2, 1) := by decide +kernel
theorem dX7_ask_3 : decode cX7_ask 3 = .ok (.invokevirtual 72, 3) := by decide +kernel
theorem dX7_ask_6 : decode cX7_ask 6 = .ok (.invokestatic 61, 3) := by decide +kernel
theorem dX7_ask_9 : decode cX7_ask 9 = .ok (.aload_n 0, 1) := by decide +kernel
theorem dX7_ask_10 : decode cX7_ask 10 = .ok (.getfield 25, 3) := by decide +kernel
theorem dX7_ask_13 : decode cX7_ask 13 = .ok (.aload_n 0, 1) := by decide +kernel
theorem dX7_ask_14 : decode cX7_ask 14 = .ok (.getfield 12, 3) := by decide +kernel
theorem dX7_ask_17 : decode cX7_ask 17 = .ok (.invokevirtual 65, 3) := by decide +kernel
theorem dX7_ask_20 : decode cX7_ask 20 = .ok (.aload_n 0, 1) := by decide +kernel
theorem dX7_ask_21 : decode cX7_ask 21 = .ok (.getfield 12, 3) := by decide +kernel
theorem dX7_ask_24 : decode cX7_ask 24 = .ok (.iload_n 1, 1) := by decide +kernel
theorem dX7_ask_25 : decode cX7_ask 25 = .ok (.iload_n 2, 1) := by decide +kernel
theorem dX7_ask_26 : decode cX7_ask 26 = .ok (.invokevirtual 75, 3) := by decide +kernel
theorem dX7_ask_29 : decode cX7_ask 29 = .ok (.ireturn, 1) := by decide +kernel
theorem dX7_give_0 : decode cX7_give 0 = .ok (.aload_n 0, 1) := by decide +kernel
theorem dX7_give_1 : decode cX7_give 1 = .ok (.iload_n 1, 1) := by decide +kernel
theorem dX7_give_2 : decode cX7_give 2 = .ok (.invokevirtual 78, 3) := by decide +kernel
theorem dX7_give_5 : decode cX7_give 5 = .ok (.invokestatic 61, 3) := by decide +kernel
theorem dX7_give_8 : decode cX7_give 8 = .ok (.aload_n 0, 1) := by decide +kernel
theorem dX7_give_9 : decode cX7_give 9 = .ok (.getfield 25, 3) := by decide +kernel
theorem dX7_give_12 : decode cX7_give 12 = .ok (.aload_n 0, 1) := by decide +kernel
theorem dX7_give_13 : decode cX7_give 13 = .ok (.getfield 12, 3) := by decide +kernel
theorem dX7_give_16 : decode cX7_give 16 = .ok (.invokevirtual 65, 3) := by decide +kernel
theorem dX7_give_19 : decode cX7_give 19 = .ok (.aload_n 0, 1) := by decide +kernel
theorem dX7_give_20 : decode cX7_give 20 = .ok (.getfield 12, 3) := by decide +kernel
theorem dX7_give_23 : decode cX7_give 23 = .ok (.iload_n 1, 1) := by decide +kernel
theorem dX7_give_24 : decode cX7_give 24 = .ok (.invokevirtual 82, 3) := by decide +kernel
theorem dX7_give_27 : decode cX7_give 27 = .ok (.ireturn, 1) := by decide +kernel
theorem dX7_giveAll_0 : decode cX7_giveAll 0 = .ok (.aload_n 0, 1) := by decide +kernel
theorem dX7_giveAll_1 : decode cX7_giveAll 1 = .ok (.iload_n 1, 1) := by decide +kernel
theorem dX7_giveAll_2 : decode cX7_giveAll 2 = .ok (.invokevirtual 85, 3) := by decide +kernel
theorem dX7_giveAll_5 : decode cX7_giveAll 5 = .ok (.invokestatic 61, 3) := by decide +kernel
theorem dX7_giveAll_8 : decode cX7_giveAll 8 = .ok (.aload_n 0, 1) := by decide +kernel
theorem dX7_giveAll_9 : decode cX7_giveAll 9 = .ok (.getfield 25, 3) := by decide +kernel
theorem dX7_giveAll_12 : decode cX7_giveAll 12 = .ok (.aload_n 0, 1) := by decide +kernel
theorem dX7_giveAll_13 : decode cX7_giveAll 13 = .ok (.getfield 12, 3) := by decide +kernel
theorem dX7_giveAll_16 : decode cX7_giveAll 16 = .ok (.invokevirtual 65, 3) := by decide +kernel
theorem dX7_giveAll_19 : decode cX7_giveAll 19 = .ok (.aload_n 0, 1) := by decide +kernel
theorem dX7_giveAll_20 : decode cX7_giveAll 20 = .ok (.getfield 12, 3) := by decide +kernel
theorem dX7_giveAll_23 : decode cX7_giveAll 23 = .ok (.iload_n 1, 1) := by decide +kernel
theorem dX7_giveAll_24 : decode cX7_giveAll 24 = .ok (.invokevirtual 88, 3) := by decide +kernel
theorem dX7_giveAll_27 : decode cX7_giveAll 27 = .ok (.ireturn, 1) := by decide +kernel
theorem dX7_resize_0 : decode cX7_resize 0 = .ok (.aload_n 0, 1) := by decide +kernel
theorem dX7_resize_1 : decode cX7_resize 1 = .ok (.iload_n 1, 1) := by decide +kernel
theorem dX7_resize_2 : decode cX7_resize 2 = .ok (.iload_n 2, 1) := by decide +kernel
theorem dX7_resize_3 : decode cX7_resize 3 = .ok (.invokevirtual 91, 3) := by decide +kernel
theorem dX7_resize_6 : decode cX7_resize 6 = .ok (.invokestatic 61, 3) := by decide +kernel
theorem dX7_resize_9 : decode cX7_resize 9 = .ok (.aload_n 0, 1) := by decide +kernel
theorem dX7_resize_10 : decode cX7_resize 10 = .ok (.getfield 25, 3) := by decide +kernel
theorem dX7_resize_13 : decode cX7_resize 13 = .ok (.aload_n 0, 1) := by decide +kernel
theorem dX7_resize_14 : decode cX7_resize 14 = .ok (.getfield 12, 3) := by decide +kernel
theorem dX7_resize_17 : decode cX7_resize 17 = .ok (.invokevirtual 65, 3) := by decide +kernel
theorem dX7_resize_20 : decode cX7_resize 20 = .ok (.aload_n 0, 1) := by decide +kernel
theorem dX7_resize_21 : decode cX7_resize 21 = .ok (.getfield 12, 3) := by decide +kernel
theorem dX7_resize_24 : decode cX7_resize 24 = .ok (.iload_n 1, 1) := by decide +kernel
theorem dX7_resize_25 : decode cX7_resize 25 = .ok (.iload_n 2, 1) := by decide +kernel
theorem dX7_resize_26 : decode cX7_resize 26 = .ok (.invokevirtual 94, 3) := by decide +kernel
theorem dX7_resize_29 : decode cX7_resize 29 = .ok (.ireturn, 1) := by decide +kernel
theorem dX7_way_0 : decode cX7_way 0 = .ok (.aload_n 0, 1) := by decide +kernel
theorem dX7_way_1 : decode cX7_way 1 = .ok (.iload_n 1, 1) := by decide +kernel
theorem dX7_way_2 : decode cX7_way 2 = .ok (.invokevirtual 97, 3) := by decide +kernel
theorem dX7_way_5 : decode cX7_way 5 = .ok (.invokestatic 61, 3) := by decide +kernel
theorem dX7_way_8 : decode cX7_way 8 = .ok (.aload_n 0, 1) := by decide +kernel
theorem dX7_way_9 : decode cX7_way 9 = .ok (.getfield 25, 3) := by decide +kernel
theorem dX7_way_12 : decode cX7_way 12 = .ok (.aload_n 0, 1) := by decide +kernel
theorem dX7_way_13 : decode cX7_way 13 = .ok (.getfield 12, 3) := by decide +kernel
theorem dX7_way_16 : decode cX7_way 16 = .ok (.invokevirtual 65, 3) := by decide +kernel
theorem dX7_way_19 : decode cX7_way 19 = .ok (.aload_n 0, 1) := by decide +kernel
theorem dX7_way_20 : decode cX7_way 20 = .ok (.getfield 12, 3) := by decide +kernel
theorem dX7_way_23 : decode cX7_way 23 = .ok (.iload_n 1, 1) := by decide +kernel
theorem dX7_way_24 : decode cX7_way 24 = .ok (.invokevirtual 100, 3) := by decide +kernel
theorem dX7_way_27 : decode cX7_way 27 = .ok (.ireturn, 1) := by decide +kernel
theorem dX7_forget_0 : decode cX7_forget 0 = .ok (.aload_n 0, 1) := by decide +kernel
theorem dX7_forget_1 : decode cX7_forget 1 = .ok (.getfield 12, 3) := by decide +kernel
theorem dX7_forget_4 : decode cX7_forget 4 = .ok (.getfield 103, 3) := by decide +kernel
theorem dX7_forget_7 : decode cX7_forget 7 = .ok (.iload_n 1, 1) := by decide +kernel
theorem dX7_forget_8 : decode cX7_forget 8 = .ok (.invokevirtual 107, 3) := by decide +kernel
theorem dX7_forget_11 : decode cX7_forget 11 = .ok (.ifCond .ne 13, 3) := by decide +kernel
theorem dX7_forget_14 : decode cX7_forget 14 = .ok (.new 113, 3) := by decide +kernel
theorem dX7_forget_17 : decode cX7_forget 17 = .ok (.dup, 1) := by decide +kernel
theorem dX7_forget_18 : decode cX7_forget 18 = .ok (.ldc 115, 2) := by decide +kernel
theorem dX7_forget_20 : decode cX7_forget 20 = .ok (.invokespecial 117, 3) := by decide +kernel
theorem dX7_forget_23 : decode cX7_forget 23 = .ok (.athrow, 1) := by decide +kernel
theorem dX7_forget_24 : decode cX7_forget 24 = .ok (.aload_n 0, 1) := by decide +kernel
theorem dX7_forget_25 : decode cX7_forget 25 = .ok (.getfield 25, 3) := by decide +kernel
theorem dX7_forget_28 : decode cX7_forget 28 = .ok (.aload_n 0, 1) := by decide +kernel
theorem dX7_forget_29 : decode cX7_forget 29 = .ok (.getfield 12, 3) := by decide +kernel
theorem dX7_forget_32 : decode cX7_forget 32 = .ok (.invokevirtual 65, 3) := by decide +kernel
theorem dX7_forget_35 : decode cX7_forget 35 = .ok (.aload_n 0, 1) := by decide +kernel
theorem dX7_forget_36 : decode cX7_forget 36 = .ok (.getfield 12, 3) := by decide +kernel
theorem dX7_forget_39 : decode cX7_forget 39 = .ok (.getfield 103, 3) := by decide +kernel
theorem dX7_forget_42 : decode cX7_forget 42 = .ok (.iload_n 1, 1) := by decide +kernel
theorem dX7_forget_43 : decode cX7_forget 43 = .ok (.invokevirtual 120, 3) := by decide +kernel
theorem dX7_forget_46 : decode cX7_forget 46 = .ok (.aload_n 0, 1) := by decide +kernel
theorem dX7_forget_47 : decode cX7_forget 47 = .ok (.getfield 12, 3) := by decide +kernel
theorem dX7_forget_50 : decode cX7_forget 50 = .ok (.getfield 103, 3) := by decide +kernel
theorem dX7_forget_53 : decode cX7_forget 53 = .ok (.getfield 123, 3) := by decide +kernel
theorem dX7_forget_56 : decode cX7_forget 56 = .ok (.ireturn, 1) := by decide +kernel
theorem dX7_loanOf_0 : decode cX7_loanOf 0 = .ok (.aload_n 0, 1) := by decide +kernel
theorem dX7_loanOf_1 : decode cX7_loanOf 1 = .ok (.getfield 12, 3) := by decide +kernel
theorem dX7_loanOf_4 : decode cX7_loanOf 4 = .ok (.getfield 126, 3) := by decide +kernel
theorem dX7_loanOf_7 : decode cX7_loanOf 7 = .ok (.astore_n 3, 1) := by decide +kernel
theorem dX7_loanOf_8 : decode cX7_loanOf 8 = .ok (.aload_n 3, 1) := by decide +kernel
theorem dX7_loanOf_9 : decode cX7_loanOf 9 = .ok (.iload_n 1, 1) := by decide +kernel
theorem dX7_loanOf_10 : decode cX7_loanOf 10 = .ok (.invokevirtual 130, 3) := by decide +kernel
theorem dX7_loanOf_13 : decode cX7_loanOf 13 = .ok (.ifCond .ne 13, 3) := by decide +kernel
theorem dX7_loanOf_16 : decode cX7_loanOf 16 = .ok (.new 113, 3) := by decide +kernel
theorem dX7_loanOf_19 : decode cX7_loanOf 19 = .ok (.dup, 1) := by decide +kernel
theorem dX7_loanOf_20 : decode cX7_loanOf 20 = .ok (.ldc 133, 2) := by decide +kernel
theorem dX7_loanOf_22 : decode cX7_loanOf 22 = .ok (.invokespecial 117, 3) := by decide +kernel
theorem dX7_loanOf_25 : decode cX7_loanOf 25 = .ok (.athrow, 1) := by decide +kernel
theorem dX7_loanOf_26 : decode cX7_loanOf 26 = .ok (.iload_n 2, 1) := by decide +kernel
theorem dX7_loanOf_27 : decode cX7_loanOf 27 = .ok (.tableswitch 69 0 4 #[33, 39, 45, 51, 57], 33) := by decide +kernel
theorem dX7_loanOf_60 : decode cX7_loanOf 60 = .ok (.aload_n 3, 1) := by decide +kernel
theorem dX7_loanOf_61 : decode cX7_loanOf 61 = .ok (.iload_n 1, 1) := by decide +kernel
theorem dX7_loanOf_62 : decode cX7_loanOf 62 = .ok (.invokevirtual 135, 3) := by decide +kernel
theorem dX7_loanOf_65 : decode cX7_loanOf 65 = .ok (.ireturn, 1) := by decide +kernel
theorem dX7_loanOf_66 : decode cX7_loanOf 66 = .ok (.aload_n 3, 1) := by decide +kernel
theorem dX7_loanOf_67 : decode cX7_loanOf 67 = .ok (.iload_n 1, 1) := by decide +kernel
theorem dX7_loanOf_68 : decode cX7_loanOf 68 = .ok (.invokevirtual 138, 3) := by decide +kernel
theorem dX7_loanOf_71 : decode cX7_loanOf 71 = .ok (.ireturn, 1) := by decide +kernel
theorem dX7_loanOf_72 : decode cX7_loanOf 72 = .ok (.aload_n 3, 1) := by decide +kernel
theorem dX7_loanOf_73 : decode cX7_loanOf 73 = .ok (.iload_n 1, 1) := by decide +kernel
theorem dX7_loanOf_74 : decode cX7_loanOf 74 = .ok (.invokevirtual 141, 3) := by decide +kernel
theorem dX7_loanOf_77 : decode cX7_loanOf 77 = .ok (.ireturn, 1) := by decide +kernel
theorem dX7_loanOf_78 : decode cX7_loanOf 78 = .ok (.aload_n 3, 1) := by decide +kernel
theorem dX7_loanOf_79 : decode cX7_loanOf 79 = .ok (.iload_n 1, 1) := by decide +kernel
theorem dX7_loanOf_80 : decode cX7_loanOf 80 = .ok (.invokevirtual 144, 3) := by decide +kernel
theorem dX7_loanOf_83 : decode cX7_loanOf 83 = .ok (.ireturn, 1) := by decide +kernel
theorem dX7_loanOf_84 : decode cX7_loanOf 84 = .ok (.aload_n 3, 1) := by decide +kernel
theorem dX7_loanOf_85 : decode cX7_loanOf 85 = .ok (.iload_n 1, 1) := by decide +kernel
theorem dX7_loanOf_86 : decode cX7_loanOf 86 = .ok (.invokevirtual 144, 3) := by decide +kernel
theorem dX7_loanOf_89 : decode cX7_loanOf 89 = .ok (.aload_n 3, 1) := by decide +kernel
theorem dX7_loanOf_90 : decode cX7_loanOf 90 = .ok (.iload_n 1, 1) := by decide +kernel
theorem dX7_loanOf_91 : decode cX7_loanOf 91 = .ok (.invokevirtual 138, 3) := by decide +kernel
theorem dX7_loanOf_94 : decode cX7_loanOf 94 = .ok (.isub, 1) := by decide +kernel
theorem dX7_loanOf_95 : decode cX7_loanOf 95 = .ok (.ireturn, 1) := by decide +kernel
theorem dX7_loanOf_96 : decode cX7_loanOf 96 = .ok (.new 147, 3) := by decide +kernel
theorem dX7_loanOf_99 : decode cX7_loanOf 99 = .ok (.dup, 1) := by decide +kernel
theorem dX7_loanOf_100 : decode cX7_loanOf 100 = .ok (.ldc 149, 2) := by decide +kernel
theorem dX7_loanOf_102 : decode cX7_loanOf 102 = .ok (.invokespecial 151, 3) := by decide +kernel
theorem dX7_loanOf_105 : decode cX7_loanOf 105 = .ok (.athrow, 1) := by decide +kernel
theorem dX7_nameOf_0 : decode cX7_nameOf 0 = .ok (.iload_n 1, 1) := by decide +kernel
theorem dX7_nameOf_1 : decode cX7_nameOf 1 = .ok (.invokestatic 152, 3) := by decide +kernel
theorem dX7_nameOf_4 : decode cX7_nameOf 4 = .ok (.ifCond .ne 13, 3) := by decide +kernel
theorem dX7_nameOf_7 : decode cX7_nameOf 7 = .ok (.new 147, 3) := by decide +kernel
theorem dX7_nameOf_10 : decode cX7_nameOf 10 = .ok (.dup, 1) := by decide +kernel
theorem dX7_nameOf_11 : decode cX7_nameOf 11 = .ok (.ldc 155, 2) := by decide +kernel
theorem dX7_nameOf_13 : decode cX7_nameOf 13 = .ok (.invokespecial 151, 3) := by decide +kernel
theorem dX7_nameOf_16 : decode cX7_nameOf 16 = .ok (.athrow, 1) := by decide +kernel
theorem dX7_nameOf_17 : decode cX7_nameOf 17 = .ok (.iload_n 2, 1) := by decide +kernel
theorem dX7_nameOf_18 : decode cX7_nameOf 18 = .ok (.tableswitch 78 0 3 #[30, 42, 54, 66], 30) := by decide +kernel
theorem dX7_nameOf_48 : decode cX7_nameOf 48 = .ok (.aload_n 0, 1) := by decide +kernel
theorem dX7_nameOf_49 : decode cX7_nameOf 49 = .ok (.getfield 12, 3) := by decide +kernel
theorem dX7_nameOf_52 : decode cX7_nameOf 52 = .ok (.getfield 126, 3) := by decide +kernel
theorem dX7_nameOf_55 : decode cX7_nameOf 55 = .ok (.iload_n 1, 1) := by decide +kernel
theorem dX7_nameOf_56 : decode cX7_nameOf 56 = .ok (.invokevirtual 157, 3) := by decide +kernel
theorem dX7_nameOf_59 : decode cX7_nameOf 59 = .ok (.ireturn, 1) := by decide +kernel
theorem dX7_nameOf_60 : decode cX7_nameOf 60 = .ok (.aload_n 0, 1) := by decide +kernel
theorem dX7_nameOf_61 : decode cX7_nameOf 61 = .ok (.getfield 12, 3) := by decide +kernel
theorem dX7_nameOf_64 : decode cX7_nameOf 64 = .ok (.getfield 126, 3) := by decide +kernel
theorem dX7_nameOf_67 : decode cX7_nameOf 67 = .ok (.iload_n 1, 1) := by decide +kernel
theorem dX7_nameOf_68 : decode cX7_nameOf 68 = .ok (.invokevirtual 160, 3) := by decide +kernel
theorem dX7_nameOf_71 : decode cX7_nameOf 71 = .ok (.ireturn, 1) := by decide +kernel
theorem dX7_nameOf_72 : decode cX7_nameOf 72 = .ok (.aload_n 0, 1) := by decide +kernel
theorem dX7_nameOf_73 : decode cX7_nameOf 73 = .ok (.getfield 12, 3) := by decide +kernel
theorem dX7_nameOf_76 : decode cX7_nameOf 76 = .ok (.getfield 126, 3) := by decide +kernel
theorem dX7_nameOf_79 : decode cX7_nameOf 79 = .ok (.iload_n 1, 1) := by decide +kernel
theorem dX7_nameOf_80 : decode cX7_nameOf 80 = .ok (.invokevirtual 163, 3) := by decide +kernel
theorem dX7_nameOf_83 : decode cX7_nameOf 83 = .ok (.ireturn, 1) := by decide +kernel
theorem dX7_nameOf_84 : decode cX7_nameOf 84 = .ok (.aload_n 0, 1) := by decide +kernel
theorem dX7_nameOf_85 : decode cX7_nameOf 85 = .ok (.getfield 12, 3) := by decide +kernel
theorem dX7_nameOf_88 : decode cX7_nameOf 88 = .ok (.getfield 103, 3) := by decide +kernel
theorem dX7_nameOf_91 : decode cX7_nameOf 91 = .ok (.iload_n 1, 1) := by decide +kernel
theorem dX7_nameOf_92 : decode cX7_nameOf 92 = .ok (.invokevirtual 166, 3) := by decide +kernel
theorem dX7_nameOf_95 : decode cX7_nameOf 95 = .ok (.ireturn, 1) := by decide +kernel
theorem dX7_nameOf_96 : decode cX7_nameOf 96 = .ok (.new 113, 3) := by decide +kernel
theorem dX7_nameOf_99 : decode cX7_nameOf 99 = .ok (.dup, 1) := by decide +kernel
theorem dX7_nameOf_100 : decode cX7_nameOf 100 = .ok (.ldc 167, 2) := by decide +kernel
theorem dX7_nameOf_102 : decode cX7_nameOf 102 = .ok (.invokespecial 117, 3) := by decide +kernel
theorem dX7_nameOf_105 : decode cX7_nameOf 105 = .ok (.athrow, 1) := by decide +kernel
theorem dX7_waitingOf_0 : decode cX7_waitingOf 0 = .ok (.aload_n 0, 1) := by decide +kernel
theorem dX7_waitingOf_1 : decode cX7_waitingOf 1 = .ok (.getfield 12, 3) := by decide +kernel
theorem dX7_waitingOf_4 : decode cX7_waitingOf 4 = .ok (.getfield 103, 3) := by decide +kernel
theorem dX7_waitingOf_7 : decode cX7_waitingOf 7 = .ok (.iload_n 1, 1) := by decide +kernel
theorem dX7_waitingOf_8 : decode cX7_waitingOf 8 = .ok (.invokevirtual 107, 3) := by decide +kernel
theorem dX7_waitingOf_11 : decode cX7_waitingOf 11 = .ok (.ifCond .ne 13, 3) := by decide +kernel
theorem dX7_waitingOf_14 : decode cX7_waitingOf 14 = .ok (.new 169, 3) := by decide +kernel
theorem dX7_waitingOf_17 : decode cX7_waitingOf 17 = .ok (.dup, 1) := by decide +kernel
theorem dX7_waitingOf_18 : decode cX7_waitingOf 18 = .ok (.ldc 115, 2) := by decide +kernel
theorem dX7_waitingOf_20 : decode cX7_waitingOf 20 = .ok (.invokespecial 171, 3) := by decide +kernel
theorem dX7_waitingOf_23 : decode cX7_waitingOf 23 = .ok (.athrow, 1) := by decide +kernel
theorem dX7_waitingOf_24 : decode cX7_waitingOf 24 = .ok (.iload_n 2, 1) := by decide +kernel
theorem dX7_waitingOf_25 : decode cX7_waitingOf 25 = .ok (.lookupswitch 51 #[(0, 27), (1, 39)], 27) := by decide +kernel
theorem dX7_waitingOf_52 : decode cX7_waitingOf 52 = .ok (.aload_n 0, 1) := by decide +kernel
theorem dX7_waitingOf_53 : decode cX7_waitingOf 53 = .ok (.getfield 12, 3) := by decide +kernel
theorem dX7_waitingOf_56 : decode cX7_waitingOf 56 = .ok (.getfield 103, 3) := by decide +kernel
theorem dX7_waitingOf_59 : decode cX7_waitingOf 59 = .ok (.iload_n 1, 1) := by decide +kernel
theorem dX7_waitingOf_60 : decode cX7_waitingOf 60 = .ok (.invokevirtual 172, 3) := by decide +kernel
theorem dX7_waitingOf_63 : decode cX7_waitingOf 63 = .ok (.ireturn, 1) := by decide +kernel
theorem dX7_waitingOf_64 : decode cX7_waitingOf 64 = .ok (.aload_n 0, 1) := by decide +kernel
theorem dX7_waitingOf_65 : decode cX7_waitingOf 65 = .ok (.getfield 12, 3) := by decide +kernel
theorem dX7_waitingOf_68 : decode cX7_waitingOf 68 = .ok (.getfield 103, 3) := by decide +kernel
theorem dX7_waitingOf_71 : decode cX7_waitingOf 71 = .ok (.iload_n 1, 1) := by decide +kernel
theorem dX7_waitingOf_72 : decode cX7_waitingOf 72 = .ok (.invokevirtual 173, 3) := by decide +kernel
theorem dX7_waitingOf_75 : decode cX7_waitingOf 75 = .ok (.ireturn, 1) := by decide +kernel
theorem dX7_waitingOf_76 : decode cX7_waitingOf 76 = .ok (.new 147, 3) := by decide +kernel
theorem dX7_waitingOf_79 : decode cX7_waitingOf 79 = .ok (.dup, 1) := by decide +kernel
theorem dX7_waitingOf_80 : decode cX7_waitingOf 80 = .ok (.ldc 174, 2) := by decide +kernel
theorem dX7_waitingOf_82 : decode cX7_waitingOf 82 = .ok (.invokespecial 151, 3) := by decide +kernel
theorem dX7_waitingOf_85 : decode cX7_waitingOf 85 = .ok (.athrow, 1) := by decide +kernel
theorem dX7_pieceOf_0 : decode cX7_pieceOf 0 = .ok (.iload_n 1, 1) := by decide +kernel
theorem dX7_pieceOf_1 : decode cX7_pieceOf 1 = .ok (.invokestatic 176, 3) := by decide +kernel
theorem dX7_pieceOf_4 : decode cX7_pieceOf 4 = .ok (.ifCond .ne 13, 3) := by decide +kernel
theorem dX7_pieceOf_7 : decode cX7_pieceOf 7 = .ok (.new 113, 3) := by decide +kernel
theorem dX7_pieceOf_10 : decode cX7_pieceOf 10 = .ok (.dup, 1) := by decide +kernel
theorem dX7_pieceOf_11 : decode cX7_pieceOf 11 = .ok (.ldc 179, 2) := by decide +kernel
theorem dX7_pieceOf_13 : decode cX7_pieceOf 13 = .ok (.invokespecial 117, 3) := by decide +kernel
theorem dX7_pieceOf_16 : decode cX7_pieceOf 16 = .ok (.athrow, 1) := by decide +kernel
theorem dX7_pieceOf_17 : decode cX7_pieceOf 17 = .ok (.aload_n 0, 1) := by decide +kernel
theorem dX7_pieceOf_18 : decode cX7_pieceOf 18 = .ok (.getfield 12, 3) := by decide +kernel
theorem dX7_pieceOf_21 : decode cX7_pieceOf 21 = .ok (.getfield 126, 3) := by decide +kernel
theorem dX7_pieceOf_24 : decode cX7_pieceOf 24 = .ok (.iload_n 1, 1) := by decide +kernel
theorem dX7_pieceOf_25 : decode cX7_pieceOf 25 = .ok (.invokevirtual 181, 3) := by decide +kernel
theorem dX7_pieceOf_28 : decode cX7_pieceOf 28 = .ok (.istore_n 3, 1) := by decide +kernel
theorem dX7_pieceOf_29 : decode cX7_pieceOf 29 = .ok (.aload_n 0, 1) := by decide +kernel
theorem dX7_pieceOf_30 : decode cX7_pieceOf 30 = .ok (.getfield 12, 3) := by decide +kernel
theorem dX7_pieceOf_33 : decode cX7_pieceOf 33 = .ok (.iload_n 1, 1) := by decide +kernel
theorem dX7_pieceOf_34 : decode cX7_pieceOf 34 = .ok (.invokevirtual 184, 3) := by decide +kernel
theorem dX7_pieceOf_37 : decode cX7_pieceOf 37 = .ok (.istore 4, 2) := by decide +kernel
theorem dX7_pieceOf_39 : decode cX7_pieceOf 39 = .ok (.aload_n 0, 1) := by decide +kernel
theorem dX7_pieceOf_40 : decode cX7_pieceOf 40 = .ok (.getfield 12, 3) := by decide +kernel
theorem dX7_pieceOf_43 : decode cX7_pieceOf 43 = .ok (.iload_n 1, 1) := by decide +kernel
theorem dX7_pieceOf_44 : decode cX7_pieceOf 44 = .ok (.invokevirtual 187, 3) := by decide +kernel
theorem dX7_pieceOf_47 : decode cX7_pieceOf 47 = .ok (.istore 5, 2) := by decide +kernel
theorem dX7_pieceOf_49 : decode cX7_pieceOf 49 = .ok (.iload_n 2, 1) := by decide +kernel
theorem dX7_pieceOf_50 : decode cX7_pieceOf 50 = .ok (.tableswitch 57 0 3 #[30, 33, 36, 38], 30) := by decide +kernel
theorem dX7_pieceOf_80 : decode cX7_pieceOf 80 = .ok (.iload 5, 2) := by decide +kernel
theorem dX7_pieceOf_82 : decode cX7_pieceOf 82 = .ok (.ireturn, 1) := by decide +kernel
theorem dX7_pieceOf_83 : decode cX7_pieceOf 83 = .ok (.iload 4, 2) := by decide +kernel
theorem dX7_pieceOf_85 : decode cX7_pieceOf 85 = .ok (.ireturn, 1) := by decide +kernel
theorem dX7_pieceOf_86 : decode cX7_pieceOf 86 = .ok (.iload_n 3, 1) := by decide +kernel
theorem dX7_pieceOf_87 : decode cX7_pieceOf 87 = .ok (.ireturn, 1) := by decide +kernel
theorem dX7_pieceOf_88 : decode cX7_pieceOf 88 = .ok (.iload 5, 2) := by decide +kernel
theorem dX7_pieceOf_90 : decode cX7_pieceOf 90 = .ok (.bipush 64, 2) := by decide +kernel
theorem dX7_pieceOf_92 : decode cX7_pieceOf 92 = .ok (.if_icmp .ne 7, 3) := by decide +kernel
theorem dX7_pieceOf_95 : decode cX7_pieceOf 95 = .ok (.iconst (-1), 1) := by decide +kernel
theorem dX7_pieceOf_96 : decode cX7_pieceOf 96 = .ok (.goto 10, 3) := by decide +kernel
theorem dX7_pieceOf_99 : decode cX7_pieceOf 99 = .ok (.iload 4, 2) := by decide +kernel
theorem dX7_pieceOf_101 : decode cX7_pieceOf 101 = .ok (.iload 5, 2) := by decide +kernel
theorem dX7_pieceOf_103 : decode cX7_pieceOf 103 = .ok (.invokestatic 190, 3) := by decide +kernel
theorem dX7_pieceOf_106 : decode cX7_pieceOf 106 = .ok (.ireturn, 1) := by decide +kernel
theorem dX7_pieceOf_107 : decode cX7_pieceOf 107 = .ok (.new 147, 3) := by decide +kernel
theorem dX7_pieceOf_110 : decode cX7_pieceOf 110 = .ok (.dup, 1) := by decide +kernel
theorem dX7_pieceOf_111 : decode cX7_pieceOf 111 = .ok (.ldc 193, 2) := by decide +kernel
theorem dX7_pieceOf_113 : decode cX7_pieceOf 113 = .ok (.invokespecial 151, 3) := by decide +kernel
theorem dX7_pieceOf_116 : decode cX7_pieceOf 116 = .ok (.athrow, 1) := by decide +kernel
theorem dX7_free_0 : decode cX7_free 0 = .ok (.iload_n 1, 1) := by decide +kernel
theorem dX7_free_1 : decode cX7_free 1 = .ok (.invokestatic 195, 3) := by decide +kernel
theorem dX7_free_4 : decode cX7_free 4 = .ok (.ifCond .ne 13, 3) := by decide +kernel
theorem dX7_free_7 : decode cX7_free 7 = .ok (.new 147, 3) := by decide +kernel
theorem dX7_free_10 : decode cX7_free 10 = .ok (.dup, 1) := by decide +kernel
theorem dX7_free_11 : decode cX7_free 11 = .ok (.ldc 198, 2) := by decide +kernel
theorem dX7_free_13 : decode cX7_free 13 = .ok (.invokespecial 151, 3) := by decide +kernel
theorem dX7_free_16 : decode cX7_free 16 = .ok (.athrow, 1) := by decide +kernel
theorem dX7_free_17 : decode cX7_free 17 = .ok (.iload_n 2, 1) := by decide +kernel
theorem dX7_free_18 : decode cX7_free 18 = .ok (.ifCond .eq 14, 3) := by decide +kernel
theorem dX7_free_21 : decode cX7_free 21 = .ok (.aload_n 0, 1) := by decide +kernel
theorem dX7_free_22 : decode cX7_free 22 = .ok (.getfield 12, 3) := by decide +kernel
theorem dX7_free_25 : decode cX7_free 25 = .ok (.iload_n 1, 1) := by decide +kernel
theorem dX7_free_26 : decode cX7_free 26 = .ok (.invokevirtual 200, 3) := by decide +kernel
theorem dX7_free_29 : decode cX7_free 29 = .ok (.goto 14, 3) := by decide +kernel
theorem dX7_free_32 : decode cX7_free 32 = .ok (.aload_n 0, 1) := by decide +kernel
theorem dX7_free_33 : decode cX7_free 33 = .ok (.getfield 12, 3) := by decide +kernel
theorem dX7_free_36 : decode cX7_free 36 = .ok (.getfield 203, 3) := by decide +kernel
theorem dX7_free_39 : decode cX7_free 39 = .ok (.iload_n 1, 1) := by decide +kernel
theorem dX7_free_40 : decode cX7_free 40 = .ok (.invokevirtual 207, 3) := by decide +kernel
theorem dX7_free_43 : decode cX7_free 43 = .ok (.ireturn, 1) := by decide +kernel
theorem dX7_greatest_0 : decode cX7_greatest 0 = .ok (.aload_n 0, 1) := by decide +kernel
theorem dX7_greatest_1 : decode cX7_greatest 1 = .ok (.getfield 12, 3) := by decide +kernel
theorem dX7_greatest_4 : decode cX7_greatest 4 = .ok (.getfield 203, 3) := by decide +kernel
theorem dX7_greatest_7 : decode cX7_greatest 7 = .ok (.invokevirtual 212, 3) := by decide +kernel
theorem dX7_greatest_10 : decode cX7_greatest 10 = .ok (.istore_n 1, 1) := by decide +kernel
theorem dX7_greatest_11 : decode cX7_greatest 11 = .ok (.iload_n 1, 1) := by decide +kernel
theorem dX7_greatest_12 : decode cX7_greatest 12 = .ok (.ifCond .ne 13, 3) := by decide +kernel
theorem dX7_greatest_15 : decode cX7_greatest 15 = .ok (.new 169, 3) := by decide +kernel
theorem dX7_greatest_18 : decode cX7_greatest 18 = .ok (.dup, 1) := by decide +kernel
theorem dX7_greatest_19 : decode cX7_greatest 19 = .ok (.ldc 216, 2) := by decide +kernel
theorem dX7_greatest_21 : decode cX7_greatest 21 = .ok (.invokespecial 171, 3) := by decide +kernel
theorem dX7_greatest_24 : decode cX7_greatest 24 = .ok (.athrow, 1) := by decide +kernel
theorem dX7_greatest_25 : decode cX7_greatest 25 = .ok (.iload_n 1, 1) := by decide +kernel
theorem dX7_greatest_26 : decode cX7_greatest 26 = .ok (.ireturn, 1) := by decide +kernel
theorem dX7_would_0 : decode cX7_would 0 = .ok (.iload_n 1, 1) := by decide +kernel
theorem dX7_would_1 : decode cX7_would 1 = .ok (.invokestatic 218, 3) := by decide +kernel
theorem dX7_would_4 : decode cX7_would 4 = .ok (.istore_n 2, 1) := by decide +kernel
theorem dX7_would_5 : decode cX7_would 5 = .ok (.aload_n 0, 1) := by decide +kernel
theorem dX7_would_6 : decode cX7_would 6 = .ok (.iload_n 2, 1) := by decide +kernel
theorem dX7_would_7 : decode cX7_would 7 = .ok (.invokevirtual 221, 3) := by decide +kernel
theorem dX7_would_10 : decode cX7_would 10 = .ok (.istore_n 3, 1) := by decide +kernel
theorem dX7_would_11 : decode cX7_would 11 = .ok (.aload_n 0, 1) := by decide +kernel
theorem dX7_would_12 : decode cX7_would 12 = .ok (.getfield 12, 3) := by decide +kernel
theorem dX7_would_15 : decode cX7_would 15 = .ok (.getfield 203, 3) := by decide +kernel
theorem dX7_would_18 : decode cX7_would 18 = .ok (.invokevirtual 224, 3) := by decide +kernel
theorem dX7_would_21 : decode cX7_would 21 = .ok (.ifCond .eq 19, 3) := by decide +kernel
theorem dX7_would_24 : decode cX7_would 24 = .ok (.iload_n 3, 1) := by decide +kernel
theorem dX7_would_25 : decode cX7_would 25 = .ok (.aload_n 0, 1) := by decide +kernel
theorem dX7_would_26 : decode cX7_would 26 = .ok (.getfield 12, 3) := by decide +kernel
theorem dX7_would_29 : decode cX7_would 29 = .ok (.getfield 203, 3) := by decide +kernel
theorem dX7_would_32 : decode cX7_would 32 = .ok (.iload_n 3, 1) := by decide +kernel
theorem dX7_would_33 : decode cX7_would 33 = .ok (.invokevirtual 228, 3) := by decide +kernel
theorem dX7_would_36 : decode cX7_would 36 = .ok (.iadd, 1) := by decide +kernel
theorem dX7_would_37 : decode cX7_would 37 = .ok (.iload_n 2, 1) := by decide +kernel
theorem dX7_would_38 : decode cX7_would 38 = .ok (.isub, 1) := by decide +kernel
theorem dX7_would_39 : decode cX7_would 39 = .ok (.ireturn, 1) := by decide +kernel
theorem dX7_would_40 : decode cX7_would 40 = .ok (.iload_n 3, 1) := by decide +kernel
theorem dX7_would_41 : decode cX7_would 41 = .ok (.ireturn, 1) := by decide +kernel
theorem dX7_cuts_0 : decode cX7_cuts 0 = .ok (.iload_n 1, 1) := by decide +kernel
theorem dX7_cuts_1 : decode cX7_cuts 1 = .ok (.invokestatic 218, 3) := by decide +kernel
theorem dX7_cuts_4 : decode cX7_cuts 4 = .ok (.istore_n 2, 1) := by decide +kernel
theorem dX7_cuts_5 : decode cX7_cuts 5 = .ok (.aload_n 0, 1) := by decide +kernel
theorem dX7_cuts_6 : decode cX7_cuts 6 = .ok (.iload_n 2, 1) := by decide +kernel
theorem dX7_cuts_7 : decode cX7_cuts 7 = .ok (.invokevirtual 221, 3) := by decide +kernel
theorem dX7_cuts_10 : decode cX7_cuts 10 = .ok (.istore_n 3, 1) := by decide +kernel
theorem dX7_cuts_11 : decode cX7_cuts 11 = .ok (.iconst 0, 1) := by decide +kernel
theorem dX7_cuts_12 : decode cX7_cuts 12 = .ok (.istore 4, 2) := by decide +kernel
theorem dX7_cuts_14 : decode cX7_cuts 14 = .ok (.aload_n 0, 1) := by decide +kernel
theorem dX7_cuts_15 : decode cX7_cuts 15 = .ok (.getfield 12, 3) := by decide +kernel
theorem dX7_cuts_18 : decode cX7_cuts 18 = .ok (.getfield 203, 3) := by decide +kernel
theorem dX7_cuts_21 : decode cX7_cuts 21 = .ok (.iload_n 3, 1) := by decide +kernel
theorem dX7_cuts_22 : decode cX7_cuts 22 = .ok (.invokevirtual 228, 3) := by decide +kernel
theorem dX7_cuts_25 : decode cX7_cuts 25 = .ok (.iconst 2, 1) := by decide +kernel
theorem dX7_cuts_26 : decode cX7_cuts 26 = .ok (.idiv, 1) := by decide +kernel
theorem dX7_cuts_27 : decode cX7_cuts 27 = .ok (.istore 5, 2) := by decide +kernel
theorem dX7_cuts_29 : decode cX7_cuts 29 = .ok (.iload 5, 2) := by decide +kernel
theorem dX7_cuts_31 : decode cX7_cuts 31 = .ok (.iload_n 2, 1) := by decide +kernel
theorem dX7_cuts_32 : decode cX7_cuts 32 = .ok (.if_icmp .lt 21, 3) := by decide +kernel
theorem dX7_cuts_35 : decode cX7_cuts 35 = .ok (.iload 5, 2) := by decide +kernel
theorem dX7_cuts_37 : decode cX7_cuts 37 = .ok (.iconst 1, 1) := by decide +kernel
theorem dX7_cuts_38 : decode cX7_cuts 38 = .ok (.if_icmp .lt 15, 3) := by decide +kernel
theorem dX7_cuts_41 : decode cX7_cuts 41 = .ok (.iinc 4 1, 3) := by decide +kernel
theorem dX7_cuts_44 : decode cX7_cuts 44 = .ok (.iload 5, 2) := by decide +kernel
theorem dX7_cuts_46 : decode cX7_cuts 46 = .ok (.iconst 2, 1) := by decide +kernel
theorem dX7_cuts_47 : decode cX7_cuts 47 = .ok (.idiv, 1) := by decide +kernel
theorem dX7_cuts_48 : decode cX7_cuts 48 = .ok (.istore 5, 2) := by decide +kernel
theorem dX7_cuts_50 : decode cX7_cuts 50 = .ok (.goto (-21), 3) := by decide +kernel
theorem dX7_cuts_53 : decode cX7_cuts 53 = .ok (.iload 4, 2) := by decide +kernel
theorem dX7_cuts_55 : decode cX7_cuts 55 = .ok (.ireturn, 1) := by decide +kernel
theorem dX7_fits_0 : decode cX7_fits 0 = .ok (.aload_n 0, 1) := by decide +kernel
theorem dX7_fits_1 : decode cX7_fits 1 = .ok (.getfield 12, 3) := by decide +kernel
theorem dX7_fits_4 : decode cX7_fits 4 = .ok (.getfield 203, 3) := by decide +kernel
theorem dX7_fits_7 : decode cX7_fits 7 = .ok (.iload_n 1, 1) := by decide +kernel
theorem dX7_fits_8 : decode cX7_fits 8 = .ok (.invokestatic 218, 3) := by decide +kernel
theorem dX7_fits_11 : decode cX7_fits 11 = .ok (.invokevirtual 229, 3) := by decide +kernel
theorem dX7_fits_14 : decode cX7_fits 14 = .ok (.ireturn, 1) := by decide +kernel
theorem dX7_hole_0 : decode cX7_hole 0 = .ok (.aload_n 0, 1) := by decide +kernel
theorem dX7_hole_1 : decode cX7_hole 1 = .ok (.getfield 12, 3) := by decide +kernel
theorem dX7_hole_4 : decode cX7_hole 4 = .ok (.getfield 203, 3) := by decide +kernel
theorem dX7_hole_7 : decode cX7_hole 7 = .ok (.iload_n 1, 1) := by decide +kernel
theorem dX7_hole_8 : decode cX7_hole 8 = .ok (.invokevirtual 232, 3) := by decide +kernel
theorem dX7_hole_11 : decode cX7_hole 11 = .ok (.istore_n 2, 1) := by decide +kernel
theorem dX7_hole_12 : decode cX7_hole 12 = .ok (.iload_n 2, 1) := by decide +kernel
theorem dX7_hole_13 : decode cX7_hole 13 = .ok (.ifCond .ge 13, 3) := by decide +kernel
theorem dX7_hole_16 : decode cX7_hole 16 = .ok (.new 169, 3) := by decide +kernel
theorem dX7_hole_19 : decode cX7_hole 19 = .ok (.dup, 1) := by decide +kernel
theorem dX7_hole_20 : decode cX7_hole 20 = .ok (.ldc 235, 2) := by decide +kernel
theorem dX7_hole_22 : decode cX7_hole 22 = .ok (.invokespecial 171, 3) := by decide +kernel
theorem dX7_hole_25 : decode cX7_hole 25 = .ok (.athrow, 1) := by decide +kernel
theorem dX7_hole_26 : decode cX7_hole 26 = .ok (.iload_n 2, 1) := by decide +kernel
theorem dX7_hole_27 : decode cX7_hole 27 = .ok (.ireturn, 1) := by decide +kernel
theorem dX7_inTheWay_0 : decode cX7_inTheWay 0 = .ok (.aload_n 0, 1) := by decide +kernel
theorem dX7_inTheWay_1 : decode cX7_inTheWay 1 = .ok (.getfield 12, 3) := by decide +kernel
theorem dX7_inTheWay_4 : decode cX7_inTheWay 4 = .ok (.getfield 126, 3) := by decide +kernel
theorem dX7_inTheWay_7 : decode cX7_inTheWay 7 = .ok (.iload_n 1, 1) := by decide +kernel
theorem dX7_inTheWay_8 : decode cX7_inTheWay 8 = .ok (.invokestatic 218, 3) := by decide +kernel
theorem dX7_inTheWay_11 : decode cX7_inTheWay 11 = .ok (.invokevirtual 237, 3) := by decide +kernel
theorem dX7_inTheWay_14 : decode cX7_inTheWay 14 = .ok (.ireturn, 1) := by decide +kernel
theorem dX7_ranked_0 : decode cX7_ranked 0 = .ok (.aload_n 0, 1) := by decide +kernel
theorem dX7_ranked_1 : decode cX7_ranked 1 = .ok (.getfield 12, 3) := by decide +kernel
theorem dX7_ranked_4 : decode cX7_ranked 4 = .ok (.getfield 126, 3) := by decide +kernel
theorem dX7_ranked_7 : decode cX7_ranked 7 = .ok (.iload_n 1, 1) := by decide +kernel
theorem dX7_ranked_8 : decode cX7_ranked 8 = .ok (.invokevirtual 240, 3) := by decide +kernel
theorem dX7_ranked_11 : decode cX7_ranked 11 = .ok (.istore_n 2, 1) := by decide +kernel
theorem dX7_ranked_12 : decode cX7_ranked 12 = .ok (.iload_n 2, 1) := by decide +kernel
theorem dX7_ranked_13 : decode cX7_ranked 13 = .ok (.ifCond .ge 13, 3) := by decide +kernel
theorem dX7_ranked_16 : decode cX7_ranked 16 = .ok (.new 169, 3) := by decide +kernel
theorem dX7_ranked_19 : decode cX7_ranked 19 = .ok (.dup, 1) := by decide +kernel
theorem dX7_ranked_20 : decode cX7_ranked 20 = .ok (.ldc 155, 2) := by decide +kernel
theorem dX7_ranked_22 : decode cX7_ranked 22 = .ok (.invokespecial 171, 3) := by decide +kernel
theorem dX7_ranked_25 : decode cX7_ranked 25 = .ok (.athrow, 1) := by decide +kernel
theorem dX7_ranked_26 : decode cX7_ranked 26 = .ok (.iload_n 2, 1) := by decide +kernel
theorem dX7_ranked_27 : decode cX7_ranked 27 = .ok (.ireturn, 1) := by decide +kernel
theorem dX7_line_0 : decode cX7_line 0 = .ok (.aload_n 0, 1) := by decide +kernel
theorem dX7_line_1 : decode cX7_line 1 = .ok (.getfield 12, 3) := by decide +kernel
theorem dX7_line_4 : decode cX7_line 4 = .ok (.aload_n 0, 1) := by decide +kernel
theorem dX7_line_5 : decode cX7_line 5 = .ok (.getfield 32, 3) := by decide +kernel
theorem dX7_line_8 : decode cX7_line 8 = .ok (.invokevirtual 243, 3) := by decide +kernel
theorem dX7_line_11 : decode cX7_line 11 = .ok (.aload_n 0, 1) := by decide +kernel
theorem dX7_line_12 : decode cX7_line 12 = .ok (.getfield 32, 3) := by decide +kernel
theorem dX7_line_15 : decode cX7_line 15 = .ok (.getfield 247, 3) := by decide +kernel
theorem dX7_line_18 : decode cX7_line 18 = .ok (.ireturn, 1) := by decide +kernel
theorem dX7_map_0 : decode cX7_map 0 = .ok (.aload_n 0, 1) := by decide +kernel
theorem dX7_map_1 : decode cX7_map 1 = .ok (.getfield 12, 3) := by decide +kernel
theorem dX7_map_4 : decode cX7_map 4 = .ok (.aload_n 0, 1) := by decide +kernel
theorem dX7_map_5 : decode cX7_map 5 = .ok (.getfield 32, 3) := by decide +kernel
theorem dX7_map_8 : decode cX7_map 8 = .ok (.invokevirtual 250, 3) := by decide +kernel
theorem dX7_map_11 : decode cX7_map 11 = .ok (.aload_n 0, 1) := by decide +kernel
theorem dX7_map_12 : decode cX7_map 12 = .ok (.getfield 32, 3) := by decide +kernel
theorem dX7_map_15 : decode cX7_map 15 = .ok (.getfield 247, 3) := by decide +kernel
theorem dX7_map_18 : decode cX7_map 18 = .ok (.ireturn, 1) := by decide +kernel
theorem dX7_character_0 : decode cX7_character 0 = .ok (.aload_n 0, 1) := by decide +kernel
theorem dX7_character_1 : decode cX7_character 1 = .ok (.getfield 32, 3) := by decide +kernel
theorem dX7_character_4 : decode cX7_character 4 = .ok (.iload_n 1, 1) := by decide +kernel
theorem dX7_character_5 : decode cX7_character 5 = .ok (.invokevirtual 253, 3) := by decide +kernel
theorem dX7_character_8 : decode cX7_character 8 = .ok (.ifCond .ne 13, 3) := by decide +kernel
theorem dX7_character_11 : decode cX7_character 11 = .ok (.new 113, 3) := by decide +kernel
theorem dX7_character_14 : decode cX7_character 14 = .ok (.dup, 1) := by decide +kernel
theorem dX7_character_15 : decode cX7_character 15 = .ok (.ldc 254, 2) := by decide +kernel
theorem dX7_character_17 : decode cX7_character 17 = .ok (.invokespecial 117, 3) := by decide +kernel
theorem dX7_character_20 : decode cX7_character 20 = .ok (.athrow, 1) := by decide +kernel
theorem dX7_character_21 : decode cX7_character 21 = .ok (.aload_n 0, 1) := by decide +kernel
theorem dX7_character_22 : decode cX7_character 22 = .ok (.getfield 32, 3) := by decide +kernel
theorem dX7_character_25 : decode cX7_character 25 = .ok (.iload_n 1, 1) := by decide +kernel
theorem dX7_character_26 : decode cX7_character 26 = .ok (.invokevirtual 256, 3) := by decide +kernel
theorem dX7_character_29 : decode cX7_character 29 = .ok (.ireturn, 1) := by decide +kernel
theorem dX7_append_0 : decode cX7_append 0 = .ok (.aload_n 0, 1) := by decide +kernel
theorem dX7_append_1 : decode cX7_append 1 = .ok (.getfield 39, 3) := by decide +kernel
theorem dX7_append_4 : decode cX7_append 4 = .ok (.invokevirtual 260, 3) := by decide +kernel
theorem dX7_append_7 : decode cX7_append 7 = .ok (.ifCond .eq 14, 3) := by decide +kernel
theorem dX7_append_10 : decode cX7_append 10 = .ok (.new 263, 3) := by decide +kernel
theorem dX7_append_13 : decode cX7_append 13 = .ok (.dup, 1) := by decide +kernel
theorem dX7_append_14 : decode cX7_append 14 = .ok (.ldc_w 265, 3) := by decide +kernel
theorem dX7_append_17 : decode cX7_append 17 = .ok (.invokespecial 267, 3) := by decide +kernel
theorem dX7_append_20 : decode cX7_append 20 = .ok (.athrow, 1) := by decide +kernel
theorem dX7_append_21 : decode cX7_append 21 = .ok (.aload_n 0, 1) := by decide +kernel
theorem dX7_append_22 : decode cX7_append 22 = .ok (.getfield 39, 3) := by decide +kernel
theorem dX7_append_25 : decode cX7_append 25 = .ok (.iload_n 1, 1) := by decide +kernel
theorem dX7_append_26 : decode cX7_append 26 = .ok (.invokevirtual 268, 3) := by decide +kernel
theorem dX7_append_29 : decode cX7_append 29 = .ok (.aload_n 0, 1) := by decide +kernel
theorem dX7_append_30 : decode cX7_append 30 = .ok (.getfield 39, 3) := by decide +kernel
theorem dX7_append_33 : decode cX7_append 33 = .ok (.getfield 272, 3) := by decide +kernel
theorem dX7_append_36 : decode cX7_append 36 = .ok (.ireturn, 1) := by decide +kernel
theorem dX7_run_0 : decode cX7_run 0 = .ok (.aload_n 0, 1) := by decide +kernel
theorem dX7_run_1 : decode cX7_run 1 = .ok (.aload_n 0, 1) := by decide +kernel
theorem dX7_run_2 : decode cX7_run 2 = .ok (.getfield 39, 3) := by decide +kernel
theorem dX7_run_5 : decode cX7_run 5 = .ok (.invokevirtual 273, 3) := by decide +kernel
theorem dX7_run_8 : decode cX7_run 8 = .ok (.putfield 43, 3) := by decide +kernel
theorem dX7_run_11 : decode cX7_run 11 = .ok (.aload_n 0, 1) := by decide +kernel
theorem dX7_run_12 : decode cX7_run 12 = .ok (.getfield 39, 3) := by decide +kernel
theorem dX7_run_15 : decode cX7_run 15 = .ok (.invokevirtual 276, 3) := by decide +kernel
theorem dX7_run_18 : decode cX7_run 18 = .ok (.aload_n 0, 1) := by decide +kernel
theorem dX7_run_19 : decode cX7_run 19 = .ok (.getfield 43, 3) := by decide +kernel
theorem dX7_run_22 : decode cX7_run 22 = .ok (.ifCond .lt 14, 3) := by decide +kernel
theorem dX7_run_25 : decode cX7_run 25 = .ok (.new 147, 3) := by decide +kernel
theorem dX7_run_28 : decode cX7_run 28 = .ok (.dup, 1) := by decide +kernel
theorem dX7_run_29 : decode cX7_run 29 = .ok (.ldc_w 279, 3) := by decide +kernel
theorem dX7_run_32 : decode cX7_run 32 = .ok (.invokespecial 151, 3) := by decide +kernel
theorem dX7_run_35 : decode cX7_run 35 = .ok (.athrow, 1) := by decide +kernel
theorem dX7_run_36 : decode cX7_run 36 = .ok (.aload_n 0, 1) := by decide +kernel
theorem dX7_run_37 : decode cX7_run 37 = .ok (.getfield 16, 3) := by decide +kernel
theorem dX7_run_40 : decode cX7_run 40 = .ok (.aload_n 0, 1) := by decide +kernel
theorem dX7_run_41 : decode cX7_run 41 = .ok (.getfield 12, 3) := by decide +kernel
theorem dX7_run_44 : decode cX7_run 44 = .ok (.invokevirtual 281, 3) := by decide +kernel
theorem dX7_run_47 : decode cX7_run 47 = .ok (.iconst 0, 1) := by decide +kernel
theorem dX7_run_48 : decode cX7_run 48 = .ok (.istore_n 1, 1) := by decide +kernel
theorem dX7_run_49 : decode cX7_run 49 = .ok (.iconst 0, 1) := by decide +kernel
theorem dX7_run_50 : decode cX7_run 50 = .ok (.istore_n 2, 1) := by decide +kernel
theorem dX7_run_51 : decode cX7_run 51 = .ok (.iload_n 2, 1) := by decide +kernel
theorem dX7_run_52 : decode cX7_run 52 = .ok (.aload_n 0, 1) := by decide +kernel
theorem dX7_run_53 : decode cX7_run 53 = .ok (.getfield 39, 3) := by decide +kernel
theorem dX7_run_56 : decode cX7_run 56 = .ok (.getfield 284, 3) := by decide +kernel
theorem dX7_run_59 : decode cX7_run 59 = .ok (.if_icmp .ge 74, 3) := by decide +kernel
theorem dX7_run_62 : decode cX7_run 62 = .ok (.iload_n 1, 1) := by decide +kernel
theorem dX7_run_63 : decode cX7_run 63 = .ok (.ifCond .ne 70, 3) := by decide +kernel
theorem dX7_run_66 : decode cX7_run 66 = .ok (.aload_n 0, 1) := by decide +kernel
theorem dX7_run_67 : decode cX7_run 67 = .ok (.aload_n 0, 1) := by decide +kernel
theorem dX7_run_68 : decode cX7_run 68 = .ok (.getfield 39, 3) := by decide +kernel
theorem dX7_run_71 : decode cX7_run 71 = .ok (.iload_n 2, 1) := by decide +kernel
theorem dX7_run_72 : decode cX7_run 72 = .ok (.invokevirtual 285, 3) := by decide +kernel
theorem dX7_run_75 : decode cX7_run 75 = .ok (.aload_n 0, 1) := by decide +kernel
theorem dX7_run_76 : decode cX7_run 76 = .ok (.getfield 39, 3) := by decide +kernel
theorem dX7_run_79 : decode cX7_run 79 = .ok (.iload_n 2, 1) := by decide +kernel
theorem dX7_run_80 : decode cX7_run 80 = .ok (.invokevirtual 288, 3) := by decide +kernel
theorem dX7_run_83 : decode cX7_run 83 = .ok (.aload_n 0, 1) := by decide +kernel
theorem dX7_run_84 : decode cX7_run 84 = .ok (.getfield 39, 3) := by decide +kernel
theorem dX7_run_87 : decode cX7_run 87 = .ok (.iload_n 2, 1) := by decide +kernel
theorem dX7_run_88 : decode cX7_run 88 = .ok (.invokevirtual 291, 3) := by decide +kernel
theorem dX7_run_91 : decode cX7_run 91 = .ok (.invokevirtual 294, 3) := by decide +kernel
theorem dX7_run_94 : decode cX7_run 94 = .ok (.istore_n 1, 1) := by decide +kernel
theorem dX7_run_95 : decode cX7_run 95 = .ok (.iload_n 1, 1) := by decide +kernel
theorem dX7_run_96 : decode cX7_run 96 = .ok (.ifCond .ne 31, 3) := by decide +kernel
theorem dX7_run_99 : decode cX7_run 99 = .ok (.aload_n 0, 1) := by decide +kernel
theorem dX7_run_100 : decode cX7_run 100 = .ok (.aload_n 0, 1) := by decide +kernel
theorem dX7_run_101 : decode cX7_run 101 = .ok (.getfield 39, 3) := by decide +kernel
theorem dX7_run_104 : decode cX7_run 104 = .ok (.iload_n 2, 1) := by decide +kernel
theorem dX7_run_105 : decode cX7_run 105 = .ok (.invokevirtual 285, 3) := by decide +kernel
theorem dX7_run_108 : decode cX7_run 108 = .ok (.aload_n 0, 1) := by decide +kernel
theorem dX7_run_109 : decode cX7_run 109 = .ok (.getfield 39, 3) := by decide +kernel
theorem dX7_run_112 : decode cX7_run 112 = .ok (.iload_n 2, 1) := by decide +kernel
theorem dX7_run_113 : decode cX7_run 113 = .ok (.invokevirtual 288, 3) := by decide +kernel
theorem dX7_run_116 : decode cX7_run 116 = .ok (.aload_n 0, 1) := by decide +kernel
theorem dX7_run_117 : decode cX7_run 117 = .ok (.getfield 39, 3) := by decide +kernel
theorem dX7_run_120 : decode cX7_run 120 = .ok (.iload_n 2, 1) := by decide +kernel
theorem dX7_run_121 : decode cX7_run 121 = .ok (.invokevirtual 291, 3) := by decide +kernel
theorem dX7_run_124 : decode cX7_run 124 = .ok (.invokevirtual 298, 3) := by decide +kernel
theorem dX7_run_127 : decode cX7_run 127 = .ok (.iinc 2 1, 3) := by decide +kernel
theorem dX7_run_130 : decode cX7_run 130 = .ok (.goto (-79), 3) := by decide +kernel
theorem dX7_run_133 : decode cX7_run 133 = .ok (.iload_n 1, 1) := by decide +kernel
theorem dX7_run_134 : decode cX7_run 134 = .ok (.ifCond .eq 14, 3) := by decide +kernel
theorem dX7_run_137 : decode cX7_run 137 = .ok (.aload_n 0, 1) := by decide +kernel
theorem dX7_run_138 : decode cX7_run 138 = .ok (.getfield 12, 3) := by decide +kernel
theorem dX7_run_141 : decode cX7_run 141 = .ok (.aload_n 0, 1) := by decide +kernel
theorem dX7_run_142 : decode cX7_run 142 = .ok (.getfield 16, 3) := by decide +kernel
theorem dX7_run_145 : decode cX7_run 145 = .ok (.invokevirtual 281, 3) := by decide +kernel
theorem dX7_run_148 : decode cX7_run 148 = .ok (.iload_n 1, 1) := by decide +kernel
theorem dX7_run_149 : decode cX7_run 149 = .ok (.iconst 3, 1) := by decide +kernel
theorem dX7_run_150 : decode cX7_run 150 = .ok (.if_icmp .ne 14, 3) := by decide +kernel
theorem dX7_run_153 : decode cX7_run 153 = .ok (.new 302, 3) := by decide +kernel
theorem dX7_run_156 : decode cX7_run 156 = .ok (.dup, 1) := by decide +kernel
theorem dX7_run_157 : decode cX7_run 157 = .ok (.ldc_w 304, 3) := by decide +kernel
theorem dX7_run_160 : decode cX7_run 160 = .ok (.invokespecial 306, 3) := by decide +kernel
theorem dX7_run_163 : decode cX7_run 163 = .ok (.athrow, 1) := by decide +kernel
theorem dX7_run_164 : decode cX7_run 164 = .ok (.iload_n 1, 1) := by decide +kernel
theorem dX7_run_165 : decode cX7_run 165 = .ok (.ifCond .eq 14, 3) := by decide +kernel
theorem dX7_run_168 : decode cX7_run 168 = .ok (.new 147, 3) := by decide +kernel
theorem dX7_run_171 : decode cX7_run 171 = .ok (.dup, 1) := by decide +kernel
theorem dX7_run_172 : decode cX7_run 172 = .ok (.ldc_w 307, 3) := by decide +kernel
theorem dX7_run_175 : decode cX7_run 175 = .ok (.invokespecial 151, 3) := by decide +kernel
theorem dX7_run_178 : decode cX7_run 178 = .ok (.athrow, 1) := by decide +kernel
theorem dX7_run_179 : decode cX7_run 179 = .ok (.aload_n 0, 1) := by decide +kernel
theorem dX7_run_180 : decode cX7_run 180 = .ok (.getfield 25, 3) := by decide +kernel
theorem dX7_run_183 : decode cX7_run 183 = .ok (.aload_n 0, 1) := by decide +kernel
theorem dX7_run_184 : decode cX7_run 184 = .ok (.getfield 16, 3) := by decide +kernel
theorem dX7_run_187 : decode cX7_run 187 = .ok (.invokevirtual 65, 3) := by decide +kernel
theorem dX7_run_190 : decode cX7_run 190 = .ok (.aload_n 0, 1) := by decide +kernel
theorem dX7_run_191 : decode cX7_run 191 = .ok (.getfield 39, 3) := by decide +kernel
theorem dX7_run_194 : decode cX7_run 194 = .ok (.getfield 284, 3) := by decide +kernel
theorem dX7_run_197 : decode cX7_run 197 = .ok (.ireturn, 1) := by decide +kernel
theorem dX7_errorPosition_0 : decode cX7_errorPosition 0 = .ok (.aload_n 0, 1) := by decide +kernel
theorem dX7_errorPosition_1 : decode cX7_errorPosition 1 = .ok (.getfield 43, 3) := by decide +kernel
theorem dX7_errorPosition_4 : decode cX7_errorPosition 4 = .ok (.ireturn, 1) := by decide +kernel
theorem dX7_refusal_0 : decode cX7_refusal 0 = .ok (.aload_n 0, 1) := by decide +kernel
theorem dX7_refusal_1 : decode cX7_refusal 1 = .ok (.getfield 51, 3) := by decide +kernel
theorem dX7_refusal_4 : decode cX7_refusal 4 = .ok (.ifCond .ne 14, 3) := by decide +kernel
theorem dX7_refusal_7 : decode cX7_refusal 7 = .ok (.new 169, 3) := by decide +kernel
theorem dX7_refusal_10 : decode cX7_refusal 10 = .ok (.dup, 1) := by decide +kernel
theorem dX7_refusal_11 : decode cX7_refusal 11 = .ok (.ldc_w 309, 3) := by decide +kernel
theorem dX7_refusal_14 : decode cX7_refusal 14 = .ok (.invokespecial 171, 3) := by decide +kernel
theorem dX7_refusal_17 : decode cX7_refusal 17 = .ok (.athrow, 1) := by decide +kernel
theorem dX7_refusal_18 : decode cX7_refusal 18 = .ok (.iload_n 1, 1) := by decide +kernel
theorem dX7_refusal_19 : decode cX7_refusal 19 = .ok (.ifCond .eq 10, 3) := by decide +kernel
theorem dX7_refusal_22 : decode cX7_refusal 22 = .ok (.aload_n 0, 1) := by decide +kernel
theorem dX7_refusal_23 : decode cX7_refusal 23 = .ok (.getfield 54, 3) := by decide +kernel
theorem dX7_refusal_26 : decode cX7_refusal 26 = .ok (.goto 7, 3) := by decide +kernel
theorem dX7_refusal_29 : decode cX7_refusal 29 = .ok (.aload_n 0, 1) := by decide +kernel
theorem dX7_refusal_30 : decode cX7_refusal 30 = .ok (.getfield 51, 3) := by decide +kernel
theorem dX7_refusal_33 : decode cX7_refusal 33 = .ok (.ireturn, 1) := by decide +kernel
theorem dX7_account_0 : decode cX7_account 0 = .ok (.iload_n 1, 1) := by decide +kernel
theorem dX7_account_1 : decode cX7_account 1 = .ok (.tableswitch 185 0 10 #[59, 70, 81, 92, 103, 114, 136, 147, 158, 169, 177], 59) := by decide +kernel
theorem dX7_account_60 : decode cX7_account 60 = .ok (.aload_n 0, 1) := by decide +kernel
theorem dX7_account_61 : decode cX7_account 61 = .ok (.getfield 12, 3) := by decide +kernel
theorem dX7_account_64 : decode cX7_account 64 = .ok (.getfield 126, 3) := by decide +kernel
theorem dX7_account_67 : decode cX7_account 67 = .ok (.getfield 311, 3) := by decide +kernel
theorem dX7_account_70 : decode cX7_account 70 = .ok (.ireturn, 1) := by decide +kernel
theorem dX7_account_71 : decode cX7_account 71 = .ok (.aload_n 0, 1) := by decide +kernel
theorem dX7_account_72 : decode cX7_account 72 = .ok (.getfield 12, 3) := by decide +kernel
theorem dX7_account_75 : decode cX7_account 75 = .ok (.getfield 126, 3) := by decide +kernel
theorem dX7_account_78 : decode cX7_account 78 = .ok (.invokevirtual 312, 3) := by decide +kernel
theorem dX7_account_81 : decode cX7_account 81 = .ok (.ireturn, 1) := by decide +kernel
theorem dX7_account_82 : decode cX7_account 82 = .ok (.aload_n 0, 1) := by decide +kernel
theorem dX7_account_83 : decode cX7_account 83 = .ok (.getfield 12, 3) := by decide +kernel
theorem dX7_account_86 : decode cX7_account 86 = .ok (.getfield 126, 3) := by decide +kernel
theorem dX7_account_89 : decode cX7_account 89 = .ok (.invokevirtual 315, 3) := by decide +kernel
theorem dX7_account_92 : decode cX7_account 92 = .ok (.ireturn, 1) := by decide +kernel
theorem dX7_account_93 : decode cX7_account 93 = .ok (.aload_n 0, 1) := by decide +kernel
theorem dX7_account_94 : decode cX7_account 94 = .ok (.getfield 12, 3) := by decide +kernel
theorem dX7_account_97 : decode cX7_account 97 = .ok (.getfield 203, 3) := by decide +kernel
theorem dX7_account_100 : decode cX7_account 100 = .ok (.invokevirtual 318, 3) := by decide +kernel
theorem dX7_account_103 : decode cX7_account 103 = .ok (.ireturn, 1) := by decide +kernel
theorem dX7_account_104 : decode cX7_account 104 = .ok (.aload_n 0, 1) := by decide +kernel
theorem dX7_account_105 : decode cX7_account 105 = .ok (.getfield 12, 3) := by decide +kernel
theorem dX7_account_108 : decode cX7_account 108 = .ok (.getfield 103, 3) := by decide +kernel
theorem dX7_account_111 : decode cX7_account 111 = .ok (.getfield 123, 3) := by decide +kernel
theorem dX7_account_114 : decode cX7_account 114 = .ok (.ireturn, 1) := by decide +kernel
theorem dX7_account_115 : decode cX7_account 115 = .ok (.aload_n 0, 1) := by decide +kernel
theorem dX7_account_116 : decode cX7_account 116 = .ok (.getfield 12, 3) := by decide +kernel
theorem dX7_account_119 : decode cX7_account 119 = .ok (.getfield 126, 3) := by decide +kernel
theorem dX7_account_122 : decode cX7_account 122 = .ok (.invokevirtual 315, 3) := by decide +kernel
theorem dX7_account_125 : decode cX7_account 125 = .ok (.aload_n 0, 1) := by decide +kernel
theorem dX7_account_126 : decode cX7_account 126 = .ok (.getfield 12, 3) := by decide +kernel
theorem dX7_account_129 : decode cX7_account 129 = .ok (.getfield 126, 3) := by decide +kernel
theorem dX7_account_132 : decode cX7_account 132 = .ok (.invokevirtual 312, 3) := by decide +kernel
theorem dX7_account_135 : decode cX7_account 135 = .ok (.isub, 1) := by decide +kernel
theorem dX7_account_136 : decode cX7_account 136 = .ok (.ireturn, 1) := by decide +kernel
theorem dX7_account_137 : decode cX7_account 137 = .ok (.aload_n 0, 1) := by decide +kernel
theorem dX7_account_138 : decode cX7_account 138 = .ok (.getfield 12, 3) := by decide +kernel
theorem dX7_account_141 : decode cX7_account 141 = .ok (.getfield 203, 3) := by decide +kernel
theorem dX7_account_144 : decode cX7_account 144 = .ok (.getfield 321, 3) := by decide +kernel
theorem dX7_account_147 : decode cX7_account 147 = .ok (.ireturn, 1) := by decide +kernel
theorem dX7_account_148 : decode cX7_account 148 = .ok (.aload_n 0, 1) := by decide +kernel
theorem dX7_account_149 : decode cX7_account 149 = .ok (.getfield 12, 3) := by decide +kernel
theorem dX7_account_152 : decode cX7_account 152 = .ok (.getfield 203, 3) := by decide +kernel
theorem dX7_account_155 : decode cX7_account 155 = .ok (.getfield 324, 3) := by decide +kernel
theorem dX7_account_158 : decode cX7_account 158 = .ok (.ireturn, 1) := by decide +kernel
theorem dX7_account_159 : decode cX7_account 159 = .ok (.aload_n 0, 1) := by decide +kernel
theorem dX7_account_160 : decode cX7_account 160 = .ok (.getfield 12, 3) := by decide +kernel
theorem dX7_account_163 : decode cX7_account 163 = .ok (.getfield 203, 3) := by decide +kernel
theorem dX7_account_166 : decode cX7_account 166 = .ok (.getfield 327, 3) := by decide +kernel
theorem dX7_account_169 : decode cX7_account 169 = .ok (.ireturn, 1) := by decide +kernel
theorem dX7_account_170 : decode cX7_account 170 = .ok (.aload_n 0, 1) := by decide +kernel
theorem dX7_account_171 : decode cX7_account 171 = .ok (.getfield 39, 3) := by decide +kernel
theorem dX7_account_174 : decode cX7_account 174 = .ok (.getfield 272, 3) := by decide +kernel
theorem dX7_account_177 : decode cX7_account 177 = .ok (.ireturn, 1) := by decide +kernel
theorem dX7_account_178 : decode cX7_account 178 = .ok (.aload_n 0, 1) := by decide +kernel
theorem dX7_account_179 : decode cX7_account 179 = .ok (.getfield 25, 3) := by decide +kernel
theorem dX7_account_182 : decode cX7_account 182 = .ok (.getfield 330, 3) := by decide +kernel
theorem dX7_account_185 : decode cX7_account 185 = .ok (.ireturn, 1) := by decide +kernel
theorem dX7_account_186 : decode cX7_account 186 = .ok (.new 147, 3) := by decide +kernel
theorem dX7_account_189 : decode cX7_account 189 = .ok (.dup, 1) := by decide +kernel
theorem dX7_account_190 : decode cX7_account 190 = .ok (.ldc_w 331, 3) := by decide +kernel
theorem dX7_account_193 : decode cX7_account 193 = .ok (.invokespecial 151, 3) := by decide +kernel
theorem dX7_account_196 : decode cX7_account 196 = .ok (.athrow, 1) := by decide +kernel
theorem dX7_isWell_0 : decode cX7_isWell 0 = .ok (.aload_n 0, 1) := by decide +kernel
theorem dX7_isWell_1 : decode cX7_isWell 1 = .ok (.getfield 12, 3) := by decide +kernel
theorem dX7_isWell_4 : decode cX7_isWell 4 = .ok (.invokevirtual 333, 3) := by decide +kernel
theorem dX7_isWell_7 : decode cX7_isWell 7 = .ok (.ifCond .eq 40, 3) := by decide +kernel
theorem dX7_isWell_10 : decode cX7_isWell 10 = .ok (.aload_n 0, 1) := by decide +kernel
theorem dX7_isWell_11 : decode cX7_isWell 11 = .ok (.getfield 12, 3) := by decide +kernel
theorem dX7_isWell_14 : decode cX7_isWell 14 = .ok (.invokevirtual 336, 3) := by decide +kernel
theorem dX7_isWell_17 : decode cX7_isWell 17 = .ok (.ifCond .eq 30, 3) := by decide +kernel
theorem dX7_isWell_20 : decode cX7_isWell 20 = .ok (.aload_n 0, 1) := by decide +kernel
theorem dX7_isWell_21 : decode cX7_isWell 21 = .ok (.getfield 12, 3) := by decide +kernel
theorem dX7_isWell_24 : decode cX7_isWell 24 = .ok (.getfield 126, 3) := by decide +kernel
theorem dX7_isWell_27 : decode cX7_isWell 27 = .ok (.invokevirtual 339, 3) := by decide +kernel
theorem dX7_isWell_30 : decode cX7_isWell 30 = .ok (.ifCond .eq 17, 3) := by decide +kernel
theorem dX7_isWell_33 : decode cX7_isWell 33 = .ok (.aload_n 0, 1) := by decide +kernel
theorem dX7_isWell_34 : decode cX7_isWell 34 = .ok (.getfield 12, 3) := by decide +kernel
theorem dX7_isWell_37 : decode cX7_isWell 37 = .ok (.invokevirtual 342, 3) := by decide +kernel
theorem dX7_isWell_40 : decode cX7_isWell 40 = .ok (.ifCond .ne 7, 3) := by decide +kernel
theorem dX7_isWell_43 : decode cX7_isWell 43 = .ok (.iconst 1, 1) := by decide +kernel
theorem dX7_isWell_44 : decode cX7_isWell 44 = .ok (.goto 4, 3) := by decide +kernel
theorem dX7_isWell_47 : decode cX7_isWell 47 = .ok (.iconst 0, 1) := by decide +kernel
theorem dX7_isWell_48 : decode cX7_isWell 48 = .ok (.ireturn, 1) := by decide +kernel
theorem dX7_meanWaste_0 : decode cX7_meanWaste 0 = .ok (.aload_n 0, 1) := by decide +kernel
theorem dX7_meanWaste_1 : decode cX7_meanWaste 1 = .ok (.getfield 12, 3) := by decide +kernel
theorem dX7_meanWaste_4 : decode cX7_meanWaste 4 = .ok (.getfield 126, 3) := by decide +kernel
theorem dX7_meanWaste_7 : decode cX7_meanWaste 7 = .ok (.getfield 311, 3) := by decide +kernel
theorem dX7_meanWaste_10 : decode cX7_meanWaste 10 = .ok (.istore_n 1, 1) := by decide +kernel
theorem dX7_meanWaste_11 : decode cX7_meanWaste 11 = .ok (.iload_n 1, 1) := by decide +kernel
theorem dX7_meanWaste_12 : decode cX7_meanWaste 12 = .ok (.ifCond .gt 14, 3) := by decide +kernel
theorem dX7_meanWaste_15 : decode cX7_meanWaste 15 = .ok (.new 345, 3) := by decide +kernel
theorem dX7_meanWaste_18 : decode cX7_meanWaste 18 = .ok (.dup, 1) := by decide +kernel
theorem dX7_meanWaste_19 : decode cX7_meanWaste 19 = .ok (.ldc_w 347, 3) := by decide +kernel
theorem dX7_meanWaste_22 : decode cX7_meanWaste 22 = .ok (.invokespecial 349, 3) := by decide +kernel
theorem dX7_meanWaste_25 : decode cX7_meanWaste 25 = .ok (.athrow, 1) := by decide +kernel
theorem dX7_meanWaste_26 : decode cX7_meanWaste 26 = .ok (.aload_n 0, 1) := by decide +kernel
theorem dX7_meanWaste_27 : decode cX7_meanWaste 27 = .ok (.getfield 12, 3) := by decide +kernel
theorem dX7_meanWaste_30 : decode cX7_meanWaste 30 = .ok (.getfield 126, 3) := by decide +kernel
theorem dX7_meanWaste_33 : decode cX7_meanWaste 33 = .ok (.invokevirtual 315, 3) := by decide +kernel
theorem dX7_meanWaste_36 : decode cX7_meanWaste 36 = .ok (.aload_n 0, 1) := by decide +kernel
theorem dX7_meanWaste_37 : decode cX7_meanWaste 37 = .ok (.getfield 12, 3) := by decide +kernel
theorem dX7_meanWaste_40 : decode cX7_meanWaste 40 = .ok (.getfield 126, 3) := by decide +kernel
theorem dX7_meanWaste_43 : decode cX7_meanWaste 43 = .ok (.invokevirtual 312, 3) := by decide +kernel
theorem dX7_meanWaste_46 : decode cX7_meanWaste 46 = .ok (.isub, 1) := by decide +kernel
theorem dX7_meanWaste_47 : decode cX7_meanWaste 47 = .ok (.i2d, 1) := by decide +kernel
theorem dX7_meanWaste_48 : decode cX7_meanWaste 48 = .ok (.iload_n 1, 1) := by decide +kernel
theorem dX7_meanWaste_49 : decode cX7_meanWaste 49 = .ok (.i2d, 1) := by decide +kernel
theorem dX7_meanWaste_50 : decode cX7_meanWaste 50 = .ok (.ddiv, 1) := by decide +kernel
theorem dX7_meanWaste_51 : decode cX7_meanWaste 51 = .ok (.dreturn, 1) := by decide +kernel
theorem dX7_lentShare_0 : decode cX7_lentShare 0 = .ok (.aload_n 0, 1) := by decide +kernel
theorem dX7_lentShare_1 : decode cX7_lentShare 1 = .ok (.getfield 12, 3) := by decide +kernel
theorem dX7_lentShare_4 : decode cX7_lentShare 4 = .ok (.getfield 126, 3) := by decide +kernel
theorem dX7_lentShare_7 : decode cX7_lentShare 7 = .ok (.invokevirtual 315, 3) := by decide +kernel
theorem dX7_lentShare_10 : decode cX7_lentShare 10 = .ok (.i2f, 1) := by decide +kernel
theorem dX7_lentShare_11 : decode cX7_lentShare 11 = .ok (.ldc_w 350, 3) := by decide +kernel
theorem dX7_lentShare_14 : decode cX7_lentShare 14 = .ok (.fdiv, 1) := by decide +kernel
theorem dX7_lentShare_15 : decode cX7_lentShare 15 = .ok (.freturn, 1) := by decide +kernel
theorem dX7_undo_0 : decode cX7_undo 0 = .ok (.aload_n 0, 1) := by decide +kernel
theorem dX7_undo_1 : decode cX7_undo 1 = .ok (.getfield 25, 3) := by decide +kernel
theorem dX7_undo_4 : decode cX7_undo 4 = .ok (.getfield 330, 3) := by decide +kernel
theorem dX7_undo_7 : decode cX7_undo 7 = .ok (.ifCond .gt 14, 3) := by decide +kernel
theorem dX7_undo_10 : decode cX7_undo 10 = .ok (.new 263, 3) := by decide +kernel
theorem dX7_undo_13 : decode cX7_undo 13 = .ok (.dup, 1) := by decide +kernel
theorem dX7_undo_14 : decode cX7_undo 14 = .ok (.ldc_w 351, 3) := by decide +kernel
theorem dX7_undo_17 : decode cX7_undo 17 = .ok (.invokespecial 267, 3) := by decide +kernel
theorem dX7_undo_20 : decode cX7_undo 20 = .ok (.athrow, 1) := by decide +kernel
theorem dX7_undo_21 : decode cX7_undo 21 = .ok (.aload_n 0, 1) := by decide +kernel
theorem dX7_undo_22 : decode cX7_undo 22 = .ok (.getfield 25, 3) := by decide +kernel
theorem dX7_undo_25 : decode cX7_undo 25 = .ok (.aload_n 0, 1) := by decide +kernel
theorem dX7_undo_26 : decode cX7_undo 26 = .ok (.getfield 12, 3) := by decide +kernel
theorem dX7_undo_29 : decode cX7_undo 29 = .ok (.invokevirtual 353, 3) := by decide +kernel
theorem dX7_undo_32 : decode cX7_undo 32 = .ok (.aload_n 0, 1) := by decide +kernel
theorem dX7_undo_33 : decode cX7_undo 33 = .ok (.getfield 25, 3) := by decide +kernel
theorem dX7_undo_36 : decode cX7_undo 36 = .ok (.getfield 330, 3) := by decide +kernel
theorem dX7_undo_39 : decode cX7_undo 39 = .ok (.ireturn, 1) := by decide +kernel
theorem dX7_save_0 : decode cX7_save 0 = .ok (.aload_n 0, 1) := by decide +kernel
theorem dX7_save_1 : decode cX7_save 1 = .ok (.getfield 19, 3) := by decide +kernel
theorem dX7_save_4 : decode cX7_save 4 = .ok (.aload_n 0, 1) := by decide +kernel
theorem dX7_save_5 : decode cX7_save 5 = .ok (.getfield 12, 3) := by decide +kernel
theorem dX7_save_8 : decode cX7_save 8 = .ok (.invokevirtual 281, 3) := by decide +kernel
theorem dX7_save_11 : decode cX7_save 11 = .ok (.aload_n 0, 1) := by decide +kernel
theorem dX7_save_12 : decode cX7_save 12 = .ok (.iconst 1, 1) := by decide +kernel
theorem dX7_save_13 : decode cX7_save 13 = .ok (.putfield 47, 3) := by decide +kernel
theorem dX7_save_16 : decode cX7_save 16 = .ok (.aload_n 0, 1) := by decide +kernel
theorem dX7_save_17 : decode cX7_save 17 = .ok (.getfield 12, 3) := by decide +kernel
theorem dX7_save_20 : decode cX7_save 20 = .ok (.getfield 126, 3) := by decide +kernel
theorem dX7_save_23 : decode cX7_save 23 = .ok (.getfield 311, 3) := by decide +kernel
theorem dX7_save_26 : decode cX7_save 26 = .ok (.ireturn, 1) := by decide +kernel
theorem dX7_restore_0 : decode cX7_restore 0 = .ok (.aload_n 0, 1) := by decide +kernel
theorem dX7_restore_1 : decode cX7_restore 1 = .ok (.getfield 47, 3) := by decide +kernel
theorem dX7_restore_4 : decode cX7_restore 4 = .ok (.ifCond .ne 14, 3) := by decide +kernel
theorem dX7_restore_7 : decode cX7_restore 7 = .ok (.new 263, 3) := by decide +kernel
theorem dX7_restore_10 : decode cX7_restore 10 = .ok (.dup, 1) := by decide +kernel
theorem dX7_restore_11 : decode cX7_restore 11 = .ok (.ldc_w 356, 3) := by decide +kernel
theorem dX7_restore_14 : decode cX7_restore 14 = .ok (.invokespecial 267, 3) := by decide +kernel
theorem dX7_restore_17 : decode cX7_restore 17 = .ok (.athrow, 1) := by decide +kernel
theorem dX7_restore_18 : decode cX7_restore 18 = .ok (.aload_n 0, 1) := by decide +kernel
theorem dX7_restore_19 : decode cX7_restore 19 = .ok (.getfield 12, 3) := by decide +kernel
theorem dX7_restore_22 : decode cX7_restore 22 = .ok (.aload_n 0, 1) := by decide +kernel
theorem dX7_restore_23 : decode cX7_restore 23 = .ok (.getfield 19, 3) := by decide +kernel
theorem dX7_restore_26 : decode cX7_restore 26 = .ok (.invokevirtual 281, 3) := by decide +kernel
theorem dX7_restore_29 : decode cX7_restore 29 = .ok (.aload_n 0, 1) := by decide +kernel
theorem dX7_restore_30 : decode cX7_restore 30 = .ok (.getfield 25, 3) := by decide +kernel
theorem dX7_restore_33 : decode cX7_restore 33 = .ok (.invokevirtual 358, 3) := by decide +kernel
theorem dX7_restore_36 : decode cX7_restore 36 = .ok (.aload_n 0, 1) := by decide +kernel
theorem dX7_restore_37 : decode cX7_restore 37 = .ok (.getfield 12, 3) := by decide +kernel
theorem dX7_restore_40 : decode cX7_restore 40 = .ok (.getfield 126, 3) := by decide +kernel
theorem dX7_restore_43 : decode cX7_restore 43 = .ok (.getfield 311, 3) := by decide +kernel
theorem dX7_restore_46 : decode cX7_restore 46 = .ok (.ireturn, 1) := by decide +kernel
theorem dX7_judgeLend_0 : decode cX7_judgeLend 0 = .ok (.iload_n 1, 1) := by decide +kernel
theorem dX7_judgeLend_1 : decode cX7_judgeLend 1 = .ok (.invokestatic 152, 3) := by decide +kernel
theorem dX7_judgeLend_4 : decode cX7_judgeLend 4 = .ok (.ifCond .eq 10, 3) := by decide +kernel
theorem dX7_judgeLend_7 : decode cX7_judgeLend 7 = .ok (.iload_n 2, 1) := by decide +kernel
theorem dX7_judgeLend_8 : decode cX7_judgeLend 8 = .ok (.invokestatic 361, 3) := by decide +kernel
theorem dX7_judgeLend_11 : decode cX7_judgeLend 11 = .ok (.ifCond .ne 5, 3) := by decide +kernel
theorem dX7_judgeLend_14 : decode cX7_judgeLend 14 = .ok (.iconst 2, 1) := by decide +kernel
theorem dX7_judgeLend_15 : decode cX7_judgeLend 15 = .ok (.ireturn, 1) := by decide +kernel
theorem dX7_judgeLend_16 : decode cX7_judgeLend 16 = .ok (.aload_n 0, 1) := by decide +kernel
theorem dX7_judgeLend_17 : decode cX7_judgeLend 17 = .ok (.getfield 12, 3) := by decide +kernel
theorem dX7_judgeLend_20 : decode cX7_judgeLend 20 = .ok (.getfield 126, 3) := by decide +kernel
theorem dX7_judgeLend_23 : decode cX7_judgeLend 23 = .ok (.getfield 311, 3) := by decide +kernel
theorem dX7_judgeLend_26 : decode cX7_judgeLend 26 = .ok (.bipush 16, 2) := by decide +kernel
theorem dX7_judgeLend_28 : decode cX7_judgeLend 28 = .ok (.if_icmp .lt 19, 3) := by decide +kernel
theorem dX7_judgeLend_31 : decode cX7_judgeLend 31 = .ok (.aload_n 0, 1) := by decide +kernel
theorem dX7_judgeLend_32 : decode cX7_judgeLend 32 = .ok (.iconst 1, 1) := by decide +kernel
theorem dX7_judgeLend_33 : decode cX7_judgeLend 33 = .ok (.aload_n 0, 1) := by decide +kernel
theorem dX7_judgeLend_34 : decode cX7_judgeLend 34 = .ok (.getfield 12, 3) := by decide +kernel
theorem dX7_judgeLend_37 : decode cX7_judgeLend 37 = .ok (.getfield 126, 3) := by decide +kernel
theorem dX7_judgeLend_40 : decode cX7_judgeLend 40 = .ok (.getfield 311, 3) := by decide +kernel
theorem dX7_judgeLend_43 : decode cX7_judgeLend 43 = .ok (.invokevirtual 364, 3) := by decide +kernel
theorem dX7_judgeLend_46 : decode cX7_judgeLend 46 = .ok (.ireturn, 1) := by decide +kernel
theorem dX7_judgeLend_47 : decode cX7_judgeLend 47 = .ok (.aload_n 0, 1) := by decide +kernel
theorem dX7_judgeLend_48 : decode cX7_judgeLend 48 = .ok (.getfield 12, 3) := by decide +kernel
theorem dX7_judgeLend_51 : decode cX7_judgeLend 51 = .ok (.getfield 203, 3) := by decide +kernel
theorem dX7_judgeLend_54 : decode cX7_judgeLend 54 = .ok (.invokevirtual 212, 3) := by decide +kernel
theorem dX7_judgeLend_57 : decode cX7_judgeLend 57 = .ok (.istore_n 3, 1) := by decide +kernel
theorem dX7_judgeLend_58 : decode cX7_judgeLend 58 = .ok (.iload_n 3, 1) := by decide +kernel
theorem dX7_judgeLend_59 : decode cX7_judgeLend 59 = .ok (.iload_n 2, 1) := by decide +kernel
theorem dX7_judgeLend_60 : decode cX7_judgeLend 60 = .ok (.invokestatic 367, 3) := by decide +kernel
theorem dX7_judgeLend_63 : decode cX7_judgeLend 63 = .ok (.if_icmp .ge 12, 3) := by decide +kernel
theorem dX7_judgeLend_66 : decode cX7_judgeLend 66 = .ok (.aload_n 0, 1) := by decide +kernel
theorem dX7_judgeLend_67 : decode cX7_judgeLend 67 = .ok (.iconst 2, 1) := by decide +kernel
theorem dX7_judgeLend_68 : decode cX7_judgeLend 68 = .ok (.iload_n 3, 1) := by decide +kernel
theorem dX7_judgeLend_69 : decode cX7_judgeLend 69 = .ok (.invokevirtual 364, 3) := by decide +kernel
theorem dX7_judgeLend_72 : decode cX7_judgeLend 72 = .ok (.goto 4, 3) := by decide +kernel
theorem dX7_judgeLend_75 : decode cX7_judgeLend 75 = .ok (.iconst 0, 1) := by decide +kernel
theorem dX7_judgeLend_76 : decode cX7_judgeLend 76 = .ok (.ireturn, 1) := by decide +kernel
theorem dX7_judgeAsk_0 : decode cX7_judgeAsk 0 = .ok (.iload_n 1, 1) := by decide +kernel
theorem dX7_judgeAsk_1 : decode cX7_judgeAsk 1 = .ok (.invokestatic 152, 3) := by decide +kernel
theorem dX7_judgeAsk_4 : decode cX7_judgeAsk 4 = .ok (.ifCond .eq 10, 3) := by decide +kernel
theorem dX7_judgeAsk_7 : decode cX7_judgeAsk 7 = .ok (.iload_n 2, 1) := by decide +kernel
theorem dX7_judgeAsk_8 : decode cX7_judgeAsk 8 = .ok (.invokestatic 361, 3) := by decide +kernel
theorem dX7_judgeAsk_11 : decode cX7_judgeAsk 11 = .ok (.ifCond .ne 5, 3) := by decide +kernel
theorem dX7_judgeAsk_14 : decode cX7_judgeAsk 14 = .ok (.iconst 2, 1) := by decide +kernel
theorem dX7_judgeAsk_15 : decode cX7_judgeAsk 15 = .ok (.ireturn, 1) := by decide +kernel
theorem dX7_judgeAsk_16 : decode cX7_judgeAsk 16 = .ok (.aload_n 0, 1) := by decide +kernel
theorem dX7_judgeAsk_17 : decode cX7_judgeAsk 17 = .ok (.getfield 12, 3) := by decide +kernel
theorem dX7_judgeAsk_20 : decode cX7_judgeAsk 20 = .ok (.iload_n 2, 1) := by decide +kernel
theorem dX7_judgeAsk_21 : decode cX7_judgeAsk 21 = .ok (.invokevirtual 370, 3) := by decide +kernel
theorem dX7_judgeAsk_24 : decode cX7_judgeAsk 24 = .ok (.ifCond .ne 34, 3) := by decide +kernel
theorem dX7_judgeAsk_27 : decode cX7_judgeAsk 27 = .ok (.aload_n 0, 1) := by decide +kernel
theorem dX7_judgeAsk_28 : decode cX7_judgeAsk 28 = .ok (.getfield 12, 3) := by decide +kernel
theorem dX7_judgeAsk_31 : decode cX7_judgeAsk 31 = .ok (.getfield 103, 3) := by decide +kernel
theorem dX7_judgeAsk_34 : decode cX7_judgeAsk 34 = .ok (.getfield 123, 3) := by decide +kernel
theorem dX7_judgeAsk_37 : decode cX7_judgeAsk 37 = .ok (.bipush 6, 2) := by decide +kernel
theorem dX7_judgeAsk_39 : decode cX7_judgeAsk 39 = .ok (.if_icmp .lt 19, 3) := by decide +kernel
theorem dX7_judgeAsk_42 : decode cX7_judgeAsk 42 = .ok (.aload_n 0, 1) := by decide +kernel
theorem dX7_judgeAsk_43 : decode cX7_judgeAsk 43 = .ok (.iconst 3, 1) := by decide +kernel
theorem dX7_judgeAsk_44 : decode cX7_judgeAsk 44 = .ok (.aload_n 0, 1) := by decide +kernel
theorem dX7_judgeAsk_45 : decode cX7_judgeAsk 45 = .ok (.getfield 12, 3) := by decide +kernel
theorem dX7_judgeAsk_48 : decode cX7_judgeAsk 48 = .ok (.getfield 103, 3) := by decide +kernel
theorem dX7_judgeAsk_51 : decode cX7_judgeAsk 51 = .ok (.getfield 123, 3) := by decide +kernel
theorem dX7_judgeAsk_54 : decode cX7_judgeAsk 54 = .ok (.invokevirtual 364, 3) := by decide +kernel
theorem dX7_judgeAsk_57 : decode cX7_judgeAsk 57 = .ok (.ireturn, 1) := by decide +kernel
theorem dX7_judgeAsk_58 : decode cX7_judgeAsk 58 = .ok (.iconst 0, 1) := by decide +kernel
theorem dX7_judgeAsk_59 : decode cX7_judgeAsk 59 = .ok (.ireturn, 1) := by decide +kernel
theorem dX7_judgeGive_0 : decode cX7_judgeGive 0 = .ok (.aload_n 0, 1) := by decide +kernel
theorem dX7_judgeGive_1 : decode cX7_judgeGive 1 = .ok (.getfield 12, 3) := by decide +kernel
theorem dX7_judgeGive_4 : decode cX7_judgeGive 4 = .ok (.getfield 126, 3) := by decide +kernel
theorem dX7_judgeGive_7 : decode cX7_judgeGive 7 = .ok (.iload_n 1, 1) := by decide +kernel
theorem dX7_judgeGive_8 : decode cX7_judgeGive 8 = .ok (.invokevirtual 130, 3) := by decide +kernel
theorem dX7_judgeGive_11 : decode cX7_judgeGive 11 = .ok (.ifCond .eq 7, 3) := by decide +kernel
theorem dX7_judgeGive_14 : decode cX7_judgeGive 14 = .ok (.iconst 0, 1) := by decide +kernel
theorem dX7_judgeGive_15 : decode cX7_judgeGive 15 = .ok (.goto 4, 3) := by decide +kernel
theorem dX7_judgeGive_18 : decode cX7_judgeGive 18 = .ok (.iconst 1, 1) := by decide +kernel
theorem dX7_judgeGive_19 : decode cX7_judgeGive 19 = .ok (.ireturn, 1) := by decide +kernel
theorem dX7_judgeGiveAll_0 : decode cX7_judgeGiveAll 0 = .ok (.iload_n 1, 1) := by decide +kernel
theorem dX7_judgeGiveAll_1 : decode cX7_judgeGiveAll 1 = .ok (.invokestatic 152, 3) := by decide +kernel
theorem dX7_judgeGiveAll_4 : decode cX7_judgeGiveAll 4 = .ok (.ifCond .ne 5, 3) := by decide +kernel
theorem dX7_judgeGiveAll_7 : decode cX7_judgeGiveAll 7 = .ok (.iconst 2, 1) := by decide +kernel
theorem dX7_judgeGiveAll_8 : decode cX7_judgeGiveAll 8 = .ok (.ireturn, 1) := by decide +kernel
theorem dX7_judgeGiveAll_9 : decode cX7_judgeGiveAll 9 = .ok (.aload_n 0, 1) := by decide +kernel
theorem dX7_judgeGiveAll_10 : decode cX7_judgeGiveAll 10 = .ok (.getfield 12, 3) := by decide +kernel
theorem dX7_judgeGiveAll_13 : decode cX7_judgeGiveAll 13 = .ok (.getfield 126, 3) := by decide +kernel
theorem dX7_judgeGiveAll_16 : decode cX7_judgeGiveAll 16 = .ok (.iload_n 1, 1) := by decide +kernel
theorem dX7_judgeGiveAll_17 : decode cX7_judgeGiveAll 17 = .ok (.invokevirtual 157, 3) := by decide +kernel
theorem dX7_judgeGiveAll_20 : decode cX7_judgeGiveAll 20 = .ok (.ifCond .ne 22, 3) := by decide +kernel
theorem dX7_judgeGiveAll_23 : decode cX7_judgeGiveAll 23 = .ok (.aload_n 0, 1) := by decide +kernel
theorem dX7_judgeGiveAll_24 : decode cX7_judgeGiveAll 24 = .ok (.iconst 4, 1) := by decide +kernel
theorem dX7_judgeGiveAll_25 : decode cX7_judgeGiveAll 25 = .ok (.aload_n 0, 1) := by decide +kernel
theorem dX7_judgeGiveAll_26 : decode cX7_judgeGiveAll 26 = .ok (.getfield 12, 3) := by decide +kernel
theorem dX7_judgeGiveAll_29 : decode cX7_judgeGiveAll 29 = .ok (.getfield 103, 3) := by decide +kernel
theorem dX7_judgeGiveAll_32 : decode cX7_judgeGiveAll 32 = .ok (.iload_n 1, 1) := by decide +kernel
theorem dX7_judgeGiveAll_33 : decode cX7_judgeGiveAll 33 = .ok (.invokevirtual 166, 3) := by decide +kernel
theorem dX7_judgeGiveAll_36 : decode cX7_judgeGiveAll 36 = .ok (.invokevirtual 364, 3) := by decide +kernel
theorem dX7_judgeGiveAll_39 : decode cX7_judgeGiveAll 39 = .ok (.goto 4, 3) := by decide +kernel
theorem dX7_judgeGiveAll_42 : decode cX7_judgeGiveAll 42 = .ok (.iconst 0, 1) := by decide +kernel
theorem dX7_judgeGiveAll_43 : decode cX7_judgeGiveAll 43 = .ok (.ireturn, 1) := by decide +kernel
theorem dX7_judgeResize_0 : decode cX7_judgeResize 0 = .ok (.aload_n 0, 1) := by decide +kernel
theorem dX7_judgeResize_1 : decode cX7_judgeResize 1 = .ok (.getfield 12, 3) := by decide +kernel
theorem dX7_judgeResize_4 : decode cX7_judgeResize 4 = .ok (.getfield 126, 3) := by decide +kernel
theorem dX7_judgeResize_7 : decode cX7_judgeResize 7 = .ok (.iload_n 1, 1) := by decide +kernel
theorem dX7_judgeResize_8 : decode cX7_judgeResize 8 = .ok (.invokevirtual 130, 3) := by decide +kernel
theorem dX7_judgeResize_11 : decode cX7_judgeResize 11 = .ok (.ifCond .ne 5, 3) := by decide +kernel
theorem dX7_judgeResize_14 : decode cX7_judgeResize 14 = .ok (.iconst 1, 1) := by decide +kernel
theorem dX7_judgeResize_15 : decode cX7_judgeResize 15 = .ok (.ireturn, 1) := by decide +kernel
theorem dX7_judgeResize_16 : decode cX7_judgeResize 16 = .ok (.iload_n 2, 1) := by decide +kernel
theorem dX7_judgeResize_17 : decode cX7_judgeResize 17 = .ok (.invokestatic 361, 3) := by decide +kernel
theorem dX7_judgeResize_20 : decode cX7_judgeResize 20 = .ok (.ifCond .ne 5, 3) := by decide +kernel
theorem dX7_judgeResize_23 : decode cX7_judgeResize 23 = .ok (.iconst 2, 1) := by decide +kernel
theorem dX7_judgeResize_24 : decode cX7_judgeResize 24 = .ok (.ireturn, 1) := by decide +kernel
theorem dX7_judgeResize_25 : decode cX7_judgeResize 25 = .ok (.aload_n 0, 1) := by decide +kernel
theorem dX7_judgeResize_26 : decode cX7_judgeResize 26 = .ok (.getfield 12, 3) := by decide +kernel
theorem dX7_judgeResize_29 : decode cX7_judgeResize 29 = .ok (.getfield 126, 3) := by decide +kernel
theorem dX7_judgeResize_32 : decode cX7_judgeResize 32 = .ok (.iload_n 1, 1) := by decide +kernel
theorem dX7_judgeResize_33 : decode cX7_judgeResize 33 = .ok (.invokevirtual 138, 3) := by decide +kernel
theorem dX7_judgeResize_36 : decode cX7_judgeResize 36 = .ok (.iload_n 2, 1) := by decide +kernel
theorem dX7_judgeResize_37 : decode cX7_judgeResize 37 = .ok (.if_icmp .ne 10, 3) := by decide +kernel
theorem dX7_judgeResize_40 : decode cX7_judgeResize 40 = .ok (.aload_n 0, 1) := by decide +kernel
theorem dX7_judgeResize_41 : decode cX7_judgeResize 41 = .ok (.iconst 5, 1) := by decide +kernel
theorem dX7_judgeResize_42 : decode cX7_judgeResize 42 = .ok (.iload_n 2, 1) := by decide +kernel
theorem dX7_judgeResize_43 : decode cX7_judgeResize 43 = .ok (.invokevirtual 364, 3) := by decide +kernel
theorem dX7_judgeResize_46 : decode cX7_judgeResize 46 = .ok (.ireturn, 1) := by decide +kernel
theorem dX7_judgeResize_47 : decode cX7_judgeResize 47 = .ok (.aload_n 0, 1) := by decide +kernel
theorem dX7_judgeResize_48 : decode cX7_judgeResize 48 = .ok (.getfield 12, 3) := by decide +kernel
theorem dX7_judgeResize_51 : decode cX7_judgeResize 51 = .ok (.iload_n 1, 1) := by decide +kernel
theorem dX7_judgeResize_52 : decode cX7_judgeResize 52 = .ok (.invokevirtual 373, 3) := by decide +kernel
theorem dX7_judgeResize_55 : decode cX7_judgeResize 55 = .ok (.istore_n 3, 1) := by decide +kernel
theorem dX7_judgeResize_56 : decode cX7_judgeResize 56 = .ok (.iload_n 3, 1) := by decide +kernel
theorem dX7_judgeResize_57 : decode cX7_judgeResize 57 = .ok (.iload_n 2, 1) := by decide +kernel
theorem dX7_judgeResize_58 : decode cX7_judgeResize 58 = .ok (.invokestatic 367, 3) := by decide +kernel
theorem dX7_judgeResize_61 : decode cX7_judgeResize 61 = .ok (.if_icmp .ge 12, 3) := by decide +kernel
theorem dX7_judgeResize_64 : decode cX7_judgeResize 64 = .ok (.aload_n 0, 1) := by decide +kernel
theorem dX7_judgeResize_65 : decode cX7_judgeResize 65 = .ok (.iconst 2, 1) := by decide +kernel
theorem dX7_judgeResize_66 : decode cX7_judgeResize 66 = .ok (.iload_n 3, 1) := by decide +kernel
theorem dX7_judgeResize_67 : decode cX7_judgeResize 67 = .ok (.invokevirtual 364, 3) := by decide +kernel
theorem dX7_judgeResize_70 : decode cX7_judgeResize 70 = .ok (.goto 4, 3) := by decide +kernel
theorem dX7_judgeResize_73 : decode cX7_judgeResize 73 = .ok (.iconst 0, 1) := by decide +kernel
theorem dX7_judgeResize_74 : decode cX7_judgeResize 74 = .ok (.ireturn, 1) := by decide +kernel
theorem dX7_judgeWay_0 : decode cX7_judgeWay 0 = .ok (.iload_n 1, 1) := by decide +kernel
theorem dX7_judgeWay_1 : decode cX7_judgeWay 1 = .ok (.ifCond .lt 8, 3) := by decide +kernel
theorem dX7_judgeWay_4 : decode cX7_judgeWay 4 = .ok (.iload_n 1, 1) := by decide +kernel
theorem dX7_judgeWay_5 : decode cX7_judgeWay 5 = .ok (.iconst 2, 1) := by decide +kernel
theorem dX7_judgeWay_6 : decode cX7_judgeWay 6 = .ok (.if_icmp .le 5, 3) := by decide +kernel
theorem dX7_judgeWay_9 : decode cX7_judgeWay 9 = .ok (.iconst 2, 1) := by decide +kernel
theorem dX7_judgeWay_10 : decode cX7_judgeWay 10 = .ok (.ireturn, 1) := by decide +kernel
theorem dX7_judgeWay_11 : decode cX7_judgeWay 11 = .ok (.aload_n 0, 1) := by decide +kernel
theorem dX7_judgeWay_12 : decode cX7_judgeWay 12 = .ok (.getfield 12, 3) := by decide +kernel
theorem dX7_judgeWay_15 : decode cX7_judgeWay 15 = .ok (.getfield 203, 3) := by decide +kernel
theorem dX7_judgeWay_18 : decode cX7_judgeWay 18 = .ok (.getfield 327, 3) := by decide +kernel
theorem dX7_judgeWay_21 : decode cX7_judgeWay 21 = .ok (.iload_n 1, 1) := by decide +kernel
theorem dX7_judgeWay_22 : decode cX7_judgeWay 22 = .ok (.if_icmp .ne 12, 3) := by decide +kernel
theorem dX7_judgeWay_25 : decode cX7_judgeWay 25 = .ok (.aload_n 0, 1) := by decide +kernel
theorem dX7_judgeWay_26 : decode cX7_judgeWay 26 = .ok (.iconst 5, 1) := by decide +kernel
theorem dX7_judgeWay_27 : decode cX7_judgeWay 27 = .ok (.iload_n 1, 1) := by decide +kernel
theorem dX7_judgeWay_28 : decode cX7_judgeWay 28 = .ok (.invokevirtual 364, 3) := by decide +kernel
theorem dX7_judgeWay_31 : decode cX7_judgeWay 31 = .ok (.goto 4, 3) := by decide +kernel
theorem dX7_judgeWay_34 : decode cX7_judgeWay 34 = .ok (.iconst 0, 1) := by decide +kernel
theorem dX7_judgeWay_35 : decode cX7_judgeWay 35 = .ok (.ireturn, 1) := by decide +kernel
theorem dX7_refuse_0 : decode cX7_refuse 0 = .ok (.aload_n 0, 1) := by decide +kernel
theorem dX7_refuse_1 : decode cX7_refuse 1 = .ok (.iload_n 1, 1) := by decide +kernel
theorem dX7_refuse_2 : decode cX7_refuse 2 = .ok (.putfield 51, 3) := by decide +kernel
theorem dX7_refuse_5 : decode cX7_refuse 5 = .ok (.aload_n 0, 1) := by decide +kernel
theorem dX7_refuse_6 : decode cX7_refuse 6 = .ok (.iload_n 2, 1) := by decide +kernel
theorem dX7_refuse_7 : decode cX7_refuse 7 = .ok (.putfield 54, 3) := by decide +kernel
theorem dX7_refuse_10 : decode cX7_refuse 10 = .ok (.iconst 3, 1) := by decide +kernel
theorem dX7_refuse_11 : decode cX7_refuse 11 = .ok (.ireturn, 1) := by decide +kernel
theorem dX7_insist_0 : decode cX7_insist 0 = .ok (.iload_n 0, 1) := by decide +kernel
theorem dX7_insist_1 : decode cX7_insist 1 = .ok (.iconst 1, 1) := by decide +kernel
theorem dX7_insist_2 : decode cX7_insist 2 = .ok (.if_icmp .ne 13, 3) := by decide +kernel
theorem dX7_insist_5 : decode cX7_insist 5 = .ok (.new 113, 3) := by decide +kernel
theorem dX7_insist_8 : decode cX7_insist 8 = .ok (.dup, 1) := by decide +kernel
theorem dX7_insist_9 : decode cX7_insist 9 = .ok (.ldc 133, 2) := by decide +kernel
theorem dX7_insist_11 : decode cX7_insist 11 = .ok (.invokespecial 117, 3) := by decide +kernel
theorem dX7_insist_14 : decode cX7_insist 14 = .ok (.athrow, 1) := by decide +kernel
theorem dX7_insist_15 : decode cX7_insist 15 = .ok (.iload_n 0, 1) := by decide +kernel
theorem dX7_insist_16 : decode cX7_insist 16 = .ok (.iconst 2, 1) := by decide +kernel
theorem dX7_insist_17 : decode cX7_insist 17 = .ok (.if_icmp .ne 14, 3) := by decide +kernel
theorem dX7_insist_20 : decode cX7_insist 20 = .ok (.new 147, 3) := by decide +kernel
theorem dX7_insist_23 : decode cX7_insist 23 = .ok (.dup, 1) := by decide +kernel
theorem dX7_insist_24 : decode cX7_insist 24 = .ok (.ldc_w 376, 3) := by decide +kernel
theorem dX7_insist_27 : decode cX7_insist 27 = .ok (.invokespecial 151, 3) := by decide +kernel
theorem dX7_insist_30 : decode cX7_insist 30 = .ok (.athrow, 1) := by decide +kernel
theorem dX7_insist_31 : decode cX7_insist 31 = .ok (.iload_n 0, 1) := by decide +kernel
theorem dX7_insist_32 : decode cX7_insist 32 = .ok (.iconst 3, 1) := by decide +kernel
theorem dX7_insist_33 : decode cX7_insist 33 = .ok (.if_icmp .ne 14, 3) := by decide +kernel
theorem dX7_insist_36 : decode cX7_insist 36 = .ok (.new 302, 3) := by decide +kernel
theorem dX7_insist_39 : decode cX7_insist 39 = .ok (.dup, 1) := by decide +kernel
theorem dX7_insist_40 : decode cX7_insist 40 = .ok (.ldc_w 378, 3) := by decide +kernel
theorem dX7_insist_43 : decode cX7_insist 43 = .ok (.invokespecial 306, 3) := by decide +kernel
theorem dX7_insist_46 : decode cX7_insist 46 = .ok (.athrow, 1) := by decide +kernel
theorem dX7_insist_47 : decode cX7_insist 47 = .ok (.return_, 1) := by decide +kernel
theorem dX7_insistOnNeed_0 : decode cX7_insistOnNeed 0 = .ok (.iload_n 0, 1) := by decide +kernel
theorem dX7_insistOnNeed_1 : decode cX7_insistOnNeed 1 = .ok (.invokestatic 361, 3) := by decide +kernel
theorem dX7_insistOnNeed_4 : decode cX7_insistOnNeed 4 = .ok (.ifCond .ne 14, 3) := by decide +kernel
theorem dX7_insistOnNeed_7 : decode cX7_insistOnNeed 7 = .ok (.new 147, 3) := by decide +kernel
theorem dX7_insistOnNeed_10 : decode cX7_insistOnNeed 10 = .ok (.dup, 1) := by decide +kernel
theorem dX7_insistOnNeed_11 : decode cX7_insistOnNeed 11 = .ok (.ldc_w 380, 3) := by decide +kernel
theorem dX7_insistOnNeed_14 : decode cX7_insistOnNeed 14 = .ok (.invokespecial 151, 3) := by decide +kernel
theorem dX7_insistOnNeed_17 : decode cX7_insistOnNeed 17 = .ok (.athrow, 1) := by decide +kernel
theorem dX7_insistOnNeed_18 : decode cX7_insistOnNeed 18 = .ok (.iload_n 0, 1) := by decide +kernel
theorem dX7_insistOnNeed_19 : decode cX7_insistOnNeed 19 = .ok (.invokestatic 367, 3) := by decide +kernel
theorem dX7_insistOnNeed_22 : decode cX7_insistOnNeed 22 = .ok (.ireturn, 1) := by decide +kernel
theorem dX7_insistOnPiece_0 : decode cX7_insistOnPiece 0 = .ok (.aload_n 0, 1) := by decide +kernel
theorem dX7_insistOnPiece_1 : decode cX7_insistOnPiece 1 = .ok (.getfield 12, 3) := by decide +kernel
theorem dX7_insistOnPiece_4 : decode cX7_insistOnPiece 4 = .ok (.getfield 203, 3) := by decide +kernel
theorem dX7_insistOnPiece_7 : decode cX7_insistOnPiece 7 = .ok (.iload_n 1, 1) := by decide +kernel
theorem dX7_insistOnPiece_8 : decode cX7_insistOnPiece 8 = .ok (.invokevirtual 382, 3) := by decide +kernel
theorem dX7_insistOnPiece_11 : decode cX7_insistOnPiece 11 = .ok (.istore_n 2, 1) := by decide +kernel
theorem dX7_insistOnPiece_12 : decode cX7_insistOnPiece 12 = .ok (.iload_n 2, 1) := by decide +kernel
theorem dX7_insistOnPiece_13 : decode cX7_insistOnPiece 13 = .ok (.ifCond .ge 14, 3) := by decide +kernel
theorem dX7_insistOnPiece_16 : decode cX7_insistOnPiece 16 = .ok (.new 169, 3) := by decide +kernel
theorem dX7_insistOnPiece_19 : decode cX7_insistOnPiece 19 = .ok (.dup, 1) := by decide +kernel
theorem dX7_insistOnPiece_20 : decode cX7_insistOnPiece 20 = .ok (.ldc_w 385, 3) := by decide +kernel
theorem dX7_insistOnPiece_23 : decode cX7_insistOnPiece 23 = .ok (.invokespecial 171, 3) := by decide +kernel
theorem dX7_insistOnPiece_26 : decode cX7_insistOnPiece 26 = .ok (.athrow, 1) := by decide +kernel
theorem dX7_insistOnPiece_27 : decode cX7_insistOnPiece 27 = .ok (.iload_n 2, 1) := by decide +kernel
theorem dX7_insistOnPiece_28 : decode cX7_insistOnPiece 28 = .ok (.ireturn, 1) := by decide +kernel
theorem dX7_judgeOrder_0 : decode cX7_judgeOrder 0 = .ok (.iload_n 1, 1) := by decide +kernel
theorem dX7_judgeOrder_1 : decode cX7_judgeOrder 1 = .ok (.tableswitch 122 103 119 #[97, 122, 122, 122, 122, 83, 122, 103, 122, 122, 90, 109, 122, 122, 122, 122, 116], 83) := by decide +kernel
theorem dX7_judgeOrder_84 : decode cX7_judgeOrder 84 = .ok (.aload_n 0, 1) := by decide +kernel
theorem dX7_judgeOrder_85 : decode cX7_judgeOrder 85 = .ok (.iload_n 2, 1) := by decide +kernel
theorem dX7_judgeOrder_86 : decode cX7_judgeOrder 86 = .ok (.iload_n 3, 1) := by decide +kernel
theorem dX7_judgeOrder_87 : decode cX7_judgeOrder 87 = .ok (.invokevirtual 57, 3) := by decide +kernel
theorem dX7_judgeOrder_90 : decode cX7_judgeOrder 90 = .ok (.ireturn, 1) := by decide +kernel
theorem dX7_judgeOrder_91 : decode cX7_judgeOrder 91 = .ok (.aload_n 0, 1) := by decide +kernel
theorem dX7_judgeOrder_92 : decode cX7_judgeOrder 92 = .ok (.iload_n 2, 1) := by decide +kernel
theorem dX7_judgeOrder_93 : decode cX7_judgeOrder 93 = .ok (.iload_n 3, 1) := by decide +kernel
theorem dX7_judgeOrder_94 : decode cX7_judgeOrder 94 = .ok (.invokevirtual 72, 3) := by decide +kernel
theorem dX7_judgeOrder_97 : decode cX7_judgeOrder 97 = .ok (.ireturn, 1) := by decide +kernel
theorem dX7_judgeOrder_98 : decode cX7_judgeOrder 98 = .ok (.aload_n 0, 1) := by decide +kernel
theorem dX7_judgeOrder_99 : decode cX7_judgeOrder 99 = .ok (.iload_n 2, 1) := by decide +kernel
theorem dX7_judgeOrder_100 : decode cX7_judgeOrder 100 = .ok (.invokevirtual 78, 3) := by decide +kernel
theorem dX7_judgeOrder_103 : decode cX7_judgeOrder 103 = .ok (.ireturn, 1) := by decide +kernel
theorem dX7_judgeOrder_104 : decode cX7_judgeOrder 104 = .ok (.aload_n 0, 1) := by decide +kernel
theorem dX7_judgeOrder_105 : decode cX7_judgeOrder 105 = .ok (.iload_n 2, 1) := by decide +kernel
theorem dX7_judgeOrder_106 : decode cX7_judgeOrder 106 = .ok (.invokevirtual 85, 3) := by decide +kernel
theorem dX7_judgeOrder_109 : decode cX7_judgeOrder 109 = .ok (.ireturn, 1) := by decide +kernel
theorem dX7_judgeOrder_110 : decode cX7_judgeOrder 110 = .ok (.aload_n 0, 1) := by decide +kernel
theorem dX7_judgeOrder_111 : decode cX7_judgeOrder 111 = .ok (.iload_n 2, 1) := by decide +kernel
theorem dX7_judgeOrder_112 : decode cX7_judgeOrder 112 = .ok (.iload_n 3, 1) := by decide +kernel
theorem dX7_judgeOrder_113 : decode cX7_judgeOrder 113 = .ok (.invokevirtual 91, 3) := by decide +kernel
theorem dX7_judgeOrder_116 : decode cX7_judgeOrder 116 = .ok (.ireturn, 1) := by decide +kernel
theorem dX7_judgeOrder_117 : decode cX7_judgeOrder 117 = .ok (.aload_n 0, 1) := by decide +kernel
theorem dX7_judgeOrder_118 : decode cX7_judgeOrder 118 = .ok (.iload_n 2, 1) := by decide +kernel
theorem dX7_judgeOrder_119 : decode cX7_judgeOrder 119 = .ok (.invokevirtual 97, 3) := by decide +kernel
theorem dX7_judgeOrder_122 : decode cX7_judgeOrder 122 = .ok (.ireturn, 1) := by decide +kernel
theorem dX7_judgeOrder_123 : decode cX7_judgeOrder 123 = .ok (.iconst 2, 1) := by decide +kernel
theorem dX7_judgeOrder_124 : decode cX7_judgeOrder 124 = .ok (.ireturn, 1) := by decide +kernel
theorem dX7_carryOut_0 : decode cX7_carryOut 0 = .ok (.iload_n 1, 1) := by decide +kernel
theorem dX7_carryOut_1 : decode cX7_carryOut 1 = .ok (.tableswitch 158 103 119 #[109, 158, 158, 158, 158, 83, 158, 121, 158, 158, 96, 133, 158, 158, 158, 158, 146], 83) := by decide +kernel
theorem dX7_carryOut_84 : decode cX7_carryOut 84 = .ok (.aload_n 0, 1) := by decide +kernel
theorem dX7_carryOut_85 : decode cX7_carryOut 85 = .ok (.getfield 12, 3) := by decide +kernel
theorem dX7_carryOut_88 : decode cX7_carryOut 88 = .ok (.iload_n 2, 1) := by decide +kernel
theorem dX7_carryOut_89 : decode cX7_carryOut 89 = .ok (.iload_n 3, 1) := by decide +kernel
theorem dX7_carryOut_90 : decode cX7_carryOut 90 = .ok (.invokevirtual 69, 3) := by decide +kernel
theorem dX7_carryOut_93 : decode cX7_carryOut 93 = .ok (.pop, 1) := by decide +kernel
theorem dX7_carryOut_94 : decode cX7_carryOut 94 = .ok (.goto 65, 3) := by decide +kernel
theorem dX7_carryOut_97 : decode cX7_carryOut 97 = .ok (.aload_n 0, 1) := by decide +kernel
theorem dX7_carryOut_98 : decode cX7_carryOut 98 = .ok (.getfield 12, 3) := by decide +kernel
theorem dX7_carryOut_101 : decode cX7_carryOut 101 = .ok (.iload_n 2, 1) := by decide +kernel
theorem dX7_carryOut_102 : decode cX7_carryOut 102 = .ok (.iload_n 3, 1) := by decide +kernel
theorem dX7_carryOut_103 : decode cX7_carryOut 103 = .ok (.invokevirtual 75, 3) := by decide +kernel
theorem dX7_carryOut_106 : decode cX7_carryOut 106 = .ok (.pop, 1) := by decide +kernel
theorem dX7_carryOut_107 : decode cX7_carryOut 107 = .ok (.goto 52, 3) := by decide +kernel
theorem dX7_carryOut_110 : decode cX7_carryOut 110 = .ok (.aload_n 0, 1) := by decide +kernel
theorem dX7_carryOut_111 : decode cX7_carryOut 111 = .ok (.getfield 12, 3) := by decide +kernel
theorem dX7_carryOut_114 : decode cX7_carryOut 114 = .ok (.iload_n 2, 1) := by decide +kernel
theorem dX7_carryOut_115 : decode cX7_carryOut 115 = .ok (.invokevirtual 82, 3) := by decide +kernel
theorem dX7_carryOut_118 : decode cX7_carryOut 118 = .ok (.pop, 1) := by decide +kernel
theorem dX7_carryOut_119 : decode cX7_carryOut 119 = .ok (.goto 40, 3) := by decide +kernel
theorem dX7_carryOut_122 : decode cX7_carryOut 122 = .ok (.aload_n 0, 1) := by decide +kernel
theorem dX7_carryOut_123 : decode cX7_carryOut 123 = .ok (.getfield 12, 3) := by decide +kernel
theorem dX7_carryOut_126 : decode cX7_carryOut 126 = .ok (.iload_n 2, 1) := by decide +kernel
theorem dX7_carryOut_127 : decode cX7_carryOut 127 = .ok (.invokevirtual 88, 3) := by decide +kernel
theorem dX7_carryOut_130 : decode cX7_carryOut 130 = .ok (.pop, 1) := by decide +kernel
theorem dX7_carryOut_131 : decode cX7_carryOut 131 = .ok (.goto 28, 3) := by decide +kernel
theorem dX7_carryOut_134 : decode cX7_carryOut 134 = .ok (.aload_n 0, 1) := by decide +kernel
theorem dX7_carryOut_135 : decode cX7_carryOut 135 = .ok (.getfield 12, 3) := by decide +kernel
theorem dX7_carryOut_138 : decode cX7_carryOut 138 = .ok (.iload_n 2, 1) := by decide +kernel
theorem dX7_carryOut_139 : decode cX7_carryOut 139 = .ok (.iload_n 3, 1) := by decide +kernel
theorem dX7_carryOut_140 : decode cX7_carryOut 140 = .ok (.invokevirtual 94, 3) := by decide +kernel
theorem dX7_carryOut_143 : decode cX7_carryOut 143 = .ok (.pop, 1) := by decide +kernel
theorem dX7_carryOut_144 : decode cX7_carryOut 144 = .ok (.goto 15, 3) := by decide +kernel
theorem dX7_carryOut_147 : decode cX7_carryOut 147 = .ok (.aload_n 0, 1) := by decide +kernel
theorem dX7_carryOut_148 : decode cX7_carryOut 148 = .ok (.getfield 12, 3) := by decide +kernel
theorem dX7_carryOut_151 : decode cX7_carryOut 151 = .ok (.iload_n 2, 1) := by decide +kernel
theorem dX7_carryOut_152 : decode cX7_carryOut 152 = .ok (.invokevirtual 100, 3) := by decide +kernel
theorem dX7_carryOut_155 : decode cX7_carryOut 155 = .ok (.pop, 1) := by decide +kernel
theorem dX7_carryOut_156 : decode cX7_carryOut 156 = .ok (.goto 3, 3) := by decide +kernel
theorem dX7_carryOut_159 : decode cX7_carryOut 159 = .ok (.return_, 1) := by decide +kernel
theorem dX7_isName_0 : decode cX7_isName 0 = .ok (.iload_n 0, 1) := by decide +kernel
theorem dX7_isName_1 : decode cX7_isName 1 = .ok (.ifCond .lt 13, 3) := by decide +kernel
theorem dX7_isName_4 : decode cX7_isName 4 = .ok (.iload_n 0, 1) := by decide +kernel
theorem dX7_isName_5 : decode cX7_isName 5 = .ok (.bipush 99, 2) := by decide +kernel
theorem dX7_isName_7 : decode cX7_isName 7 = .ok (.if_icmp .gt 7, 3) := by decide +kernel
theorem dX7_isName_10 : decode cX7_isName 10 = .ok (.iconst 1, 1) := by decide +kernel
theorem dX7_isName_11 : decode cX7_isName 11 = .ok (.goto 4, 3) := by decide +kernel
theorem dX7_isName_14 : decode cX7_isName 14 = .ok (.iconst 0, 1) := by decide +kernel
theorem dX7_isName_15 : decode cX7_isName 15 = .ok (.ireturn, 1) := by decide +kernel
theorem dX7_isAmount_0 : decode cX7_isAmount 0 = .ok (.iload_n 0, 1) := by decide +kernel
theorem dX7_isAmount_1 : decode cX7_isAmount 1 = .ok (.iconst 1, 1) := by decide +kernel
theorem dX7_isAmount_2 : decode cX7_isAmount 2 = .ok (.if_icmp .lt 13, 3) := by decide +kernel
theorem dX7_isAmount_5 : decode cX7_isAmount 5 = .ok (.iload_n 0, 1) := by decide +kernel
theorem dX7_isAmount_6 : decode cX7_isAmount 6 = .ok (.bipush 64, 2) := by decide +kernel
theorem dX7_isAmount_8 : decode cX7_isAmount 8 = .ok (.if_icmp .gt 7, 3) := by decide +kernel
theorem dX7_isAmount_11 : decode cX7_isAmount 11 = .ok (.iconst 1, 1) := by decide +kernel
theorem dX7_isAmount_12 : decode cX7_isAmount 12 = .ok (.goto 4, 3) := by decide +kernel
theorem dX7_isAmount_15 : decode cX7_isAmount 15 = .ok (.iconst 0, 1) := by decide +kernel
theorem dX7_isAmount_16 : decode cX7_isAmount 16 = .ok (.ireturn, 1) := by decide +kernel
theorem dX7_isUnit_0 : decode cX7_isUnit 0 = .ok (.iload_n 0, 1) := by decide +kernel
theorem dX7_isUnit_1 : decode cX7_isUnit 1 = .ok (.ifCond .lt 13, 3) := by decide +kernel
theorem dX7_isUnit_4 : decode cX7_isUnit 4 = .ok (.iload_n 0, 1) := by decide +kernel
theorem dX7_isUnit_5 : decode cX7_isUnit 5 = .ok (.bipush 64, 2) := by decide +kernel
theorem dX7_isUnit_7 : decode cX7_isUnit 7 = .ok (.if_icmp .ge 7, 3) := by decide +kernel
theorem dX7_isUnit_10 : decode cX7_isUnit 10 = .ok (.iconst 1, 1) := by decide +kernel
theorem dX7_isUnit_11 : decode cX7_isUnit 11 = .ok (.goto 4, 3) := by decide +kernel
theorem dX7_isUnit_14 : decode cX7_isUnit 14 = .ok (.iconst 0, 1) := by decide +kernel
theorem dX7_isUnit_15 : decode cX7_isUnit 15 = .ok (.ireturn, 1) := by decide +kernel
theorem dX7_isSize_0 : decode cX7_isSize 0 = .ok (.iload_n 0, 1) := by decide +kernel
theorem dX7_isSize_1 : decode cX7_isSize 1 = .ok (.iconst 1, 1) := by decide +kernel
theorem dX7_isSize_2 : decode cX7_isSize 2 = .ok (.if_icmp .lt 21, 3) := by decide +kernel
theorem dX7_isSize_5 : decode cX7_isSize 5 = .ok (.iload_n 0, 1) := by decide +kernel
theorem dX7_isSize_6 : decode cX7_isSize 6 = .ok (.bipush 64, 2) := by decide +kernel
theorem dX7_isSize_8 : decode cX7_isSize 8 = .ok (.if_icmp .gt 15, 3) := by decide +kernel
theorem dX7_isSize_11 : decode cX7_isSize 11 = .ok (.iload_n 0, 1) := by decide +kernel
theorem dX7_isSize_12 : decode cX7_isSize 12 = .ok (.iload_n 0, 1) := by decide +kernel
theorem dX7_isSize_13 : decode cX7_isSize 13 = .ok (.iconst 1, 1) := by decide +kernel
theorem dX7_isSize_14 : decode cX7_isSize 14 = .ok (.isub, 1) := by decide +kernel
theorem dX7_isSize_15 : decode cX7_isSize 15 = .ok (.iand, 1) := by decide +kernel
theorem dX7_isSize_16 : decode cX7_isSize 16 = .ok (.ifCond .ne 7, 3) := by decide +kernel
theorem dX7_isSize_19 : decode cX7_isSize 19 = .ok (.iconst 1, 1) := by decide +kernel
theorem dX7_isSize_20 : decode cX7_isSize 20 = .ok (.goto 4, 3) := by decide +kernel
theorem dX7_isSize_23 : decode cX7_isSize 23 = .ok (.iconst 0, 1) := by decide +kernel
theorem dX7_isSize_24 : decode cX7_isSize 24 = .ok (.ireturn, 1) := by decide +kernel
theorem dX7_needOf_0 : decode cX7_needOf 0 = .ok (.iconst 1, 1) := by decide +kernel
theorem dX7_needOf_1 : decode cX7_needOf 1 = .ok (.istore_n 1, 1) := by decide +kernel
theorem dX7_needOf_2 : decode cX7_needOf 2 = .ok (.iload_n 1, 1) := by decide +kernel
theorem dX7_needOf_3 : decode cX7_needOf 3 = .ok (.iload_n 0, 1) := by decide +kernel
theorem dX7_needOf_4 : decode cX7_needOf 4 = .ok (.if_icmp .ge 16, 3) := by decide +kernel
theorem dX7_needOf_7 : decode cX7_needOf 7 = .ok (.iload_n 1, 1) := by decide +kernel
theorem dX7_needOf_8 : decode cX7_needOf 8 = .ok (.bipush 64, 2) := by decide +kernel
theorem dX7_needOf_10 : decode cX7_needOf 10 = .ok (.if_icmp .ge 10, 3) := by decide +kernel
theorem dX7_needOf_13 : decode cX7_needOf 13 = .ok (.iload_n 1, 1) := by decide +kernel
theorem dX7_needOf_14 : decode cX7_needOf 14 = .ok (.iconst 2, 1) := by decide +kernel
theorem dX7_needOf_15 : decode cX7_needOf 15 = .ok (.imul, 1) := by decide +kernel
theorem dX7_needOf_16 : decode cX7_needOf 16 = .ok (.istore_n 1, 1) := by decide +kernel
theorem dX7_needOf_17 : decode cX7_needOf 17 = .ok (.goto (-15), 3) := by decide +kernel
theorem dX7_needOf_20 : decode cX7_needOf 20 = .ok (.iload_n 1, 1) := by decide +kernel
theorem dX7_needOf_21 : decode cX7_needOf 21 = .ok (.ireturn, 1) := by decide +kernel
theorem dX7_partOf_0 : decode cX7_partOf 0 = .ok (.iload_n 0, 1) := by decide +kernel
theorem dX7_partOf_1 : decode cX7_partOf 1 = .ok (.iload_n 1, 1) := by decide +kernel
theorem dX7_partOf_2 : decode cX7_partOf 2 = .ok (.ineg, 1) := by decide +kernel
theorem dX7_partOf_3 : decode cX7_partOf 3 = .ok (.iand, 1) := by decide +kernel
theorem dX7_partOf_4 : decode cX7_partOf 4 = .ok (.ireturn, 1) := by decide +kernel
theorem dX7_twinOf_0 : decode cX7_twinOf 0 = .ok (.iload_n 0, 1) := by decide +kernel
theorem dX7_twinOf_1 : decode cX7_twinOf 1 = .ok (.iload_n 1, 1) := by decide +kernel
theorem dX7_twinOf_2 : decode cX7_twinOf 2 = .ok (.invokestatic 387, 3) := by decide +kernel
theorem dX7_twinOf_5 : decode cX7_twinOf 5 = .ok (.iload_n 1, 1) := by decide +kernel
theorem dX7_twinOf_6 : decode cX7_twinOf 6 = .ok (.ixor, 1) := by decide +kernel
theorem dX7_twinOf_7 : decode cX7_twinOf 7 = .ok (.ireturn, 1) := by decide +kernel
theorem dX8_init_0 : decode cX8_init 0 = .ok (.aload_n 0, 1) := by decide +kernel
theorem dX8_init_1 : decode cX8_init 1 = .ok (.invokespecial 1, 3) := by decide +kernel
theorem dX8_init_4 : decode cX8_init 4 = .ok (.aload_n 0, 1) := by decide +kernel
theorem dX8_init_5 : decode cX8_init 5 = .ok (.sipush 129, 3) := by decide +kernel
theorem dX8_init_8 : decode cX8_init 8 = .ok (.newarray .int, 2) := by decide +kernel
theorem dX8_init_10 : decode cX8_init 10 = .ok (.putfield 7, 3) := by decide +kernel
theorem dX8_init_13 : decode cX8_init 13 = .ok (.aload_n 0, 1) := by decide +kernel
theorem dX8_init_14 : decode cX8_init 14 = .ok (.sipush 129, 3) := by decide +kernel
theorem dX8_init_17 : decode cX8_init 17 = .ok (.newarray .int, 2) := by decide +kernel
theorem dX8_init_19 : decode cX8_init 19 = .ok (.putfield 13, 3) := by decide +kernel
theorem dX8_init_22 : decode cX8_init 22 = .ok (.aload_n 0, 1) := by decide +kernel
theorem dX8_init_23 : decode cX8_init 23 = .ok (.sipush 1032, 3) := by decide +kernel
theorem dX8_init_26 : decode cX8_init 26 = .ok (.newarray .int, 2) := by decide +kernel
theorem dX8_init_28 : decode cX8_init 28 = .ok (.putfield 16, 3) := by decide +kernel
theorem dX8_init_31 : decode cX8_init 31 = .ok (.aload_n 0, 1) := by decide +kernel
theorem dX8_init_32 : decode cX8_init 32 = .ok (.sipush 129, 3) := by decide +kernel
theorem dX8_init_35 : decode cX8_init 35 = .ok (.newarray .int, 2) := by decide +kernel
theorem dX8_init_37 : decode cX8_init 37 = .ok (.putfield 19, 3) := by decide +kernel
theorem dX8_init_40 : decode cX8_init 40 = .ok (.aload_n 0, 1) := by decide +kernel
theorem dX8_init_41 : decode cX8_init 41 = .ok (.bipush 60, 2) := by decide +kernel
theorem dX8_init_43 : decode cX8_init 43 = .ok (.newarray .char, 2) := by decide +kernel
theorem dX8_init_45 : decode cX8_init 45 = .ok (.putfield 22, 3) := by decide +kernel
theorem dX8_init_48 : decode cX8_init 48 = .ok (.aload_n 0, 1) := by decide +kernel
theorem dX8_init_49 : decode cX8_init 49 = .ok (.iconst (-1), 1) := by decide +kernel
theorem dX8_init_50 : decode cX8_init 50 = .ok (.putfield 26, 3) := by decide +kernel
theorem dX8_init_53 : decode cX8_init 53 = .ok (.aload_n 0, 1) := by decide +kernel
theorem dX8_init_54 : decode cX8_init 54 = .ok (.sipush 400, 3) := by decide +kernel
theorem dX8_init_57 : decode cX8_init 57 = .ok (.newarray .char, 2) := by decide +kernel
theorem dX8_init_59 : decode cX8_init 59 = .ok (.putfield 30, 3) := by decide +kernel
theorem dX8_init_62 : decode cX8_init 62 = .ok (.aload_n 0, 1) := by decide +kernel
theorem dX8_init_63 : decode cX8_init 63 = .ok (.sipush 180, 3) := by decide +kernel
theorem dX8_init_66 : decode cX8_init 66 = .ok (.newarray .int, 2) := by decide +kernel
theorem dX8_init_68 : decode cX8_init 68 = .ok (.putfield 33, 3) := by decide +kernel
theorem dX8_init_71 : decode cX8_init 71 = .ok (.aload_n 0, 1) := by decide +kernel
theorem dX8_init_72 : decode cX8_init 72 = .ok (.getfield 7, 3) := by decide +kernel
theorem dX8_init_75 : decode cX8_init 75 = .ok (.iconst 0, 1) := by decide +kernel
theorem dX8_init_76 : decode cX8_init 76 = .ok (.bipush 64, 2) := by decide +kernel
theorem dX8_init_78 : decode cX8_init 78 = .ok (.iastore, 1) := by decide +kernel
theorem dX8_init_79 : decode cX8_init 79 = .ok (.return_, 1) := by decide +kernel
theorem dX8_thrown_0 : decode cX8_thrown 0 = .ok (.aload_n 0, 1) := by decide +kernel
theorem dX8_thrown_1 : decode cX8_thrown 1 = .ok (.getfield 36, 3) := by decide +kernel
theorem dX8_thrown_4 : decode cX8_thrown 4 = .ok (.ireturn, 1) := by decide +kernel
theorem dX8_in_0 : decode cX8_in 0 = .ok (.iload_n 0, 1) := by decide +kernel
theorem dX8_in_1 : decode cX8_in 1 = .ok (.iload_n 1, 1) := by decide +kernel
theorem dX8_in_2 : decode cX8_in 2 = .ok (.if_icmp .lt 12, 3) := by decide +kernel
theorem dX8_in_5 : decode cX8_in 5 = .ok (.iload_n 0, 1) := by decide +kernel
theorem dX8_in_6 : decode cX8_in 6 = .ok (.iload_n 2, 1) := by decide +kernel
theorem dX8_in_7 : decode cX8_in 7 = .ok (.if_icmp .gt 7, 3) := by decide +kernel
theorem dX8_in_10 : decode cX8_in 10 = .ok (.iconst 1, 1) := by decide +kernel
theorem dX8_in_11 : decode cX8_in 11 = .ok (.goto 4, 3) := by decide +kernel
theorem dX8_in_14 : decode cX8_in 14 = .ok (.iconst 0, 1) := by decide +kernel
theorem dX8_in_15 : decode cX8_in 15 = .ok (.ireturn, 1) := by decide +kernel
theorem dX8_done_0 : decode cX8_done 0 = .ok (.aload_n 0, 1) := by decide +kernel
theorem dX8_done_1 : decode cX8_done 1 = .ok (.iconst 0, 1) := by decide +kernel
theorem dX8_done_2 : decode cX8_done 2 = .ok (.putfield 36, 3) := by decide +kernel
theorem dX8_done_5 : decode cX8_done 5 = .ok (.iload_n 1, 1) := by decide +kernel
theorem dX8_done_6 : decode cX8_done 6 = .ok (.ireturn, 1) := by decide +kernel
theorem dX8_fails_0 : decode cX8_fails 0 = .ok (.aload_n 0, 1) := by decide +kernel
theorem dX8_fails_1 : decode cX8_fails 1 = .ok (.iload_n 1, 1) := by decide +kernel
theorem dX8_fails_2 : decode cX8_fails 2 = .ok (.putfield 36, 3) := by decide +kernel
theorem dX8_fails_5 : decode cX8_fails 5 = .ok (.aload_n 0, 1) := by decide +kernel
theorem dX8_fails_6 : decode cX8_fails 6 = .ok (.iconst 0, 1) := by decide +kernel
theorem dX8_fails_7 : decode cX8_fails 7 = .ok (.putfield 39, 3) := by decide +kernel
theorem dX8_fails_10 : decode cX8_fails 10 = .ok (.iconst 0, 1) := by decide +kernel
theorem dX8_fails_11 : decode cX8_fails 11 = .ok (.ireturn, 1) := by decide +kernel
theorem dX8_refused_0 : decode cX8_refused 0 = .ok (.aload_n 0, 1) := by decide +kernel
theorem dX8_refused_1 : decode cX8_refused 1 = .ok (.iload_n 1, 1) := by decide +kernel
theorem dX8_refused_2 : decode cX8_refused 2 = .ok (.putfield 43, 3) := by decide +kernel
theorem dX8_refused_5 : decode cX8_refused 5 = .ok (.aload_n 0, 1) := by decide +kernel
theorem dX8_refused_6 : decode cX8_refused 6 = .ok (.iload_n 2, 1) := by decide +kernel
theorem dX8_refused_7 : decode cX8_refused 7 = .ok (.putfield 46, 3) := by decide +kernel
theorem dX8_refused_10 : decode cX8_refused 10 = .ok (.aload_n 0, 1) := by decide +kernel
theorem dX8_refused_11 : decode cX8_refused 11 = .ok (.iload_n 3, 1) := by decide +kernel
theorem dX8_refused_12 : decode cX8_refused 12 = .ok (.putfield 36, 3) := by decide +kernel
theorem dX8_refused_15 : decode cX8_refused 15 = .ok (.aload_n 0, 1) := by decide +kernel
theorem dX8_refused_16 : decode cX8_refused 16 = .ok (.iconst 1, 1) := by decide +kernel
theorem dX8_refused_17 : decode cX8_refused 17 = .ok (.putfield 39, 3) := by decide +kernel
theorem dX8_refused_20 : decode cX8_refused 20 = .ok (.iconst 0, 1) := by decide +kernel
theorem dX8_refused_21 : decode cX8_refused 21 = .ok (.ireturn, 1) := by decide +kernel
theorem dX8_copy_0 : decode cX8_copy 0 = .ok (.iconst 0, 1) := by decide +kernel
theorem dX8_copy_1 : decode cX8_copy 1 = .ok (.istore 4, 2) := by decide +kernel
theorem dX8_copy_3 : decode cX8_copy 3 = .ok (.iload 4, 2) := by decide +kernel
theorem dX8_copy_5 : decode cX8_copy 5 = .ok (.sipush 129, 3) := by decide +kernel
theorem dX8_copy_8 : decode cX8_copy 8 = .ok (.if_icmp .ge 21, 3) := by decide +kernel
theorem dX8_copy_11 : decode cX8_copy 11 = .ok (.aload_n 2, 1) := by decide +kernel
theorem dX8_copy_12 : decode cX8_copy 12 = .ok (.iload_n 3, 1) := by decide +kernel
theorem dX8_copy_13 : decode cX8_copy 13 = .ok (.iload 4, 2) := by decide +kernel
theorem dX8_copy_15 : decode cX8_copy 15 = .ok (.iadd, 1) := by decide +kernel
theorem dX8_copy_16 : decode cX8_copy 16 = .ok (.aload_n 0, 1) := by decide +kernel
theorem dX8_copy_17 : decode cX8_copy 17 = .ok (.iload_n 1, 1) := by decide +kernel
theorem dX8_copy_18 : decode cX8_copy 18 = .ok (.iload 4, 2) := by decide +kernel
theorem dX8_copy_20 : decode cX8_copy 20 = .ok (.iadd, 1) := by decide +kernel
theorem dX8_copy_21 : decode cX8_copy 21 = .ok (.iaload, 1) := by decide +kernel
theorem dX8_copy_22 : decode cX8_copy 22 = .ok (.iastore, 1) := by decide +kernel
theorem dX8_copy_23 : decode cX8_copy 23 = .ok (.iinc 4 1, 3) := by decide +kernel
theorem dX8_copy_26 : decode cX8_copy 26 = .ok (.goto (-23), 3) := by decide +kernel
theorem dX8_copy_29 : decode cX8_copy 29 = .ok (.return_, 1) := by decide +kernel
theorem dX8_looksBack_0 : decode cX8_looksBack 0 = .ok (.aload_n 0, 1) := by decide +kernel
theorem dX8_looksBack_1 : decode cX8_looksBack 1 = .ok (.getfield 7, 3) := by decide +kernel
theorem dX8_looksBack_4 : decode cX8_looksBack 4 = .ok (.iconst 0, 1) := by decide +kernel
theorem dX8_looksBack_5 : decode cX8_looksBack 5 = .ok (.aload_n 0, 1) := by decide +kernel
theorem dX8_looksBack_6 : decode cX8_looksBack 6 = .ok (.getfield 13, 3) := by decide +kernel
theorem dX8_looksBack_9 : decode cX8_looksBack 9 = .ok (.iconst 0, 1) := by decide +kernel
theorem dX8_looksBack_10 : decode cX8_looksBack 10 = .ok (.invokestatic 49, 3) := by decide +kernel
theorem dX8_looksBack_13 : decode cX8_looksBack 13 = .ok (.return_, 1) := by decide +kernel
theorem dX8_kept_0 : decode cX8_kept 0 = .ok (.aload_n 0, 1) := by decide +kernel
theorem dX8_kept_1 : decode cX8_kept 1 = .ok (.getfield 36, 3) := by decide +kernel
theorem dX8_kept_4 : decode cX8_kept 4 = .ok (.ifCond .eq 18, 3) := by decide +kernel
theorem dX8_kept_7 : decode cX8_kept 7 = .ok (.aload_n 0, 1) := by decide +kernel
theorem dX8_kept_8 : decode cX8_kept 8 = .ok (.getfield 13, 3) := by decide +kernel
theorem dX8_kept_11 : decode cX8_kept 11 = .ok (.iconst 0, 1) := by decide +kernel
theorem dX8_kept_12 : decode cX8_kept 12 = .ok (.aload_n 0, 1) := by decide +kernel
theorem dX8_kept_13 : decode cX8_kept 13 = .ok (.getfield 7, 3) := by decide +kernel
theorem dX8_kept_16 : decode cX8_kept 16 = .ok (.iconst 0, 1) := by decide +kernel
theorem dX8_kept_17 : decode cX8_kept 17 = .ok (.invokestatic 49, 3) := by decide +kernel
theorem dX8_kept_20 : decode cX8_kept 20 = .ok (.iconst 0, 1) := by decide +kernel
theorem dX8_kept_21 : decode cX8_kept 21 = .ok (.ireturn, 1) := by decide +kernel
theorem dX8_kept_22 : decode cX8_kept 22 = .ok (.aload_n 0, 1) := by decide +kernel
theorem dX8_kept_23 : decode cX8_kept 23 = .ok (.getfield 53, 3) := by decide +kernel
theorem dX8_kept_26 : decode cX8_kept 26 = .ok (.bipush 8, 2) := by decide +kernel
theorem dX8_kept_28 : decode cX8_kept 28 = .ok (.if_icmp .ne 44, 3) := by decide +kernel
theorem dX8_kept_31 : decode cX8_kept 31 = .ok (.iconst 0, 1) := by decide +kernel
theorem dX8_kept_32 : decode cX8_kept 32 = .ok (.istore_n 2, 1) := by decide +kernel
theorem dX8_kept_33 : decode cX8_kept 33 = .ok (.iload_n 2, 1) := by decide +kernel
theorem dX8_kept_34 : decode cX8_kept 34 = .ok (.sipush 903, 3) := by decide +kernel
theorem dX8_kept_37 : decode cX8_kept 37 = .ok (.if_icmp .ge 25, 3) := by decide +kernel
theorem dX8_kept_40 : decode cX8_kept 40 = .ok (.aload_n 0, 1) := by decide +kernel
theorem dX8_kept_41 : decode cX8_kept 41 = .ok (.getfield 16, 3) := by decide +kernel
theorem dX8_kept_44 : decode cX8_kept 44 = .ok (.iload_n 2, 1) := by decide +kernel
theorem dX8_kept_45 : decode cX8_kept 45 = .ok (.aload_n 0, 1) := by decide +kernel
theorem dX8_kept_46 : decode cX8_kept 46 = .ok (.getfield 16, 3) := by decide +kernel
theorem dX8_kept_49 : decode cX8_kept 49 = .ok (.iload_n 2, 1) := by decide +kernel
theorem dX8_kept_50 : decode cX8_kept 50 = .ok (.sipush 129, 3) := by decide +kernel
theorem dX8_kept_53 : decode cX8_kept 53 = .ok (.iadd, 1) := by decide +kernel
theorem dX8_kept_54 : decode cX8_kept 54 = .ok (.iaload, 1) := by decide +kernel
theorem dX8_kept_55 : decode cX8_kept 55 = .ok (.iastore, 1) := by decide +kernel
theorem dX8_kept_56 : decode cX8_kept 56 = .ok (.iinc 2 1, 3) := by decide +kernel
theorem dX8_kept_59 : decode cX8_kept 59 = .ok (.goto (-26), 3) := by decide +kernel
theorem dX8_kept_62 : decode cX8_kept 62 = .ok (.aload_n 0, 1) := by decide +kernel
theorem dX8_kept_63 : decode cX8_kept 63 = .ok (.dup, 1) := by decide +kernel
theorem dX8_kept_64 : decode cX8_kept 64 = .ok (.getfield 53, 3) := by decide +kernel
theorem dX8_kept_67 : decode cX8_kept 67 = .ok (.iconst 1, 1) := by decide +kernel
theorem dX8_kept_68 : decode cX8_kept 68 = .ok (.isub, 1) := by decide +kernel
theorem dX8_kept_69 : decode cX8_kept 69 = .ok (.putfield 53, 3) := by decide +kernel
theorem dX8_kept_72 : decode cX8_kept 72 = .ok (.aload_n 0, 1) := by decide +kernel
theorem dX8_kept_73 : decode cX8_kept 73 = .ok (.getfield 13, 3) := by decide +kernel
theorem dX8_kept_76 : decode cX8_kept 76 = .ok (.iconst 0, 1) := by decide +kernel
theorem dX8_kept_77 : decode cX8_kept 77 = .ok (.aload_n 0, 1) := by decide +kernel
theorem dX8_kept_78 : decode cX8_kept 78 = .ok (.getfield 16, 3) := by decide +kernel
theorem dX8_kept_81 : decode cX8_kept 81 = .ok (.aload_n 0, 1) := by decide +kernel
theorem dX8_kept_82 : decode cX8_kept 82 = .ok (.getfield 53, 3) := by decide +kernel
theorem dX8_kept_85 : decode cX8_kept 85 = .ok (.sipush 129, 3) := by decide +kernel
theorem dX8_kept_88 : decode cX8_kept 88 = .ok (.imul, 1) := by decide +kernel
theorem dX8_kept_89 : decode cX8_kept 89 = .ok (.invokestatic 49, 3) := by decide +kernel
theorem dX8_kept_92 : decode cX8_kept 92 = .ok (.aload_n 0, 1) := by decide +kernel
theorem dX8_kept_93 : decode cX8_kept 93 = .ok (.dup, 1) := by decide +kernel
theorem dX8_kept_94 : decode cX8_kept 94 = .ok (.getfield 53, 3) := by decide +kernel
theorem dX8_kept_97 : decode cX8_kept 97 = .ok (.iconst 1, 1) := by decide +kernel
theorem dX8_kept_98 : decode cX8_kept 98 = .ok (.iadd, 1) := by decide +kernel
theorem dX8_kept_99 : decode cX8_kept 99 = .ok (.putfield 53, 3) := by decide +kernel
theorem dX8_kept_102 : decode cX8_kept 102 = .ok (.iload_n 1, 1) := by decide +kernel
theorem dX8_kept_103 : decode cX8_kept 103 = .ok (.ireturn, 1) := by decide +kernel
theorem dX8_isName_0 : decode cX8_isName 0 = .ok (.iload_n 0, 1) := by decide +kernel
theorem dX8_isName_1 : decode cX8_isName 1 = .ok (.iconst 0, 1) := by decide +kernel
theorem dX8_isName_2 : decode cX8_isName 2 = .ok (.bipush 99, 2) := by decide +kernel
theorem dX8_isName_4 : decode cX8_isName 4 = .ok (.invokestatic 56, 3) := by decide +kernel
theorem dX8_isName_7 : decode cX8_isName 7 = .ok (.ireturn, 1) := by decide +kernel
theorem dX8_isAmount_0 : decode cX8_isAmount 0 = .ok (.iload_n 0, 1) := by decide +kernel
theorem dX8_isAmount_1 : decode cX8_isAmount 1 = .ok (.iconst 1, 1) := by decide +kernel
theorem dX8_isAmount_2 : decode cX8_isAmount 2 = .ok (.bipush 64, 2) := by decide +kernel
theorem dX8_isAmount_4 : decode cX8_isAmount 4 = .ok (.invokestatic 56, 3) := by decide +kernel
theorem dX8_isAmount_7 : decode cX8_isAmount 7 = .ok (.ireturn, 1) := by decide +kernel
theorem dX8_isLoan_0 : decode cX8_isLoan 0 = .ok (.iload_n 1, 1) := by decide +kernel
theorem dX8_isLoan_1 : decode cX8_isLoan 1 = .ok (.iconst 0, 1) := by decide +kernel
theorem dX8_isLoan_2 : decode cX8_isLoan 2 = .ok (.aload_n 0, 1) := by decide +kernel
theorem dX8_isLoan_3 : decode cX8_isLoan 3 = .ok (.getfield 7, 3) := by decide +kernel
theorem dX8_isLoan_6 : decode cX8_isLoan 6 = .ok (.bipush 64, 2) := by decide +kernel
theorem dX8_isLoan_8 : decode cX8_isLoan 8 = .ok (.iaload, 1) := by decide +kernel
theorem dX8_isLoan_9 : decode cX8_isLoan 9 = .ok (.iconst 1, 1) := by decide +kernel
theorem dX8_isLoan_10 : decode cX8_isLoan 10 = .ok (.isub, 1) := by decide +kernel
theorem dX8_isLoan_11 : decode cX8_isLoan 11 = .ok (.invokestatic 56, 3) := by decide +kernel
theorem dX8_isLoan_14 : decode cX8_isLoan 14 = .ok (.ireturn, 1) := by decide +kernel
theorem dX8_need_0 : decode cX8_need 0 = .ok (.iconst 1, 1) := by decide +kernel
theorem dX8_need_1 : decode cX8_need 1 = .ok (.istore_n 1, 1) := by decide +kernel
theorem dX8_need_2 : decode cX8_need 2 = .ok (.iload_n 1, 1) := by decide +kernel
theorem dX8_need_3 : decode cX8_need 3 = .ok (.iload_n 0, 1) := by decide +kernel
theorem dX8_need_4 : decode cX8_need 4 = .ok (.if_icmp .ge 10, 3) := by decide +kernel
theorem dX8_need_7 : decode cX8_need 7 = .ok (.iload_n 1, 1) := by decide +kernel
theorem dX8_need_8 : decode cX8_need 8 = .ok (.iconst 2, 1) := by decide +kernel
theorem dX8_need_9 : decode cX8_need 9 = .ok (.imul, 1) := by decide +kernel
theorem dX8_need_10 : decode cX8_need 10 = .ok (.istore_n 1, 1) := by decide +kernel
theorem dX8_need_11 : decode cX8_need 11 = .ok (.goto (-9), 3) := by decide +kernel
theorem dX8_need_14 : decode cX8_need 14 = .ok (.iload_n 1, 1) := by decide +kernel
theorem dX8_need_15 : decode cX8_need 15 = .ok (.ireturn, 1) := by decide +kernel
theorem dX8_loanAt_0 : decode cX8_loanAt 0 = .ok (.iconst 0, 1) := by decide +kernel
theorem dX8_loanAt_1 : decode cX8_loanAt 1 = .ok (.istore_n 2, 1) := by decide +kernel
theorem dX8_loanAt_2 : decode cX8_loanAt 2 = .ok (.iload_n 2, 1) := by decide +kernel
theorem dX8_loanAt_3 : decode cX8_loanAt 3 = .ok (.aload_n 0, 1) := by decide +kernel
theorem dX8_loanAt_4 : decode cX8_loanAt 4 = .ok (.getfield 7, 3) := by decide +kernel
theorem dX8_loanAt_7 : decode cX8_loanAt 7 = .ok (.bipush 64, 2) := by decide +kernel
theorem dX8_loanAt_9 : decode cX8_loanAt 9 = .ok (.iaload, 1) := by decide +kernel
theorem dX8_loanAt_10 : decode cX8_loanAt 10 = .ok (.if_icmp .ge 24, 3) := by decide +kernel
theorem dX8_loanAt_13 : decode cX8_loanAt 13 = .ok (.aload_n 0, 1) := by decide +kernel
theorem dX8_loanAt_14 : decode cX8_loanAt 14 = .ok (.getfield 7, 3) := by decide +kernel
theorem dX8_loanAt_17 : decode cX8_loanAt 17 = .ok (.bipush 97, 2) := by decide +kernel
theorem dX8_loanAt_19 : decode cX8_loanAt 19 = .ok (.iload_n 2, 1) := by decide +kernel
theorem dX8_loanAt_20 : decode cX8_loanAt 20 = .ok (.iadd, 1) := by decide +kernel
theorem dX8_loanAt_21 : decode cX8_loanAt 21 = .ok (.iaload, 1) := by decide +kernel
theorem dX8_loanAt_22 : decode cX8_loanAt 22 = .ok (.iload_n 1, 1) := by decide +kernel
theorem dX8_loanAt_23 : decode cX8_loanAt 23 = .ok (.if_icmp .ne 5, 3) := by decide +kernel
theorem dX8_loanAt_26 : decode cX8_loanAt 26 = .ok (.iload_n 2, 1) := by decide +kernel
theorem dX8_loanAt_27 : decode cX8_loanAt 27 = .ok (.ireturn, 1) := by decide +kernel
theorem dX8_loanAt_28 : decode cX8_loanAt 28 = .ok (.iinc 2 1, 3) := by decide +kernel
theorem dX8_loanAt_31 : decode cX8_loanAt 31 = .ok (.goto (-29), 3) := by decide +kernel
theorem dX8_loanAt_34 : decode cX8_loanAt 34 = .ok (.iconst (-1), 1) := by decide +kernel
theorem dX8_loanAt_35 : decode cX8_loanAt 35 = .ok (.ireturn, 1) := by decide +kernel
theorem dX8_isFreeAt_0 : decode cX8_isFreeAt 0 = .ok (.aload_n 0, 1) := by decide +kernel
theorem dX8_isFreeAt_1 : decode cX8_isFreeAt 1 = .ok (.getfield 7, 3) := by decide +kernel
theorem dX8_isFreeAt_4 : decode cX8_isFreeAt 4 = .ok (.iload_n 1, 1) := by decide +kernel
theorem dX8_isFreeAt_5 : decode cX8_isFreeAt 5 = .ok (.iaload, 1) := by decide +kernel
theorem dX8_isFreeAt_6 : decode cX8_isFreeAt 6 = .ok (.ifCond .le 16, 3) := by decide +kernel
theorem dX8_isFreeAt_9 : decode cX8_isFreeAt 9 = .ok (.aload_n 0, 1) := by decide +kernel
theorem dX8_isFreeAt_10 : decode cX8_isFreeAt 10 = .ok (.iload_n 1, 1) := by decide +kernel
theorem dX8_isFreeAt_11 : decode cX8_isFreeAt 11 = .ok (.invokevirtual 60, 3) := by decide +kernel
theorem dX8_isFreeAt_14 : decode cX8_isFreeAt 14 = .ok (.iconst (-1), 1) := by decide +kernel
theorem dX8_isFreeAt_15 : decode cX8_isFreeAt 15 = .ok (.if_icmp .ne 7, 3) := by decide +kernel
theorem dX8_isFreeAt_18 : decode cX8_isFreeAt 18 = .ok (.iconst 1, 1) := by decide +kernel
theorem dX8_isFreeAt_19 : decode cX8_isFreeAt 19 = .ok (.goto 4, 3) := by decide +kernel
theorem dX8_isFreeAt_22 : decode cX8_isFreeAt 22 = .ok (.iconst 0, 1) := by decide +kernel
theorem dX8_isFreeAt_23 : decode cX8_isFreeAt 23 = .ok (.ireturn, 1) := by decide +kernel
theorem dX8_isBetter_0 : decode cX8_isBetter 0 = .ok (.iload_n 2, 1) := by decide +kernel
theorem dX8_isBetter_1 : decode cX8_isBetter 1 = .ok (.iconst (-1), 1) := by decide +kernel
theorem dX8_isBetter_2 : decode cX8_isBetter 2 = .ok (.if_icmp .ne 5, 3) := by decide +kernel
theorem dX8_isBetter_5 : decode cX8_isBetter 5 = .ok (.iconst 1, 1) := by decide +kernel
theorem dX8_isBetter_6 : decode cX8_isBetter 6 = .ok (.ireturn, 1) := by decide +kernel
theorem dX8_isBetter_7 : decode cX8_isBetter 7 = .ok (.aload_n 0, 1) := by decide +kernel
theorem dX8_isBetter_8 : decode cX8_isBetter 8 = .ok (.getfield 7, 3) := by decide +kernel
theorem dX8_isBetter_11 : decode cX8_isBetter 11 = .ok (.bipush 126, 2) := by decide +kernel
theorem dX8_isBetter_13 : decode cX8_isBetter 13 = .ok (.iaload, 1) := by decide +kernel
theorem dX8_isBetter_14 : decode cX8_isBetter 14 = .ok (.iconst 2, 1) := by decide +kernel
theorem dX8_isBetter_15 : decode cX8_isBetter 15 = .ok (.if_icmp .ne 26, 3) := by decide +kernel
theorem dX8_isBetter_18 : decode cX8_isBetter 18 = .ok (.aload_n 0, 1) := by decide +kernel
theorem dX8_isBetter_19 : decode cX8_isBetter 19 = .ok (.getfield 7, 3) := by decide +kernel
theorem dX8_isBetter_22 : decode cX8_isBetter 22 = .ok (.iload_n 1, 1) := by decide +kernel
theorem dX8_isBetter_23 : decode cX8_isBetter 23 = .ok (.iaload, 1) := by decide +kernel
theorem dX8_isBetter_24 : decode cX8_isBetter 24 = .ok (.aload_n 0, 1) := by decide +kernel
theorem dX8_isBetter_25 : decode cX8_isBetter 25 = .ok (.getfield 7, 3) := by decide +kernel
theorem dX8_isBetter_28 : decode cX8_isBetter 28 = .ok (.iload_n 2, 1) := by decide +kernel
theorem dX8_isBetter_29 : decode cX8_isBetter 29 = .ok (.iaload, 1) := by decide +kernel
theorem dX8_isBetter_30 : decode cX8_isBetter 30 = .ok (.if_icmp .le 7, 3) := by decide +kernel
theorem dX8_isBetter_33 : decode cX8_isBetter 33 = .ok (.iconst 1, 1) := by decide +kernel
theorem dX8_isBetter_34 : decode cX8_isBetter 34 = .ok (.goto 61, 3) := by decide +kernel
theorem dX8_isBetter_37 : decode cX8_isBetter 37 = .ok (.iconst 0, 1) := by decide +kernel
theorem dX8_isBetter_38 : decode cX8_isBetter 38 = .ok (.goto 57, 3) := by decide +kernel
theorem dX8_isBetter_41 : decode cX8_isBetter 41 = .ok (.aload_n 0, 1) := by decide +kernel
theorem dX8_isBetter_42 : decode cX8_isBetter 42 = .ok (.getfield 7, 3) := by decide +kernel
theorem dX8_isBetter_45 : decode cX8_isBetter 45 = .ok (.bipush 126, 2) := by decide +kernel
theorem dX8_isBetter_47 : decode cX8_isBetter 47 = .ok (.iaload, 1) := by decide +kernel
theorem dX8_isBetter_48 : decode cX8_isBetter 48 = .ok (.iconst 1, 1) := by decide +kernel
theorem dX8_isBetter_49 : decode cX8_isBetter 49 = .ok (.if_icmp .ne 26, 3) := by decide +kernel
theorem dX8_isBetter_52 : decode cX8_isBetter 52 = .ok (.aload_n 0, 1) := by decide +kernel
theorem dX8_isBetter_53 : decode cX8_isBetter 53 = .ok (.getfield 7, 3) := by decide +kernel
theorem dX8_isBetter_56 : decode cX8_isBetter 56 = .ok (.iload_n 1, 1) := by decide +kernel
theorem dX8_isBetter_57 : decode cX8_isBetter 57 = .ok (.iaload, 1) := by decide +kernel
theorem dX8_isBetter_58 : decode cX8_isBetter 58 = .ok (.aload_n 0, 1) := by decide +kernel
theorem dX8_isBetter_59 : decode cX8_isBetter 59 = .ok (.getfield 7, 3) := by decide +kernel
theorem dX8_isBetter_62 : decode cX8_isBetter 62 = .ok (.iload_n 2, 1) := by decide +kernel
theorem dX8_isBetter_63 : decode cX8_isBetter 63 = .ok (.iaload, 1) := by decide +kernel
theorem dX8_isBetter_64 : decode cX8_isBetter 64 = .ok (.if_icmp .gt 7, 3) := by decide +kernel
theorem dX8_isBetter_67 : decode cX8_isBetter 67 = .ok (.iconst 1, 1) := by decide +kernel
theorem dX8_isBetter_68 : decode cX8_isBetter 68 = .ok (.goto 27, 3) := by decide +kernel
theorem dX8_isBetter_71 : decode cX8_isBetter 71 = .ok (.iconst 0, 1) := by decide +kernel
theorem dX8_isBetter_72 : decode cX8_isBetter 72 = .ok (.goto 23, 3) := by decide +kernel
theorem dX8_isBetter_75 : decode cX8_isBetter 75 = .ok (.aload_n 0, 1) := by decide +kernel
theorem dX8_isBetter_76 : decode cX8_isBetter 76 = .ok (.getfield 7, 3) := by decide +kernel
theorem dX8_isBetter_79 : decode cX8_isBetter 79 = .ok (.iload_n 1, 1) := by decide +kernel
theorem dX8_isBetter_80 : decode cX8_isBetter 80 = .ok (.iaload, 1) := by decide +kernel
theorem dX8_isBetter_81 : decode cX8_isBetter 81 = .ok (.aload_n 0, 1) := by decide +kernel
theorem dX8_isBetter_82 : decode cX8_isBetter 82 = .ok (.getfield 7, 3) := by decide +kernel
theorem dX8_isBetter_85 : decode cX8_isBetter 85 = .ok (.iload_n 2, 1) := by decide +kernel
theorem dX8_isBetter_86 : decode cX8_isBetter 86 = .ok (.iaload, 1) := by decide +kernel
theorem dX8_isBetter_87 : decode cX8_isBetter 87 = .ok (.if_icmp .ge 7, 3) := by decide +kernel
theorem dX8_isBetter_90 : decode cX8_isBetter 90 = .ok (.iconst 1, 1) := by decide +kernel
theorem dX8_isBetter_91 : decode cX8_isBetter 91 = .ok (.goto 4, 3) := by decide +kernel
theorem dX8_isBetter_94 : decode cX8_isBetter 94 = .ok (.iconst 0, 1) := by decide +kernel
theorem dX8_isBetter_95 : decode cX8_isBetter 95 = .ok (.ireturn, 1) := by decide +kernel
theorem dX8_finds_0 : decode cX8_finds 0 = .ok (.iconst (-1), 1) := by decide +kernel
theorem dX8_finds_1 : decode cX8_finds 1 = .ok (.istore_n 2, 1) := by decide +kernel
theorem dX8_finds_2 : decode cX8_finds 2 = .ok (.iconst 0, 1) := by decide +kernel
theorem dX8_finds_3 : decode cX8_finds 3 = .ok (.istore_n 3, 1) := by decide +kernel
theorem dX8_finds_4 : decode cX8_finds 4 = .ok (.iload_n 3, 1) := by decide +kernel
theorem dX8_finds_5 : decode cX8_finds 5 = .ok (.bipush 64, 2) := by decide +kernel
theorem dX8_finds_7 : decode cX8_finds 7 = .ok (.if_icmp .ge 38, 3) := by decide +kernel
theorem dX8_finds_10 : decode cX8_finds 10 = .ok (.aload_n 0, 1) := by decide +kernel
theorem dX8_finds_11 : decode cX8_finds 11 = .ok (.iload_n 3, 1) := by decide +kernel
theorem dX8_finds_12 : decode cX8_finds 12 = .ok (.invokevirtual 64, 3) := by decide +kernel
theorem dX8_finds_15 : decode cX8_finds 15 = .ok (.ifCond .eq 24, 3) := by decide +kernel
theorem dX8_finds_18 : decode cX8_finds 18 = .ok (.aload_n 0, 1) := by decide +kernel
theorem dX8_finds_19 : decode cX8_finds 19 = .ok (.getfield 7, 3) := by decide +kernel
theorem dX8_finds_22 : decode cX8_finds 22 = .ok (.iload_n 3, 1) := by decide +kernel
theorem dX8_finds_23 : decode cX8_finds 23 = .ok (.iaload, 1) := by decide +kernel
theorem dX8_finds_24 : decode cX8_finds 24 = .ok (.iload_n 1, 1) := by decide +kernel
theorem dX8_finds_25 : decode cX8_finds 25 = .ok (.if_icmp .lt 14, 3) := by decide +kernel
theorem dX8_finds_28 : decode cX8_finds 28 = .ok (.aload_n 0, 1) := by decide +kernel
theorem dX8_finds_29 : decode cX8_finds 29 = .ok (.iload_n 3, 1) := by decide +kernel
theorem dX8_finds_30 : decode cX8_finds 30 = .ok (.iload_n 2, 1) := by decide +kernel
theorem dX8_finds_31 : decode cX8_finds 31 = .ok (.invokevirtual 68, 3) := by decide +kernel
theorem dX8_finds_34 : decode cX8_finds 34 = .ok (.ifCond .eq 5, 3) := by decide +kernel
theorem dX8_finds_37 : decode cX8_finds 37 = .ok (.iload_n 3, 1) := by decide +kernel
theorem dX8_finds_38 : decode cX8_finds 38 = .ok (.istore_n 2, 1) := by decide +kernel
theorem dX8_finds_39 : decode cX8_finds 39 = .ok (.iinc 3 1, 3) := by decide +kernel
theorem dX8_finds_42 : decode cX8_finds 42 = .ok (.goto (-38), 3) := by decide +kernel
theorem dX8_finds_45 : decode cX8_finds 45 = .ok (.iload_n 2, 1) := by decide +kernel
theorem dX8_finds_46 : decode cX8_finds 46 = .ok (.ireturn, 1) := by decide +kernel
theorem dX8_greatestFree_0 : decode cX8_greatestFree 0 = .ok (.iconst 0, 1) := by decide +kernel
theorem dX8_greatestFree_1 : decode cX8_greatestFree 1 = .ok (.istore_n 1, 1) := by decide +kernel
theorem dX8_greatestFree_2 : decode cX8_greatestFree 2 = .ok (.iconst 0, 1) := by decide +kernel
theorem dX8_greatestFree_3 : decode cX8_greatestFree 3 = .ok (.istore_n 2, 1) := by decide +kernel
theorem dX8_greatestFree_4 : decode cX8_greatestFree 4 = .ok (.iload_n 2, 1) := by decide +kernel
theorem dX8_greatestFree_5 : decode cX8_greatestFree 5 = .ok (.bipush 64, 2) := by decide +kernel
theorem dX8_greatestFree_7 : decode cX8_greatestFree 7 = .ok (.if_icmp .ge 38, 3) := by decide +kernel
theorem dX8_greatestFree_10 : decode cX8_greatestFree 10 = .ok (.aload_n 0, 1) := by decide +kernel
theorem dX8_greatestFree_11 : decode cX8_greatestFree 11 = .ok (.iload_n 2, 1) := by decide +kernel
theorem dX8_greatestFree_12 : decode cX8_greatestFree 12 = .ok (.invokevirtual 64, 3) := by decide +kernel
theorem dX8_greatestFree_15 : decode cX8_greatestFree 15 = .ok (.ifCond .eq 22, 3) := by decide +kernel
theorem dX8_greatestFree_18 : decode cX8_greatestFree 18 = .ok (.aload_n 0, 1) := by decide +kernel
theorem dX8_greatestFree_19 : decode cX8_greatestFree 19 = .ok (.getfield 7, 3) := by decide +kernel
theorem dX8_greatestFree_22 : decode cX8_greatestFree 22 = .ok (.iload_n 2, 1) := by decide +kernel
theorem dX8_greatestFree_23 : decode cX8_greatestFree 23 = .ok (.iaload, 1) := by decide +kernel
theorem dX8_greatestFree_24 : decode cX8_greatestFree 24 = .ok (.iload_n 1, 1) := by decide +kernel
theorem dX8_greatestFree_25 : decode cX8_greatestFree 25 = .ok (.if_icmp .le 12, 3) := by decide +kernel
theorem dX8_greatestFree_28 : decode cX8_greatestFree 28 = .ok (.aload_n 0, 1) := by decide +kernel
theorem dX8_greatestFree_29 : decode cX8_greatestFree 29 = .ok (.getfield 7, 3) := by decide +kernel
theorem dX8_greatestFree_32 : decode cX8_greatestFree 32 = .ok (.iload_n 2, 1) := by decide +kernel
theorem dX8_greatestFree_33 : decode cX8_greatestFree 33 = .ok (.iaload, 1) := by decide +kernel
theorem dX8_greatestFree_34 : decode cX8_greatestFree 34 = .ok (.goto 4, 3) := by decide +kernel
theorem dX8_greatestFree_37 : decode cX8_greatestFree 37 = .ok (.iload_n 1, 1) := by decide +kernel
theorem dX8_greatestFree_38 : decode cX8_greatestFree 38 = .ok (.istore_n 1, 1) := by decide +kernel
theorem dX8_greatestFree_39 : decode cX8_greatestFree 39 = .ok (.iinc 2 1, 3) := by decide +kernel
theorem dX8_greatestFree_42 : decode cX8_greatestFree 42 = .ok (.goto (-38), 3) := by decide +kernel
theorem dX8_greatestFree_45 : decode cX8_greatestFree 45 = .ok (.iload_n 1, 1) := by decide +kernel
theorem dX8_greatestFree_46 : decode cX8_greatestFree 46 = .ok (.ireturn, 1) := by decide +kernel
theorem dX8_halves_0 : decode cX8_halves 0 = .ok (.iload_n 1, 1) := by decide +kernel
theorem dX8_halves_1 : decode cX8_halves 1 = .ok (.istore_n 3, 1) := by decide +kernel
theorem dX8_halves_2 : decode cX8_halves 2 = .ok (.aload_n 0, 1) := by decide +kernel
theorem dX8_halves_3 : decode cX8_halves 3 = .ok (.getfield 7, 3) := by decide +kernel
theorem dX8_halves_6 : decode cX8_halves 6 = .ok (.iload_n 3, 1) := by decide +kernel
theorem dX8_halves_7 : decode cX8_halves 7 = .ok (.iaload, 1) := by decide +kernel
theorem dX8_halves_8 : decode cX8_halves 8 = .ok (.iload_n 2, 1) := by decide +kernel
theorem dX8_halves_9 : decode cX8_halves 9 = .ok (.if_icmp .le 66, 3) := by decide +kernel
theorem dX8_halves_12 : decode cX8_halves 12 = .ok (.aload_n 0, 1) := by decide +kernel
theorem dX8_halves_13 : decode cX8_halves 13 = .ok (.getfield 7, 3) := by decide +kernel
theorem dX8_halves_16 : decode cX8_halves 16 = .ok (.iload_n 3, 1) := by decide +kernel
theorem dX8_halves_17 : decode cX8_halves 17 = .ok (.iaload, 1) := by decide +kernel
theorem dX8_halves_18 : decode cX8_halves 18 = .ok (.iconst 2, 1) := by decide +kernel
theorem dX8_halves_19 : decode cX8_halves 19 = .ok (.idiv, 1) := by decide +kernel
theorem dX8_halves_20 : decode cX8_halves 20 = .ok (.istore 4, 2) := by decide +kernel
theorem dX8_halves_22 : decode cX8_halves 22 = .ok (.aload_n 0, 1) := by decide +kernel
theorem dX8_halves_23 : decode cX8_halves 23 = .ok (.getfield 7, 3) := by decide +kernel
theorem dX8_halves_26 : decode cX8_halves 26 = .ok (.iload_n 3, 1) := by decide +kernel
theorem dX8_halves_27 : decode cX8_halves 27 = .ok (.iload 4, 2) := by decide +kernel
theorem dX8_halves_29 : decode cX8_halves 29 = .ok (.iastore, 1) := by decide +kernel
theorem dX8_halves_30 : decode cX8_halves 30 = .ok (.aload_n 0, 1) := by decide +kernel
theorem dX8_halves_31 : decode cX8_halves 31 = .ok (.getfield 7, 3) := by decide +kernel
theorem dX8_halves_34 : decode cX8_halves 34 = .ok (.iload_n 3, 1) := by decide +kernel
theorem dX8_halves_35 : decode cX8_halves 35 = .ok (.iload 4, 2) := by decide +kernel
theorem dX8_halves_37 : decode cX8_halves 37 = .ok (.iadd, 1) := by decide +kernel
theorem dX8_halves_38 : decode cX8_halves 38 = .ok (.iload 4, 2) := by decide +kernel
theorem dX8_halves_40 : decode cX8_halves 40 = .ok (.iastore, 1) := by decide +kernel
theorem dX8_halves_41 : decode cX8_halves 41 = .ok (.aload_n 0, 1) := by decide +kernel
theorem dX8_halves_42 : decode cX8_halves 42 = .ok (.getfield 7, 3) := by decide +kernel
theorem dX8_halves_45 : decode cX8_halves 45 = .ok (.bipush 126, 2) := by decide +kernel
theorem dX8_halves_47 : decode cX8_halves 47 = .ok (.iaload, 1) := by decide +kernel
theorem dX8_halves_48 : decode cX8_halves 48 = .ok (.iconst 1, 1) := by decide +kernel
theorem dX8_halves_49 : decode cX8_halves 49 = .ok (.if_icmp .ne 10, 3) := by decide +kernel
theorem dX8_halves_52 : decode cX8_halves 52 = .ok (.iload_n 3, 1) := by decide +kernel
theorem dX8_halves_53 : decode cX8_halves 53 = .ok (.iload 4, 2) := by decide +kernel
theorem dX8_halves_55 : decode cX8_halves 55 = .ok (.iadd, 1) := by decide +kernel
theorem dX8_halves_56 : decode cX8_halves 56 = .ok (.goto 4, 3) := by decide +kernel
theorem dX8_halves_59 : decode cX8_halves 59 = .ok (.iload_n 3, 1) := by decide +kernel
theorem dX8_halves_60 : decode cX8_halves 60 = .ok (.istore_n 3, 1) := by decide +kernel
theorem dX8_halves_61 : decode cX8_halves 61 = .ok (.aload_n 0, 1) := by decide +kernel
theorem dX8_halves_62 : decode cX8_halves 62 = .ok (.getfield 7, 3) := by decide +kernel
theorem dX8_halves_65 : decode cX8_halves 65 = .ok (.bipush 127, 2) := by decide +kernel
theorem dX8_halves_67 : decode cX8_halves 67 = .ok (.dup2, 1) := by decide +kernel
theorem dX8_halves_68 : decode cX8_halves 68 = .ok (.iaload, 1) := by decide +kernel
theorem dX8_halves_69 : decode cX8_halves 69 = .ok (.iconst 1, 1) := by decide +kernel
theorem dX8_halves_70 : decode cX8_halves 70 = .ok (.iadd, 1) := by decide +kernel
theorem dX8_halves_71 : decode cX8_halves 71 = .ok (.iastore, 1) := by decide +kernel
theorem dX8_halves_72 : decode cX8_halves 72 = .ok (.goto (-70), 3) := by decide +kernel
theorem dX8_halves_75 : decode cX8_halves 75 = .ok (.iload_n 3, 1) := by decide +kernel
theorem dX8_halves_76 : decode cX8_halves 76 = .ok (.ireturn, 1) := by decide +kernel
theorem dX8_joins_0 : decode cX8_joins 0 = .ok (.iload_n 1, 1) := by decide +kernel
theorem dX8_joins_1 : decode cX8_joins 1 = .ok (.istore_n 2, 1) := by decide +kernel
theorem dX8_joins_2 : decode cX8_joins 2 = .ok (.aload_n 0, 1) := by decide +kernel
theorem dX8_joins_3 : decode cX8_joins 3 = .ok (.getfield 7, 3) := by decide +kernel
theorem dX8_joins_6 : decode cX8_joins 6 = .ok (.iload_n 2, 1) := by decide +kernel
theorem dX8_joins_7 : decode cX8_joins 7 = .ok (.iaload, 1) := by decide +kernel
theorem dX8_joins_8 : decode cX8_joins 8 = .ok (.bipush 64, 2) := by decide +kernel
theorem dX8_joins_10 : decode cX8_joins 10 = .ok (.if_icmp .ge 113, 3) := by decide +kernel
theorem dX8_joins_13 : decode cX8_joins 13 = .ok (.aload_n 0, 1) := by decide +kernel
theorem dX8_joins_14 : decode cX8_joins 14 = .ok (.getfield 7, 3) := by decide +kernel
theorem dX8_joins_17 : decode cX8_joins 17 = .ok (.iload_n 2, 1) := by decide +kernel
theorem dX8_joins_18 : decode cX8_joins 18 = .ok (.aload_n 0, 1) := by decide +kernel
theorem dX8_joins_19 : decode cX8_joins 19 = .ok (.getfield 7, 3) := by decide +kernel
theorem dX8_joins_22 : decode cX8_joins 22 = .ok (.iload_n 2, 1) := by decide +kernel
theorem dX8_joins_23 : decode cX8_joins 23 = .ok (.iaload, 1) := by decide +kernel
theorem dX8_joins_24 : decode cX8_joins 24 = .ok (.ixor, 1) := by decide +kernel
theorem dX8_joins_25 : decode cX8_joins 25 = .ok (.iaload, 1) := by decide +kernel
theorem dX8_joins_26 : decode cX8_joins 26 = .ok (.aload_n 0, 1) := by decide +kernel
theorem dX8_joins_27 : decode cX8_joins 27 = .ok (.getfield 7, 3) := by decide +kernel
theorem dX8_joins_30 : decode cX8_joins 30 = .ok (.iload_n 2, 1) := by decide +kernel
theorem dX8_joins_31 : decode cX8_joins 31 = .ok (.iaload, 1) := by decide +kernel
theorem dX8_joins_32 : decode cX8_joins 32 = .ok (.if_icmp .ne 91, 3) := by decide +kernel
theorem dX8_joins_35 : decode cX8_joins 35 = .ok (.aload_n 0, 1) := by decide +kernel
theorem dX8_joins_36 : decode cX8_joins 36 = .ok (.iload_n 2, 1) := by decide +kernel
theorem dX8_joins_37 : decode cX8_joins 37 = .ok (.aload_n 0, 1) := by decide +kernel
theorem dX8_joins_38 : decode cX8_joins 38 = .ok (.getfield 7, 3) := by decide +kernel
theorem dX8_joins_41 : decode cX8_joins 41 = .ok (.iload_n 2, 1) := by decide +kernel
theorem dX8_joins_42 : decode cX8_joins 42 = .ok (.iaload, 1) := by decide +kernel
theorem dX8_joins_43 : decode cX8_joins 43 = .ok (.ixor, 1) := by decide +kernel
theorem dX8_joins_44 : decode cX8_joins 44 = .ok (.invokevirtual 60, 3) := by decide +kernel
theorem dX8_joins_47 : decode cX8_joins 47 = .ok (.iconst (-1), 1) := by decide +kernel
theorem dX8_joins_48 : decode cX8_joins 48 = .ok (.if_icmp .ne 75, 3) := by decide +kernel
theorem dX8_joins_51 : decode cX8_joins 51 = .ok (.iload_n 2, 1) := by decide +kernel
theorem dX8_joins_52 : decode cX8_joins 52 = .ok (.aload_n 0, 1) := by decide +kernel
theorem dX8_joins_53 : decode cX8_joins 53 = .ok (.getfield 7, 3) := by decide +kernel
theorem dX8_joins_56 : decode cX8_joins 56 = .ok (.iload_n 2, 1) := by decide +kernel
theorem dX8_joins_57 : decode cX8_joins 57 = .ok (.iaload, 1) := by decide +kernel
theorem dX8_joins_58 : decode cX8_joins 58 = .ok (.ixor, 1) := by decide +kernel
theorem dX8_joins_59 : decode cX8_joins 59 = .ok (.istore_n 3, 1) := by decide +kernel
theorem dX8_joins_60 : decode cX8_joins 60 = .ok (.iload_n 2, 1) := by decide +kernel
theorem dX8_joins_61 : decode cX8_joins 61 = .ok (.iload_n 3, 1) := by decide +kernel
theorem dX8_joins_62 : decode cX8_joins 62 = .ok (.if_icmp .ge 7, 3) := by decide +kernel
theorem dX8_joins_65 : decode cX8_joins 65 = .ok (.iload_n 2, 1) := by decide +kernel
theorem dX8_joins_66 : decode cX8_joins 66 = .ok (.goto 4, 3) := by decide +kernel
theorem dX8_joins_69 : decode cX8_joins 69 = .ok (.iload_n 3, 1) := by decide +kernel
theorem dX8_joins_70 : decode cX8_joins 70 = .ok (.istore 4, 2) := by decide +kernel
theorem dX8_joins_72 : decode cX8_joins 72 = .ok (.iconst 2, 1) := by decide +kernel
theorem dX8_joins_73 : decode cX8_joins 73 = .ok (.aload_n 0, 1) := by decide +kernel
theorem dX8_joins_74 : decode cX8_joins 74 = .ok (.getfield 7, 3) := by decide +kernel
theorem dX8_joins_77 : decode cX8_joins 77 = .ok (.iload_n 2, 1) := by decide +kernel
theorem dX8_joins_78 : decode cX8_joins 78 = .ok (.iaload, 1) := by decide +kernel
theorem dX8_joins_79 : decode cX8_joins 79 = .ok (.imul, 1) := by decide +kernel
theorem dX8_joins_80 : decode cX8_joins 80 = .ok (.istore 5, 2) := by decide +kernel
theorem dX8_joins_82 : decode cX8_joins 82 = .ok (.aload_n 0, 1) := by decide +kernel
theorem dX8_joins_83 : decode cX8_joins 83 = .ok (.getfield 7, 3) := by decide +kernel
theorem dX8_joins_86 : decode cX8_joins 86 = .ok (.iload_n 2, 1) := by decide +kernel
theorem dX8_joins_87 : decode cX8_joins 87 = .ok (.iconst 0, 1) := by decide +kernel
theorem dX8_joins_88 : decode cX8_joins 88 = .ok (.iastore, 1) := by decide +kernel
theorem dX8_joins_89 : decode cX8_joins 89 = .ok (.aload_n 0, 1) := by decide +kernel
theorem dX8_joins_90 : decode cX8_joins 90 = .ok (.getfield 7, 3) := by decide +kernel
theorem dX8_joins_93 : decode cX8_joins 93 = .ok (.iload_n 3, 1) := by decide +kernel
theorem dX8_joins_94 : decode cX8_joins 94 = .ok (.iconst 0, 1) := by decide +kernel
theorem dX8_joins_95 : decode cX8_joins 95 = .ok (.iastore, 1) := by decide +kernel
theorem dX8_joins_96 : decode cX8_joins 96 = .ok (.aload_n 0, 1) := by decide +kernel
theorem dX8_joins_97 : decode cX8_joins 97 = .ok (.getfield 7, 3) := by decide +kernel
theorem dX8_joins_100 : decode cX8_joins 100 = .ok (.iload 4, 2) := by decide +kernel
theorem dX8_joins_102 : decode cX8_joins 102 = .ok (.iload 5, 2) := by decide +kernel
theorem dX8_joins_104 : decode cX8_joins 104 = .ok (.iastore, 1) := by decide +kernel
theorem dX8_joins_105 : decode cX8_joins 105 = .ok (.iload 4, 2) := by decide +kernel
theorem dX8_joins_107 : decode cX8_joins 107 = .ok (.istore_n 2, 1) := by decide +kernel
theorem dX8_joins_108 : decode cX8_joins 108 = .ok (.aload_n 0, 1) := by decide +kernel
theorem dX8_joins_109 : decode cX8_joins 109 = .ok (.getfield 7, 3) := by decide +kernel
theorem dX8_joins_112 : decode cX8_joins 112 = .ok (.sipush 128, 3) := by decide +kernel
theorem dX8_joins_115 : decode cX8_joins 115 = .ok (.dup2, 1) := by decide +kernel
theorem dX8_joins_116 : decode cX8_joins 116 = .ok (.iaload, 1) := by decide +kernel
theorem dX8_joins_117 : decode cX8_joins 117 = .ok (.iconst 1, 1) := by decide +kernel
theorem dX8_joins_118 : decode cX8_joins 118 = .ok (.iadd, 1) := by decide +kernel
theorem dX8_joins_119 : decode cX8_joins 119 = .ok (.iastore, 1) := by decide +kernel
theorem dX8_joins_120 : decode cX8_joins 120 = .ok (.goto (-118), 3) := by decide +kernel
theorem dX8_joins_123 : decode cX8_joins 123 = .ok (.return_, 1) := by decide +kernel
theorem dX8_canLend_0 : decode cX8_canLend 0 = .ok (.aload_n 0, 1) := by decide +kernel
theorem dX8_canLend_1 : decode cX8_canLend 1 = .ok (.getfield 7, 3) := by decide +kernel
theorem dX8_canLend_4 : decode cX8_canLend 4 = .ok (.bipush 64, 2) := by decide +kernel
theorem dX8_canLend_6 : decode cX8_canLend 6 = .ok (.iaload, 1) := by decide +kernel
theorem dX8_canLend_7 : decode cX8_canLend 7 = .ok (.bipush 16, 2) := by decide +kernel
theorem dX8_canLend_9 : decode cX8_canLend 9 = .ok (.if_icmp .ge 19, 3) := by decide +kernel
theorem dX8_canLend_12 : decode cX8_canLend 12 = .ok (.aload_n 0, 1) := by decide +kernel
theorem dX8_canLend_13 : decode cX8_canLend 13 = .ok (.iload_n 1, 1) := by decide +kernel
theorem dX8_canLend_14 : decode cX8_canLend 14 = .ok (.invokestatic 72, 3) := by decide +kernel
theorem dX8_canLend_17 : decode cX8_canLend 17 = .ok (.invokevirtual 75, 3) := by decide +kernel
theorem dX8_canLend_20 : decode cX8_canLend 20 = .ok (.iconst (-1), 1) := by decide +kernel
theorem dX8_canLend_21 : decode cX8_canLend 21 = .ok (.if_icmp .eq 7, 3) := by decide +kernel
theorem dX8_canLend_24 : decode cX8_canLend 24 = .ok (.iconst 1, 1) := by decide +kernel
theorem dX8_canLend_25 : decode cX8_canLend 25 = .ok (.goto 4, 3) := by decide +kernel
theorem dX8_canLend_28 : decode cX8_canLend 28 = .ok (.iconst 0, 1) := by decide +kernel
theorem dX8_canLend_29 : decode cX8_canLend 29 = .ok (.ireturn, 1) := by decide +kernel
theorem dX8_lendsTo_0 : decode cX8_lendsTo 0 = .ok (.aload_n 0, 1) := by decide +kernel
theorem dX8_lendsTo_1 : decode cX8_lendsTo 1 = .ok (.getfield 7, 3) := by decide +kernel
theorem dX8_lendsTo_4 : decode cX8_lendsTo 4 = .ok (.bipush 64, 2) := by decide +kernel
theorem dX8_lendsTo_6 : decode cX8_lendsTo 6 = .ok (.iaload, 1) := by decide +kernel
theorem dX8_lendsTo_7 : decode cX8_lendsTo 7 = .ok (.istore_n 3, 1) := by decide +kernel
theorem dX8_lendsTo_8 : decode cX8_lendsTo 8 = .ok (.aload_n 0, 1) := by decide +kernel
theorem dX8_lendsTo_9 : decode cX8_lendsTo 9 = .ok (.aload_n 0, 1) := by decide +kernel
theorem dX8_lendsTo_10 : decode cX8_lendsTo 10 = .ok (.iload_n 2, 1) := by decide +kernel
theorem dX8_lendsTo_11 : decode cX8_lendsTo 11 = .ok (.invokestatic 72, 3) := by decide +kernel
theorem dX8_lendsTo_14 : decode cX8_lendsTo 14 = .ok (.invokevirtual 75, 3) := by decide +kernel
theorem dX8_lendsTo_17 : decode cX8_lendsTo 17 = .ok (.iload_n 2, 1) := by decide +kernel
theorem dX8_lendsTo_18 : decode cX8_lendsTo 18 = .ok (.invokestatic 72, 3) := by decide +kernel
theorem dX8_lendsTo_21 : decode cX8_lendsTo 21 = .ok (.invokevirtual 78, 3) := by decide +kernel
theorem dX8_lendsTo_24 : decode cX8_lendsTo 24 = .ok (.istore 4, 2) := by decide +kernel
theorem dX8_lendsTo_26 : decode cX8_lendsTo 26 = .ok (.aload_n 0, 1) := by decide +kernel
theorem dX8_lendsTo_27 : decode cX8_lendsTo 27 = .ok (.getfield 7, 3) := by decide +kernel
theorem dX8_lendsTo_30 : decode cX8_lendsTo 30 = .ok (.bipush 65, 2) := by decide +kernel
theorem dX8_lendsTo_32 : decode cX8_lendsTo 32 = .ok (.iload_n 3, 1) := by decide +kernel
theorem dX8_lendsTo_33 : decode cX8_lendsTo 33 = .ok (.iadd, 1) := by decide +kernel
theorem dX8_lendsTo_34 : decode cX8_lendsTo 34 = .ok (.iload_n 1, 1) := by decide +kernel
theorem dX8_lendsTo_35 : decode cX8_lendsTo 35 = .ok (.iastore, 1) := by decide +kernel
theorem dX8_lendsTo_36 : decode cX8_lendsTo 36 = .ok (.aload_n 0, 1) := by decide +kernel
theorem dX8_lendsTo_37 : decode cX8_lendsTo 37 = .ok (.getfield 7, 3) := by decide +kernel
theorem dX8_lendsTo_40 : decode cX8_lendsTo 40 = .ok (.bipush 81, 2) := by decide +kernel
theorem dX8_lendsTo_42 : decode cX8_lendsTo 42 = .ok (.iload_n 3, 1) := by decide +kernel
theorem dX8_lendsTo_43 : decode cX8_lendsTo 43 = .ok (.iadd, 1) := by decide +kernel
theorem dX8_lendsTo_44 : decode cX8_lendsTo 44 = .ok (.iload_n 2, 1) := by decide +kernel
theorem dX8_lendsTo_45 : decode cX8_lendsTo 45 = .ok (.iastore, 1) := by decide +kernel
theorem dX8_lendsTo_46 : decode cX8_lendsTo 46 = .ok (.aload_n 0, 1) := by decide +kernel
theorem dX8_lendsTo_47 : decode cX8_lendsTo 47 = .ok (.getfield 7, 3) := by decide +kernel
theorem dX8_lendsTo_50 : decode cX8_lendsTo 50 = .ok (.bipush 97, 2) := by decide +kernel
theorem dX8_lendsTo_52 : decode cX8_lendsTo 52 = .ok (.iload_n 3, 1) := by decide +kernel
theorem dX8_lendsTo_53 : decode cX8_lendsTo 53 = .ok (.iadd, 1) := by decide +kernel
theorem dX8_lendsTo_54 : decode cX8_lendsTo 54 = .ok (.iload 4, 2) := by decide +kernel
theorem dX8_lendsTo_56 : decode cX8_lendsTo 56 = .ok (.iastore, 1) := by decide +kernel
theorem dX8_lendsTo_57 : decode cX8_lendsTo 57 = .ok (.aload_n 0, 1) := by decide +kernel
theorem dX8_lendsTo_58 : decode cX8_lendsTo 58 = .ok (.getfield 7, 3) := by decide +kernel
theorem dX8_lendsTo_61 : decode cX8_lendsTo 61 = .ok (.bipush 64, 2) := by decide +kernel
theorem dX8_lendsTo_63 : decode cX8_lendsTo 63 = .ok (.dup2, 1) := by decide +kernel
theorem dX8_lendsTo_64 : decode cX8_lendsTo 64 = .ok (.iaload, 1) := by decide +kernel
theorem dX8_lendsTo_65 : decode cX8_lendsTo 65 = .ok (.iconst 1, 1) := by decide +kernel
theorem dX8_lendsTo_66 : decode cX8_lendsTo 66 = .ok (.iadd, 1) := by decide +kernel
theorem dX8_lendsTo_67 : decode cX8_lendsTo 67 = .ok (.iastore, 1) := by decide +kernel
theorem dX8_lendsTo_68 : decode cX8_lendsTo 68 = .ok (.iload_n 3, 1) := by decide +kernel
theorem dX8_lendsTo_69 : decode cX8_lendsTo 69 = .ok (.ireturn, 1) := by decide +kernel
theorem dX8_leaves_0 : decode cX8_leaves 0 = .ok (.aload_n 0, 1) := by decide +kernel
theorem dX8_leaves_1 : decode cX8_leaves 1 = .ok (.getfield 7, 3) := by decide +kernel
theorem dX8_leaves_4 : decode cX8_leaves 4 = .ok (.bipush 113, 2) := by decide +kernel
theorem dX8_leaves_6 : decode cX8_leaves 6 = .ok (.dup2, 1) := by decide +kernel
theorem dX8_leaves_7 : decode cX8_leaves 7 = .ok (.iaload, 1) := by decide +kernel
theorem dX8_leaves_8 : decode cX8_leaves 8 = .ok (.iconst 1, 1) := by decide +kernel
theorem dX8_leaves_9 : decode cX8_leaves 9 = .ok (.isub, 1) := by decide +kernel
theorem dX8_leaves_10 : decode cX8_leaves 10 = .ok (.iastore, 1) := by decide +kernel
theorem dX8_leaves_11 : decode cX8_leaves 11 = .ok (.iload_n 1, 1) := by decide +kernel
theorem dX8_leaves_12 : decode cX8_leaves 12 = .ok (.istore_n 2, 1) := by decide +kernel
theorem dX8_leaves_13 : decode cX8_leaves 13 = .ok (.iload_n 2, 1) := by decide +kernel
theorem dX8_leaves_14 : decode cX8_leaves 14 = .ok (.aload_n 0, 1) := by decide +kernel
theorem dX8_leaves_15 : decode cX8_leaves 15 = .ok (.getfield 7, 3) := by decide +kernel
theorem dX8_leaves_18 : decode cX8_leaves 18 = .ok (.bipush 113, 2) := by decide +kernel
theorem dX8_leaves_20 : decode cX8_leaves 20 = .ok (.iaload, 1) := by decide +kernel
theorem dX8_leaves_21 : decode cX8_leaves 21 = .ok (.if_icmp .ge 49, 3) := by decide +kernel
theorem dX8_leaves_24 : decode cX8_leaves 24 = .ok (.aload_n 0, 1) := by decide +kernel
theorem dX8_leaves_25 : decode cX8_leaves 25 = .ok (.getfield 7, 3) := by decide +kernel
theorem dX8_leaves_28 : decode cX8_leaves 28 = .ok (.bipush 114, 2) := by decide +kernel
theorem dX8_leaves_30 : decode cX8_leaves 30 = .ok (.iload_n 2, 1) := by decide +kernel
theorem dX8_leaves_31 : decode cX8_leaves 31 = .ok (.iadd, 1) := by decide +kernel
theorem dX8_leaves_32 : decode cX8_leaves 32 = .ok (.aload_n 0, 1) := by decide +kernel
theorem dX8_leaves_33 : decode cX8_leaves 33 = .ok (.getfield 7, 3) := by decide +kernel
theorem dX8_leaves_36 : decode cX8_leaves 36 = .ok (.bipush 114, 2) := by decide +kernel
theorem dX8_leaves_38 : decode cX8_leaves 38 = .ok (.iload_n 2, 1) := by decide +kernel
theorem dX8_leaves_39 : decode cX8_leaves 39 = .ok (.iadd, 1) := by decide +kernel
theorem dX8_leaves_40 : decode cX8_leaves 40 = .ok (.iconst 1, 1) := by decide +kernel
theorem dX8_leaves_41 : decode cX8_leaves 41 = .ok (.iadd, 1) := by decide +kernel
theorem dX8_leaves_42 : decode cX8_leaves 42 = .ok (.iaload, 1) := by decide +kernel
theorem dX8_leaves_43 : decode cX8_leaves 43 = .ok (.iastore, 1) := by decide +kernel
theorem dX8_leaves_44 : decode cX8_leaves 44 = .ok (.aload_n 0, 1) := by decide +kernel
theorem dX8_leaves_45 : decode cX8_leaves 45 = .ok (.getfield 7, 3) := by decide +kernel
theorem dX8_leaves_48 : decode cX8_leaves 48 = .ok (.bipush 120, 2) := by decide +kernel
theorem dX8_leaves_50 : decode cX8_leaves 50 = .ok (.iload_n 2, 1) := by decide +kernel
theorem dX8_leaves_51 : decode cX8_leaves 51 = .ok (.iadd, 1) := by decide +kernel
theorem dX8_leaves_52 : decode cX8_leaves 52 = .ok (.aload_n 0, 1) := by decide +kernel
theorem dX8_leaves_53 : decode cX8_leaves 53 = .ok (.getfield 7, 3) := by decide +kernel
theorem dX8_leaves_56 : decode cX8_leaves 56 = .ok (.bipush 120, 2) := by decide +kernel
theorem dX8_leaves_58 : decode cX8_leaves 58 = .ok (.iload_n 2, 1) := by decide +kernel
theorem dX8_leaves_59 : decode cX8_leaves 59 = .ok (.iadd, 1) := by decide +kernel
theorem dX8_leaves_60 : decode cX8_leaves 60 = .ok (.iconst 1, 1) := by decide +kernel
theorem dX8_leaves_61 : decode cX8_leaves 61 = .ok (.iadd, 1) := by decide +kernel
theorem dX8_leaves_62 : decode cX8_leaves 62 = .ok (.iaload, 1) := by decide +kernel
theorem dX8_leaves_63 : decode cX8_leaves 63 = .ok (.iastore, 1) := by decide +kernel
theorem dX8_leaves_64 : decode cX8_leaves 64 = .ok (.iinc 2 1, 3) := by decide +kernel
theorem dX8_leaves_67 : decode cX8_leaves 67 = .ok (.goto (-54), 3) := by decide +kernel
theorem dX8_leaves_70 : decode cX8_leaves 70 = .ok (.aload_n 0, 1) := by decide +kernel
theorem dX8_leaves_71 : decode cX8_leaves 71 = .ok (.getfield 7, 3) := by decide +kernel
theorem dX8_leaves_74 : decode cX8_leaves 74 = .ok (.bipush 114, 2) := by decide +kernel
theorem dX8_leaves_76 : decode cX8_leaves 76 = .ok (.aload_n 0, 1) := by decide +kernel
theorem dX8_leaves_77 : decode cX8_leaves 77 = .ok (.getfield 7, 3) := by decide +kernel
theorem dX8_leaves_80 : decode cX8_leaves 80 = .ok (.bipush 113, 2) := by decide +kernel
theorem dX8_leaves_82 : decode cX8_leaves 82 = .ok (.iaload, 1) := by decide +kernel
theorem dX8_leaves_83 : decode cX8_leaves 83 = .ok (.iadd, 1) := by decide +kernel
theorem dX8_leaves_84 : decode cX8_leaves 84 = .ok (.iconst 0, 1) := by decide +kernel
theorem dX8_leaves_85 : decode cX8_leaves 85 = .ok (.iastore, 1) := by decide +kernel
theorem dX8_leaves_86 : decode cX8_leaves 86 = .ok (.aload_n 0, 1) := by decide +kernel
theorem dX8_leaves_87 : decode cX8_leaves 87 = .ok (.getfield 7, 3) := by decide +kernel
theorem dX8_leaves_90 : decode cX8_leaves 90 = .ok (.bipush 120, 2) := by decide +kernel
theorem dX8_leaves_92 : decode cX8_leaves 92 = .ok (.aload_n 0, 1) := by decide +kernel
theorem dX8_leaves_93 : decode cX8_leaves 93 = .ok (.getfield 7, 3) := by decide +kernel
theorem dX8_leaves_96 : decode cX8_leaves 96 = .ok (.bipush 113, 2) := by decide +kernel
theorem dX8_leaves_98 : decode cX8_leaves 98 = .ok (.iaload, 1) := by decide +kernel
theorem dX8_leaves_99 : decode cX8_leaves 99 = .ok (.iadd, 1) := by decide +kernel
theorem dX8_leaves_100 : decode cX8_leaves 100 = .ok (.iconst 0, 1) := by decide +kernel
theorem dX8_leaves_101 : decode cX8_leaves 101 = .ok (.iastore, 1) := by decide +kernel
theorem dX8_leaves_102 : decode cX8_leaves 102 = .ok (.return_, 1) := by decide +kernel
theorem dX8_serves_0 : decode cX8_serves 0 = .ok (.iconst 0, 1) := by decide +kernel
theorem dX8_serves_1 : decode cX8_serves 1 = .ok (.istore_n 1, 1) := by decide +kernel
theorem dX8_serves_2 : decode cX8_serves 2 = .ok (.iconst 0, 1) := by decide +kernel
theorem dX8_serves_3 : decode cX8_serves 3 = .ok (.istore_n 2, 1) := by decide +kernel
theorem dX8_serves_4 : decode cX8_serves 4 = .ok (.iload_n 2, 1) := by decide +kernel
theorem dX8_serves_5 : decode cX8_serves 5 = .ok (.aload_n 0, 1) := by decide +kernel
theorem dX8_serves_6 : decode cX8_serves 6 = .ok (.getfield 7, 3) := by decide +kernel
theorem dX8_serves_9 : decode cX8_serves 9 = .ok (.bipush 113, 2) := by decide +kernel
theorem dX8_serves_11 : decode cX8_serves 11 = .ok (.iaload, 1) := by decide +kernel
theorem dX8_serves_12 : decode cX8_serves 12 = .ok (.if_icmp .ge 59, 3) := by decide +kernel
theorem dX8_serves_15 : decode cX8_serves 15 = .ok (.aload_n 0, 1) := by decide +kernel
theorem dX8_serves_16 : decode cX8_serves 16 = .ok (.aload_n 0, 1) := by decide +kernel
theorem dX8_serves_17 : decode cX8_serves 17 = .ok (.getfield 7, 3) := by decide +kernel
theorem dX8_serves_20 : decode cX8_serves 20 = .ok (.bipush 120, 2) := by decide +kernel
theorem dX8_serves_22 : decode cX8_serves 22 = .ok (.iload_n 2, 1) := by decide +kernel
theorem dX8_serves_23 : decode cX8_serves 23 = .ok (.iadd, 1) := by decide +kernel
theorem dX8_serves_24 : decode cX8_serves 24 = .ok (.iaload, 1) := by decide +kernel
theorem dX8_serves_25 : decode cX8_serves 25 = .ok (.invokevirtual 82, 3) := by decide +kernel
theorem dX8_serves_28 : decode cX8_serves 28 = .ok (.ifCond .eq 37, 3) := by decide +kernel
theorem dX8_serves_31 : decode cX8_serves 31 = .ok (.aload_n 0, 1) := by decide +kernel
theorem dX8_serves_32 : decode cX8_serves 32 = .ok (.aload_n 0, 1) := by decide +kernel
theorem dX8_serves_33 : decode cX8_serves 33 = .ok (.getfield 7, 3) := by decide +kernel
theorem dX8_serves_36 : decode cX8_serves 36 = .ok (.bipush 114, 2) := by decide +kernel
theorem dX8_serves_38 : decode cX8_serves 38 = .ok (.iload_n 2, 1) := by decide +kernel
theorem dX8_serves_39 : decode cX8_serves 39 = .ok (.iadd, 1) := by decide +kernel
theorem dX8_serves_40 : decode cX8_serves 40 = .ok (.iaload, 1) := by decide +kernel
theorem dX8_serves_41 : decode cX8_serves 41 = .ok (.aload_n 0, 1) := by decide +kernel
theorem dX8_serves_42 : decode cX8_serves 42 = .ok (.getfield 7, 3) := by decide +kernel
theorem dX8_serves_45 : decode cX8_serves 45 = .ok (.bipush 120, 2) := by decide +kernel
theorem dX8_serves_47 : decode cX8_serves 47 = .ok (.iload_n 2, 1) := by decide +kernel
theorem dX8_serves_48 : decode cX8_serves 48 = .ok (.iadd, 1) := by decide +kernel
theorem dX8_serves_49 : decode cX8_serves 49 = .ok (.iaload, 1) := by decide +kernel
theorem dX8_serves_50 : decode cX8_serves 50 = .ok (.invokevirtual 85, 3) := by decide +kernel
theorem dX8_serves_53 : decode cX8_serves 53 = .ok (.istore_n 3, 1) := by decide +kernel
theorem dX8_serves_54 : decode cX8_serves 54 = .ok (.aload_n 0, 1) := by decide +kernel
theorem dX8_serves_55 : decode cX8_serves 55 = .ok (.iload_n 2, 1) := by decide +kernel
theorem dX8_serves_56 : decode cX8_serves 56 = .ok (.invokevirtual 88, 3) := by decide +kernel
theorem dX8_serves_59 : decode cX8_serves 59 = .ok (.iinc 1 1, 3) := by decide +kernel
theorem dX8_serves_62 : decode cX8_serves 62 = .ok (.goto (-58), 3) := by decide +kernel
theorem dX8_serves_65 : decode cX8_serves 65 = .ok (.iinc 2 1, 3) := by decide +kernel
theorem dX8_serves_68 : decode cX8_serves 68 = .ok (.goto (-64), 3) := by decide +kernel
theorem dX8_serves_71 : decode cX8_serves 71 = .ok (.iload_n 1, 1) := by decide +kernel
theorem dX8_serves_72 : decode cX8_serves 72 = .ok (.ireturn, 1) := by decide +kernel
theorem dX8_lends_0 : decode cX8_lends 0 = .ok (.iload_n 1, 1) := by decide +kernel
theorem dX8_lends_1 : decode cX8_lends 1 = .ok (.invokestatic 92, 3) := by decide +kernel
theorem dX8_lends_4 : decode cX8_lends 4 = .ok (.ifCond .eq 10, 3) := by decide +kernel
theorem dX8_lends_7 : decode cX8_lends 7 = .ok (.iload_n 2, 1) := by decide +kernel
theorem dX8_lends_8 : decode cX8_lends 8 = .ok (.invokestatic 95, 3) := by decide +kernel
theorem dX8_lends_11 : decode cX8_lends 11 = .ok (.ifCond .ne 9, 3) := by decide +kernel
theorem dX8_lends_14 : decode cX8_lends 14 = .ok (.aload_n 0, 1) := by decide +kernel
theorem dX8_lends_15 : decode cX8_lends 15 = .ok (.iconst 1, 1) := by decide +kernel
theorem dX8_lends_16 : decode cX8_lends 16 = .ok (.invokevirtual 98, 3) := by decide +kernel
theorem dX8_lends_19 : decode cX8_lends 19 = .ok (.ireturn, 1) := by decide +kernel
theorem dX8_lends_20 : decode cX8_lends 20 = .ok (.aload_n 0, 1) := by decide +kernel
theorem dX8_lends_21 : decode cX8_lends 21 = .ok (.getfield 7, 3) := by decide +kernel
theorem dX8_lends_24 : decode cX8_lends 24 = .ok (.bipush 64, 2) := by decide +kernel
theorem dX8_lends_26 : decode cX8_lends 26 = .ok (.iaload, 1) := by decide +kernel
theorem dX8_lends_27 : decode cX8_lends 27 = .ok (.bipush 16, 2) := by decide +kernel
theorem dX8_lends_29 : decode cX8_lends 29 = .ok (.if_icmp .ne 12, 3) := by decide +kernel
theorem dX8_lends_32 : decode cX8_lends 32 = .ok (.aload_n 0, 1) := by decide +kernel
theorem dX8_lends_33 : decode cX8_lends 33 = .ok (.iconst 1, 1) := by decide +kernel
theorem dX8_lends_34 : decode cX8_lends 34 = .ok (.bipush 16, 2) := by decide +kernel
theorem dX8_lends_36 : decode cX8_lends 36 = .ok (.iconst 2, 1) := by decide +kernel
theorem dX8_lends_37 : decode cX8_lends 37 = .ok (.invokevirtual 101, 3) := by decide +kernel
theorem dX8_lends_40 : decode cX8_lends 40 = .ok (.ireturn, 1) := by decide +kernel
theorem dX8_lends_41 : decode cX8_lends 41 = .ok (.aload_n 0, 1) := by decide +kernel
theorem dX8_lends_42 : decode cX8_lends 42 = .ok (.iload_n 2, 1) := by decide +kernel
theorem dX8_lends_43 : decode cX8_lends 43 = .ok (.invokevirtual 82, 3) := by decide +kernel
theorem dX8_lends_46 : decode cX8_lends 46 = .ok (.ifCond .eq 16, 3) := by decide +kernel
theorem dX8_lends_49 : decode cX8_lends 49 = .ok (.aload_n 0, 1) := by decide +kernel
theorem dX8_lends_50 : decode cX8_lends 50 = .ok (.aload_n 0, 1) := by decide +kernel
theorem dX8_lends_51 : decode cX8_lends 51 = .ok (.iload_n 1, 1) := by decide +kernel
theorem dX8_lends_52 : decode cX8_lends 52 = .ok (.iload_n 2, 1) := by decide +kernel
theorem dX8_lends_53 : decode cX8_lends 53 = .ok (.invokevirtual 85, 3) := by decide +kernel
theorem dX8_lends_56 : decode cX8_lends 56 = .ok (.invokevirtual 105, 3) := by decide +kernel
theorem dX8_lends_59 : decode cX8_lends 59 = .ok (.goto 13, 3) := by decide +kernel
theorem dX8_lends_62 : decode cX8_lends 62 = .ok (.aload_n 0, 1) := by decide +kernel
theorem dX8_lends_63 : decode cX8_lends 63 = .ok (.iconst 2, 1) := by decide +kernel
theorem dX8_lends_64 : decode cX8_lends 64 = .ok (.aload_n 0, 1) := by decide +kernel
theorem dX8_lends_65 : decode cX8_lends 65 = .ok (.invokevirtual 108, 3) := by decide +kernel
theorem dX8_lends_68 : decode cX8_lends 68 = .ok (.iconst 2, 1) := by decide +kernel
theorem dX8_lends_69 : decode cX8_lends 69 = .ok (.invokevirtual 101, 3) := by decide +kernel
theorem dX8_lends_72 : decode cX8_lends 72 = .ok (.ireturn, 1) := by decide +kernel
theorem dX8_lend_0 : decode cX8_lend 0 = .ok (.aload_n 0, 1) := by decide +kernel
theorem dX8_lend_1 : decode cX8_lend 1 = .ok (.invokevirtual 112, 3) := by decide +kernel
theorem dX8_lend_4 : decode cX8_lend 4 = .ok (.aload_n 0, 1) := by decide +kernel
theorem dX8_lend_5 : decode cX8_lend 5 = .ok (.aload_n 0, 1) := by decide +kernel
theorem dX8_lend_6 : decode cX8_lend 6 = .ok (.iload_n 1, 1) := by decide +kernel
theorem dX8_lend_7 : decode cX8_lend 7 = .ok (.iload_n 2, 1) := by decide +kernel
theorem dX8_lend_8 : decode cX8_lend 8 = .ok (.invokevirtual 115, 3) := by decide +kernel
theorem dX8_lend_11 : decode cX8_lend 11 = .ok (.invokevirtual 118, 3) := by decide +kernel
theorem dX8_lend_14 : decode cX8_lend 14 = .ok (.ireturn, 1) := by decide +kernel
theorem dX8_asks_0 : decode cX8_asks 0 = .ok (.iload_n 1, 1) := by decide +kernel
theorem dX8_asks_1 : decode cX8_asks 1 = .ok (.invokestatic 92, 3) := by decide +kernel
theorem dX8_asks_4 : decode cX8_asks 4 = .ok (.ifCond .eq 10, 3) := by decide +kernel
theorem dX8_asks_7 : decode cX8_asks 7 = .ok (.iload_n 2, 1) := by decide +kernel
theorem dX8_asks_8 : decode cX8_asks 8 = .ok (.invokestatic 95, 3) := by decide +kernel
theorem dX8_asks_11 : decode cX8_asks 11 = .ok (.ifCond .ne 9, 3) := by decide +kernel
theorem dX8_asks_14 : decode cX8_asks 14 = .ok (.aload_n 0, 1) := by decide +kernel
theorem dX8_asks_15 : decode cX8_asks 15 = .ok (.iconst 1, 1) := by decide +kernel
theorem dX8_asks_16 : decode cX8_asks 16 = .ok (.invokevirtual 98, 3) := by decide +kernel
theorem dX8_asks_19 : decode cX8_asks 19 = .ok (.ireturn, 1) := by decide +kernel
theorem dX8_asks_20 : decode cX8_asks 20 = .ok (.aload_n 0, 1) := by decide +kernel
theorem dX8_asks_21 : decode cX8_asks 21 = .ok (.iload_n 2, 1) := by decide +kernel
theorem dX8_asks_22 : decode cX8_asks 22 = .ok (.invokevirtual 82, 3) := by decide +kernel
theorem dX8_asks_25 : decode cX8_asks 25 = .ok (.ifCond .eq 22, 3) := by decide +kernel
theorem dX8_asks_28 : decode cX8_asks 28 = .ok (.aload_n 0, 1) := by decide +kernel
theorem dX8_asks_29 : decode cX8_asks 29 = .ok (.aload_n 0, 1) := by decide +kernel
theorem dX8_asks_30 : decode cX8_asks 30 = .ok (.getfield 7, 3) := by decide +kernel
theorem dX8_asks_33 : decode cX8_asks 33 = .ok (.bipush 97, 2) := by decide +kernel
theorem dX8_asks_35 : decode cX8_asks 35 = .ok (.aload_n 0, 1) := by decide +kernel
theorem dX8_asks_36 : decode cX8_asks 36 = .ok (.iload_n 1, 1) := by decide +kernel
theorem dX8_asks_37 : decode cX8_asks 37 = .ok (.iload_n 2, 1) := by decide +kernel
theorem dX8_asks_38 : decode cX8_asks 38 = .ok (.invokevirtual 85, 3) := by decide +kernel
theorem dX8_asks_41 : decode cX8_asks 41 = .ok (.iadd, 1) := by decide +kernel
theorem dX8_asks_42 : decode cX8_asks 42 = .ok (.iaload, 1) := by decide +kernel
theorem dX8_asks_43 : decode cX8_asks 43 = .ok (.invokevirtual 105, 3) := by decide +kernel
theorem dX8_asks_46 : decode cX8_asks 46 = .ok (.ireturn, 1) := by decide +kernel
theorem dX8_asks_47 : decode cX8_asks 47 = .ok (.aload_n 0, 1) := by decide +kernel
theorem dX8_asks_48 : decode cX8_asks 48 = .ok (.getfield 7, 3) := by decide +kernel
theorem dX8_asks_51 : decode cX8_asks 51 = .ok (.bipush 113, 2) := by decide +kernel
theorem dX8_asks_53 : decode cX8_asks 53 = .ok (.iaload, 1) := by decide +kernel
theorem dX8_asks_54 : decode cX8_asks 54 = .ok (.istore_n 3, 1) := by decide +kernel
theorem dX8_asks_55 : decode cX8_asks 55 = .ok (.iload_n 3, 1) := by decide +kernel
theorem dX8_asks_56 : decode cX8_asks 56 = .ok (.bipush 6, 2) := by decide +kernel
theorem dX8_asks_58 : decode cX8_asks 58 = .ok (.if_icmp .ne 12, 3) := by decide +kernel
theorem dX8_asks_61 : decode cX8_asks 61 = .ok (.aload_n 0, 1) := by decide +kernel
theorem dX8_asks_62 : decode cX8_asks 62 = .ok (.iconst 3, 1) := by decide +kernel
theorem dX8_asks_63 : decode cX8_asks 63 = .ok (.bipush 6, 2) := by decide +kernel
theorem dX8_asks_65 : decode cX8_asks 65 = .ok (.iconst 2, 1) := by decide +kernel
theorem dX8_asks_66 : decode cX8_asks 66 = .ok (.invokevirtual 101, 3) := by decide +kernel
theorem dX8_asks_69 : decode cX8_asks 69 = .ok (.ireturn, 1) := by decide +kernel
theorem dX8_asks_70 : decode cX8_asks 70 = .ok (.aload_n 0, 1) := by decide +kernel
theorem dX8_asks_71 : decode cX8_asks 71 = .ok (.getfield 7, 3) := by decide +kernel
theorem dX8_asks_74 : decode cX8_asks 74 = .ok (.bipush 114, 2) := by decide +kernel
theorem dX8_asks_76 : decode cX8_asks 76 = .ok (.iload_n 3, 1) := by decide +kernel
theorem dX8_asks_77 : decode cX8_asks 77 = .ok (.iadd, 1) := by decide +kernel
theorem dX8_asks_78 : decode cX8_asks 78 = .ok (.iload_n 1, 1) := by decide +kernel
theorem dX8_asks_79 : decode cX8_asks 79 = .ok (.iastore, 1) := by decide +kernel
theorem dX8_asks_80 : decode cX8_asks 80 = .ok (.aload_n 0, 1) := by decide +kernel
theorem dX8_asks_81 : decode cX8_asks 81 = .ok (.getfield 7, 3) := by decide +kernel
theorem dX8_asks_84 : decode cX8_asks 84 = .ok (.bipush 120, 2) := by decide +kernel
theorem dX8_asks_86 : decode cX8_asks 86 = .ok (.iload_n 3, 1) := by decide +kernel
theorem dX8_asks_87 : decode cX8_asks 87 = .ok (.iadd, 1) := by decide +kernel
theorem dX8_asks_88 : decode cX8_asks 88 = .ok (.iload_n 2, 1) := by decide +kernel
theorem dX8_asks_89 : decode cX8_asks 89 = .ok (.iastore, 1) := by decide +kernel
theorem dX8_asks_90 : decode cX8_asks 90 = .ok (.aload_n 0, 1) := by decide +kernel
theorem dX8_asks_91 : decode cX8_asks 91 = .ok (.getfield 7, 3) := by decide +kernel
theorem dX8_asks_94 : decode cX8_asks 94 = .ok (.bipush 113, 2) := by decide +kernel
theorem dX8_asks_96 : decode cX8_asks 96 = .ok (.dup2, 1) := by decide +kernel
theorem dX8_asks_97 : decode cX8_asks 97 = .ok (.iaload, 1) := by decide +kernel
theorem dX8_asks_98 : decode cX8_asks 98 = .ok (.iconst 1, 1) := by decide +kernel
theorem dX8_asks_99 : decode cX8_asks 99 = .ok (.iadd, 1) := by decide +kernel
theorem dX8_asks_100 : decode cX8_asks 100 = .ok (.iastore, 1) := by decide +kernel
theorem dX8_asks_101 : decode cX8_asks 101 = .ok (.aload_n 0, 1) := by decide +kernel
theorem dX8_asks_102 : decode cX8_asks 102 = .ok (.iconst (-1), 1) := by decide +kernel
theorem dX8_asks_103 : decode cX8_asks 103 = .ok (.invokevirtual 105, 3) := by decide +kernel
theorem dX8_asks_106 : decode cX8_asks 106 = .ok (.ireturn, 1) := by decide +kernel
theorem dX8_ask_0 : decode cX8_ask 0 = .ok (.aload_n 0, 1) := by decide +kernel
theorem dX8_ask_1 : decode cX8_ask 1 = .ok (.invokevirtual 112, 3) := by decide +kernel
theorem dX8_ask_4 : decode cX8_ask 4 = .ok (.aload_n 0, 1) := by decide +kernel
theorem dX8_ask_5 : decode cX8_ask 5 = .ok (.aload_n 0, 1) := by decide +kernel
theorem dX8_ask_6 : decode cX8_ask 6 = .ok (.iload_n 1, 1) := by decide +kernel
theorem dX8_ask_7 : decode cX8_ask 7 = .ok (.iload_n 2, 1) := by decide +kernel
theorem dX8_ask_8 : decode cX8_ask 8 = .ok (.invokevirtual 121, 3) := by decide +kernel
theorem dX8_ask_11 : decode cX8_ask 11 = .ok (.invokevirtual 118, 3) := by decide +kernel
theorem dX8_ask_14 : decode cX8_ask 14 = .ok (.ireturn, 1) := by decide +kernel
theorem dX8_comesBack_0 : decode cX8_comesBack 0 = .ok (.aload_n 0, 1) := by decide +kernel
theorem dX8_comesBack_1 : decode cX8_comesBack 1 = .ok (.getfield 7, 3) := by decide +kernel
theorem dX8_comesBack_4 : decode cX8_comesBack 4 = .ok (.bipush 97, 2) := by decide +kernel
theorem dX8_comesBack_6 : decode cX8_comesBack 6 = .ok (.iload_n 1, 1) := by decide +kernel
theorem dX8_comesBack_7 : decode cX8_comesBack 7 = .ok (.iadd, 1) := by decide +kernel
theorem dX8_comesBack_8 : decode cX8_comesBack 8 = .ok (.iaload, 1) := by decide +kernel
theorem dX8_comesBack_9 : decode cX8_comesBack 9 = .ok (.istore_n 2, 1) := by decide +kernel
theorem dX8_comesBack_10 : decode cX8_comesBack 10 = .ok (.aload_n 0, 1) := by decide +kernel
theorem dX8_comesBack_11 : decode cX8_comesBack 11 = .ok (.getfield 7, 3) := by decide +kernel
theorem dX8_comesBack_14 : decode cX8_comesBack 14 = .ok (.bipush 64, 2) := by decide +kernel
theorem dX8_comesBack_16 : decode cX8_comesBack 16 = .ok (.dup2, 1) := by decide +kernel
theorem dX8_comesBack_17 : decode cX8_comesBack 17 = .ok (.iaload, 1) := by decide +kernel
theorem dX8_comesBack_18 : decode cX8_comesBack 18 = .ok (.iconst 1, 1) := by decide +kernel
theorem dX8_comesBack_19 : decode cX8_comesBack 19 = .ok (.isub, 1) := by decide +kernel
theorem dX8_comesBack_20 : decode cX8_comesBack 20 = .ok (.iastore, 1) := by decide +kernel
theorem dX8_comesBack_21 : decode cX8_comesBack 21 = .ok (.bipush 65, 2) := by decide +kernel
theorem dX8_comesBack_23 : decode cX8_comesBack 23 = .ok (.istore_n 3, 1) := by decide +kernel
theorem dX8_comesBack_24 : decode cX8_comesBack 24 = .ok (.iload_n 3, 1) := by decide +kernel
theorem dX8_comesBack_25 : decode cX8_comesBack 25 = .ok (.bipush 113, 2) := by decide +kernel
theorem dX8_comesBack_27 : decode cX8_comesBack 27 = .ok (.if_icmp .ge 65, 3) := by decide +kernel
theorem dX8_comesBack_30 : decode cX8_comesBack 30 = .ok (.iload_n 1, 1) := by decide +kernel
theorem dX8_comesBack_31 : decode cX8_comesBack 31 = .ok (.istore 4, 2) := by decide +kernel
theorem dX8_comesBack_33 : decode cX8_comesBack 33 = .ok (.iload 4, 2) := by decide +kernel
theorem dX8_comesBack_35 : decode cX8_comesBack 35 = .ok (.aload_n 0, 1) := by decide +kernel
theorem dX8_comesBack_36 : decode cX8_comesBack 36 = .ok (.getfield 7, 3) := by decide +kernel
theorem dX8_comesBack_39 : decode cX8_comesBack 39 = .ok (.bipush 64, 2) := by decide +kernel
theorem dX8_comesBack_41 : decode cX8_comesBack 41 = .ok (.iaload, 1) := by decide +kernel
theorem dX8_comesBack_42 : decode cX8_comesBack 42 = .ok (.if_icmp .ge 29, 3) := by decide +kernel
theorem dX8_comesBack_45 : decode cX8_comesBack 45 = .ok (.aload_n 0, 1) := by decide +kernel
theorem dX8_comesBack_46 : decode cX8_comesBack 46 = .ok (.getfield 7, 3) := by decide +kernel
theorem dX8_comesBack_49 : decode cX8_comesBack 49 = .ok (.iload_n 3, 1) := by decide +kernel
theorem dX8_comesBack_50 : decode cX8_comesBack 50 = .ok (.iload 4, 2) := by decide +kernel
theorem dX8_comesBack_52 : decode cX8_comesBack 52 = .ok (.iadd, 1) := by decide +kernel
theorem dX8_comesBack_53 : decode cX8_comesBack 53 = .ok (.aload_n 0, 1) := by decide +kernel
theorem dX8_comesBack_54 : decode cX8_comesBack 54 = .ok (.getfield 7, 3) := by decide +kernel
theorem dX8_comesBack_57 : decode cX8_comesBack 57 = .ok (.iload_n 3, 1) := by decide +kernel
theorem dX8_comesBack_58 : decode cX8_comesBack 58 = .ok (.iload 4, 2) := by decide +kernel
theorem dX8_comesBack_60 : decode cX8_comesBack 60 = .ok (.iadd, 1) := by decide +kernel
theorem dX8_comesBack_61 : decode cX8_comesBack 61 = .ok (.iconst 1, 1) := by decide +kernel
theorem dX8_comesBack_62 : decode cX8_comesBack 62 = .ok (.iadd, 1) := by decide +kernel
theorem dX8_comesBack_63 : decode cX8_comesBack 63 = .ok (.iaload, 1) := by decide +kernel
theorem dX8_comesBack_64 : decode cX8_comesBack 64 = .ok (.iastore, 1) := by decide +kernel
theorem dX8_comesBack_65 : decode cX8_comesBack 65 = .ok (.iinc 4 1, 3) := by decide +kernel
theorem dX8_comesBack_68 : decode cX8_comesBack 68 = .ok (.goto (-35), 3) := by decide +kernel
theorem dX8_comesBack_71 : decode cX8_comesBack 71 = .ok (.aload_n 0, 1) := by decide +kernel
theorem dX8_comesBack_72 : decode cX8_comesBack 72 = .ok (.getfield 7, 3) := by decide +kernel
theorem dX8_comesBack_75 : decode cX8_comesBack 75 = .ok (.iload_n 3, 1) := by decide +kernel
theorem dX8_comesBack_76 : decode cX8_comesBack 76 = .ok (.aload_n 0, 1) := by decide +kernel
theorem dX8_comesBack_77 : decode cX8_comesBack 77 = .ok (.getfield 7, 3) := by decide +kernel
theorem dX8_comesBack_80 : decode cX8_comesBack 80 = .ok (.bipush 64, 2) := by decide +kernel
theorem dX8_comesBack_82 : decode cX8_comesBack 82 = .ok (.iaload, 1) := by decide +kernel
theorem dX8_comesBack_83 : decode cX8_comesBack 83 = .ok (.iadd, 1) := by decide +kernel
theorem dX8_comesBack_84 : decode cX8_comesBack 84 = .ok (.iconst 0, 1) := by decide +kernel
theorem dX8_comesBack_85 : decode cX8_comesBack 85 = .ok (.iastore, 1) := by decide +kernel
theorem dX8_comesBack_86 : decode cX8_comesBack 86 = .ok (.iinc 3 16, 3) := by decide +kernel
theorem dX8_comesBack_89 : decode cX8_comesBack 89 = .ok (.goto (-65), 3) := by decide +kernel
theorem dX8_comesBack_92 : decode cX8_comesBack 92 = .ok (.aload_n 0, 1) := by decide +kernel
theorem dX8_comesBack_93 : decode cX8_comesBack 93 = .ok (.iload_n 2, 1) := by decide +kernel
theorem dX8_comesBack_94 : decode cX8_comesBack 94 = .ok (.invokevirtual 124, 3) := by decide +kernel
theorem dX8_comesBack_97 : decode cX8_comesBack 97 = .ok (.return_, 1) := by decide +kernel
theorem dX8_gives_0 : decode cX8_gives 0 = .ok (.aload_n 0, 1) := by decide +kernel
theorem dX8_gives_1 : decode cX8_gives 1 = .ok (.iload_n 1, 1) := by decide +kernel
theorem dX8_gives_2 : decode cX8_gives 2 = .ok (.invokevirtual 127, 3) := by decide +kernel
theorem dX8_gives_5 : decode cX8_gives 5 = .ok (.ifCond .ne 9, 3) := by decide +kernel
theorem dX8_gives_8 : decode cX8_gives 8 = .ok (.aload_n 0, 1) := by decide +kernel
theorem dX8_gives_9 : decode cX8_gives 9 = .ok (.iconst 1, 1) := by decide +kernel
theorem dX8_gives_10 : decode cX8_gives 10 = .ok (.invokevirtual 98, 3) := by decide +kernel
theorem dX8_gives_13 : decode cX8_gives 13 = .ok (.ireturn, 1) := by decide +kernel
theorem dX8_gives_14 : decode cX8_gives 14 = .ok (.aload_n 0, 1) := by decide +kernel
theorem dX8_gives_15 : decode cX8_gives 15 = .ok (.iload_n 1, 1) := by decide +kernel
theorem dX8_gives_16 : decode cX8_gives 16 = .ok (.invokevirtual 130, 3) := by decide +kernel
theorem dX8_gives_19 : decode cX8_gives 19 = .ok (.aload_n 0, 1) := by decide +kernel
theorem dX8_gives_20 : decode cX8_gives 20 = .ok (.aload_n 0, 1) := by decide +kernel
theorem dX8_gives_21 : decode cX8_gives 21 = .ok (.invokevirtual 133, 3) := by decide +kernel
theorem dX8_gives_24 : decode cX8_gives 24 = .ok (.invokevirtual 105, 3) := by decide +kernel
theorem dX8_gives_27 : decode cX8_gives 27 = .ok (.ireturn, 1) := by decide +kernel
theorem dX8_give_0 : decode cX8_give 0 = .ok (.aload_n 0, 1) := by decide +kernel
theorem dX8_give_1 : decode cX8_give 1 = .ok (.invokevirtual 112, 3) := by decide +kernel
theorem dX8_give_4 : decode cX8_give 4 = .ok (.aload_n 0, 1) := by decide +kernel
theorem dX8_give_5 : decode cX8_give 5 = .ok (.aload_n 0, 1) := by decide +kernel
theorem dX8_give_6 : decode cX8_give 6 = .ok (.iload_n 1, 1) := by decide +kernel
theorem dX8_give_7 : decode cX8_give 7 = .ok (.invokevirtual 136, 3) := by decide +kernel
theorem dX8_give_10 : decode cX8_give 10 = .ok (.invokevirtual 118, 3) := by decide +kernel
theorem dX8_give_13 : decode cX8_give 13 = .ok (.ireturn, 1) := by decide +kernel
theorem dX8_waitingFor_0 : decode cX8_waitingFor 0 = .ok (.iconst 0, 1) := by decide +kernel
theorem dX8_waitingFor_1 : decode cX8_waitingFor 1 = .ok (.istore_n 2, 1) := by decide +kernel
theorem dX8_waitingFor_2 : decode cX8_waitingFor 2 = .ok (.iconst 0, 1) := by decide +kernel
theorem dX8_waitingFor_3 : decode cX8_waitingFor 3 = .ok (.istore_n 3, 1) := by decide +kernel
theorem dX8_waitingFor_4 : decode cX8_waitingFor 4 = .ok (.iload_n 3, 1) := by decide +kernel
theorem dX8_waitingFor_5 : decode cX8_waitingFor 5 = .ok (.aload_n 0, 1) := by decide +kernel
theorem dX8_waitingFor_6 : decode cX8_waitingFor 6 = .ok (.getfield 7, 3) := by decide +kernel
theorem dX8_waitingFor_9 : decode cX8_waitingFor 9 = .ok (.bipush 113, 2) := by decide +kernel
theorem dX8_waitingFor_11 : decode cX8_waitingFor 11 = .ok (.iaload, 1) := by decide +kernel
theorem dX8_waitingFor_12 : decode cX8_waitingFor 12 = .ok (.if_icmp .ge 30, 3) := by decide +kernel
theorem dX8_waitingFor_15 : decode cX8_waitingFor 15 = .ok (.iload_n 2, 1) := by decide +kernel
theorem dX8_waitingFor_16 : decode cX8_waitingFor 16 = .ok (.aload_n 0, 1) := by decide +kernel
theorem dX8_waitingFor_17 : decode cX8_waitingFor 17 = .ok (.getfield 7, 3) := by decide +kernel
theorem dX8_waitingFor_20 : decode cX8_waitingFor 20 = .ok (.bipush 114, 2) := by decide +kernel
theorem dX8_waitingFor_22 : decode cX8_waitingFor 22 = .ok (.iload_n 3, 1) := by decide +kernel
theorem dX8_waitingFor_23 : decode cX8_waitingFor 23 = .ok (.iadd, 1) := by decide +kernel
theorem dX8_waitingFor_24 : decode cX8_waitingFor 24 = .ok (.iaload, 1) := by decide +kernel
theorem dX8_waitingFor_25 : decode cX8_waitingFor 25 = .ok (.iload_n 1, 1) := by decide +kernel
theorem dX8_waitingFor_26 : decode cX8_waitingFor 26 = .ok (.if_icmp .ne 7, 3) := by decide +kernel
theorem dX8_waitingFor_29 : decode cX8_waitingFor 29 = .ok (.iconst 1, 1) := by decide +kernel
theorem dX8_waitingFor_30 : decode cX8_waitingFor 30 = .ok (.goto 4, 3) := by decide +kernel
theorem dX8_waitingFor_33 : decode cX8_waitingFor 33 = .ok (.iconst 0, 1) := by decide +kernel
theorem dX8_waitingFor_34 : decode cX8_waitingFor 34 = .ok (.iadd, 1) := by decide +kernel
theorem dX8_waitingFor_35 : decode cX8_waitingFor 35 = .ok (.istore_n 2, 1) := by decide +kernel
theorem dX8_waitingFor_36 : decode cX8_waitingFor 36 = .ok (.iinc 3 1, 3) := by decide +kernel
theorem dX8_waitingFor_39 : decode cX8_waitingFor 39 = .ok (.goto (-35), 3) := by decide +kernel
theorem dX8_waitingFor_42 : decode cX8_waitingFor 42 = .ok (.iload_n 2, 1) := by decide +kernel
theorem dX8_waitingFor_43 : decode cX8_waitingFor 43 = .ok (.ireturn, 1) := by decide +kernel
theorem dX8_givesAll_0 : decode cX8_givesAll 0 = .ok (.iload_n 1, 1) := by decide +kernel
theorem dX8_givesAll_1 : decode cX8_givesAll 1 = .ok (.invokestatic 92, 3) := by decide +kernel
theorem dX8_givesAll_4 : decode cX8_givesAll 4 = .ok (.ifCond .ne 9, 3) := by decide +kernel
theorem dX8_givesAll_7 : decode cX8_givesAll 7 = .ok (.aload_n 0, 1) := by decide +kernel
theorem dX8_givesAll_8 : decode cX8_givesAll 8 = .ok (.iconst 1, 1) := by decide +kernel
theorem dX8_givesAll_9 : decode cX8_givesAll 9 = .ok (.invokevirtual 98, 3) := by decide +kernel
theorem dX8_givesAll_12 : decode cX8_givesAll 12 = .ok (.ireturn, 1) := by decide +kernel
theorem dX8_givesAll_13 : decode cX8_givesAll 13 = .ok (.iconst 0, 1) := by decide +kernel
theorem dX8_givesAll_14 : decode cX8_givesAll 14 = .ok (.istore_n 2, 1) := by decide +kernel
theorem dX8_givesAll_15 : decode cX8_givesAll 15 = .ok (.aload_n 0, 1) := by decide +kernel
theorem dX8_givesAll_16 : decode cX8_givesAll 16 = .ok (.getfield 7, 3) := by decide +kernel
theorem dX8_givesAll_19 : decode cX8_givesAll 19 = .ok (.bipush 64, 2) := by decide +kernel
theorem dX8_givesAll_21 : decode cX8_givesAll 21 = .ok (.iaload, 1) := by decide +kernel
theorem dX8_givesAll_22 : decode cX8_givesAll 22 = .ok (.iconst 1, 1) := by decide +kernel
theorem dX8_givesAll_23 : decode cX8_givesAll 23 = .ok (.isub, 1) := by decide +kernel
theorem dX8_givesAll_24 : decode cX8_givesAll 24 = .ok (.istore_n 3, 1) := by decide +kernel
theorem dX8_givesAll_25 : decode cX8_givesAll 25 = .ok (.iload_n 3, 1) := by decide +kernel
theorem dX8_givesAll_26 : decode cX8_givesAll 26 = .ok (.ifCond .lt 30, 3) := by decide +kernel
theorem dX8_givesAll_29 : decode cX8_givesAll 29 = .ok (.aload_n 0, 1) := by decide +kernel
theorem dX8_givesAll_30 : decode cX8_givesAll 30 = .ok (.getfield 7, 3) := by decide +kernel
theorem dX8_givesAll_33 : decode cX8_givesAll 33 = .ok (.bipush 65, 2) := by decide +kernel
theorem dX8_givesAll_35 : decode cX8_givesAll 35 = .ok (.iload_n 3, 1) := by decide +kernel
theorem dX8_givesAll_36 : decode cX8_givesAll 36 = .ok (.iadd, 1) := by decide +kernel
theorem dX8_givesAll_37 : decode cX8_givesAll 37 = .ok (.iaload, 1) := by decide +kernel
theorem dX8_givesAll_38 : decode cX8_givesAll 38 = .ok (.iload_n 1, 1) := by decide +kernel
theorem dX8_givesAll_39 : decode cX8_givesAll 39 = .ok (.if_icmp .ne 11, 3) := by decide +kernel
theorem dX8_givesAll_42 : decode cX8_givesAll 42 = .ok (.aload_n 0, 1) := by decide +kernel
theorem dX8_givesAll_43 : decode cX8_givesAll 43 = .ok (.iload_n 3, 1) := by decide +kernel
theorem dX8_givesAll_44 : decode cX8_givesAll 44 = .ok (.invokevirtual 130, 3) := by decide +kernel
theorem dX8_givesAll_47 : decode cX8_givesAll 47 = .ok (.iinc 2 1, 3) := by decide +kernel
theorem dX8_givesAll_50 : decode cX8_givesAll 50 = .ok (.iinc 3 (-1), 3) := by decide +kernel
theorem dX8_givesAll_53 : decode cX8_givesAll 53 = .ok (.goto (-28), 3) := by decide +kernel
theorem dX8_givesAll_56 : decode cX8_givesAll 56 = .ok (.iload_n 2, 1) := by decide +kernel
theorem dX8_givesAll_57 : decode cX8_givesAll 57 = .ok (.ifCond .ne 15, 3) := by decide +kernel
theorem dX8_givesAll_60 : decode cX8_givesAll 60 = .ok (.aload_n 0, 1) := by decide +kernel
theorem dX8_givesAll_61 : decode cX8_givesAll 61 = .ok (.iconst 4, 1) := by decide +kernel
theorem dX8_givesAll_62 : decode cX8_givesAll 62 = .ok (.aload_n 0, 1) := by decide +kernel
theorem dX8_givesAll_63 : decode cX8_givesAll 63 = .ok (.iload_n 1, 1) := by decide +kernel
theorem dX8_givesAll_64 : decode cX8_givesAll 64 = .ok (.invokevirtual 139, 3) := by decide +kernel
theorem dX8_givesAll_67 : decode cX8_givesAll 67 = .ok (.iconst 2, 1) := by decide +kernel
theorem dX8_givesAll_68 : decode cX8_givesAll 68 = .ok (.invokevirtual 101, 3) := by decide +kernel
theorem dX8_givesAll_71 : decode cX8_givesAll 71 = .ok (.ireturn, 1) := by decide +kernel
theorem dX8_givesAll_72 : decode cX8_givesAll 72 = .ok (.aload_n 0, 1) := by decide +kernel
theorem dX8_givesAll_73 : decode cX8_givesAll 73 = .ok (.invokevirtual 133, 3) := by decide +kernel
theorem dX8_givesAll_76 : decode cX8_givesAll 76 = .ok (.istore_n 3, 1) := by decide +kernel
theorem dX8_givesAll_77 : decode cX8_givesAll 77 = .ok (.aload_n 0, 1) := by decide +kernel
theorem dX8_givesAll_78 : decode cX8_givesAll 78 = .ok (.iload_n 2, 1) := by decide +kernel
theorem dX8_givesAll_79 : decode cX8_givesAll 79 = .ok (.invokevirtual 105, 3) := by decide +kernel
theorem dX8_givesAll_82 : decode cX8_givesAll 82 = .ok (.ireturn, 1) := by decide +kernel
theorem dX8_giveAll_0 : decode cX8_giveAll 0 = .ok (.aload_n 0, 1) := by decide +kernel
theorem dX8_giveAll_1 : decode cX8_giveAll 1 = .ok (.invokevirtual 112, 3) := by decide +kernel
theorem dX8_giveAll_4 : decode cX8_giveAll 4 = .ok (.aload_n 0, 1) := by decide +kernel
theorem dX8_giveAll_5 : decode cX8_giveAll 5 = .ok (.aload_n 0, 1) := by decide +kernel
theorem dX8_giveAll_6 : decode cX8_giveAll 6 = .ok (.iload_n 1, 1) := by decide +kernel
theorem dX8_giveAll_7 : decode cX8_giveAll 7 = .ok (.invokevirtual 142, 3) := by decide +kernel
theorem dX8_giveAll_10 : decode cX8_giveAll 10 = .ok (.invokevirtual 118, 3) := by decide +kernel
theorem dX8_giveAll_13 : decode cX8_giveAll 13 = .ok (.ireturn, 1) := by decide +kernel
theorem dX8_grows_0 : decode cX8_grows 0 = .ok (.aload_n 0, 1) := by decide +kernel
theorem dX8_grows_1 : decode cX8_grows 1 = .ok (.getfield 7, 3) := by decide +kernel
theorem dX8_grows_4 : decode cX8_grows 4 = .ok (.bipush 97, 2) := by decide +kernel
theorem dX8_grows_6 : decode cX8_grows 6 = .ok (.iload_n 1, 1) := by decide +kernel
theorem dX8_grows_7 : decode cX8_grows 7 = .ok (.iadd, 1) := by decide +kernel
theorem dX8_grows_8 : decode cX8_grows 8 = .ok (.iaload, 1) := by decide +kernel
theorem dX8_grows_9 : decode cX8_grows 9 = .ok (.istore_n 3, 1) := by decide +kernel
theorem dX8_grows_10 : decode cX8_grows 10 = .ok (.aload_n 0, 1) := by decide +kernel
theorem dX8_grows_11 : decode cX8_grows 11 = .ok (.getfield 7, 3) := by decide +kernel
theorem dX8_grows_14 : decode cX8_grows 14 = .ok (.bipush 97, 2) := by decide +kernel
theorem dX8_grows_16 : decode cX8_grows 16 = .ok (.iload_n 1, 1) := by decide +kernel
theorem dX8_grows_17 : decode cX8_grows 17 = .ok (.iadd, 1) := by decide +kernel
theorem dX8_grows_18 : decode cX8_grows 18 = .ok (.iconst (-1), 1) := by decide +kernel
theorem dX8_grows_19 : decode cX8_grows 19 = .ok (.iastore, 1) := by decide +kernel
theorem dX8_grows_20 : decode cX8_grows 20 = .ok (.aload_n 0, 1) := by decide +kernel
theorem dX8_grows_21 : decode cX8_grows 21 = .ok (.iload_n 3, 1) := by decide +kernel
theorem dX8_grows_22 : decode cX8_grows 22 = .ok (.invokevirtual 124, 3) := by decide +kernel
theorem dX8_grows_25 : decode cX8_grows 25 = .ok (.aload_n 0, 1) := by decide +kernel
theorem dX8_grows_26 : decode cX8_grows 26 = .ok (.iload_n 2, 1) := by decide +kernel
theorem dX8_grows_27 : decode cX8_grows 27 = .ok (.invokevirtual 75, 3) := by decide +kernel
theorem dX8_grows_30 : decode cX8_grows 30 = .ok (.istore 4, 2) := by decide +kernel
theorem dX8_grows_32 : decode cX8_grows 32 = .ok (.iload 4, 2) := by decide +kernel
theorem dX8_grows_34 : decode cX8_grows 34 = .ok (.iconst (-1), 1) := by decide +kernel
theorem dX8_grows_35 : decode cX8_grows 35 = .ok (.if_icmp .eq 19, 3) := by decide +kernel
theorem dX8_grows_38 : decode cX8_grows 38 = .ok (.aload_n 0, 1) := by decide +kernel
theorem dX8_grows_39 : decode cX8_grows 39 = .ok (.getfield 7, 3) := by decide +kernel
theorem dX8_grows_42 : decode cX8_grows 42 = .ok (.bipush 97, 2) := by decide +kernel
theorem dX8_grows_44 : decode cX8_grows 44 = .ok (.iload_n 1, 1) := by decide +kernel
theorem dX8_grows_45 : decode cX8_grows 45 = .ok (.iadd, 1) := by decide +kernel
theorem dX8_grows_46 : decode cX8_grows 46 = .ok (.aload_n 0, 1) := by decide +kernel
theorem dX8_grows_47 : decode cX8_grows 47 = .ok (.iload 4, 2) := by decide +kernel
theorem dX8_grows_49 : decode cX8_grows 49 = .ok (.iload_n 2, 1) := by decide +kernel
theorem dX8_grows_50 : decode cX8_grows 50 = .ok (.invokevirtual 78, 3) := by decide +kernel
theorem dX8_grows_53 : decode cX8_grows 53 = .ok (.iastore, 1) := by decide +kernel
theorem dX8_grows_54 : decode cX8_grows 54 = .ok (.iload 4, 2) := by decide +kernel
theorem dX8_grows_56 : decode cX8_grows 56 = .ok (.iconst (-1), 1) := by decide +kernel
theorem dX8_grows_57 : decode cX8_grows 57 = .ok (.if_icmp .eq 7, 3) := by decide +kernel
theorem dX8_grows_60 : decode cX8_grows 60 = .ok (.iconst 1, 1) := by decide +kernel
theorem dX8_grows_61 : decode cX8_grows 61 = .ok (.goto 4, 3) := by decide +kernel
theorem dX8_grows_64 : decode cX8_grows 64 = .ok (.iconst 0, 1) := by decide +kernel
theorem dX8_grows_65 : decode cX8_grows 65 = .ok (.ireturn, 1) := by decide +kernel
theorem dX8_resizes_0 : decode cX8_resizes 0 = .ok (.aload_n 0, 1) := by decide +kernel
theorem dX8_resizes_1 : decode cX8_resizes 1 = .ok (.iload_n 1, 1) := by decide +kernel
theorem dX8_resizes_2 : decode cX8_resizes 2 = .ok (.invokevirtual 127, 3) := by decide +kernel
theorem dX8_resizes_5 : decode cX8_resizes 5 = .ok (.ifCond .ne 9, 3) := by decide +kernel
theorem dX8_resizes_8 : decode cX8_resizes 8 = .ok (.aload_n 0, 1) := by decide +kernel
theorem dX8_resizes_9 : decode cX8_resizes 9 = .ok (.iconst 1, 1) := by decide +kernel
theorem dX8_resizes_10 : decode cX8_resizes 10 = .ok (.invokevirtual 98, 3) := by decide +kernel
theorem dX8_resizes_13 : decode cX8_resizes 13 = .ok (.ireturn, 1) := by decide +kernel
theorem dX8_resizes_14 : decode cX8_resizes 14 = .ok (.iload_n 2, 1) := by decide +kernel
theorem dX8_resizes_15 : decode cX8_resizes 15 = .ok (.invokestatic 95, 3) := by decide +kernel
theorem dX8_resizes_18 : decode cX8_resizes 18 = .ok (.ifCond .ne 9, 3) := by decide +kernel
theorem dX8_resizes_21 : decode cX8_resizes 21 = .ok (.aload_n 0, 1) := by decide +kernel
theorem dX8_resizes_22 : decode cX8_resizes 22 = .ok (.iconst 2, 1) := by decide +kernel
theorem dX8_resizes_23 : decode cX8_resizes 23 = .ok (.invokevirtual 98, 3) := by decide +kernel
theorem dX8_resizes_26 : decode cX8_resizes 26 = .ok (.ireturn, 1) := by decide +kernel
theorem dX8_resizes_27 : decode cX8_resizes 27 = .ok (.aload_n 0, 1) := by decide +kernel
theorem dX8_resizes_28 : decode cX8_resizes 28 = .ok (.getfield 7, 3) := by decide +kernel
theorem dX8_resizes_31 : decode cX8_resizes 31 = .ok (.bipush 81, 2) := by decide +kernel
theorem dX8_resizes_33 : decode cX8_resizes 33 = .ok (.iload_n 1, 1) := by decide +kernel
theorem dX8_resizes_34 : decode cX8_resizes 34 = .ok (.iadd, 1) := by decide +kernel
theorem dX8_resizes_35 : decode cX8_resizes 35 = .ok (.iaload, 1) := by decide +kernel
theorem dX8_resizes_36 : decode cX8_resizes 36 = .ok (.iload_n 2, 1) := by decide +kernel
theorem dX8_resizes_37 : decode cX8_resizes 37 = .ok (.if_icmp .ne 11, 3) := by decide +kernel
theorem dX8_resizes_40 : decode cX8_resizes 40 = .ok (.aload_n 0, 1) := by decide +kernel
theorem dX8_resizes_41 : decode cX8_resizes 41 = .ok (.iconst 5, 1) := by decide +kernel
theorem dX8_resizes_42 : decode cX8_resizes 42 = .ok (.iload_n 2, 1) := by decide +kernel
theorem dX8_resizes_43 : decode cX8_resizes 43 = .ok (.iconst 3, 1) := by decide +kernel
theorem dX8_resizes_44 : decode cX8_resizes 44 = .ok (.invokevirtual 101, 3) := by decide +kernel
theorem dX8_resizes_47 : decode cX8_resizes 47 = .ok (.ireturn, 1) := by decide +kernel
theorem dX8_resizes_48 : decode cX8_resizes 48 = .ok (.aload_n 0, 1) := by decide +kernel
theorem dX8_resizes_49 : decode cX8_resizes 49 = .ok (.getfield 7, 3) := by decide +kernel
theorem dX8_resizes_52 : decode cX8_resizes 52 = .ok (.aload_n 0, 1) := by decide +kernel
theorem dX8_resizes_53 : decode cX8_resizes 53 = .ok (.getfield 7, 3) := by decide +kernel
theorem dX8_resizes_56 : decode cX8_resizes 56 = .ok (.bipush 97, 2) := by decide +kernel
theorem dX8_resizes_58 : decode cX8_resizes 58 = .ok (.iload_n 1, 1) := by decide +kernel
theorem dX8_resizes_59 : decode cX8_resizes 59 = .ok (.iadd, 1) := by decide +kernel
theorem dX8_resizes_60 : decode cX8_resizes 60 = .ok (.iaload, 1) := by decide +kernel
theorem dX8_resizes_61 : decode cX8_resizes 61 = .ok (.iaload, 1) := by decide +kernel
theorem dX8_resizes_62 : decode cX8_resizes 62 = .ok (.istore_n 3, 1) := by decide +kernel
theorem dX8_resizes_63 : decode cX8_resizes 63 = .ok (.iload_n 2, 1) := by decide +kernel
theorem dX8_resizes_64 : decode cX8_resizes 64 = .ok (.invokestatic 72, 3) := by decide +kernel
theorem dX8_resizes_67 : decode cX8_resizes 67 = .ok (.istore 4, 2) := by decide +kernel
theorem dX8_resizes_69 : decode cX8_resizes 69 = .ok (.aload_n 0, 1) := by decide +kernel
theorem dX8_resizes_70 : decode cX8_resizes 70 = .ok (.getfield 7, 3) := by decide +kernel
theorem dX8_resizes_73 : decode cX8_resizes 73 = .ok (.bipush 81, 2) := by decide +kernel
theorem dX8_resizes_75 : decode cX8_resizes 75 = .ok (.iload_n 1, 1) := by decide +kernel
theorem dX8_resizes_76 : decode cX8_resizes 76 = .ok (.iadd, 1) := by decide +kernel
theorem dX8_resizes_77 : decode cX8_resizes 77 = .ok (.iload_n 2, 1) := by decide +kernel
theorem dX8_resizes_78 : decode cX8_resizes 78 = .ok (.iastore, 1) := by decide +kernel
theorem dX8_resizes_79 : decode cX8_resizes 79 = .ok (.iload 4, 2) := by decide +kernel
theorem dX8_resizes_81 : decode cX8_resizes 81 = .ok (.iload_n 3, 1) := by decide +kernel
theorem dX8_resizes_82 : decode cX8_resizes 82 = .ok (.if_icmp .le 24, 3) := by decide +kernel
theorem dX8_resizes_85 : decode cX8_resizes 85 = .ok (.aload_n 0, 1) := by decide +kernel
theorem dX8_resizes_86 : decode cX8_resizes 86 = .ok (.iload_n 1, 1) := by decide +kernel
theorem dX8_resizes_87 : decode cX8_resizes 87 = .ok (.iload 4, 2) := by decide +kernel
theorem dX8_resizes_89 : decode cX8_resizes 89 = .ok (.invokevirtual 145, 3) := by decide +kernel
theorem dX8_resizes_92 : decode cX8_resizes 92 = .ok (.ifCond .ne 14, 3) := by decide +kernel
theorem dX8_resizes_95 : decode cX8_resizes 95 = .ok (.aload_n 0, 1) := by decide +kernel
theorem dX8_resizes_96 : decode cX8_resizes 96 = .ok (.iconst 2, 1) := by decide +kernel
theorem dX8_resizes_97 : decode cX8_resizes 97 = .ok (.aload_n 0, 1) := by decide +kernel
theorem dX8_resizes_98 : decode cX8_resizes 98 = .ok (.invokevirtual 108, 3) := by decide +kernel
theorem dX8_resizes_101 : decode cX8_resizes 101 = .ok (.iconst 3, 1) := by decide +kernel
theorem dX8_resizes_102 : decode cX8_resizes 102 = .ok (.invokevirtual 101, 3) := by decide +kernel
theorem dX8_resizes_105 : decode cX8_resizes 105 = .ok (.ireturn, 1) := by decide +kernel
theorem dX8_resizes_106 : decode cX8_resizes 106 = .ok (.iload 4, 2) := by decide +kernel
theorem dX8_resizes_108 : decode cX8_resizes 108 = .ok (.iload_n 3, 1) := by decide +kernel
theorem dX8_resizes_109 : decode cX8_resizes 109 = .ok (.if_icmp .ge 27, 3) := by decide +kernel
theorem dX8_resizes_112 : decode cX8_resizes 112 = .ok (.aload_n 0, 1) := by decide +kernel
theorem dX8_resizes_113 : decode cX8_resizes 113 = .ok (.getfield 7, 3) := by decide +kernel
theorem dX8_resizes_116 : decode cX8_resizes 116 = .ok (.bipush 97, 2) := by decide +kernel
theorem dX8_resizes_118 : decode cX8_resizes 118 = .ok (.iload_n 1, 1) := by decide +kernel
theorem dX8_resizes_119 : decode cX8_resizes 119 = .ok (.iadd, 1) := by decide +kernel
theorem dX8_resizes_120 : decode cX8_resizes 120 = .ok (.aload_n 0, 1) := by decide +kernel
theorem dX8_resizes_121 : decode cX8_resizes 121 = .ok (.aload_n 0, 1) := by decide +kernel
theorem dX8_resizes_122 : decode cX8_resizes 122 = .ok (.getfield 7, 3) := by decide +kernel
theorem dX8_resizes_125 : decode cX8_resizes 125 = .ok (.bipush 97, 2) := by decide +kernel
theorem dX8_resizes_127 : decode cX8_resizes 127 = .ok (.iload_n 1, 1) := by decide +kernel
theorem dX8_resizes_128 : decode cX8_resizes 128 = .ok (.iadd, 1) := by decide +kernel
theorem dX8_resizes_129 : decode cX8_resizes 129 = .ok (.iaload, 1) := by decide +kernel
theorem dX8_resizes_130 : decode cX8_resizes 130 = .ok (.iload 4, 2) := by decide +kernel
theorem dX8_resizes_132 : decode cX8_resizes 132 = .ok (.invokevirtual 78, 3) := by decide +kernel
theorem dX8_resizes_135 : decode cX8_resizes 135 = .ok (.iastore, 1) := by decide +kernel
theorem dX8_resizes_136 : decode cX8_resizes 136 = .ok (.aload_n 0, 1) := by decide +kernel
theorem dX8_resizes_137 : decode cX8_resizes 137 = .ok (.getfield 7, 3) := by decide +kernel
theorem dX8_resizes_140 : decode cX8_resizes 140 = .ok (.bipush 97, 2) := by decide +kernel
theorem dX8_resizes_142 : decode cX8_resizes 142 = .ok (.iload_n 1, 1) := by decide +kernel
theorem dX8_resizes_143 : decode cX8_resizes 143 = .ok (.iadd, 1) := by decide +kernel
theorem dX8_resizes_144 : decode cX8_resizes 144 = .ok (.iaload, 1) := by decide +kernel
theorem dX8_resizes_145 : decode cX8_resizes 145 = .ok (.istore 5, 2) := by decide +kernel
theorem dX8_resizes_147 : decode cX8_resizes 147 = .ok (.iload 4, 2) := by decide +kernel
theorem dX8_resizes_149 : decode cX8_resizes 149 = .ok (.iload_n 3, 1) := by decide +kernel
theorem dX8_resizes_150 : decode cX8_resizes 150 = .ok (.if_icmp .ne 7, 3) := by decide +kernel
theorem dX8_resizes_153 : decode cX8_resizes 153 = .ok (.iconst 0, 1) := by decide +kernel
theorem dX8_resizes_154 : decode cX8_resizes 154 = .ok (.goto 7, 3) := by decide +kernel
theorem dX8_resizes_157 : decode cX8_resizes 157 = .ok (.aload_n 0, 1) := by decide +kernel
theorem dX8_resizes_158 : decode cX8_resizes 158 = .ok (.invokevirtual 133, 3) := by decide +kernel
theorem dX8_resizes_161 : decode cX8_resizes 161 = .ok (.istore 6, 2) := by decide +kernel
theorem dX8_resizes_163 : decode cX8_resizes 163 = .ok (.aload_n 0, 1) := by decide +kernel
theorem dX8_resizes_164 : decode cX8_resizes 164 = .ok (.iload 5, 2) := by decide +kernel
theorem dX8_resizes_166 : decode cX8_resizes 166 = .ok (.invokevirtual 105, 3) := by decide +kernel
theorem dX8_resizes_169 : decode cX8_resizes 169 = .ok (.ireturn, 1) := by decide +kernel
theorem dX8_resize_0 : decode cX8_resize 0 = .ok (.aload_n 0, 1) := by decide +kernel
theorem dX8_resize_1 : decode cX8_resize 1 = .ok (.invokevirtual 112, 3) := by decide +kernel
theorem dX8_resize_4 : decode cX8_resize 4 = .ok (.aload_n 0, 1) := by decide +kernel
theorem dX8_resize_5 : decode cX8_resize 5 = .ok (.aload_n 0, 1) := by decide +kernel
theorem dX8_resize_6 : decode cX8_resize 6 = .ok (.iload_n 1, 1) := by decide +kernel
theorem dX8_resize_7 : decode cX8_resize 7 = .ok (.iload_n 2, 1) := by decide +kernel
theorem dX8_resize_8 : decode cX8_resize 8 = .ok (.invokevirtual 148, 3) := by decide +kernel
theorem dX8_resize_11 : decode cX8_resize 11 = .ok (.invokevirtual 118, 3) := by decide +kernel
theorem dX8_resize_14 : decode cX8_resize 14 = .ok (.ireturn, 1) := by decide +kernel
theorem dX8_wayIs_0 : decode cX8_wayIs 0 = .ok (.iload_n 1, 1) := by decide +kernel
theorem dX8_wayIs_1 : decode cX8_wayIs 1 = .ok (.iconst 0, 1) := by decide +kernel
theorem dX8_wayIs_2 : decode cX8_wayIs 2 = .ok (.iconst 2, 1) := by decide +kernel
theorem dX8_wayIs_3 : decode cX8_wayIs 3 = .ok (.invokestatic 56, 3) := by decide +kernel
theorem dX8_wayIs_6 : decode cX8_wayIs 6 = .ok (.ifCond .ne 9, 3) := by decide +kernel
theorem dX8_wayIs_9 : decode cX8_wayIs 9 = .ok (.aload_n 0, 1) := by decide +kernel
theorem dX8_wayIs_10 : decode cX8_wayIs 10 = .ok (.iconst 1, 1) := by decide +kernel
theorem dX8_wayIs_11 : decode cX8_wayIs 11 = .ok (.invokevirtual 98, 3) := by decide +kernel
theorem dX8_wayIs_14 : decode cX8_wayIs 14 = .ok (.ireturn, 1) := by decide +kernel
theorem dX8_wayIs_15 : decode cX8_wayIs 15 = .ok (.aload_n 0, 1) := by decide +kernel
theorem dX8_wayIs_16 : decode cX8_wayIs 16 = .ok (.getfield 7, 3) := by decide +kernel
theorem dX8_wayIs_19 : decode cX8_wayIs 19 = .ok (.bipush 126, 2) := by decide +kernel
theorem dX8_wayIs_21 : decode cX8_wayIs 21 = .ok (.iaload, 1) := by decide +kernel
theorem dX8_wayIs_22 : decode cX8_wayIs 22 = .ok (.istore_n 2, 1) := by decide +kernel
theorem dX8_wayIs_23 : decode cX8_wayIs 23 = .ok (.iload_n 2, 1) := by decide +kernel
theorem dX8_wayIs_24 : decode cX8_wayIs 24 = .ok (.iload_n 1, 1) := by decide +kernel
theorem dX8_wayIs_25 : decode cX8_wayIs 25 = .ok (.if_icmp .ne 11, 3) := by decide +kernel
theorem dX8_wayIs_28 : decode cX8_wayIs 28 = .ok (.aload_n 0, 1) := by decide +kernel
theorem dX8_wayIs_29 : decode cX8_wayIs 29 = .ok (.iconst 5, 1) := by decide +kernel
theorem dX8_wayIs_30 : decode cX8_wayIs 30 = .ok (.iload_n 1, 1) := by decide +kernel
theorem dX8_wayIs_31 : decode cX8_wayIs 31 = .ok (.iconst 2, 1) := by decide +kernel
theorem dX8_wayIs_32 : decode cX8_wayIs 32 = .ok (.invokevirtual 101, 3) := by decide +kernel
theorem dX8_wayIs_35 : decode cX8_wayIs 35 = .ok (.ireturn, 1) := by decide +kernel
theorem dX8_wayIs_36 : decode cX8_wayIs 36 = .ok (.aload_n 0, 1) := by decide +kernel
theorem dX8_wayIs_37 : decode cX8_wayIs 37 = .ok (.getfield 7, 3) := by decide +kernel
theorem dX8_wayIs_40 : decode cX8_wayIs 40 = .ok (.bipush 126, 2) := by decide +kernel
theorem dX8_wayIs_42 : decode cX8_wayIs 42 = .ok (.iload_n 1, 1) := by decide +kernel
theorem dX8_wayIs_43 : decode cX8_wayIs 43 = .ok (.iastore, 1) := by decide +kernel
theorem dX8_wayIs_44 : decode cX8_wayIs 44 = .ok (.aload_n 0, 1) := by decide +kernel
theorem dX8_wayIs_45 : decode cX8_wayIs 45 = .ok (.invokevirtual 133, 3) := by decide +kernel
theorem dX8_wayIs_48 : decode cX8_wayIs 48 = .ok (.istore_n 3, 1) := by decide +kernel
theorem dX8_wayIs_49 : decode cX8_wayIs 49 = .ok (.aload_n 0, 1) := by decide +kernel
theorem dX8_wayIs_50 : decode cX8_wayIs 50 = .ok (.iload_n 2, 1) := by decide +kernel
theorem dX8_wayIs_51 : decode cX8_wayIs 51 = .ok (.invokevirtual 105, 3) := by decide +kernel
theorem dX8_wayIs_54 : decode cX8_wayIs 54 = .ok (.ireturn, 1) := by decide +kernel
theorem dX8_way_0 : decode cX8_way 0 = .ok (.aload_n 0, 1) := by decide +kernel
theorem dX8_way_1 : decode cX8_way 1 = .ok (.invokevirtual 112, 3) := by decide +kernel
theorem dX8_way_4 : decode cX8_way 4 = .ok (.aload_n 0, 1) := by decide +kernel
theorem dX8_way_5 : decode cX8_way 5 = .ok (.aload_n 0, 1) := by decide +kernel
theorem dX8_way_6 : decode cX8_way 6 = .ok (.iload_n 1, 1) := by decide +kernel
theorem dX8_way_7 : decode cX8_way 7 = .ok (.invokevirtual 151, 3) := by decide +kernel
theorem dX8_way_10 : decode cX8_way 10 = .ok (.invokevirtual 118, 3) := by decide +kernel
theorem dX8_way_13 : decode cX8_way 13 = .ok (.ireturn, 1) := by decide +kernel
theorem dX8_forgets_0 : decode cX8_forgets 0 = .ok (.iload_n 1, 1) := by decide +kernel
theorem dX8_forgets_1 : decode cX8_forgets 1 = .ok (.iconst 0, 1) := by decide +kernel
theorem dX8_forgets_2 : decode cX8_forgets 2 = .ok (.aload_n 0, 1) := by decide +kernel
theorem dX8_forgets_3 : decode cX8_forgets 3 = .ok (.getfield 7, 3) := by decide +kernel
theorem dX8_forgets_6 : decode cX8_forgets 6 = .ok (.bipush 113, 2) := by decide +kernel
theorem dX8_forgets_8 : decode cX8_forgets 8 = .ok (.iaload, 1) := by decide +kernel
theorem dX8_forgets_9 : decode cX8_forgets 9 = .ok (.iconst 1, 1) := by decide +kernel
theorem dX8_forgets_10 : decode cX8_forgets 10 = .ok (.isub, 1) := by decide +kernel
theorem dX8_forgets_11 : decode cX8_forgets 11 = .ok (.invokestatic 56, 3) := by decide +kernel
theorem dX8_forgets_14 : decode cX8_forgets 14 = .ok (.ifCond .ne 9, 3) := by decide +kernel
theorem dX8_forgets_17 : decode cX8_forgets 17 = .ok (.aload_n 0, 1) := by decide +kernel
theorem dX8_forgets_18 : decode cX8_forgets 18 = .ok (.iconst 1, 1) := by decide +kernel
theorem dX8_forgets_19 : decode cX8_forgets 19 = .ok (.invokevirtual 98, 3) := by decide +kernel
theorem dX8_forgets_22 : decode cX8_forgets 22 = .ok (.ireturn, 1) := by decide +kernel
theorem dX8_forgets_23 : decode cX8_forgets 23 = .ok (.aload_n 0, 1) := by decide +kernel
theorem dX8_forgets_24 : decode cX8_forgets 24 = .ok (.iload_n 1, 1) := by decide +kernel
theorem dX8_forgets_25 : decode cX8_forgets 25 = .ok (.invokevirtual 88, 3) := by decide +kernel
theorem dX8_forgets_28 : decode cX8_forgets 28 = .ok (.aload_n 0, 1) := by decide +kernel
theorem dX8_forgets_29 : decode cX8_forgets 29 = .ok (.aload_n 0, 1) := by decide +kernel
theorem dX8_forgets_30 : decode cX8_forgets 30 = .ok (.getfield 7, 3) := by decide +kernel
theorem dX8_forgets_33 : decode cX8_forgets 33 = .ok (.bipush 113, 2) := by decide +kernel
theorem dX8_forgets_35 : decode cX8_forgets 35 = .ok (.iaload, 1) := by decide +kernel
theorem dX8_forgets_36 : decode cX8_forgets 36 = .ok (.invokevirtual 105, 3) := by decide +kernel
theorem dX8_forgets_39 : decode cX8_forgets 39 = .ok (.ireturn, 1) := by decide +kernel
theorem dX8_forget_0 : decode cX8_forget 0 = .ok (.aload_n 0, 1) := by decide +kernel
theorem dX8_forget_1 : decode cX8_forget 1 = .ok (.invokevirtual 112, 3) := by decide +kernel
theorem dX8_forget_4 : decode cX8_forget 4 = .ok (.aload_n 0, 1) := by decide +kernel
theorem dX8_forget_5 : decode cX8_forget 5 = .ok (.aload_n 0, 1) := by decide +kernel
theorem dX8_forget_6 : decode cX8_forget 6 = .ok (.iload_n 1, 1) := by decide +kernel
theorem dX8_forget_7 : decode cX8_forget 7 = .ok (.invokevirtual 154, 3) := by decide +kernel
theorem dX8_forget_10 : decode cX8_forget 10 = .ok (.invokevirtual 118, 3) := by decide +kernel
theorem dX8_forget_13 : decode cX8_forget 13 = .ok (.ireturn, 1) := by decide +kernel
theorem dX8_sizeOf_0 : decode cX8_sizeOf 0 = .ok (.aload_n 0, 1) := by decide +kernel
theorem dX8_sizeOf_1 : decode cX8_sizeOf 1 = .ok (.getfield 7, 3) := by decide +kernel
theorem dX8_sizeOf_4 : decode cX8_sizeOf 4 = .ok (.aload_n 0, 1) := by decide +kernel
theorem dX8_sizeOf_5 : decode cX8_sizeOf 5 = .ok (.getfield 7, 3) := by decide +kernel
theorem dX8_sizeOf_8 : decode cX8_sizeOf 8 = .ok (.bipush 97, 2) := by decide +kernel
theorem dX8_sizeOf_10 : decode cX8_sizeOf 10 = .ok (.iload_n 1, 1) := by decide +kernel
theorem dX8_sizeOf_11 : decode cX8_sizeOf 11 = .ok (.iadd, 1) := by decide +kernel
theorem dX8_sizeOf_12 : decode cX8_sizeOf 12 = .ok (.iaload, 1) := by decide +kernel
theorem dX8_sizeOf_13 : decode cX8_sizeOf 13 = .ok (.iaload, 1) := by decide +kernel
theorem dX8_sizeOf_14 : decode cX8_sizeOf 14 = .ok (.ireturn, 1) := by decide +kernel
theorem dX8_loanOf_0 : decode cX8_loanOf 0 = .ok (.aload_n 0, 1) := by decide +kernel
theorem dX8_loanOf_1 : decode cX8_loanOf 1 = .ok (.iload_n 1, 1) := by decide +kernel
theorem dX8_loanOf_2 : decode cX8_loanOf 2 = .ok (.invokevirtual 127, 3) := by decide +kernel
theorem dX8_loanOf_5 : decode cX8_loanOf 5 = .ok (.ifCond .ne 9, 3) := by decide +kernel
theorem dX8_loanOf_8 : decode cX8_loanOf 8 = .ok (.aload_n 0, 1) := by decide +kernel
theorem dX8_loanOf_9 : decode cX8_loanOf 9 = .ok (.iconst 1, 1) := by decide +kernel
theorem dX8_loanOf_10 : decode cX8_loanOf 10 = .ok (.invokevirtual 98, 3) := by decide +kernel
theorem dX8_loanOf_13 : decode cX8_loanOf 13 = .ok (.ireturn, 1) := by decide +kernel
theorem dX8_loanOf_14 : decode cX8_loanOf 14 = .ok (.iload_n 2, 1) := by decide +kernel
theorem dX8_loanOf_15 : decode cX8_loanOf 15 = .ok (.tableswitch 82 0 4 #[33, 33, 33, 52, 62], 33) := by decide +kernel
theorem dX8_loanOf_48 : decode cX8_loanOf 48 = .ok (.aload_n 0, 1) := by decide +kernel
theorem dX8_loanOf_49 : decode cX8_loanOf 49 = .ok (.aload_n 0, 1) := by decide +kernel
theorem dX8_loanOf_50 : decode cX8_loanOf 50 = .ok (.getfield 7, 3) := by decide +kernel
theorem dX8_loanOf_53 : decode cX8_loanOf 53 = .ok (.bipush 65, 2) := by decide +kernel
theorem dX8_loanOf_55 : decode cX8_loanOf 55 = .ok (.bipush 16, 2) := by decide +kernel
theorem dX8_loanOf_57 : decode cX8_loanOf 57 = .ok (.iload_n 2, 1) := by decide +kernel
theorem dX8_loanOf_58 : decode cX8_loanOf 58 = .ok (.imul, 1) := by decide +kernel
theorem dX8_loanOf_59 : decode cX8_loanOf 59 = .ok (.iadd, 1) := by decide +kernel
theorem dX8_loanOf_60 : decode cX8_loanOf 60 = .ok (.iload_n 1, 1) := by decide +kernel
theorem dX8_loanOf_61 : decode cX8_loanOf 61 = .ok (.iadd, 1) := by decide +kernel
theorem dX8_loanOf_62 : decode cX8_loanOf 62 = .ok (.iaload, 1) := by decide +kernel
theorem dX8_loanOf_63 : decode cX8_loanOf 63 = .ok (.invokevirtual 105, 3) := by decide +kernel
theorem dX8_loanOf_66 : decode cX8_loanOf 66 = .ok (.ireturn, 1) := by decide +kernel
theorem dX8_loanOf_67 : decode cX8_loanOf 67 = .ok (.aload_n 0, 1) := by decide +kernel
theorem dX8_loanOf_68 : decode cX8_loanOf 68 = .ok (.aload_n 0, 1) := by decide +kernel
theorem dX8_loanOf_69 : decode cX8_loanOf 69 = .ok (.iload_n 1, 1) := by decide +kernel
theorem dX8_loanOf_70 : decode cX8_loanOf 70 = .ok (.invokevirtual 157, 3) := by decide +kernel
theorem dX8_loanOf_73 : decode cX8_loanOf 73 = .ok (.invokevirtual 105, 3) := by decide +kernel
theorem dX8_loanOf_76 : decode cX8_loanOf 76 = .ok (.ireturn, 1) := by decide +kernel
theorem dX8_loanOf_77 : decode cX8_loanOf 77 = .ok (.aload_n 0, 1) := by decide +kernel
theorem dX8_loanOf_78 : decode cX8_loanOf 78 = .ok (.aload_n 0, 1) := by decide +kernel
theorem dX8_loanOf_79 : decode cX8_loanOf 79 = .ok (.iload_n 1, 1) := by decide +kernel
theorem dX8_loanOf_80 : decode cX8_loanOf 80 = .ok (.invokevirtual 157, 3) := by decide +kernel
theorem dX8_loanOf_83 : decode cX8_loanOf 83 = .ok (.aload_n 0, 1) := by decide +kernel
theorem dX8_loanOf_84 : decode cX8_loanOf 84 = .ok (.getfield 7, 3) := by decide +kernel
theorem dX8_loanOf_87 : decode cX8_loanOf 87 = .ok (.bipush 81, 2) := by decide +kernel
theorem dX8_loanOf_89 : decode cX8_loanOf 89 = .ok (.iload_n 1, 1) := by decide +kernel
theorem dX8_loanOf_90 : decode cX8_loanOf 90 = .ok (.iadd, 1) := by decide +kernel
theorem dX8_loanOf_91 : decode cX8_loanOf 91 = .ok (.iaload, 1) := by decide +kernel
theorem dX8_loanOf_92 : decode cX8_loanOf 92 = .ok (.isub, 1) := by decide +kernel
theorem dX8_loanOf_93 : decode cX8_loanOf 93 = .ok (.invokevirtual 105, 3) := by decide +kernel
theorem dX8_loanOf_96 : decode cX8_loanOf 96 = .ok (.ireturn, 1) := by decide +kernel
theorem dX8_loanOf_97 : decode cX8_loanOf 97 = .ok (.aload_n 0, 1) := by decide +kernel
theorem dX8_loanOf_98 : decode cX8_loanOf 98 = .ok (.iconst 2, 1) := by decide +kernel
theorem dX8_loanOf_99 : decode cX8_loanOf 99 = .ok (.invokevirtual 98, 3) := by decide +kernel
theorem dX8_loanOf_102 : decode cX8_loanOf 102 = .ok (.ireturn, 1) := by decide +kernel
theorem dX8_held_0 : decode cX8_held 0 = .ok (.iconst 0, 1) := by decide +kernel
theorem dX8_held_1 : decode cX8_held 1 = .ok (.istore_n 3, 1) := by decide +kernel
theorem dX8_held_2 : decode cX8_held 2 = .ok (.iconst 0, 1) := by decide +kernel
theorem dX8_held_3 : decode cX8_held 3 = .ok (.istore 4, 2) := by decide +kernel
theorem dX8_held_5 : decode cX8_held 5 = .ok (.iload 4, 2) := by decide +kernel
theorem dX8_held_7 : decode cX8_held 7 = .ok (.aload_n 0, 1) := by decide +kernel
theorem dX8_held_8 : decode cX8_held 8 = .ok (.getfield 7, 3) := by decide +kernel
theorem dX8_held_11 : decode cX8_held 11 = .ok (.bipush 64, 2) := by decide +kernel
theorem dX8_held_13 : decode cX8_held 13 = .ok (.iaload, 1) := by decide +kernel
theorem dX8_held_14 : decode cX8_held 14 = .ok (.if_icmp .ge 58, 3) := by decide +kernel
theorem dX8_held_17 : decode cX8_held 17 = .ok (.aload_n 0, 1) := by decide +kernel
theorem dX8_held_18 : decode cX8_held 18 = .ok (.getfield 7, 3) := by decide +kernel
theorem dX8_held_21 : decode cX8_held 21 = .ok (.bipush 65, 2) := by decide +kernel
theorem dX8_held_23 : decode cX8_held 23 = .ok (.iload 4, 2) := by decide +kernel
theorem dX8_held_25 : decode cX8_held 25 = .ok (.iadd, 1) := by decide +kernel
theorem dX8_held_26 : decode cX8_held 26 = .ok (.iaload, 1) := by decide +kernel
theorem dX8_held_27 : decode cX8_held 27 = .ok (.iload_n 1, 1) := by decide +kernel
theorem dX8_held_28 : decode cX8_held 28 = .ok (.if_icmp .ne 38, 3) := by decide +kernel
theorem dX8_held_31 : decode cX8_held 31 = .ok (.iload_n 3, 1) := by decide +kernel
theorem dX8_held_32 : decode cX8_held 32 = .ok (.iload_n 2, 1) := by decide +kernel
theorem dX8_held_33 : decode cX8_held 33 = .ok (.ifCond .ne 7, 3) := by decide +kernel
theorem dX8_held_36 : decode cX8_held 36 = .ok (.iconst 1, 1) := by decide +kernel
theorem dX8_held_37 : decode cX8_held 37 = .ok (.goto 27, 3) := by decide +kernel
theorem dX8_held_40 : decode cX8_held 40 = .ok (.iload_n 2, 1) := by decide +kernel
theorem dX8_held_41 : decode cX8_held 41 = .ok (.iconst 1, 1) := by decide +kernel
theorem dX8_held_42 : decode cX8_held 42 = .ok (.if_icmp .ne 16, 3) := by decide +kernel
theorem dX8_held_45 : decode cX8_held 45 = .ok (.aload_n 0, 1) := by decide +kernel
theorem dX8_held_46 : decode cX8_held 46 = .ok (.getfield 7, 3) := by decide +kernel
theorem dX8_held_49 : decode cX8_held 49 = .ok (.bipush 81, 2) := by decide +kernel
theorem dX8_held_51 : decode cX8_held 51 = .ok (.iload 4, 2) := by decide +kernel
theorem dX8_held_53 : decode cX8_held 53 = .ok (.iadd, 1) := by decide +kernel
theorem dX8_held_54 : decode cX8_held 54 = .ok (.iaload, 1) := by decide +kernel
theorem dX8_held_55 : decode cX8_held 55 = .ok (.goto 9, 3) := by decide +kernel
theorem dX8_held_58 : decode cX8_held 58 = .ok (.aload_n 0, 1) := by decide +kernel
theorem dX8_held_59 : decode cX8_held 59 = .ok (.iload 4, 2) := by decide +kernel
theorem dX8_held_61 : decode cX8_held 61 = .ok (.invokevirtual 157, 3) := by decide +kernel
theorem dX8_held_64 : decode cX8_held 64 = .ok (.iadd, 1) := by decide +kernel
theorem dX8_held_65 : decode cX8_held 65 = .ok (.istore_n 3, 1) := by decide +kernel
theorem dX8_held_66 : decode cX8_held 66 = .ok (.iinc 4 1, 3) := by decide +kernel
theorem dX8_held_69 : decode cX8_held 69 = .ok (.goto (-64), 3) := by decide +kernel
theorem dX8_held_72 : decode cX8_held 72 = .ok (.iload_n 3, 1) := by decide +kernel
theorem dX8_held_73 : decode cX8_held 73 = .ok (.ireturn, 1) := by decide +kernel
theorem dX8_nameOf_0 : decode cX8_nameOf 0 = .ok (.iload_n 1, 1) := by decide +kernel
theorem dX8_nameOf_1 : decode cX8_nameOf 1 = .ok (.invokestatic 92, 3) := by decide +kernel
theorem dX8_nameOf_4 : decode cX8_nameOf 4 = .ok (.ifCond .ne 9, 3) := by decide +kernel
theorem dX8_nameOf_7 : decode cX8_nameOf 7 = .ok (.aload_n 0, 1) := by decide +kernel
theorem dX8_nameOf_8 : decode cX8_nameOf 8 = .ok (.iconst 1, 1) := by decide +kernel
theorem dX8_nameOf_9 : decode cX8_nameOf 9 = .ok (.invokevirtual 98, 3) := by decide +kernel
theorem dX8_nameOf_12 : decode cX8_nameOf 12 = .ok (.ireturn, 1) := by decide +kernel
theorem dX8_nameOf_13 : decode cX8_nameOf 13 = .ok (.iload_n 2, 1) := by decide +kernel
theorem dX8_nameOf_14 : decode cX8_nameOf 14 = .ok (.iconst 0, 1) := by decide +kernel
theorem dX8_nameOf_15 : decode cX8_nameOf 15 = .ok (.iconst 3, 1) := by decide +kernel
theorem dX8_nameOf_16 : decode cX8_nameOf 16 = .ok (.invokestatic 56, 3) := by decide +kernel
theorem dX8_nameOf_19 : decode cX8_nameOf 19 = .ok (.ifCond .ne 9, 3) := by decide +kernel
theorem dX8_nameOf_22 : decode cX8_nameOf 22 = .ok (.aload_n 0, 1) := by decide +kernel
theorem dX8_nameOf_23 : decode cX8_nameOf 23 = .ok (.iconst 2, 1) := by decide +kernel
theorem dX8_nameOf_24 : decode cX8_nameOf 24 = .ok (.invokevirtual 98, 3) := by decide +kernel
theorem dX8_nameOf_27 : decode cX8_nameOf 27 = .ok (.ireturn, 1) := by decide +kernel
theorem dX8_nameOf_28 : decode cX8_nameOf 28 = .ok (.aload_n 0, 1) := by decide +kernel
theorem dX8_nameOf_29 : decode cX8_nameOf 29 = .ok (.iload_n 2, 1) := by decide +kernel
theorem dX8_nameOf_30 : decode cX8_nameOf 30 = .ok (.iconst 3, 1) := by decide +kernel
theorem dX8_nameOf_31 : decode cX8_nameOf 31 = .ok (.if_icmp .ne 11, 3) := by decide +kernel
theorem dX8_nameOf_34 : decode cX8_nameOf 34 = .ok (.aload_n 0, 1) := by decide +kernel
theorem dX8_nameOf_35 : decode cX8_nameOf 35 = .ok (.iload_n 1, 1) := by decide +kernel
theorem dX8_nameOf_36 : decode cX8_nameOf 36 = .ok (.invokevirtual 139, 3) := by decide +kernel
theorem dX8_nameOf_39 : decode cX8_nameOf 39 = .ok (.goto 9, 3) := by decide +kernel
theorem dX8_nameOf_42 : decode cX8_nameOf 42 = .ok (.aload_n 0, 1) := by decide +kernel
theorem dX8_nameOf_43 : decode cX8_nameOf 43 = .ok (.iload_n 1, 1) := by decide +kernel
theorem dX8_nameOf_44 : decode cX8_nameOf 44 = .ok (.iload_n 2, 1) := by decide +kernel
theorem dX8_nameOf_45 : decode cX8_nameOf 45 = .ok (.invokevirtual 160, 3) := by decide +kernel
theorem dX8_nameOf_48 : decode cX8_nameOf 48 = .ok (.invokevirtual 105, 3) := by decide +kernel
theorem dX8_nameOf_51 : decode cX8_nameOf 51 = .ok (.ireturn, 1) := by decide +kernel
theorem dX8_waitingOf_0 : decode cX8_waitingOf 0 = .ok (.iload_n 1, 1) := by decide +kernel
theorem dX8_waitingOf_1 : decode cX8_waitingOf 1 = .ok (.iconst 0, 1) := by decide +kernel
theorem dX8_waitingOf_2 : decode cX8_waitingOf 2 = .ok (.aload_n 0, 1) := by decide +kernel
theorem dX8_waitingOf_3 : decode cX8_waitingOf 3 = .ok (.getfield 7, 3) := by decide +kernel
theorem dX8_waitingOf_6 : decode cX8_waitingOf 6 = .ok (.bipush 113, 2) := by decide +kernel
theorem dX8_waitingOf_8 : decode cX8_waitingOf 8 = .ok (.iaload, 1) := by decide +kernel
theorem dX8_waitingOf_9 : decode cX8_waitingOf 9 = .ok (.iconst 1, 1) := by decide +kernel
theorem dX8_waitingOf_10 : decode cX8_waitingOf 10 = .ok (.isub, 1) := by decide +kernel
theorem dX8_waitingOf_11 : decode cX8_waitingOf 11 = .ok (.invokestatic 56, 3) := by decide +kernel
theorem dX8_waitingOf_14 : decode cX8_waitingOf 14 = .ok (.ifCond .ne 9, 3) := by decide +kernel
theorem dX8_waitingOf_17 : decode cX8_waitingOf 17 = .ok (.aload_n 0, 1) := by decide +kernel
theorem dX8_waitingOf_18 : decode cX8_waitingOf 18 = .ok (.iconst 1, 1) := by decide +kernel
theorem dX8_waitingOf_19 : decode cX8_waitingOf 19 = .ok (.invokevirtual 98, 3) := by decide +kernel
theorem dX8_waitingOf_22 : decode cX8_waitingOf 22 = .ok (.ireturn, 1) := by decide +kernel
theorem dX8_waitingOf_23 : decode cX8_waitingOf 23 = .ok (.iload_n 2, 1) := by decide +kernel
theorem dX8_waitingOf_24 : decode cX8_waitingOf 24 = .ok (.iconst 0, 1) := by decide +kernel
theorem dX8_waitingOf_25 : decode cX8_waitingOf 25 = .ok (.iconst 1, 1) := by decide +kernel
theorem dX8_waitingOf_26 : decode cX8_waitingOf 26 = .ok (.invokestatic 56, 3) := by decide +kernel
theorem dX8_waitingOf_29 : decode cX8_waitingOf 29 = .ok (.ifCond .eq 28, 3) := by decide +kernel
theorem dX8_waitingOf_32 : decode cX8_waitingOf 32 = .ok (.aload_n 0, 1) := by decide +kernel
theorem dX8_waitingOf_33 : decode cX8_waitingOf 33 = .ok (.aload_n 0, 1) := by decide +kernel
theorem dX8_waitingOf_34 : decode cX8_waitingOf 34 = .ok (.getfield 7, 3) := by decide +kernel
theorem dX8_waitingOf_37 : decode cX8_waitingOf 37 = .ok (.iload_n 2, 1) := by decide +kernel
theorem dX8_waitingOf_38 : decode cX8_waitingOf 38 = .ok (.ifCond .ne 8, 3) := by decide +kernel
theorem dX8_waitingOf_41 : decode cX8_waitingOf 41 = .ok (.bipush 114, 2) := by decide +kernel
theorem dX8_waitingOf_43 : decode cX8_waitingOf 43 = .ok (.goto 5, 3) := by decide +kernel
theorem dX8_waitingOf_46 : decode cX8_waitingOf 46 = .ok (.bipush 120, 2) := by decide +kernel
theorem dX8_waitingOf_48 : decode cX8_waitingOf 48 = .ok (.iload_n 1, 1) := by decide +kernel
theorem dX8_waitingOf_49 : decode cX8_waitingOf 49 = .ok (.iadd, 1) := by decide +kernel
theorem dX8_waitingOf_50 : decode cX8_waitingOf 50 = .ok (.iaload, 1) := by decide +kernel
theorem dX8_waitingOf_51 : decode cX8_waitingOf 51 = .ok (.invokevirtual 105, 3) := by decide +kernel
theorem dX8_waitingOf_54 : decode cX8_waitingOf 54 = .ok (.goto 8, 3) := by decide +kernel
theorem dX8_waitingOf_57 : decode cX8_waitingOf 57 = .ok (.aload_n 0, 1) := by decide +kernel
theorem dX8_waitingOf_58 : decode cX8_waitingOf 58 = .ok (.iconst 2, 1) := by decide +kernel
theorem dX8_waitingOf_59 : decode cX8_waitingOf 59 = .ok (.invokevirtual 98, 3) := by decide +kernel
theorem dX8_waitingOf_62 : decode cX8_waitingOf 62 = .ok (.ireturn, 1) := by decide +kernel
theorem dX8_startOf_0 : decode cX8_startOf 0 = .ok (.iload_n 1, 1) := by decide +kernel
theorem dX8_startOf_1 : decode cX8_startOf 1 = .ok (.istore_n 2, 1) := by decide +kernel
theorem dX8_startOf_2 : decode cX8_startOf 2 = .ok (.aload_n 0, 1) := by decide +kernel
theorem dX8_startOf_3 : decode cX8_startOf 3 = .ok (.getfield 7, 3) := by decide +kernel
theorem dX8_startOf_6 : decode cX8_startOf 6 = .ok (.iload_n 2, 1) := by decide +kernel
theorem dX8_startOf_7 : decode cX8_startOf 7 = .ok (.iaload, 1) := by decide +kernel
theorem dX8_startOf_8 : decode cX8_startOf 8 = .ok (.ifCond .ne 9, 3) := by decide +kernel
theorem dX8_startOf_11 : decode cX8_startOf 11 = .ok (.iinc 2 (-1), 3) := by decide +kernel
theorem dX8_startOf_14 : decode cX8_startOf 14 = .ok (.goto (-12), 3) := by decide +kernel
theorem dX8_startOf_17 : decode cX8_startOf 17 = .ok (.iload_n 2, 1) := by decide +kernel
theorem dX8_startOf_18 : decode cX8_startOf 18 = .ok (.ireturn, 1) := by decide +kernel
theorem dX8_pieceOf_0 : decode cX8_pieceOf 0 = .ok (.iload_n 1, 1) := by decide +kernel
theorem dX8_pieceOf_1 : decode cX8_pieceOf 1 = .ok (.iconst 0, 1) := by decide +kernel
theorem dX8_pieceOf_2 : decode cX8_pieceOf 2 = .ok (.bipush 63, 2) := by decide +kernel
theorem dX8_pieceOf_4 : decode cX8_pieceOf 4 = .ok (.invokestatic 56, 3) := by decide +kernel
theorem dX8_pieceOf_7 : decode cX8_pieceOf 7 = .ok (.ifCond .ne 9, 3) := by decide +kernel
theorem dX8_pieceOf_10 : decode cX8_pieceOf 10 = .ok (.aload_n 0, 1) := by decide +kernel
theorem dX8_pieceOf_11 : decode cX8_pieceOf 11 = .ok (.iconst 1, 1) := by decide +kernel
theorem dX8_pieceOf_12 : decode cX8_pieceOf 12 = .ok (.invokevirtual 98, 3) := by decide +kernel
theorem dX8_pieceOf_15 : decode cX8_pieceOf 15 = .ok (.ireturn, 1) := by decide +kernel
theorem dX8_pieceOf_16 : decode cX8_pieceOf 16 = .ok (.aload_n 0, 1) := by decide +kernel
theorem dX8_pieceOf_17 : decode cX8_pieceOf 17 = .ok (.iload_n 1, 1) := by decide +kernel
theorem dX8_pieceOf_18 : decode cX8_pieceOf 18 = .ok (.invokevirtual 163, 3) := by decide +kernel
theorem dX8_pieceOf_21 : decode cX8_pieceOf 21 = .ok (.istore_n 3, 1) := by decide +kernel
theorem dX8_pieceOf_22 : decode cX8_pieceOf 22 = .ok (.iload_n 2, 1) := by decide +kernel
theorem dX8_pieceOf_23 : decode cX8_pieceOf 23 = .ok (.tableswitch 84 0 3 #[29, 40, 46, 56], 29) := by decide +kernel
theorem dX8_pieceOf_52 : decode cX8_pieceOf 52 = .ok (.aload_n 0, 1) := by decide +kernel
theorem dX8_pieceOf_53 : decode cX8_pieceOf 53 = .ok (.aload_n 0, 1) := by decide +kernel
theorem dX8_pieceOf_54 : decode cX8_pieceOf 54 = .ok (.getfield 7, 3) := by decide +kernel
theorem dX8_pieceOf_57 : decode cX8_pieceOf 57 = .ok (.iload_n 3, 1) := by decide +kernel
theorem dX8_pieceOf_58 : decode cX8_pieceOf 58 = .ok (.iaload, 1) := by decide +kernel
theorem dX8_pieceOf_59 : decode cX8_pieceOf 59 = .ok (.invokevirtual 105, 3) := by decide +kernel
theorem dX8_pieceOf_62 : decode cX8_pieceOf 62 = .ok (.ireturn, 1) := by decide +kernel
theorem dX8_pieceOf_63 : decode cX8_pieceOf 63 = .ok (.aload_n 0, 1) := by decide +kernel
theorem dX8_pieceOf_64 : decode cX8_pieceOf 64 = .ok (.iload_n 3, 1) := by decide +kernel
theorem dX8_pieceOf_65 : decode cX8_pieceOf 65 = .ok (.invokevirtual 105, 3) := by decide +kernel
theorem dX8_pieceOf_68 : decode cX8_pieceOf 68 = .ok (.ireturn, 1) := by decide +kernel
theorem dX8_pieceOf_69 : decode cX8_pieceOf 69 = .ok (.aload_n 0, 1) := by decide +kernel
theorem dX8_pieceOf_70 : decode cX8_pieceOf 70 = .ok (.aload_n 0, 1) := by decide +kernel
theorem dX8_pieceOf_71 : decode cX8_pieceOf 71 = .ok (.iload_n 3, 1) := by decide +kernel
theorem dX8_pieceOf_72 : decode cX8_pieceOf 72 = .ok (.invokevirtual 60, 3) := by decide +kernel
theorem dX8_pieceOf_75 : decode cX8_pieceOf 75 = .ok (.invokevirtual 105, 3) := by decide +kernel
theorem dX8_pieceOf_78 : decode cX8_pieceOf 78 = .ok (.ireturn, 1) := by decide +kernel
theorem dX8_pieceOf_79 : decode cX8_pieceOf 79 = .ok (.aload_n 0, 1) := by decide +kernel
theorem dX8_pieceOf_80 : decode cX8_pieceOf 80 = .ok (.aload_n 0, 1) := by decide +kernel
theorem dX8_pieceOf_81 : decode cX8_pieceOf 81 = .ok (.getfield 7, 3) := by decide +kernel
theorem dX8_pieceOf_84 : decode cX8_pieceOf 84 = .ok (.iload_n 3, 1) := by decide +kernel
theorem dX8_pieceOf_85 : decode cX8_pieceOf 85 = .ok (.iaload, 1) := by decide +kernel
theorem dX8_pieceOf_86 : decode cX8_pieceOf 86 = .ok (.bipush 64, 2) := by decide +kernel
theorem dX8_pieceOf_88 : decode cX8_pieceOf 88 = .ok (.if_icmp .ne 7, 3) := by decide +kernel
theorem dX8_pieceOf_91 : decode cX8_pieceOf 91 = .ok (.iconst (-1), 1) := by decide +kernel
theorem dX8_pieceOf_92 : decode cX8_pieceOf 92 = .ok (.goto 11, 3) := by decide +kernel
theorem dX8_pieceOf_95 : decode cX8_pieceOf 95 = .ok (.iload_n 3, 1) := by decide +kernel
theorem dX8_pieceOf_96 : decode cX8_pieceOf 96 = .ok (.aload_n 0, 1) := by decide +kernel
theorem dX8_pieceOf_97 : decode cX8_pieceOf 97 = .ok (.getfield 7, 3) := by decide +kernel
theorem dX8_pieceOf_100 : decode cX8_pieceOf 100 = .ok (.iload_n 3, 1) := by decide +kernel
theorem dX8_pieceOf_101 : decode cX8_pieceOf 101 = .ok (.iaload, 1) := by decide +kernel
theorem dX8_pieceOf_102 : decode cX8_pieceOf 102 = .ok (.ixor, 1) := by decide +kernel
theorem dX8_pieceOf_103 : decode cX8_pieceOf 103 = .ok (.invokevirtual 105, 3) := by decide +kernel
theorem dX8_pieceOf_106 : decode cX8_pieceOf 106 = .ok (.ireturn, 1) := by decide +kernel
theorem dX8_pieceOf_107 : decode cX8_pieceOf 107 = .ok (.aload_n 0, 1) := by decide +kernel
theorem dX8_pieceOf_108 : decode cX8_pieceOf 108 = .ok (.iconst 2, 1) := by decide +kernel
theorem dX8_pieceOf_109 : decode cX8_pieceOf 109 = .ok (.invokevirtual 98, 3) := by decide +kernel
theorem dX8_pieceOf_112 : decode cX8_pieceOf 112 = .ok (.ireturn, 1) := by decide +kernel
theorem dX8_freeOf_0 : decode cX8_freeOf 0 = .ok (.iconst 0, 1) := by decide +kernel
theorem dX8_freeOf_1 : decode cX8_freeOf 1 = .ok (.istore_n 2, 1) := by decide +kernel
theorem dX8_freeOf_2 : decode cX8_freeOf 2 = .ok (.iconst 0, 1) := by decide +kernel
theorem dX8_freeOf_3 : decode cX8_freeOf 3 = .ok (.istore_n 3, 1) := by decide +kernel
theorem dX8_freeOf_4 : decode cX8_freeOf 4 = .ok (.iload_n 3, 1) := by decide +kernel
theorem dX8_freeOf_5 : decode cX8_freeOf 5 = .ok (.bipush 64, 2) := by decide +kernel
theorem dX8_freeOf_7 : decode cX8_freeOf 7 = .ok (.if_icmp .ge 35, 3) := by decide +kernel
theorem dX8_freeOf_10 : decode cX8_freeOf 10 = .ok (.iload_n 2, 1) := by decide +kernel
theorem dX8_freeOf_11 : decode cX8_freeOf 11 = .ok (.aload_n 0, 1) := by decide +kernel
theorem dX8_freeOf_12 : decode cX8_freeOf 12 = .ok (.iload_n 3, 1) := by decide +kernel
theorem dX8_freeOf_13 : decode cX8_freeOf 13 = .ok (.invokevirtual 64, 3) := by decide +kernel
theorem dX8_freeOf_16 : decode cX8_freeOf 16 = .ok (.ifCond .eq 17, 3) := by decide +kernel
theorem dX8_freeOf_19 : decode cX8_freeOf 19 = .ok (.aload_n 0, 1) := by decide +kernel
theorem dX8_freeOf_20 : decode cX8_freeOf 20 = .ok (.getfield 7, 3) := by decide +kernel
theorem dX8_freeOf_23 : decode cX8_freeOf 23 = .ok (.iload_n 3, 1) := by decide +kernel
theorem dX8_freeOf_24 : decode cX8_freeOf 24 = .ok (.iaload, 1) := by decide +kernel
theorem dX8_freeOf_25 : decode cX8_freeOf 25 = .ok (.iload_n 1, 1) := by decide +kernel
theorem dX8_freeOf_26 : decode cX8_freeOf 26 = .ok (.if_icmp .ne 7, 3) := by decide +kernel
theorem dX8_freeOf_29 : decode cX8_freeOf 29 = .ok (.iconst 1, 1) := by decide +kernel
theorem dX8_freeOf_30 : decode cX8_freeOf 30 = .ok (.goto 4, 3) := by decide +kernel
theorem dX8_freeOf_33 : decode cX8_freeOf 33 = .ok (.iconst 0, 1) := by decide +kernel
theorem dX8_freeOf_34 : decode cX8_freeOf 34 = .ok (.iadd, 1) := by decide +kernel
theorem dX8_freeOf_35 : decode cX8_freeOf 35 = .ok (.istore_n 2, 1) := by decide +kernel
theorem dX8_freeOf_36 : decode cX8_freeOf 36 = .ok (.iinc 3 1, 3) := by decide +kernel
theorem dX8_freeOf_39 : decode cX8_freeOf 39 = .ok (.goto (-35), 3) := by decide +kernel
theorem dX8_freeOf_42 : decode cX8_freeOf 42 = .ok (.iload_n 2, 1) := by decide +kernel
theorem dX8_freeOf_43 : decode cX8_freeOf 43 = .ok (.ireturn, 1) := by decide +kernel
theorem dX8_free_0 : decode cX8_free 0 = .ok (.iload_n 1, 1) := by decide +kernel
theorem dX8_free_1 : decode cX8_free 1 = .ok (.invokestatic 95, 3) := by decide +kernel
theorem dX8_free_4 : decode cX8_free 4 = .ok (.ifCond .eq 23, 3) := by decide +kernel
theorem dX8_free_7 : decode cX8_free 7 = .ok (.iload_n 1, 1) := by decide +kernel
theorem dX8_free_8 : decode cX8_free 8 = .ok (.invokestatic 72, 3) := by decide +kernel
theorem dX8_free_11 : decode cX8_free 11 = .ok (.iload_n 1, 1) := by decide +kernel
theorem dX8_free_12 : decode cX8_free 12 = .ok (.if_icmp .ne 15, 3) := by decide +kernel
theorem dX8_free_15 : decode cX8_free 15 = .ok (.aload_n 0, 1) := by decide +kernel
theorem dX8_free_16 : decode cX8_free 16 = .ok (.aload_n 0, 1) := by decide +kernel
theorem dX8_free_17 : decode cX8_free 17 = .ok (.iload_n 1, 1) := by decide +kernel
theorem dX8_free_18 : decode cX8_free 18 = .ok (.invokevirtual 166, 3) := by decide +kernel
theorem dX8_free_21 : decode cX8_free 21 = .ok (.invokevirtual 105, 3) := by decide +kernel
theorem dX8_free_24 : decode cX8_free 24 = .ok (.goto 8, 3) := by decide +kernel
theorem dX8_free_27 : decode cX8_free 27 = .ok (.aload_n 0, 1) := by decide +kernel
theorem dX8_free_28 : decode cX8_free 28 = .ok (.iconst 1, 1) := by decide +kernel
theorem dX8_free_29 : decode cX8_free 29 = .ok (.invokevirtual 98, 3) := by decide +kernel
theorem dX8_free_32 : decode cX8_free 32 = .ok (.ireturn, 1) := by decide +kernel
theorem dX8_greatest_0 : decode cX8_greatest 0 = .ok (.aload_n 0, 1) := by decide +kernel
theorem dX8_greatest_1 : decode cX8_greatest 1 = .ok (.invokevirtual 108, 3) := by decide +kernel
theorem dX8_greatest_4 : decode cX8_greatest 4 = .ok (.ifCond .ne 11, 3) := by decide +kernel
theorem dX8_greatest_7 : decode cX8_greatest 7 = .ok (.aload_n 0, 1) := by decide +kernel
theorem dX8_greatest_8 : decode cX8_greatest 8 = .ok (.iconst 1, 1) := by decide +kernel
theorem dX8_greatest_9 : decode cX8_greatest 9 = .ok (.invokevirtual 98, 3) := by decide +kernel
theorem dX8_greatest_12 : decode cX8_greatest 12 = .ok (.goto 11, 3) := by decide +kernel
theorem dX8_greatest_15 : decode cX8_greatest 15 = .ok (.aload_n 0, 1) := by decide +kernel
theorem dX8_greatest_16 : decode cX8_greatest 16 = .ok (.aload_n 0, 1) := by decide +kernel
theorem dX8_greatest_17 : decode cX8_greatest 17 = .ok (.invokevirtual 108, 3) := by decide +kernel
theorem dX8_greatest_20 : decode cX8_greatest 20 = .ok (.invokevirtual 105, 3) := by decide +kernel
theorem dX8_greatest_23 : decode cX8_greatest 23 = .ok (.ireturn, 1) := by decide +kernel
theorem dX8_would_0 : decode cX8_would 0 = .ok (.iload_n 1, 1) := by decide +kernel
theorem dX8_would_1 : decode cX8_would 1 = .ok (.invokestatic 95, 3) := by decide +kernel
theorem dX8_would_4 : decode cX8_would 4 = .ok (.ifCond .ne 9, 3) := by decide +kernel
theorem dX8_would_7 : decode cX8_would 7 = .ok (.aload_n 0, 1) := by decide +kernel
theorem dX8_would_8 : decode cX8_would 8 = .ok (.iconst 1, 1) := by decide +kernel
theorem dX8_would_9 : decode cX8_would 9 = .ok (.invokevirtual 98, 3) := by decide +kernel
theorem dX8_would_12 : decode cX8_would 12 = .ok (.ireturn, 1) := by decide +kernel
theorem dX8_would_13 : decode cX8_would 13 = .ok (.iload_n 1, 1) := by decide +kernel
theorem dX8_would_14 : decode cX8_would 14 = .ok (.invokestatic 72, 3) := by decide +kernel
theorem dX8_would_17 : decode cX8_would 17 = .ok (.istore_n 2, 1) := by decide +kernel
theorem dX8_would_18 : decode cX8_would 18 = .ok (.aload_n 0, 1) := by decide +kernel
theorem dX8_would_19 : decode cX8_would 19 = .ok (.iload_n 2, 1) := by decide +kernel
theorem dX8_would_20 : decode cX8_would 20 = .ok (.invokevirtual 75, 3) := by decide +kernel
theorem dX8_would_23 : decode cX8_would 23 = .ok (.istore_n 3, 1) := by decide +kernel
theorem dX8_would_24 : decode cX8_would 24 = .ok (.iload_n 3, 1) := by decide +kernel
theorem dX8_would_25 : decode cX8_would 25 = .ok (.iconst (-1), 1) := by decide +kernel
theorem dX8_would_26 : decode cX8_would 26 = .ok (.if_icmp .ne 11, 3) := by decide +kernel
theorem dX8_would_29 : decode cX8_would 29 = .ok (.aload_n 0, 1) := by decide +kernel
theorem dX8_would_30 : decode cX8_would 30 = .ok (.iconst 2, 1) := by decide +kernel
theorem dX8_would_31 : decode cX8_would 31 = .ok (.invokevirtual 98, 3) := by decide +kernel
theorem dX8_would_34 : decode cX8_would 34 = .ok (.goto 32, 3) := by decide +kernel
theorem dX8_would_37 : decode cX8_would 37 = .ok (.aload_n 0, 1) := by decide +kernel
theorem dX8_would_38 : decode cX8_would 38 = .ok (.aload_n 0, 1) := by decide +kernel
theorem dX8_would_39 : decode cX8_would 39 = .ok (.getfield 7, 3) := by decide +kernel
theorem dX8_would_42 : decode cX8_would 42 = .ok (.bipush 126, 2) := by decide +kernel
theorem dX8_would_44 : decode cX8_would 44 = .ok (.iaload, 1) := by decide +kernel
theorem dX8_would_45 : decode cX8_would 45 = .ok (.iconst 1, 1) := by decide +kernel
theorem dX8_would_46 : decode cX8_would 46 = .ok (.if_icmp .ne 16, 3) := by decide +kernel
theorem dX8_would_49 : decode cX8_would 49 = .ok (.iload_n 3, 1) := by decide +kernel
theorem dX8_would_50 : decode cX8_would 50 = .ok (.aload_n 0, 1) := by decide +kernel
theorem dX8_would_51 : decode cX8_would 51 = .ok (.getfield 7, 3) := by decide +kernel
theorem dX8_would_54 : decode cX8_would 54 = .ok (.iload_n 3, 1) := by decide +kernel
theorem dX8_would_55 : decode cX8_would 55 = .ok (.iaload, 1) := by decide +kernel
theorem dX8_would_56 : decode cX8_would 56 = .ok (.iadd, 1) := by decide +kernel
theorem dX8_would_57 : decode cX8_would 57 = .ok (.iload_n 2, 1) := by decide +kernel
theorem dX8_would_58 : decode cX8_would 58 = .ok (.isub, 1) := by decide +kernel
theorem dX8_would_59 : decode cX8_would 59 = .ok (.goto 4, 3) := by decide +kernel
theorem dX8_would_62 : decode cX8_would 62 = .ok (.iload_n 3, 1) := by decide +kernel
theorem dX8_would_63 : decode cX8_would 63 = .ok (.invokevirtual 105, 3) := by decide +kernel
theorem dX8_would_66 : decode cX8_would 66 = .ok (.ireturn, 1) := by decide +kernel
theorem dX8_cuts_0 : decode cX8_cuts 0 = .ok (.iload_n 1, 1) := by decide +kernel
theorem dX8_cuts_1 : decode cX8_cuts 1 = .ok (.invokestatic 95, 3) := by decide +kernel
theorem dX8_cuts_4 : decode cX8_cuts 4 = .ok (.ifCond .ne 9, 3) := by decide +kernel
theorem dX8_cuts_7 : decode cX8_cuts 7 = .ok (.aload_n 0, 1) := by decide +kernel
theorem dX8_cuts_8 : decode cX8_cuts 8 = .ok (.iconst 1, 1) := by decide +kernel
theorem dX8_cuts_9 : decode cX8_cuts 9 = .ok (.invokevirtual 98, 3) := by decide +kernel
theorem dX8_cuts_12 : decode cX8_cuts 12 = .ok (.ireturn, 1) := by decide +kernel
theorem dX8_cuts_13 : decode cX8_cuts 13 = .ok (.aload_n 0, 1) := by decide +kernel
theorem dX8_cuts_14 : decode cX8_cuts 14 = .ok (.iload_n 1, 1) := by decide +kernel
theorem dX8_cuts_15 : decode cX8_cuts 15 = .ok (.invokestatic 72, 3) := by decide +kernel
theorem dX8_cuts_18 : decode cX8_cuts 18 = .ok (.invokevirtual 75, 3) := by decide +kernel
theorem dX8_cuts_21 : decode cX8_cuts 21 = .ok (.istore_n 2, 1) := by decide +kernel
theorem dX8_cuts_22 : decode cX8_cuts 22 = .ok (.iload_n 2, 1) := by decide +kernel
theorem dX8_cuts_23 : decode cX8_cuts 23 = .ok (.iconst (-1), 1) := by decide +kernel
theorem dX8_cuts_24 : decode cX8_cuts 24 = .ok (.if_icmp .ne 9, 3) := by decide +kernel
theorem dX8_cuts_27 : decode cX8_cuts 27 = .ok (.aload_n 0, 1) := by decide +kernel
theorem dX8_cuts_28 : decode cX8_cuts 28 = .ok (.iconst 2, 1) := by decide +kernel
theorem dX8_cuts_29 : decode cX8_cuts 29 = .ok (.invokevirtual 98, 3) := by decide +kernel
theorem dX8_cuts_32 : decode cX8_cuts 32 = .ok (.ireturn, 1) := by decide +kernel
theorem dX8_cuts_33 : decode cX8_cuts 33 = .ok (.iconst 0, 1) := by decide +kernel
theorem dX8_cuts_34 : decode cX8_cuts 34 = .ok (.istore_n 3, 1) := by decide +kernel
theorem dX8_cuts_35 : decode cX8_cuts 35 = .ok (.aload_n 0, 1) := by decide +kernel
theorem dX8_cuts_36 : decode cX8_cuts 36 = .ok (.getfield 7, 3) := by decide +kernel
theorem dX8_cuts_39 : decode cX8_cuts 39 = .ok (.iload_n 2, 1) := by decide +kernel
theorem dX8_cuts_40 : decode cX8_cuts 40 = .ok (.iaload, 1) := by decide +kernel
theorem dX8_cuts_41 : decode cX8_cuts 41 = .ok (.istore 4, 2) := by decide +kernel
theorem dX8_cuts_43 : decode cX8_cuts 43 = .ok (.iload 4, 2) := by decide +kernel
theorem dX8_cuts_45 : decode cX8_cuts 45 = .ok (.iload_n 1, 1) := by decide +kernel
theorem dX8_cuts_46 : decode cX8_cuts 46 = .ok (.invokestatic 72, 3) := by decide +kernel
theorem dX8_cuts_49 : decode cX8_cuts 49 = .ok (.if_icmp .le 15, 3) := by decide +kernel
theorem dX8_cuts_52 : decode cX8_cuts 52 = .ok (.iinc 3 1, 3) := by decide +kernel
theorem dX8_cuts_55 : decode cX8_cuts 55 = .ok (.iload 4, 2) := by decide +kernel
theorem dX8_cuts_57 : decode cX8_cuts 57 = .ok (.iconst 2, 1) := by decide +kernel
theorem dX8_cuts_58 : decode cX8_cuts 58 = .ok (.idiv, 1) := by decide +kernel
theorem dX8_cuts_59 : decode cX8_cuts 59 = .ok (.istore 4, 2) := by decide +kernel
theorem dX8_cuts_61 : decode cX8_cuts 61 = .ok (.goto (-18), 3) := by decide +kernel
theorem dX8_cuts_64 : decode cX8_cuts 64 = .ok (.aload_n 0, 1) := by decide +kernel
theorem dX8_cuts_65 : decode cX8_cuts 65 = .ok (.iload_n 3, 1) := by decide +kernel
theorem dX8_cuts_66 : decode cX8_cuts 66 = .ok (.invokevirtual 105, 3) := by decide +kernel
theorem dX8_cuts_69 : decode cX8_cuts 69 = .ok (.ireturn, 1) := by decide +kernel
theorem dX8_fits_0 : decode cX8_fits 0 = .ok (.iload_n 1, 1) := by decide +kernel
theorem dX8_fits_1 : decode cX8_fits 1 = .ok (.invokestatic 95, 3) := by decide +kernel
theorem dX8_fits_4 : decode cX8_fits 4 = .ok (.ifCond .ne 9, 3) := by decide +kernel
theorem dX8_fits_7 : decode cX8_fits 7 = .ok (.aload_n 0, 1) := by decide +kernel
theorem dX8_fits_8 : decode cX8_fits 8 = .ok (.iconst 1, 1) := by decide +kernel
theorem dX8_fits_9 : decode cX8_fits 9 = .ok (.invokevirtual 98, 3) := by decide +kernel
theorem dX8_fits_12 : decode cX8_fits 12 = .ok (.ireturn, 1) := by decide +kernel
theorem dX8_fits_13 : decode cX8_fits 13 = .ok (.iconst 0, 1) := by decide +kernel
theorem dX8_fits_14 : decode cX8_fits 14 = .ok (.istore_n 2, 1) := by decide +kernel
theorem dX8_fits_15 : decode cX8_fits 15 = .ok (.iconst 0, 1) := by decide +kernel
theorem dX8_fits_16 : decode cX8_fits 16 = .ok (.istore_n 3, 1) := by decide +kernel
theorem dX8_fits_17 : decode cX8_fits 17 = .ok (.iload_n 3, 1) := by decide +kernel
theorem dX8_fits_18 : decode cX8_fits 18 = .ok (.bipush 64, 2) := by decide +kernel
theorem dX8_fits_20 : decode cX8_fits 20 = .ok (.if_icmp .ge 35, 3) := by decide +kernel
theorem dX8_fits_23 : decode cX8_fits 23 = .ok (.iload_n 2, 1) := by decide +kernel
theorem dX8_fits_24 : decode cX8_fits 24 = .ok (.aload_n 0, 1) := by decide +kernel
theorem dX8_fits_25 : decode cX8_fits 25 = .ok (.iload_n 3, 1) := by decide +kernel
theorem dX8_fits_26 : decode cX8_fits 26 = .ok (.invokevirtual 64, 3) := by decide +kernel
theorem dX8_fits_29 : decode cX8_fits 29 = .ok (.ifCond .eq 17, 3) := by decide +kernel
theorem dX8_fits_32 : decode cX8_fits 32 = .ok (.aload_n 0, 1) := by decide +kernel
theorem dX8_fits_33 : decode cX8_fits 33 = .ok (.getfield 7, 3) := by decide +kernel
theorem dX8_fits_36 : decode cX8_fits 36 = .ok (.iload_n 3, 1) := by decide +kernel
theorem dX8_fits_37 : decode cX8_fits 37 = .ok (.iaload, 1) := by decide +kernel
theorem dX8_fits_38 : decode cX8_fits 38 = .ok (.iload_n 1, 1) := by decide +kernel
theorem dX8_fits_39 : decode cX8_fits 39 = .ok (.invokestatic 72, 3) := by decide +kernel
theorem dX8_fits_42 : decode cX8_fits 42 = .ok (.idiv, 1) := by decide +kernel
theorem dX8_fits_43 : decode cX8_fits 43 = .ok (.goto 4, 3) := by decide +kernel
theorem dX8_fits_46 : decode cX8_fits 46 = .ok (.iconst 0, 1) := by decide +kernel
theorem dX8_fits_47 : decode cX8_fits 47 = .ok (.iadd, 1) := by decide +kernel
theorem dX8_fits_48 : decode cX8_fits 48 = .ok (.istore_n 2, 1) := by decide +kernel
theorem dX8_fits_49 : decode cX8_fits 49 = .ok (.iinc 3 1, 3) := by decide +kernel
theorem dX8_fits_52 : decode cX8_fits 52 = .ok (.goto (-35), 3) := by decide +kernel
theorem dX8_fits_55 : decode cX8_fits 55 = .ok (.aload_n 0, 1) := by decide +kernel
theorem dX8_fits_56 : decode cX8_fits 56 = .ok (.iload_n 2, 1) := by decide +kernel
theorem dX8_fits_57 : decode cX8_fits 57 = .ok (.invokevirtual 105, 3) := by decide +kernel
theorem dX8_fits_60 : decode cX8_fits 60 = .ok (.ireturn, 1) := by decide +kernel
theorem dX8_hole_0 : decode cX8_hole 0 = .ok (.iconst 0, 1) := by decide +kernel
theorem dX8_hole_1 : decode cX8_hole 1 = .ok (.istore_n 2, 1) := by decide +kernel
theorem dX8_hole_2 : decode cX8_hole 2 = .ok (.iconst 0, 1) := by decide +kernel
theorem dX8_hole_3 : decode cX8_hole 3 = .ok (.istore_n 3, 1) := by decide +kernel
theorem dX8_hole_4 : decode cX8_hole 4 = .ok (.iload_n 3, 1) := by decide +kernel
theorem dX8_hole_5 : decode cX8_hole 5 = .ok (.bipush 64, 2) := by decide +kernel
theorem dX8_hole_7 : decode cX8_hole 7 = .ok (.if_icmp .ge 31, 3) := by decide +kernel
theorem dX8_hole_10 : decode cX8_hole 10 = .ok (.aload_n 0, 1) := by decide +kernel
theorem dX8_hole_11 : decode cX8_hole 11 = .ok (.iload_n 3, 1) := by decide +kernel
theorem dX8_hole_12 : decode cX8_hole 12 = .ok (.invokevirtual 64, 3) := by decide +kernel
theorem dX8_hole_15 : decode cX8_hole 15 = .ok (.ifCond .eq 17, 3) := by decide +kernel
theorem dX8_hole_18 : decode cX8_hole 18 = .ok (.iload_n 2, 1) := by decide +kernel
theorem dX8_hole_19 : decode cX8_hole 19 = .ok (.iload_n 1, 1) := by decide +kernel
theorem dX8_hole_20 : decode cX8_hole 20 = .ok (.if_icmp .ne 9, 3) := by decide +kernel
theorem dX8_hole_23 : decode cX8_hole 23 = .ok (.aload_n 0, 1) := by decide +kernel
theorem dX8_hole_24 : decode cX8_hole 24 = .ok (.iload_n 3, 1) := by decide +kernel
theorem dX8_hole_25 : decode cX8_hole 25 = .ok (.invokevirtual 105, 3) := by decide +kernel
theorem dX8_hole_28 : decode cX8_hole 28 = .ok (.ireturn, 1) := by decide +kernel
theorem dX8_hole_29 : decode cX8_hole 29 = .ok (.iinc 2 1, 3) := by decide +kernel
theorem dX8_hole_32 : decode cX8_hole 32 = .ok (.iinc 3 1, 3) := by decide +kernel
theorem dX8_hole_35 : decode cX8_hole 35 = .ok (.goto (-31), 3) := by decide +kernel
theorem dX8_hole_38 : decode cX8_hole 38 = .ok (.aload_n 0, 1) := by decide +kernel
theorem dX8_hole_39 : decode cX8_hole 39 = .ok (.iconst 1, 1) := by decide +kernel
theorem dX8_hole_40 : decode cX8_hole 40 = .ok (.invokevirtual 98, 3) := by decide +kernel
theorem dX8_hole_43 : decode cX8_hole 43 = .ok (.ireturn, 1) := by decide +kernel
theorem dX8_loansIn_0 : decode cX8_loansIn 0 = .ok (.iconst 0, 1) := by decide +kernel
theorem dX8_loansIn_1 : decode cX8_loansIn 1 = .ok (.istore_n 3, 1) := by decide +kernel
theorem dX8_loansIn_2 : decode cX8_loansIn 2 = .ok (.iconst 0, 1) := by decide +kernel
theorem dX8_loansIn_3 : decode cX8_loansIn 3 = .ok (.istore 4, 2) := by decide +kernel
theorem dX8_loansIn_5 : decode cX8_loansIn 5 = .ok (.iload 4, 2) := by decide +kernel
theorem dX8_loansIn_7 : decode cX8_loansIn 7 = .ok (.aload_n 0, 1) := by decide +kernel
theorem dX8_loansIn_8 : decode cX8_loansIn 8 = .ok (.getfield 7, 3) := by decide +kernel
theorem dX8_loansIn_11 : decode cX8_loansIn 11 = .ok (.bipush 64, 2) := by decide +kernel
theorem dX8_loansIn_13 : decode cX8_loansIn 13 = .ok (.iaload, 1) := by decide +kernel
theorem dX8_loansIn_14 : decode cX8_loansIn 14 = .ok (.if_icmp .ge 51, 3) := by decide +kernel
theorem dX8_loansIn_17 : decode cX8_loansIn 17 = .ok (.aload_n 0, 1) := by decide +kernel
theorem dX8_loansIn_18 : decode cX8_loansIn 18 = .ok (.getfield 7, 3) := by decide +kernel
theorem dX8_loansIn_21 : decode cX8_loansIn 21 = .ok (.bipush 97, 2) := by decide +kernel
theorem dX8_loansIn_23 : decode cX8_loansIn 23 = .ok (.iload 4, 2) := by decide +kernel
theorem dX8_loansIn_25 : decode cX8_loansIn 25 = .ok (.iadd, 1) := by decide +kernel
theorem dX8_loansIn_26 : decode cX8_loansIn 26 = .ok (.iaload, 1) := by decide +kernel
theorem dX8_loansIn_27 : decode cX8_loansIn 27 = .ok (.istore 5, 2) := by decide +kernel
theorem dX8_loansIn_29 : decode cX8_loansIn 29 = .ok (.iload_n 3, 1) := by decide +kernel
theorem dX8_loansIn_30 : decode cX8_loansIn 30 = .ok (.iload 5, 2) := by decide +kernel
theorem dX8_loansIn_32 : decode cX8_loansIn 32 = .ok (.iload_n 1, 1) := by decide +kernel
theorem dX8_loansIn_33 : decode cX8_loansIn 33 = .ok (.iload_n 2, 1) := by decide +kernel
theorem dX8_loansIn_34 : decode cX8_loansIn 34 = .ok (.iadd, 1) := by decide +kernel
theorem dX8_loansIn_35 : decode cX8_loansIn 35 = .ok (.if_icmp .ge 21, 3) := by decide +kernel
theorem dX8_loansIn_38 : decode cX8_loansIn 38 = .ok (.iload_n 1, 1) := by decide +kernel
theorem dX8_loansIn_39 : decode cX8_loansIn 39 = .ok (.iload 5, 2) := by decide +kernel
theorem dX8_loansIn_41 : decode cX8_loansIn 41 = .ok (.aload_n 0, 1) := by decide +kernel
theorem dX8_loansIn_42 : decode cX8_loansIn 42 = .ok (.getfield 7, 3) := by decide +kernel
theorem dX8_loansIn_45 : decode cX8_loansIn 45 = .ok (.iload 5, 2) := by decide +kernel
theorem dX8_loansIn_47 : decode cX8_loansIn 47 = .ok (.iaload, 1) := by decide +kernel
theorem dX8_loansIn_48 : decode cX8_loansIn 48 = .ok (.iadd, 1) := by decide +kernel
theorem dX8_loansIn_49 : decode cX8_loansIn 49 = .ok (.if_icmp .ge 7, 3) := by decide +kernel
theorem dX8_loansIn_52 : decode cX8_loansIn 52 = .ok (.iconst 1, 1) := by decide +kernel
theorem dX8_loansIn_53 : decode cX8_loansIn 53 = .ok (.goto 4, 3) := by decide +kernel
theorem dX8_loansIn_56 : decode cX8_loansIn 56 = .ok (.iconst 0, 1) := by decide +kernel
theorem dX8_loansIn_57 : decode cX8_loansIn 57 = .ok (.iadd, 1) := by decide +kernel
theorem dX8_loansIn_58 : decode cX8_loansIn 58 = .ok (.istore_n 3, 1) := by decide +kernel
theorem dX8_loansIn_59 : decode cX8_loansIn 59 = .ok (.iinc 4 1, 3) := by decide +kernel
theorem dX8_loansIn_62 : decode cX8_loansIn 62 = .ok (.goto (-57), 3) := by decide +kernel
theorem dX8_loansIn_65 : decode cX8_loansIn 65 = .ok (.iload_n 3, 1) := by decide +kernel
theorem dX8_loansIn_66 : decode cX8_loansIn 66 = .ok (.ireturn, 1) := by decide +kernel
theorem dX8_inTheWay_0 : decode cX8_inTheWay 0 = .ok (.iload_n 1, 1) := by decide +kernel
theorem dX8_inTheWay_1 : decode cX8_inTheWay 1 = .ok (.invokestatic 95, 3) := by decide +kernel
theorem dX8_inTheWay_4 : decode cX8_inTheWay 4 = .ok (.ifCond .ne 9, 3) := by decide +kernel
theorem dX8_inTheWay_7 : decode cX8_inTheWay 7 = .ok (.aload_n 0, 1) := by decide +kernel
theorem dX8_inTheWay_8 : decode cX8_inTheWay 8 = .ok (.iconst 1, 1) := by decide +kernel
theorem dX8_inTheWay_9 : decode cX8_inTheWay 9 = .ok (.invokevirtual 98, 3) := by decide +kernel
theorem dX8_inTheWay_12 : decode cX8_inTheWay 12 = .ok (.ireturn, 1) := by decide +kernel
theorem dX8_inTheWay_13 : decode cX8_inTheWay 13 = .ok (.iload_n 1, 1) := by decide +kernel
theorem dX8_inTheWay_14 : decode cX8_inTheWay 14 = .ok (.invokestatic 72, 3) := by decide +kernel
theorem dX8_inTheWay_17 : decode cX8_inTheWay 17 = .ok (.istore_n 2, 1) := by decide +kernel
theorem dX8_inTheWay_18 : decode cX8_inTheWay 18 = .ok (.bipush 16, 2) := by decide +kernel
theorem dX8_inTheWay_20 : decode cX8_inTheWay 20 = .ok (.istore_n 3, 1) := by decide +kernel
theorem dX8_inTheWay_21 : decode cX8_inTheWay 21 = .ok (.iconst 0, 1) := by decide +kernel
theorem dX8_inTheWay_22 : decode cX8_inTheWay 22 = .ok (.istore 4, 2) := by decide +kernel
theorem dX8_inTheWay_24 : decode cX8_inTheWay 24 = .ok (.iload 4, 2) := by decide +kernel
theorem dX8_inTheWay_26 : decode cX8_inTheWay 26 = .ok (.bipush 64, 2) := by decide +kernel
theorem dX8_inTheWay_28 : decode cX8_inTheWay 28 = .ok (.if_icmp .ge 35, 3) := by decide +kernel
theorem dX8_inTheWay_31 : decode cX8_inTheWay 31 = .ok (.aload_n 0, 1) := by decide +kernel
theorem dX8_inTheWay_32 : decode cX8_inTheWay 32 = .ok (.iload 4, 2) := by decide +kernel
theorem dX8_inTheWay_34 : decode cX8_inTheWay 34 = .ok (.iload_n 2, 1) := by decide +kernel
theorem dX8_inTheWay_35 : decode cX8_inTheWay 35 = .ok (.invokevirtual 169, 3) := by decide +kernel
theorem dX8_inTheWay_38 : decode cX8_inTheWay 38 = .ok (.iload_n 3, 1) := by decide +kernel
theorem dX8_inTheWay_39 : decode cX8_inTheWay 39 = .ok (.if_icmp .ge 13, 3) := by decide +kernel
theorem dX8_inTheWay_42 : decode cX8_inTheWay 42 = .ok (.aload_n 0, 1) := by decide +kernel
theorem dX8_inTheWay_43 : decode cX8_inTheWay 43 = .ok (.iload 4, 2) := by decide +kernel
theorem dX8_inTheWay_45 : decode cX8_inTheWay 45 = .ok (.iload_n 2, 1) := by decide +kernel
theorem dX8_inTheWay_46 : decode cX8_inTheWay 46 = .ok (.invokevirtual 169, 3) := by decide +kernel
theorem dX8_inTheWay_49 : decode cX8_inTheWay 49 = .ok (.goto 4, 3) := by decide +kernel
theorem dX8_inTheWay_52 : decode cX8_inTheWay 52 = .ok (.iload_n 3, 1) := by decide +kernel
theorem dX8_inTheWay_53 : decode cX8_inTheWay 53 = .ok (.istore_n 3, 1) := by decide +kernel
theorem dX8_inTheWay_54 : decode cX8_inTheWay 54 = .ok (.iload 4, 2) := by decide +kernel
theorem dX8_inTheWay_56 : decode cX8_inTheWay 56 = .ok (.iload_n 2, 1) := by decide +kernel
theorem dX8_inTheWay_57 : decode cX8_inTheWay 57 = .ok (.iadd, 1) := by decide +kernel
theorem dX8_inTheWay_58 : decode cX8_inTheWay 58 = .ok (.istore 4, 2) := by decide +kernel
theorem dX8_inTheWay_60 : decode cX8_inTheWay 60 = .ok (.goto (-36), 3) := by decide +kernel
theorem dX8_inTheWay_63 : decode cX8_inTheWay 63 = .ok (.aload_n 0, 1) := by decide +kernel
theorem dX8_inTheWay_64 : decode cX8_inTheWay 64 = .ok (.iload_n 3, 1) := by decide +kernel
theorem dX8_inTheWay_65 : decode cX8_inTheWay 65 = .ok (.invokevirtual 105, 3) := by decide +kernel
theorem dX8_inTheWay_68 : decode cX8_inTheWay 68 = .ok (.ireturn, 1) := by decide +kernel
theorem dX8_ranked_0 : decode cX8_ranked 0 = .ok (.iconst 0, 1) := by decide +kernel
theorem dX8_ranked_1 : decode cX8_ranked 1 = .ok (.istore_n 2, 1) := by decide +kernel
theorem dX8_ranked_2 : decode cX8_ranked 2 = .ok (.iload_n 2, 1) := by decide +kernel
theorem dX8_ranked_3 : decode cX8_ranked 3 = .ok (.bipush 100, 2) := by decide +kernel
theorem dX8_ranked_5 : decode cX8_ranked 5 = .ok (.if_icmp .ge 87, 3) := by decide +kernel
theorem dX8_ranked_8 : decode cX8_ranked 8 = .ok (.aload_n 0, 1) := by decide +kernel
theorem dX8_ranked_9 : decode cX8_ranked 9 = .ok (.iload_n 2, 1) := by decide +kernel
theorem dX8_ranked_10 : decode cX8_ranked 10 = .ok (.iconst 0, 1) := by decide +kernel
theorem dX8_ranked_11 : decode cX8_ranked 11 = .ok (.invokevirtual 160, 3) := by decide +kernel
theorem dX8_ranked_14 : decode cX8_ranked 14 = .ok (.ifCond .le 72, 3) := by decide +kernel
theorem dX8_ranked_17 : decode cX8_ranked 17 = .ok (.iconst 0, 1) := by decide +kernel
theorem dX8_ranked_18 : decode cX8_ranked 18 = .ok (.istore_n 3, 1) := by decide +kernel
theorem dX8_ranked_19 : decode cX8_ranked 19 = .ok (.iconst 0, 1) := by decide +kernel
theorem dX8_ranked_20 : decode cX8_ranked 20 = .ok (.istore 4, 2) := by decide +kernel
theorem dX8_ranked_22 : decode cX8_ranked 22 = .ok (.iload 4, 2) := by decide +kernel
theorem dX8_ranked_24 : decode cX8_ranked 24 = .ok (.bipush 100, 2) := by decide +kernel
theorem dX8_ranked_26 : decode cX8_ranked 26 = .ok (.if_icmp .ge 49, 3) := by decide +kernel
theorem dX8_ranked_29 : decode cX8_ranked 29 = .ok (.aload_n 0, 1) := by decide +kernel
theorem dX8_ranked_30 : decode cX8_ranked 30 = .ok (.iload 4, 2) := by decide +kernel
theorem dX8_ranked_32 : decode cX8_ranked 32 = .ok (.iconst 2, 1) := by decide +kernel
theorem dX8_ranked_33 : decode cX8_ranked 33 = .ok (.invokevirtual 160, 3) := by decide +kernel
theorem dX8_ranked_36 : decode cX8_ranked 36 = .ok (.aload_n 0, 1) := by decide +kernel
theorem dX8_ranked_37 : decode cX8_ranked 37 = .ok (.iload_n 2, 1) := by decide +kernel
theorem dX8_ranked_38 : decode cX8_ranked 38 = .ok (.iconst 2, 1) := by decide +kernel
theorem dX8_ranked_39 : decode cX8_ranked 39 = .ok (.invokevirtual 160, 3) := by decide +kernel
theorem dX8_ranked_42 : decode cX8_ranked 42 = .ok (.isub, 1) := by decide +kernel
theorem dX8_ranked_43 : decode cX8_ranked 43 = .ok (.istore 5, 2) := by decide +kernel
theorem dX8_ranked_45 : decode cX8_ranked 45 = .ok (.iload_n 3, 1) := by decide +kernel
theorem dX8_ranked_46 : decode cX8_ranked 46 = .ok (.iload 5, 2) := by decide +kernel
theorem dX8_ranked_48 : decode cX8_ranked 48 = .ok (.ifCond .gt 14, 3) := by decide +kernel
theorem dX8_ranked_51 : decode cX8_ranked 51 = .ok (.iload 5, 2) := by decide +kernel
theorem dX8_ranked_53 : decode cX8_ranked 53 = .ok (.ifCond .ne 13, 3) := by decide +kernel
theorem dX8_ranked_56 : decode cX8_ranked 56 = .ok (.iload 4, 2) := by decide +kernel
theorem dX8_ranked_58 : decode cX8_ranked 58 = .ok (.iload_n 2, 1) := by decide +kernel
theorem dX8_ranked_59 : decode cX8_ranked 59 = .ok (.if_icmp .ge 7, 3) := by decide +kernel
theorem dX8_ranked_62 : decode cX8_ranked 62 = .ok (.iconst 1, 1) := by decide +kernel
theorem dX8_ranked_63 : decode cX8_ranked 63 = .ok (.goto 4, 3) := by decide +kernel
theorem dX8_ranked_66 : decode cX8_ranked 66 = .ok (.iconst 0, 1) := by decide +kernel
theorem dX8_ranked_67 : decode cX8_ranked 67 = .ok (.iadd, 1) := by decide +kernel
theorem dX8_ranked_68 : decode cX8_ranked 68 = .ok (.istore_n 3, 1) := by decide +kernel
theorem dX8_ranked_69 : decode cX8_ranked 69 = .ok (.iinc 4 1, 3) := by decide +kernel
theorem dX8_ranked_72 : decode cX8_ranked 72 = .ok (.goto (-50), 3) := by decide +kernel
theorem dX8_ranked_75 : decode cX8_ranked 75 = .ok (.iload_n 3, 1) := by decide +kernel
theorem dX8_ranked_76 : decode cX8_ranked 76 = .ok (.iload_n 1, 1) := by decide +kernel
theorem dX8_ranked_77 : decode cX8_ranked 77 = .ok (.if_icmp .ne 9, 3) := by decide +kernel
theorem dX8_ranked_80 : decode cX8_ranked 80 = .ok (.aload_n 0, 1) := by decide +kernel
theorem dX8_ranked_81 : decode cX8_ranked 81 = .ok (.iload_n 2, 1) := by decide +kernel
theorem dX8_ranked_82 : decode cX8_ranked 82 = .ok (.invokevirtual 105, 3) := by decide +kernel
theorem dX8_ranked_85 : decode cX8_ranked 85 = .ok (.ireturn, 1) := by decide +kernel
theorem dX8_ranked_86 : decode cX8_ranked 86 = .ok (.iinc 2 1, 3) := by decide +kernel
theorem dX8_ranked_89 : decode cX8_ranked 89 = .ok (.goto (-87), 3) := by decide +kernel
theorem dX8_ranked_92 : decode cX8_ranked 92 = .ok (.aload_n 0, 1) := by decide +kernel
theorem dX8_ranked_93 : decode cX8_ranked 93 = .ok (.iconst 1, 1) := by decide +kernel
theorem dX8_ranked_94 : decode cX8_ranked 94 = .ok (.invokevirtual 98, 3) := by decide +kernel
theorem dX8_ranked_97 : decode cX8_ranked 97 = .ok (.ireturn, 1) := by decide +kernel
theorem dX8_writes_0 : decode cX8_writes 0 = .ok (.aload_n 0, 1) := by decide +kernel
theorem dX8_writes_1 : decode cX8_writes 1 = .ok (.getfield 30, 3) := by decide +kernel
theorem dX8_writes_4 : decode cX8_writes 4 = .ok (.aload_n 0, 1) := by decide +kernel
theorem dX8_writes_5 : decode cX8_writes 5 = .ok (.getfield 172, 3) := by decide +kernel
theorem dX8_writes_8 : decode cX8_writes 8 = .ok (.iload_n 1, 1) := by decide +kernel
theorem dX8_writes_9 : decode cX8_writes 9 = .ok (.i2c, 1) := by decide +kernel
theorem dX8_writes_10 : decode cX8_writes 10 = .ok (.castore, 1) := by decide +kernel
theorem dX8_writes_11 : decode cX8_writes 11 = .ok (.aload_n 0, 1) := by decide +kernel
theorem dX8_writes_12 : decode cX8_writes 12 = .ok (.dup, 1) := by decide +kernel
theorem dX8_writes_13 : decode cX8_writes 13 = .ok (.getfield 172, 3) := by decide +kernel
theorem dX8_writes_16 : decode cX8_writes 16 = .ok (.iconst 1, 1) := by decide +kernel
theorem dX8_writes_17 : decode cX8_writes 17 = .ok (.iadd, 1) := by decide +kernel
theorem dX8_writes_18 : decode cX8_writes 18 = .ok (.putfield 172, 3) := by decide +kernel
theorem dX8_writes_21 : decode cX8_writes 21 = .ok (.return_, 1) := by decide +kernel
theorem dX8_writesNumber_0 : decode cX8_writesNumber 0 = .ok (.iload_n 1, 1) := by decide +kernel
theorem dX8_writesNumber_1 : decode cX8_writesNumber 1 = .ok (.bipush 9, 2) := by decide +kernel
theorem dX8_writesNumber_3 : decode cX8_writesNumber 3 = .ok (.if_icmp .le 14, 3) := by decide +kernel
theorem dX8_writesNumber_6 : decode cX8_writesNumber 6 = .ok (.aload_n 0, 1) := by decide +kernel
theorem dX8_writesNumber_7 : decode cX8_writesNumber 7 = .ok (.bipush 48, 2) := by decide +kernel
theorem dX8_writesNumber_9 : decode cX8_writesNumber 9 = .ok (.iload_n 1, 1) := by decide +kernel
theorem dX8_writesNumber_10 : decode cX8_writesNumber 10 = .ok (.bipush 10, 2) := by decide +kernel
theorem dX8_writesNumber_12 : decode cX8_writesNumber 12 = .ok (.idiv, 1) := by decide +kernel
theorem dX8_writesNumber_13 : decode cX8_writesNumber 13 = .ok (.iadd, 1) := by decide +kernel
theorem dX8_writesNumber_14 : decode cX8_writesNumber 14 = .ok (.invokevirtual 175, 3) := by decide +kernel
theorem dX8_writesNumber_17 : decode cX8_writesNumber 17 = .ok (.aload_n 0, 1) := by decide +kernel
theorem dX8_writesNumber_18 : decode cX8_writesNumber 18 = .ok (.bipush 48, 2) := by decide +kernel
theorem dX8_writesNumber_20 : decode cX8_writesNumber 20 = .ok (.iload_n 1, 1) := by decide +kernel
theorem dX8_writesNumber_21 : decode cX8_writesNumber 21 = .ok (.bipush 10, 2) := by decide +kernel
theorem dX8_writesNumber_23 : decode cX8_writesNumber 23 = .ok (.irem, 1) := by decide +kernel
theorem dX8_writesNumber_24 : decode cX8_writesNumber 24 = .ok (.iadd, 1) := by decide +kernel
theorem dX8_writesNumber_25 : decode cX8_writesNumber 25 = .ok (.invokevirtual 175, 3) := by decide +kernel
theorem dX8_writesNumber_28 : decode cX8_writesNumber 28 = .ok (.return_, 1) := by decide +kernel
theorem dX8_line_0 : decode cX8_line 0 = .ok (.aload_n 0, 1) := by decide +kernel
theorem dX8_line_1 : decode cX8_line 1 = .ok (.iconst 0, 1) := by decide +kernel
theorem dX8_line_2 : decode cX8_line 2 = .ok (.putfield 172, 3) := by decide +kernel
theorem dX8_line_5 : decode cX8_line 5 = .ok (.iconst 0, 1) := by decide +kernel
theorem dX8_line_6 : decode cX8_line 6 = .ok (.istore_n 1, 1) := by decide +kernel
theorem dX8_line_7 : decode cX8_line 7 = .ok (.iload_n 1, 1) := by decide +kernel
theorem dX8_line_8 : decode cX8_line 8 = .ok (.bipush 64, 2) := by decide +kernel
theorem dX8_line_10 : decode cX8_line 10 = .ok (.if_icmp .ge 73, 3) := by decide +kernel
theorem dX8_line_13 : decode cX8_line 13 = .ok (.aload_n 0, 1) := by decide +kernel
theorem dX8_line_14 : decode cX8_line 14 = .ok (.getfield 7, 3) := by decide +kernel
theorem dX8_line_17 : decode cX8_line 17 = .ok (.iload_n 1, 1) := by decide +kernel
theorem dX8_line_18 : decode cX8_line 18 = .ok (.iaload, 1) := by decide +kernel
theorem dX8_line_19 : decode cX8_line 19 = .ok (.ifCond .le 58, 3) := by decide +kernel
theorem dX8_line_22 : decode cX8_line 22 = .ok (.aload_n 0, 1) := by decide +kernel
theorem dX8_line_23 : decode cX8_line 23 = .ok (.getfield 172, 3) := by decide +kernel
theorem dX8_line_26 : decode cX8_line 26 = .ok (.ifCond .le 9, 3) := by decide +kernel
theorem dX8_line_29 : decode cX8_line 29 = .ok (.aload_n 0, 1) := by decide +kernel
theorem dX8_line_30 : decode cX8_line 30 = .ok (.bipush 32, 2) := by decide +kernel
theorem dX8_line_32 : decode cX8_line 32 = .ok (.invokevirtual 175, 3) := by decide +kernel
theorem dX8_line_35 : decode cX8_line 35 = .ok (.aload_n 0, 1) := by decide +kernel
theorem dX8_line_36 : decode cX8_line 36 = .ok (.aload_n 0, 1) := by decide +kernel
theorem dX8_line_37 : decode cX8_line 37 = .ok (.getfield 7, 3) := by decide +kernel
theorem dX8_line_40 : decode cX8_line 40 = .ok (.iload_n 1, 1) := by decide +kernel
theorem dX8_line_41 : decode cX8_line 41 = .ok (.iaload, 1) := by decide +kernel
theorem dX8_line_42 : decode cX8_line 42 = .ok (.invokevirtual 178, 3) := by decide +kernel
theorem dX8_line_45 : decode cX8_line 45 = .ok (.aload_n 0, 1) := by decide +kernel
theorem dX8_line_46 : decode cX8_line 46 = .ok (.iload_n 1, 1) := by decide +kernel
theorem dX8_line_47 : decode cX8_line 47 = .ok (.invokevirtual 60, 3) := by decide +kernel
theorem dX8_line_50 : decode cX8_line 50 = .ok (.istore_n 2, 1) := by decide +kernel
theorem dX8_line_51 : decode cX8_line 51 = .ok (.aload_n 0, 1) := by decide +kernel
theorem dX8_line_52 : decode cX8_line 52 = .ok (.iload_n 2, 1) := by decide +kernel
theorem dX8_line_53 : decode cX8_line 53 = .ok (.iconst (-1), 1) := by decide +kernel
theorem dX8_line_54 : decode cX8_line 54 = .ok (.if_icmp .ne 8, 3) := by decide +kernel
theorem dX8_line_57 : decode cX8_line 57 = .ok (.bipush 46, 2) := by decide +kernel
theorem dX8_line_59 : decode cX8_line 59 = .ok (.goto 5, 3) := by decide +kernel
theorem dX8_line_62 : decode cX8_line 62 = .ok (.bipush 61, 2) := by decide +kernel
theorem dX8_line_64 : decode cX8_line 64 = .ok (.invokevirtual 175, 3) := by decide +kernel
theorem dX8_line_67 : decode cX8_line 67 = .ok (.iload_n 2, 1) := by decide +kernel
theorem dX8_line_68 : decode cX8_line 68 = .ok (.iconst (-1), 1) := by decide +kernel
theorem dX8_line_69 : decode cX8_line 69 = .ok (.if_icmp .eq 8, 3) := by decide +kernel
theorem dX8_line_72 : decode cX8_line 72 = .ok (.aload_n 0, 1) := by decide +kernel
theorem dX8_line_73 : decode cX8_line 73 = .ok (.iload_n 2, 1) := by decide +kernel
theorem dX8_line_74 : decode cX8_line 74 = .ok (.invokevirtual 178, 3) := by decide +kernel
theorem dX8_line_77 : decode cX8_line 77 = .ok (.iinc 1 1, 3) := by decide +kernel
theorem dX8_line_80 : decode cX8_line 80 = .ok (.goto (-73), 3) := by decide +kernel
theorem dX8_line_83 : decode cX8_line 83 = .ok (.aload_n 0, 1) := by decide +kernel
theorem dX8_line_84 : decode cX8_line 84 = .ok (.aload_n 0, 1) := by decide +kernel
theorem dX8_line_85 : decode cX8_line 85 = .ok (.getfield 172, 3) := by decide +kernel
theorem dX8_line_88 : decode cX8_line 88 = .ok (.invokevirtual 105, 3) := by decide +kernel
theorem dX8_line_91 : decode cX8_line 91 = .ok (.ireturn, 1) := by decide +kernel
theorem dX8_map_0 : decode cX8_map 0 = .ok (.aload_n 0, 1) := by decide +kernel
theorem dX8_map_1 : decode cX8_map 1 = .ok (.iconst 0, 1) := by decide +kernel
theorem dX8_map_2 : decode cX8_map 2 = .ok (.putfield 172, 3) := by decide +kernel
theorem dX8_map_5 : decode cX8_map 5 = .ok (.iconst 0, 1) := by decide +kernel
theorem dX8_map_6 : decode cX8_map 6 = .ok (.istore_n 1, 1) := by decide +kernel
theorem dX8_map_7 : decode cX8_map 7 = .ok (.iload_n 1, 1) := by decide +kernel
theorem dX8_map_8 : decode cX8_map 8 = .ok (.bipush 64, 2) := by decide +kernel
theorem dX8_map_10 : decode cX8_map 10 = .ok (.if_icmp .ge 37, 3) := by decide +kernel
theorem dX8_map_13 : decode cX8_map 13 = .ok (.aload_n 0, 1) := by decide +kernel
theorem dX8_map_14 : decode cX8_map 14 = .ok (.aload_n 0, 1) := by decide +kernel
theorem dX8_map_15 : decode cX8_map 15 = .ok (.iload_n 1, 1) := by decide +kernel
theorem dX8_map_16 : decode cX8_map 16 = .ok (.invokevirtual 163, 3) := by decide +kernel
theorem dX8_map_19 : decode cX8_map 19 = .ok (.invokevirtual 60, 3) := by decide +kernel
theorem dX8_map_22 : decode cX8_map 22 = .ok (.istore_n 2, 1) := by decide +kernel
theorem dX8_map_23 : decode cX8_map 23 = .ok (.aload_n 0, 1) := by decide +kernel
theorem dX8_map_24 : decode cX8_map 24 = .ok (.iload_n 2, 1) := by decide +kernel
theorem dX8_map_25 : decode cX8_map 25 = .ok (.iconst (-1), 1) := by decide +kernel
theorem dX8_map_26 : decode cX8_map 26 = .ok (.if_icmp .ne 8, 3) := by decide +kernel
theorem dX8_map_29 : decode cX8_map 29 = .ok (.bipush 46, 2) := by decide +kernel
theorem dX8_map_31 : decode cX8_map 31 = .ok (.goto 7, 3) := by decide +kernel
theorem dX8_map_34 : decode cX8_map 34 = .ok (.bipush 97, 2) := by decide +kernel
theorem dX8_map_36 : decode cX8_map 36 = .ok (.iload_n 2, 1) := by decide +kernel
theorem dX8_map_37 : decode cX8_map 37 = .ok (.iadd, 1) := by decide +kernel
theorem dX8_map_38 : decode cX8_map 38 = .ok (.invokevirtual 175, 3) := by decide +kernel
theorem dX8_map_41 : decode cX8_map 41 = .ok (.iinc 1 1, 3) := by decide +kernel
theorem dX8_map_44 : decode cX8_map 44 = .ok (.goto (-37), 3) := by decide +kernel
theorem dX8_map_47 : decode cX8_map 47 = .ok (.aload_n 0, 1) := by decide +kernel
theorem dX8_map_48 : decode cX8_map 48 = .ok (.aload_n 0, 1) := by decide +kernel
theorem dX8_map_49 : decode cX8_map 49 = .ok (.getfield 172, 3) := by decide +kernel
theorem dX8_map_52 : decode cX8_map 52 = .ok (.invokevirtual 105, 3) := by decide +kernel
theorem dX8_map_55 : decode cX8_map 55 = .ok (.ireturn, 1) := by decide +kernel
theorem dX8_character_0 : decode cX8_character 0 = .ok (.aload_n 0, 1) := by decide +kernel
theorem dX8_character_1 : decode cX8_character 1 = .ok (.iload_n 1, 1) := by decide +kernel
theorem dX8_character_2 : decode cX8_character 2 = .ok (.iconst 0, 1) := by decide +kernel
theorem dX8_character_3 : decode cX8_character 3 = .ok (.aload_n 0, 1) := by decide +kernel
theorem dX8_character_4 : decode cX8_character 4 = .ok (.getfield 172, 3) := by decide +kernel
theorem dX8_character_7 : decode cX8_character 7 = .ok (.iconst 1, 1) := by decide +kernel
theorem dX8_character_8 : decode cX8_character 8 = .ok (.isub, 1) := by decide +kernel
theorem dX8_character_9 : decode cX8_character 9 = .ok (.invokestatic 56, 3) := by decide +kernel
theorem dX8_character_12 : decode cX8_character 12 = .ok (.ifCond .eq 7, 3) := by decide +kernel
theorem dX8_character_15 : decode cX8_character 15 = .ok (.iconst 0, 1) := by decide +kernel
theorem dX8_character_16 : decode cX8_character 16 = .ok (.goto 4, 3) := by decide +kernel
theorem dX8_character_19 : decode cX8_character 19 = .ok (.iconst 1, 1) := by decide +kernel
theorem dX8_character_20 : decode cX8_character 20 = .ok (.putfield 36, 3) := by decide +kernel
theorem dX8_character_23 : decode cX8_character 23 = .ok (.aload_n 0, 1) := by decide +kernel
theorem dX8_character_24 : decode cX8_character 24 = .ok (.getfield 36, 3) := by decide +kernel
theorem dX8_character_27 : decode cX8_character 27 = .ok (.ifCond .ne 12, 3) := by decide +kernel
theorem dX8_character_30 : decode cX8_character 30 = .ok (.aload_n 0, 1) := by decide +kernel
theorem dX8_character_31 : decode cX8_character 31 = .ok (.getfield 30, 3) := by decide +kernel
theorem dX8_character_34 : decode cX8_character 34 = .ok (.iload_n 1, 1) := by decide +kernel
theorem dX8_character_35 : decode cX8_character 35 = .ok (.caload, 1) := by decide +kernel
theorem dX8_character_36 : decode cX8_character 36 = .ok (.goto 4, 3) := by decide +kernel
theorem dX8_character_39 : decode cX8_character 39 = .ok (.iconst 0, 1) := by decide +kernel
theorem dX8_character_40 : decode cX8_character 40 = .ok (.ireturn, 1) := by decide +kernel
theorem dX8_append_0 : decode cX8_append 0 = .ok (.aload_n 0, 1) := by decide +kernel
theorem dX8_append_1 : decode cX8_append 1 = .ok (.getfield 181, 3) := by decide +kernel
theorem dX8_append_4 : decode cX8_append 4 = .ok (.bipush 60, 2) := by decide +kernel
theorem dX8_append_6 : decode cX8_append 6 = .ok (.if_icmp .ne 9, 3) := by decide +kernel
theorem dX8_append_9 : decode cX8_append 9 = .ok (.aload_n 0, 1) := by decide +kernel
theorem dX8_append_10 : decode cX8_append 10 = .ok (.iconst 1, 1) := by decide +kernel
theorem dX8_append_11 : decode cX8_append 11 = .ok (.invokevirtual 98, 3) := by decide +kernel
theorem dX8_append_14 : decode cX8_append 14 = .ok (.ireturn, 1) := by decide +kernel
theorem dX8_append_15 : decode cX8_append 15 = .ok (.aload_n 0, 1) := by decide +kernel
theorem dX8_append_16 : decode cX8_append 16 = .ok (.getfield 22, 3) := by decide +kernel
theorem dX8_append_19 : decode cX8_append 19 = .ok (.aload_n 0, 1) := by decide +kernel
theorem dX8_append_20 : decode cX8_append 20 = .ok (.getfield 181, 3) := by decide +kernel
theorem dX8_append_23 : decode cX8_append 23 = .ok (.iload_n 1, 1) := by decide +kernel
theorem dX8_append_24 : decode cX8_append 24 = .ok (.castore, 1) := by decide +kernel
theorem dX8_append_25 : decode cX8_append 25 = .ok (.aload_n 0, 1) := by decide +kernel
theorem dX8_append_26 : decode cX8_append 26 = .ok (.dup, 1) := by decide +kernel
theorem dX8_append_27 : decode cX8_append 27 = .ok (.getfield 181, 3) := by decide +kernel
theorem dX8_append_30 : decode cX8_append 30 = .ok (.iconst 1, 1) := by decide +kernel
theorem dX8_append_31 : decode cX8_append 31 = .ok (.iadd, 1) := by decide +kernel
theorem dX8_append_32 : decode cX8_append 32 = .ok (.putfield 181, 3) := by decide +kernel
theorem dX8_append_35 : decode cX8_append 35 = .ok (.aload_n 0, 1) := by decide +kernel
theorem dX8_append_36 : decode cX8_append 36 = .ok (.aload_n 0, 1) := by decide +kernel
theorem dX8_append_37 : decode cX8_append 37 = .ok (.getfield 181, 3) := by decide +kernel
theorem dX8_append_40 : decode cX8_append 40 = .ok (.invokevirtual 105, 3) := by decide +kernel
theorem dX8_append_43 : decode cX8_append 43 = .ok (.ireturn, 1) := by decide +kernel
theorem dX8_here_0 : decode cX8_here 0 = .ok (.aload_n 0, 1) := by decide +kernel
theorem dX8_here_1 : decode cX8_here 1 = .ok (.getfield 184, 3) := by decide +kernel
theorem dX8_here_4 : decode cX8_here 4 = .ok (.aload_n 0, 1) := by decide +kernel
theorem dX8_here_5 : decode cX8_here 5 = .ok (.getfield 181, 3) := by decide +kernel
theorem dX8_here_8 : decode cX8_here 8 = .ok (.if_icmp .ge 15, 3) := by decide +kernel
theorem dX8_here_11 : decode cX8_here 11 = .ok (.aload_n 0, 1) := by decide +kernel
theorem dX8_here_12 : decode cX8_here 12 = .ok (.getfield 22, 3) := by decide +kernel
theorem dX8_here_15 : decode cX8_here 15 = .ok (.aload_n 0, 1) := by decide +kernel
theorem dX8_here_16 : decode cX8_here 16 = .ok (.getfield 184, 3) := by decide +kernel
theorem dX8_here_19 : decode cX8_here 19 = .ok (.caload, 1) := by decide +kernel
theorem dX8_here_20 : decode cX8_here 20 = .ok (.goto 4, 3) := by decide +kernel
theorem dX8_here_23 : decode cX8_here 23 = .ok (.iconst (-1), 1) := by decide +kernel
theorem dX8_here_24 : decode cX8_here 24 = .ok (.ireturn, 1) := by decide +kernel
theorem dX8_figures_0 : decode cX8_figures 0 = .ok (.aload_n 0, 1) := by decide +kernel
theorem dX8_figures_1 : decode cX8_figures 1 = .ok (.aload_n 0, 1) := by decide +kernel
theorem dX8_figures_2 : decode cX8_figures 2 = .ok (.getfield 187, 3) := by decide +kernel
theorem dX8_figures_5 : decode cX8_figures 5 = .ok (.ifCond .ne 17, 3) := by decide +kernel
theorem dX8_figures_8 : decode cX8_figures 8 = .ok (.aload_n 0, 1) := by decide +kernel
theorem dX8_figures_9 : decode cX8_figures 9 = .ok (.invokevirtual 190, 3) := by decide +kernel
theorem dX8_figures_12 : decode cX8_figures 12 = .ok (.bipush 48, 2) := by decide +kernel
theorem dX8_figures_14 : decode cX8_figures 14 = .ok (.bipush 57, 2) := by decide +kernel
theorem dX8_figures_16 : decode cX8_figures 16 = .ok (.invokestatic 56, 3) := by decide +kernel
theorem dX8_figures_19 : decode cX8_figures 19 = .ok (.ifCond .ne 7, 3) := by decide +kernel
theorem dX8_figures_22 : decode cX8_figures 22 = .ok (.iconst 1, 1) := by decide +kernel
theorem dX8_figures_23 : decode cX8_figures 23 = .ok (.goto 4, 3) := by decide +kernel
theorem dX8_figures_26 : decode cX8_figures 26 = .ok (.iconst 0, 1) := by decide +kernel
theorem dX8_figures_27 : decode cX8_figures 27 = .ok (.putfield 187, 3) := by decide +kernel
theorem dX8_figures_30 : decode cX8_figures 30 = .ok (.iconst 0, 1) := by decide +kernel
theorem dX8_figures_31 : decode cX8_figures 31 = .ok (.istore_n 2, 1) := by decide +kernel
theorem dX8_figures_32 : decode cX8_figures 32 = .ok (.iconst 0, 1) := by decide +kernel
theorem dX8_figures_33 : decode cX8_figures 33 = .ok (.istore_n 3, 1) := by decide +kernel
theorem dX8_figures_34 : decode cX8_figures 34 = .ok (.aload_n 0, 1) := by decide +kernel
theorem dX8_figures_35 : decode cX8_figures 35 = .ok (.getfield 187, 3) := by decide +kernel
theorem dX8_figures_38 : decode cX8_figures 38 = .ok (.ifCond .ne 51, 3) := by decide +kernel
theorem dX8_figures_41 : decode cX8_figures 41 = .ok (.iload_n 3, 1) := by decide +kernel
theorem dX8_figures_42 : decode cX8_figures 42 = .ok (.iload_n 1, 1) := by decide +kernel
theorem dX8_figures_43 : decode cX8_figures 43 = .ok (.if_icmp .ge 46, 3) := by decide +kernel
theorem dX8_figures_46 : decode cX8_figures 46 = .ok (.aload_n 0, 1) := by decide +kernel
theorem dX8_figures_47 : decode cX8_figures 47 = .ok (.invokevirtual 190, 3) := by decide +kernel
theorem dX8_figures_50 : decode cX8_figures 50 = .ok (.bipush 48, 2) := by decide +kernel
theorem dX8_figures_52 : decode cX8_figures 52 = .ok (.bipush 57, 2) := by decide +kernel
theorem dX8_figures_54 : decode cX8_figures 54 = .ok (.invokestatic 56, 3) := by decide +kernel
theorem dX8_figures_57 : decode cX8_figures 57 = .ok (.ifCond .eq 32, 3) := by decide +kernel
theorem dX8_figures_60 : decode cX8_figures 60 = .ok (.bipush 10, 2) := by decide +kernel
theorem dX8_figures_62 : decode cX8_figures 62 = .ok (.iload_n 2, 1) := by decide +kernel
theorem dX8_figures_63 : decode cX8_figures 63 = .ok (.imul, 1) := by decide +kernel
theorem dX8_figures_64 : decode cX8_figures 64 = .ok (.aload_n 0, 1) := by decide +kernel
theorem dX8_figures_65 : decode cX8_figures 65 = .ok (.invokevirtual 190, 3) := by decide +kernel
theorem dX8_figures_68 : decode cX8_figures 68 = .ok (.iadd, 1) := by decide +kernel
theorem dX8_figures_69 : decode cX8_figures 69 = .ok (.bipush 48, 2) := by decide +kernel
theorem dX8_figures_71 : decode cX8_figures 71 = .ok (.isub, 1) := by decide +kernel
theorem dX8_figures_72 : decode cX8_figures 72 = .ok (.istore_n 2, 1) := by decide +kernel
theorem dX8_figures_73 : decode cX8_figures 73 = .ok (.aload_n 0, 1) := by decide +kernel
theorem dX8_figures_74 : decode cX8_figures 74 = .ok (.dup, 1) := by decide +kernel
theorem dX8_figures_75 : decode cX8_figures 75 = .ok (.getfield 184, 3) := by decide +kernel
theorem dX8_figures_78 : decode cX8_figures 78 = .ok (.iconst 1, 1) := by decide +kernel
theorem dX8_figures_79 : decode cX8_figures 79 = .ok (.iadd, 1) := by decide +kernel
theorem dX8_figures_80 : decode cX8_figures 80 = .ok (.putfield 184, 3) := by decide +kernel
theorem dX8_figures_83 : decode cX8_figures 83 = .ok (.iinc 3 1, 3) := by decide +kernel
theorem dX8_figures_86 : decode cX8_figures 86 = .ok (.goto (-52), 3) := by decide +kernel
theorem dX8_figures_89 : decode cX8_figures 89 = .ok (.iload_n 2, 1) := by decide +kernel
theorem dX8_figures_90 : decode cX8_figures 90 = .ok (.ireturn, 1) := by decide +kernel
theorem dX8_readsOrder_0 : decode cX8_readsOrder 0 = .ok (.aload_n 0, 1) := by decide +kernel
theorem dX8_readsOrder_1 : decode cX8_readsOrder 1 = .ok (.invokevirtual 190, 3) := by decide +kernel
theorem dX8_readsOrder_4 : decode cX8_readsOrder 4 = .ok (.istore_n 2, 1) := by decide +kernel
theorem dX8_readsOrder_5 : decode cX8_readsOrder 5 = .ok (.aload_n 0, 1) := by decide +kernel
theorem dX8_readsOrder_6 : decode cX8_readsOrder 6 = .ok (.dup, 1) := by decide +kernel
theorem dX8_readsOrder_7 : decode cX8_readsOrder 7 = .ok (.getfield 184, 3) := by decide +kernel
theorem dX8_readsOrder_10 : decode cX8_readsOrder 10 = .ok (.iconst 1, 1) := by decide +kernel
theorem dX8_readsOrder_11 : decode cX8_readsOrder 11 = .ok (.iadd, 1) := by decide +kernel
theorem dX8_readsOrder_12 : decode cX8_readsOrder 12 = .ok (.putfield 184, 3) := by decide +kernel
theorem dX8_readsOrder_15 : decode cX8_readsOrder 15 = .ok (.aload_n 0, 1) := by decide +kernel
theorem dX8_readsOrder_16 : decode cX8_readsOrder 16 = .ok (.getfield 33, 3) := by decide +kernel
theorem dX8_readsOrder_19 : decode cX8_readsOrder 19 = .ok (.iload_n 1, 1) := by decide +kernel
theorem dX8_readsOrder_20 : decode cX8_readsOrder 20 = .ok (.iload_n 2, 1) := by decide +kernel
theorem dX8_readsOrder_21 : decode cX8_readsOrder 21 = .ok (.iastore, 1) := by decide +kernel
theorem dX8_readsOrder_22 : decode cX8_readsOrder 22 = .ok (.iload_n 2, 1) := by decide +kernel
theorem dX8_readsOrder_23 : decode cX8_readsOrder 23 = .ok (.tableswitch 188 103 119 #[156, 188, 188, 188, 188, 81, 188, 156, 188, 188, 81, 81, 188, 188, 188, 188, 172], 81) := by decide +kernel
theorem dX8_readsOrder_104 : decode cX8_readsOrder 104 = .ok (.aload_n 0, 1) := by decide +kernel
theorem dX8_readsOrder_105 : decode cX8_readsOrder 105 = .ok (.getfield 33, 3) := by decide +kernel
theorem dX8_readsOrder_108 : decode cX8_readsOrder 108 = .ok (.iload_n 1, 1) := by decide +kernel
theorem dX8_readsOrder_109 : decode cX8_readsOrder 109 = .ok (.iconst 1, 1) := by decide +kernel
theorem dX8_readsOrder_110 : decode cX8_readsOrder 110 = .ok (.iadd, 1) := by decide +kernel
theorem dX8_readsOrder_111 : decode cX8_readsOrder 111 = .ok (.aload_n 0, 1) := by decide +kernel
theorem dX8_readsOrder_112 : decode cX8_readsOrder 112 = .ok (.iconst 2, 1) := by decide +kernel
theorem dX8_readsOrder_113 : decode cX8_readsOrder 113 = .ok (.invokevirtual 193, 3) := by decide +kernel
theorem dX8_readsOrder_116 : decode cX8_readsOrder 116 = .ok (.iastore, 1) := by decide +kernel
theorem dX8_readsOrder_117 : decode cX8_readsOrder 117 = .ok (.aload_n 0, 1) := by decide +kernel
theorem dX8_readsOrder_118 : decode cX8_readsOrder 118 = .ok (.aload_n 0, 1) := by decide +kernel
theorem dX8_readsOrder_119 : decode cX8_readsOrder 119 = .ok (.getfield 187, 3) := by decide +kernel
theorem dX8_readsOrder_122 : decode cX8_readsOrder 122 = .ok (.ifCond .ne 12, 3) := by decide +kernel
theorem dX8_readsOrder_125 : decode cX8_readsOrder 125 = .ok (.aload_n 0, 1) := by decide +kernel
theorem dX8_readsOrder_126 : decode cX8_readsOrder 126 = .ok (.invokevirtual 190, 3) := by decide +kernel
theorem dX8_readsOrder_129 : decode cX8_readsOrder 129 = .ok (.bipush 58, 2) := by decide +kernel
theorem dX8_readsOrder_131 : decode cX8_readsOrder 131 = .ok (.if_icmp .eq 7, 3) := by decide +kernel
theorem dX8_readsOrder_134 : decode cX8_readsOrder 134 = .ok (.iconst 1, 1) := by decide +kernel
theorem dX8_readsOrder_135 : decode cX8_readsOrder 135 = .ok (.goto 4, 3) := by decide +kernel
theorem dX8_readsOrder_138 : decode cX8_readsOrder 138 = .ok (.iconst 0, 1) := by decide +kernel
theorem dX8_readsOrder_139 : decode cX8_readsOrder 139 = .ok (.putfield 187, 3) := by decide +kernel
theorem dX8_readsOrder_142 : decode cX8_readsOrder 142 = .ok (.aload_n 0, 1) := by decide +kernel
theorem dX8_readsOrder_143 : decode cX8_readsOrder 143 = .ok (.dup, 1) := by decide +kernel
theorem dX8_readsOrder_144 : decode cX8_readsOrder 144 = .ok (.getfield 184, 3) := by decide +kernel
theorem dX8_readsOrder_147 : decode cX8_readsOrder 147 = .ok (.aload_n 0, 1) := by decide +kernel
theorem dX8_readsOrder_148 : decode cX8_readsOrder 148 = .ok (.getfield 187, 3) := by decide +kernel
theorem dX8_readsOrder_151 : decode cX8_readsOrder 151 = .ok (.ifCond .eq 7, 3) := by decide +kernel
theorem dX8_readsOrder_154 : decode cX8_readsOrder 154 = .ok (.iconst 0, 1) := by decide +kernel
theorem dX8_readsOrder_155 : decode cX8_readsOrder 155 = .ok (.goto 4, 3) := by decide +kernel
theorem dX8_readsOrder_158 : decode cX8_readsOrder 158 = .ok (.iconst 1, 1) := by decide +kernel
theorem dX8_readsOrder_159 : decode cX8_readsOrder 159 = .ok (.iadd, 1) := by decide +kernel
theorem dX8_readsOrder_160 : decode cX8_readsOrder 160 = .ok (.putfield 184, 3) := by decide +kernel
theorem dX8_readsOrder_163 : decode cX8_readsOrder 163 = .ok (.aload_n 0, 1) := by decide +kernel
theorem dX8_readsOrder_164 : decode cX8_readsOrder 164 = .ok (.getfield 33, 3) := by decide +kernel
theorem dX8_readsOrder_167 : decode cX8_readsOrder 167 = .ok (.iload_n 1, 1) := by decide +kernel
theorem dX8_readsOrder_168 : decode cX8_readsOrder 168 = .ok (.iconst 2, 1) := by decide +kernel
theorem dX8_readsOrder_169 : decode cX8_readsOrder 169 = .ok (.iadd, 1) := by decide +kernel
theorem dX8_readsOrder_170 : decode cX8_readsOrder 170 = .ok (.aload_n 0, 1) := by decide +kernel
theorem dX8_readsOrder_171 : decode cX8_readsOrder 171 = .ok (.iconst 2, 1) := by decide +kernel
theorem dX8_readsOrder_172 : decode cX8_readsOrder 172 = .ok (.invokevirtual 193, 3) := by decide +kernel
theorem dX8_readsOrder_175 : decode cX8_readsOrder 175 = .ok (.iastore, 1) := by decide +kernel
theorem dX8_readsOrder_176 : decode cX8_readsOrder 176 = .ok (.goto 50, 3) := by decide +kernel
theorem dX8_readsOrder_179 : decode cX8_readsOrder 179 = .ok (.aload_n 0, 1) := by decide +kernel
theorem dX8_readsOrder_180 : decode cX8_readsOrder 180 = .ok (.getfield 33, 3) := by decide +kernel
theorem dX8_readsOrder_183 : decode cX8_readsOrder 183 = .ok (.iload_n 1, 1) := by decide +kernel
theorem dX8_readsOrder_184 : decode cX8_readsOrder 184 = .ok (.iconst 1, 1) := by decide +kernel
theorem dX8_readsOrder_185 : decode cX8_readsOrder 185 = .ok (.iadd, 1) := by decide +kernel
theorem dX8_readsOrder_186 : decode cX8_readsOrder 186 = .ok (.aload_n 0, 1) := by decide +kernel
theorem dX8_readsOrder_187 : decode cX8_readsOrder 187 = .ok (.iconst 2, 1) := by decide +kernel
theorem dX8_readsOrder_188 : decode cX8_readsOrder 188 = .ok (.invokevirtual 193, 3) := by decide +kernel
theorem dX8_readsOrder_191 : decode cX8_readsOrder 191 = .ok (.iastore, 1) := by decide +kernel
theorem dX8_readsOrder_192 : decode cX8_readsOrder 192 = .ok (.goto 34, 3) := by decide +kernel
theorem dX8_readsOrder_195 : decode cX8_readsOrder 195 = .ok (.aload_n 0, 1) := by decide +kernel
theorem dX8_readsOrder_196 : decode cX8_readsOrder 196 = .ok (.getfield 33, 3) := by decide +kernel
theorem dX8_readsOrder_199 : decode cX8_readsOrder 199 = .ok (.iload_n 1, 1) := by decide +kernel
theorem dX8_readsOrder_200 : decode cX8_readsOrder 200 = .ok (.iconst 1, 1) := by decide +kernel
theorem dX8_readsOrder_201 : decode cX8_readsOrder 201 = .ok (.iadd, 1) := by decide +kernel
theorem dX8_readsOrder_202 : decode cX8_readsOrder 202 = .ok (.aload_n 0, 1) := by decide +kernel
theorem dX8_readsOrder_203 : decode cX8_readsOrder 203 = .ok (.iconst 1, 1) := by decide +kernel
theorem dX8_readsOrder_204 : decode cX8_readsOrder 204 = .ok (.invokevirtual 193, 3) := by decide +kernel
theorem dX8_readsOrder_207 : decode cX8_readsOrder 207 = .ok (.iastore, 1) := by decide +kernel
theorem dX8_readsOrder_208 : decode cX8_readsOrder 208 = .ok (.goto 18, 3) := by decide +kernel
theorem dX8_readsOrder_211 : decode cX8_readsOrder 211 = .ok (.aload_n 0, 1) := by decide +kernel
theorem dX8_readsOrder_212 : decode cX8_readsOrder 212 = .ok (.iconst 1, 1) := by decide +kernel
theorem dX8_readsOrder_213 : decode cX8_readsOrder 213 = .ok (.putfield 187, 3) := by decide +kernel
theorem dX8_readsOrder_216 : decode cX8_readsOrder 216 = .ok (.aload_n 0, 1) := by decide +kernel
theorem dX8_readsOrder_217 : decode cX8_readsOrder 217 = .ok (.dup, 1) := by decide +kernel
theorem dX8_readsOrder_218 : decode cX8_readsOrder 218 = .ok (.getfield 184, 3) := by decide +kernel
theorem dX8_readsOrder_221 : decode cX8_readsOrder 221 = .ok (.iconst 1, 1) := by decide +kernel
theorem dX8_readsOrder_222 : decode cX8_readsOrder 222 = .ok (.isub, 1) := by decide +kernel
theorem dX8_readsOrder_223 : decode cX8_readsOrder 223 = .ok (.putfield 184, 3) := by decide +kernel
theorem dX8_readsOrder_226 : decode cX8_readsOrder 226 = .ok (.return_, 1) := by decide +kernel
theorem dX8_does_0 : decode cX8_does 0 = .ok (.aload_n 0, 1) := by decide +kernel
theorem dX8_does_1 : decode cX8_does 1 = .ok (.getfield 33, 3) := by decide +kernel
theorem dX8_does_4 : decode cX8_does 4 = .ok (.iload_n 1, 1) := by decide +kernel
theorem dX8_does_5 : decode cX8_does 5 = .ok (.iconst 1, 1) := by decide +kernel
theorem dX8_does_6 : decode cX8_does 6 = .ok (.iadd, 1) := by decide +kernel
theorem dX8_does_7 : decode cX8_does 7 = .ok (.iaload, 1) := by decide +kernel
theorem dX8_does_8 : decode cX8_does 8 = .ok (.istore_n 2, 1) := by decide +kernel
theorem dX8_does_9 : decode cX8_does 9 = .ok (.aload_n 0, 1) := by decide +kernel
theorem dX8_does_10 : decode cX8_does 10 = .ok (.getfield 33, 3) := by decide +kernel
theorem dX8_does_13 : decode cX8_does 13 = .ok (.iload_n 1, 1) := by decide +kernel
theorem dX8_does_14 : decode cX8_does 14 = .ok (.iconst 2, 1) := by decide +kernel
theorem dX8_does_15 : decode cX8_does 15 = .ok (.iadd, 1) := by decide +kernel
theorem dX8_does_16 : decode cX8_does 16 = .ok (.iaload, 1) := by decide +kernel
theorem dX8_does_17 : decode cX8_does 17 = .ok (.istore_n 3, 1) := by decide +kernel
theorem dX8_does_18 : decode cX8_does 18 = .ok (.aload_n 0, 1) := by decide +kernel
theorem dX8_does_19 : decode cX8_does 19 = .ok (.getfield 33, 3) := by decide +kernel
theorem dX8_does_22 : decode cX8_does 22 = .ok (.iload_n 1, 1) := by decide +kernel
theorem dX8_does_23 : decode cX8_does 23 = .ok (.iaload, 1) := by decide +kernel
theorem dX8_does_24 : decode cX8_does 24 = .ok (.tableswitch 97 103 114 #[85, 97, 97, 97, 97, 64, 97, 91, 97, 97, 71, 78], 64) := by decide +kernel
theorem dX8_does_88 : decode cX8_does 88 = .ok (.aload_n 0, 1) := by decide +kernel
theorem dX8_does_89 : decode cX8_does 89 = .ok (.iload_n 2, 1) := by decide +kernel
theorem dX8_does_90 : decode cX8_does 90 = .ok (.iload_n 3, 1) := by decide +kernel
theorem dX8_does_91 : decode cX8_does 91 = .ok (.invokevirtual 115, 3) := by decide +kernel
theorem dX8_does_94 : decode cX8_does 94 = .ok (.ireturn, 1) := by decide +kernel
theorem dX8_does_95 : decode cX8_does 95 = .ok (.aload_n 0, 1) := by decide +kernel
theorem dX8_does_96 : decode cX8_does 96 = .ok (.iload_n 2, 1) := by decide +kernel
theorem dX8_does_97 : decode cX8_does 97 = .ok (.iload_n 3, 1) := by decide +kernel
theorem dX8_does_98 : decode cX8_does 98 = .ok (.invokevirtual 121, 3) := by decide +kernel
theorem dX8_does_101 : decode cX8_does 101 = .ok (.ireturn, 1) := by decide +kernel
theorem dX8_does_102 : decode cX8_does 102 = .ok (.aload_n 0, 1) := by decide +kernel
theorem dX8_does_103 : decode cX8_does 103 = .ok (.iload_n 2, 1) := by decide +kernel
theorem dX8_does_104 : decode cX8_does 104 = .ok (.iload_n 3, 1) := by decide +kernel
theorem dX8_does_105 : decode cX8_does 105 = .ok (.invokevirtual 148, 3) := by decide +kernel
theorem dX8_does_108 : decode cX8_does 108 = .ok (.ireturn, 1) := by decide +kernel
theorem dX8_does_109 : decode cX8_does 109 = .ok (.aload_n 0, 1) := by decide +kernel
theorem dX8_does_110 : decode cX8_does 110 = .ok (.iload_n 2, 1) := by decide +kernel
theorem dX8_does_111 : decode cX8_does 111 = .ok (.invokevirtual 136, 3) := by decide +kernel
theorem dX8_does_114 : decode cX8_does 114 = .ok (.ireturn, 1) := by decide +kernel
theorem dX8_does_115 : decode cX8_does 115 = .ok (.aload_n 0, 1) := by decide +kernel
theorem dX8_does_116 : decode cX8_does 116 = .ok (.iload_n 2, 1) := by decide +kernel
theorem dX8_does_117 : decode cX8_does 117 = .ok (.invokevirtual 142, 3) := by decide +kernel
theorem dX8_does_120 : decode cX8_does 120 = .ok (.ireturn, 1) := by decide +kernel
theorem dX8_does_121 : decode cX8_does 121 = .ok (.aload_n 0, 1) := by decide +kernel
theorem dX8_does_122 : decode cX8_does 122 = .ok (.iload_n 2, 1) := by decide +kernel
theorem dX8_does_123 : decode cX8_does 123 = .ok (.invokevirtual 151, 3) := by decide +kernel
theorem dX8_does_126 : decode cX8_does 126 = .ok (.ireturn, 1) := by decide +kernel
theorem dX8_run_0 : decode cX8_run 0 = .ok (.aload_n 0, 1) := by decide +kernel
theorem dX8_run_1 : decode cX8_run 1 = .ok (.iconst 0, 1) := by decide +kernel
theorem dX8_run_2 : decode cX8_run 2 = .ok (.putfield 184, 3) := by decide +kernel
theorem dX8_run_5 : decode cX8_run 5 = .ok (.aload_n 0, 1) := by decide +kernel
theorem dX8_run_6 : decode cX8_run 6 = .ok (.iconst 0, 1) := by decide +kernel
theorem dX8_run_7 : decode cX8_run 7 = .ok (.putfield 187, 3) := by decide +kernel
theorem dX8_run_10 : decode cX8_run 10 = .ok (.iconst 0, 1) := by decide +kernel
theorem dX8_run_11 : decode cX8_run 11 = .ok (.istore_n 1, 1) := by decide +kernel
theorem dX8_run_12 : decode cX8_run 12 = .ok (.iconst 1, 1) := by decide +kernel
theorem dX8_run_13 : decode cX8_run 13 = .ok (.istore_n 2, 1) := by decide +kernel
theorem dX8_run_14 : decode cX8_run 14 = .ok (.iload_n 2, 1) := by decide +kernel
theorem dX8_run_15 : decode cX8_run 15 = .ok (.ifCond .eq 56, 3) := by decide +kernel
theorem dX8_run_18 : decode cX8_run 18 = .ok (.aload_n 0, 1) := by decide +kernel
theorem dX8_run_19 : decode cX8_run 19 = .ok (.iconst 3, 1) := by decide +kernel
theorem dX8_run_20 : decode cX8_run 20 = .ok (.iload_n 1, 1) := by decide +kernel
theorem dX8_run_21 : decode cX8_run 21 = .ok (.imul, 1) := by decide +kernel
theorem dX8_run_22 : decode cX8_run 22 = .ok (.invokevirtual 196, 3) := by decide +kernel
theorem dX8_run_25 : decode cX8_run 25 = .ok (.iinc 1 1, 3) := by decide +kernel
theorem dX8_run_28 : decode cX8_run 28 = .ok (.aload_n 0, 1) := by decide +kernel
theorem dX8_run_29 : decode cX8_run 29 = .ok (.getfield 187, 3) := by decide +kernel
theorem dX8_run_32 : decode cX8_run 32 = .ok (.ifCond .ne 16, 3) := by decide +kernel
theorem dX8_run_35 : decode cX8_run 35 = .ok (.aload_n 0, 1) := by decide +kernel
theorem dX8_run_36 : decode cX8_run 36 = .ok (.invokevirtual 190, 3) := by decide +kernel
theorem dX8_run_39 : decode cX8_run 39 = .ok (.bipush 59, 2) := by decide +kernel
theorem dX8_run_41 : decode cX8_run 41 = .ok (.if_icmp .ne 7, 3) := by decide +kernel
theorem dX8_run_44 : decode cX8_run 44 = .ok (.iconst 1, 1) := by decide +kernel
theorem dX8_run_45 : decode cX8_run 45 = .ok (.goto 4, 3) := by decide +kernel
theorem dX8_run_48 : decode cX8_run 48 = .ok (.iconst 0, 1) := by decide +kernel
theorem dX8_run_49 : decode cX8_run 49 = .ok (.istore_n 2, 1) := by decide +kernel
theorem dX8_run_50 : decode cX8_run 50 = .ok (.aload_n 0, 1) := by decide +kernel
theorem dX8_run_51 : decode cX8_run 51 = .ok (.dup, 1) := by decide +kernel
theorem dX8_run_52 : decode cX8_run 52 = .ok (.getfield 184, 3) := by decide +kernel
theorem dX8_run_55 : decode cX8_run 55 = .ok (.iload_n 2, 1) := by decide +kernel
theorem dX8_run_56 : decode cX8_run 56 = .ok (.ifCond .eq 7, 3) := by decide +kernel
theorem dX8_run_59 : decode cX8_run 59 = .ok (.iconst 1, 1) := by decide +kernel
theorem dX8_run_60 : decode cX8_run 60 = .ok (.goto 4, 3) := by decide +kernel
theorem dX8_run_63 : decode cX8_run 63 = .ok (.iconst 0, 1) := by decide +kernel
theorem dX8_run_64 : decode cX8_run 64 = .ok (.iadd, 1) := by decide +kernel
theorem dX8_run_65 : decode cX8_run 65 = .ok (.putfield 184, 3) := by decide +kernel
theorem dX8_run_68 : decode cX8_run 68 = .ok (.goto (-54), 3) := by decide +kernel
theorem dX8_run_71 : decode cX8_run 71 = .ok (.aload_n 0, 1) := by decide +kernel
theorem dX8_run_72 : decode cX8_run 72 = .ok (.aload_n 0, 1) := by decide +kernel
theorem dX8_run_73 : decode cX8_run 73 = .ok (.getfield 187, 3) := by decide +kernel
theorem dX8_run_76 : decode cX8_run 76 = .ok (.ifCond .ne 14, 3) := by decide +kernel
theorem dX8_run_79 : decode cX8_run 79 = .ok (.aload_n 0, 1) := by decide +kernel
theorem dX8_run_80 : decode cX8_run 80 = .ok (.getfield 184, 3) := by decide +kernel
theorem dX8_run_83 : decode cX8_run 83 = .ok (.aload_n 0, 1) := by decide +kernel
theorem dX8_run_84 : decode cX8_run 84 = .ok (.getfield 181, 3) := by decide +kernel
theorem dX8_run_87 : decode cX8_run 87 = .ok (.if_icmp .ge 7, 3) := by decide +kernel
theorem dX8_run_90 : decode cX8_run 90 = .ok (.iconst 1, 1) := by decide +kernel
theorem dX8_run_91 : decode cX8_run 91 = .ok (.goto 4, 3) := by decide +kernel
theorem dX8_run_94 : decode cX8_run 94 = .ok (.iconst 0, 1) := by decide +kernel
theorem dX8_run_95 : decode cX8_run 95 = .ok (.putfield 187, 3) := by decide +kernel
theorem dX8_run_98 : decode cX8_run 98 = .ok (.aload_n 0, 1) := by decide +kernel
theorem dX8_run_99 : decode cX8_run 99 = .ok (.iconst 0, 1) := by decide +kernel
theorem dX8_run_100 : decode cX8_run 100 = .ok (.putfield 181, 3) := by decide +kernel
theorem dX8_run_103 : decode cX8_run 103 = .ok (.aload_n 0, 1) := by decide +kernel
theorem dX8_run_104 : decode cX8_run 104 = .ok (.aload_n 0, 1) := by decide +kernel
theorem dX8_run_105 : decode cX8_run 105 = .ok (.getfield 187, 3) := by decide +kernel
theorem dX8_run_108 : decode cX8_run 108 = .ok (.ifCond .eq 10, 3) := by decide +kernel
theorem dX8_run_111 : decode cX8_run 111 = .ok (.aload_n 0, 1) := by decide +kernel
theorem dX8_run_112 : decode cX8_run 112 = .ok (.getfield 184, 3) := by decide +kernel
theorem dX8_run_115 : decode cX8_run 115 = .ok (.goto 4, 3) := by decide +kernel
theorem dX8_run_118 : decode cX8_run 118 = .ok (.iconst (-1), 1) := by decide +kernel
theorem dX8_run_119 : decode cX8_run 119 = .ok (.putfield 26, 3) := by decide +kernel
theorem dX8_run_122 : decode cX8_run 122 = .ok (.aload_n 0, 1) := by decide +kernel
theorem dX8_run_123 : decode cX8_run 123 = .ok (.getfield 187, 3) := by decide +kernel
theorem dX8_run_126 : decode cX8_run 126 = .ok (.ifCond .eq 9, 3) := by decide +kernel
theorem dX8_run_129 : decode cX8_run 129 = .ok (.aload_n 0, 1) := by decide +kernel
theorem dX8_run_130 : decode cX8_run 130 = .ok (.iconst 1, 1) := by decide +kernel
theorem dX8_run_131 : decode cX8_run 131 = .ok (.invokevirtual 98, 3) := by decide +kernel
theorem dX8_run_134 : decode cX8_run 134 = .ok (.ireturn, 1) := by decide +kernel
theorem dX8_run_135 : decode cX8_run 135 = .ok (.aload_n 0, 1) := by decide +kernel
theorem dX8_run_136 : decode cX8_run 136 = .ok (.invokevirtual 112, 3) := by decide +kernel
theorem dX8_run_139 : decode cX8_run 139 = .ok (.iconst 0, 1) := by decide +kernel
theorem dX8_run_140 : decode cX8_run 140 = .ok (.istore_n 3, 1) := by decide +kernel
theorem dX8_run_141 : decode cX8_run 141 = .ok (.iload_n 3, 1) := by decide +kernel
theorem dX8_run_142 : decode cX8_run 142 = .ok (.iload_n 1, 1) := by decide +kernel
theorem dX8_run_143 : decode cX8_run 143 = .ok (.if_icmp .ge 48, 3) := by decide +kernel
theorem dX8_run_146 : decode cX8_run 146 = .ok (.aload_n 0, 1) := by decide +kernel
theorem dX8_run_147 : decode cX8_run 147 = .ok (.iconst 3, 1) := by decide +kernel
theorem dX8_run_148 : decode cX8_run 148 = .ok (.iload_n 3, 1) := by decide +kernel
theorem dX8_run_149 : decode cX8_run 149 = .ok (.imul, 1) := by decide +kernel
theorem dX8_run_150 : decode cX8_run 150 = .ok (.invokevirtual 199, 3) := by decide +kernel
theorem dX8_run_153 : decode cX8_run 153 = .ok (.istore 4, 2) := by decide +kernel
theorem dX8_run_155 : decode cX8_run 155 = .ok (.aload_n 0, 1) := by decide +kernel
theorem dX8_run_156 : decode cX8_run 156 = .ok (.getfield 36, 3) := by decide +kernel
theorem dX8_run_159 : decode cX8_run 159 = .ok (.ifCond .eq 26, 3) := by decide +kernel
theorem dX8_run_162 : decode cX8_run 162 = .ok (.aload_n 0, 1) := by decide +kernel
theorem dX8_run_163 : decode cX8_run 163 = .ok (.aload_n 0, 1) := by decide +kernel
theorem dX8_run_164 : decode cX8_run 164 = .ok (.getfield 39, 3) := by decide +kernel
theorem dX8_run_167 : decode cX8_run 167 = .ok (.ifCond .eq 7, 3) := by decide +kernel
theorem dX8_run_170 : decode cX8_run 170 = .ok (.iconst 2, 1) := by decide +kernel
theorem dX8_run_171 : decode cX8_run 171 = .ok (.goto 4, 3) := by decide +kernel
theorem dX8_run_174 : decode cX8_run 174 = .ok (.iconst 1, 1) := by decide +kernel
theorem dX8_run_175 : decode cX8_run 175 = .ok (.putfield 36, 3) := by decide +kernel
theorem dX8_run_178 : decode cX8_run 178 = .ok (.aload_n 0, 1) := by decide +kernel
theorem dX8_run_179 : decode cX8_run 179 = .ok (.iload 4, 2) := by decide +kernel
theorem dX8_run_181 : decode cX8_run 181 = .ok (.invokevirtual 118, 3) := by decide +kernel
theorem dX8_run_184 : decode cX8_run 184 = .ok (.ireturn, 1) := by decide +kernel
theorem dX8_run_185 : decode cX8_run 185 = .ok (.iinc 3 1, 3) := by decide +kernel
theorem dX8_run_188 : decode cX8_run 188 = .ok (.goto (-47), 3) := by decide +kernel
theorem dX8_run_191 : decode cX8_run 191 = .ok (.aload_n 0, 1) := by decide +kernel
theorem dX8_run_192 : decode cX8_run 192 = .ok (.aload_n 0, 1) := by decide +kernel
theorem dX8_run_193 : decode cX8_run 193 = .ok (.iload_n 1, 1) := by decide +kernel
theorem dX8_run_194 : decode cX8_run 194 = .ok (.invokevirtual 105, 3) := by decide +kernel
theorem dX8_run_197 : decode cX8_run 197 = .ok (.invokevirtual 118, 3) := by decide +kernel
theorem dX8_run_200 : decode cX8_run 200 = .ok (.ireturn, 1) := by decide +kernel
theorem dX8_errorPosition_0 : decode cX8_errorPosition 0 = .ok (.aload_n 0, 1) := by decide +kernel
theorem dX8_errorPosition_1 : decode cX8_errorPosition 1 = .ok (.aload_n 0, 1) := by decide +kernel
theorem dX8_errorPosition_2 : decode cX8_errorPosition 2 = .ok (.getfield 26, 3) := by decide +kernel
theorem dX8_errorPosition_5 : decode cX8_errorPosition 5 = .ok (.invokevirtual 105, 3) := by decide +kernel
theorem dX8_errorPosition_8 : decode cX8_errorPosition 8 = .ok (.ireturn, 1) := by decide +kernel
theorem dX8_refusal_0 : decode cX8_refusal 0 = .ok (.aload_n 0, 1) := by decide +kernel
theorem dX8_refusal_1 : decode cX8_refusal 1 = .ok (.getfield 43, 3) := by decide +kernel
theorem dX8_refusal_4 : decode cX8_refusal 4 = .ok (.ifCond .ne 11, 3) := by decide +kernel
theorem dX8_refusal_7 : decode cX8_refusal 7 = .ok (.aload_n 0, 1) := by decide +kernel
theorem dX8_refusal_8 : decode cX8_refusal 8 = .ok (.iconst 1, 1) := by decide +kernel
theorem dX8_refusal_9 : decode cX8_refusal 9 = .ok (.invokevirtual 98, 3) := by decide +kernel
theorem dX8_refusal_12 : decode cX8_refusal 12 = .ok (.goto 22, 3) := by decide +kernel
theorem dX8_refusal_15 : decode cX8_refusal 15 = .ok (.aload_n 0, 1) := by decide +kernel
theorem dX8_refusal_16 : decode cX8_refusal 16 = .ok (.iload_n 1, 1) := by decide +kernel
theorem dX8_refusal_17 : decode cX8_refusal 17 = .ok (.ifCond .eq 10, 3) := by decide +kernel
theorem dX8_refusal_20 : decode cX8_refusal 20 = .ok (.aload_n 0, 1) := by decide +kernel
theorem dX8_refusal_21 : decode cX8_refusal 21 = .ok (.getfield 46, 3) := by decide +kernel
theorem dX8_refusal_24 : decode cX8_refusal 24 = .ok (.goto 7, 3) := by decide +kernel
theorem dX8_refusal_27 : decode cX8_refusal 27 = .ok (.aload_n 0, 1) := by decide +kernel
theorem dX8_refusal_28 : decode cX8_refusal 28 = .ok (.getfield 43, 3) := by decide +kernel
theorem dX8_refusal_31 : decode cX8_refusal 31 = .ok (.invokevirtual 105, 3) := by decide +kernel
theorem dX8_refusal_34 : decode cX8_refusal 34 = .ok (.ireturn, 1) := by decide +kernel
theorem dX8_all_0 : decode cX8_all 0 = .ok (.iconst 0, 1) := by decide +kernel
theorem dX8_all_1 : decode cX8_all 1 = .ok (.istore_n 2, 1) := by decide +kernel
theorem dX8_all_2 : decode cX8_all 2 = .ok (.iconst 0, 1) := by decide +kernel
theorem dX8_all_3 : decode cX8_all 3 = .ok (.istore_n 3, 1) := by decide +kernel
theorem dX8_all_4 : decode cX8_all 4 = .ok (.iload_n 3, 1) := by decide +kernel
theorem dX8_all_5 : decode cX8_all 5 = .ok (.aload_n 0, 1) := by decide +kernel
theorem dX8_all_6 : decode cX8_all 6 = .ok (.getfield 7, 3) := by decide +kernel
theorem dX8_all_9 : decode cX8_all 9 = .ok (.bipush 64, 2) := by decide +kernel
theorem dX8_all_11 : decode cX8_all 11 = .ok (.iaload, 1) := by decide +kernel
theorem dX8_all_12 : decode cX8_all 12 = .ok (.if_icmp .ge 34, 3) := by decide +kernel
theorem dX8_all_15 : decode cX8_all 15 = .ok (.iload_n 2, 1) := by decide +kernel
theorem dX8_all_16 : decode cX8_all 16 = .ok (.iload_n 1, 1) := by decide +kernel
theorem dX8_all_17 : decode cX8_all 17 = .ok (.iconst 1, 1) := by decide +kernel
theorem dX8_all_18 : decode cX8_all 18 = .ok (.if_icmp .ne 15, 3) := by decide +kernel
theorem dX8_all_21 : decode cX8_all 21 = .ok (.aload_n 0, 1) := by decide +kernel
theorem dX8_all_22 : decode cX8_all 22 = .ok (.getfield 7, 3) := by decide +kernel
theorem dX8_all_25 : decode cX8_all 25 = .ok (.bipush 81, 2) := by decide +kernel
theorem dX8_all_27 : decode cX8_all 27 = .ok (.iload_n 3, 1) := by decide +kernel
theorem dX8_all_28 : decode cX8_all 28 = .ok (.iadd, 1) := by decide +kernel
theorem dX8_all_29 : decode cX8_all 29 = .ok (.iaload, 1) := by decide +kernel
theorem dX8_all_30 : decode cX8_all 30 = .ok (.goto 8, 3) := by decide +kernel
theorem dX8_all_33 : decode cX8_all 33 = .ok (.aload_n 0, 1) := by decide +kernel
theorem dX8_all_34 : decode cX8_all 34 = .ok (.iload_n 3, 1) := by decide +kernel
theorem dX8_all_35 : decode cX8_all 35 = .ok (.invokevirtual 157, 3) := by decide +kernel
theorem dX8_all_38 : decode cX8_all 38 = .ok (.iadd, 1) := by decide +kernel
theorem dX8_all_39 : decode cX8_all 39 = .ok (.istore_n 2, 1) := by decide +kernel
theorem dX8_all_40 : decode cX8_all 40 = .ok (.iinc 3 1, 3) := by decide +kernel
theorem dX8_all_43 : decode cX8_all 43 = .ok (.goto (-39), 3) := by decide +kernel
theorem dX8_all_46 : decode cX8_all 46 = .ok (.iload_n 2, 1) := by decide +kernel
theorem dX8_all_47 : decode cX8_all 47 = .ok (.ireturn, 1) := by decide +kernel
theorem dX8_freePieces_0 : decode cX8_freePieces 0 = .ok (.iconst 0, 1) := by decide +kernel
theorem dX8_freePieces_1 : decode cX8_freePieces 1 = .ok (.istore_n 1, 1) := by decide +kernel
theorem dX8_freePieces_2 : decode cX8_freePieces 2 = .ok (.iconst 0, 1) := by decide +kernel
theorem dX8_freePieces_3 : decode cX8_freePieces 3 = .ok (.istore_n 2, 1) := by decide +kernel
theorem dX8_freePieces_4 : decode cX8_freePieces 4 = .ok (.iload_n 2, 1) := by decide +kernel
theorem dX8_freePieces_5 : decode cX8_freePieces 5 = .ok (.bipush 64, 2) := by decide +kernel
theorem dX8_freePieces_7 : decode cX8_freePieces 7 = .ok (.if_icmp .ge 25, 3) := by decide +kernel
theorem dX8_freePieces_10 : decode cX8_freePieces 10 = .ok (.iload_n 1, 1) := by decide +kernel
theorem dX8_freePieces_11 : decode cX8_freePieces 11 = .ok (.aload_n 0, 1) := by decide +kernel
theorem dX8_freePieces_12 : decode cX8_freePieces 12 = .ok (.iload_n 2, 1) := by decide +kernel
theorem dX8_freePieces_13 : decode cX8_freePieces 13 = .ok (.invokevirtual 64, 3) := by decide +kernel
theorem dX8_freePieces_16 : decode cX8_freePieces 16 = .ok (.ifCond .eq 7, 3) := by decide +kernel
theorem dX8_freePieces_19 : decode cX8_freePieces 19 = .ok (.iconst 1, 1) := by decide +kernel
theorem dX8_freePieces_20 : decode cX8_freePieces 20 = .ok (.goto 4, 3) := by decide +kernel
theorem dX8_freePieces_23 : decode cX8_freePieces 23 = .ok (.iconst 0, 1) := by decide +kernel
theorem dX8_freePieces_24 : decode cX8_freePieces 24 = .ok (.iadd, 1) := by decide +kernel
theorem dX8_freePieces_25 : decode cX8_freePieces 25 = .ok (.istore_n 1, 1) := by decide +kernel
theorem dX8_freePieces_26 : decode cX8_freePieces 26 = .ok (.iinc 2 1, 3) := by decide +kernel
theorem dX8_freePieces_29 : decode cX8_freePieces 29 = .ok (.goto (-25), 3) := by decide +kernel
theorem dX8_freePieces_32 : decode cX8_freePieces 32 = .ok (.iload_n 1, 1) := by decide +kernel
theorem dX8_freePieces_33 : decode cX8_freePieces 33 = .ok (.ireturn, 1) := by decide +kernel
theorem dX8_account_0 : decode cX8_account 0 = .ok (.iload_n 1, 1) := by decide +kernel
theorem dX8_account_1 : decode cX8_account 1 = .ok (.tableswitch 165 0 10 #[59, 71, 71, 81, 90, 102, 118, 118, 135, 147, 156], 59) := by decide +kernel
theorem dX8_account_60 : decode cX8_account 60 = .ok (.aload_n 0, 1) := by decide +kernel
theorem dX8_account_61 : decode cX8_account 61 = .ok (.aload_n 0, 1) := by decide +kernel
theorem dX8_account_62 : decode cX8_account 62 = .ok (.getfield 7, 3) := by decide +kernel
theorem dX8_account_65 : decode cX8_account 65 = .ok (.bipush 64, 2) := by decide +kernel
theorem dX8_account_67 : decode cX8_account 67 = .ok (.iaload, 1) := by decide +kernel
theorem dX8_account_68 : decode cX8_account 68 = .ok (.invokevirtual 105, 3) := by decide +kernel
theorem dX8_account_71 : decode cX8_account 71 = .ok (.ireturn, 1) := by decide +kernel
theorem dX8_account_72 : decode cX8_account 72 = .ok (.aload_n 0, 1) := by decide +kernel
theorem dX8_account_73 : decode cX8_account 73 = .ok (.aload_n 0, 1) := by decide +kernel
theorem dX8_account_74 : decode cX8_account 74 = .ok (.iload_n 1, 1) := by decide +kernel
theorem dX8_account_75 : decode cX8_account 75 = .ok (.invokevirtual 202, 3) := by decide +kernel
theorem dX8_account_78 : decode cX8_account 78 = .ok (.invokevirtual 105, 3) := by decide +kernel
theorem dX8_account_81 : decode cX8_account 81 = .ok (.ireturn, 1) := by decide +kernel
theorem dX8_account_82 : decode cX8_account 82 = .ok (.aload_n 0, 1) := by decide +kernel
theorem dX8_account_83 : decode cX8_account 83 = .ok (.aload_n 0, 1) := by decide +kernel
theorem dX8_account_84 : decode cX8_account 84 = .ok (.invokevirtual 205, 3) := by decide +kernel
theorem dX8_account_87 : decode cX8_account 87 = .ok (.invokevirtual 105, 3) := by decide +kernel
theorem dX8_account_90 : decode cX8_account 90 = .ok (.ireturn, 1) := by decide +kernel
theorem dX8_account_91 : decode cX8_account 91 = .ok (.aload_n 0, 1) := by decide +kernel
theorem dX8_account_92 : decode cX8_account 92 = .ok (.aload_n 0, 1) := by decide +kernel
theorem dX8_account_93 : decode cX8_account 93 = .ok (.getfield 7, 3) := by decide +kernel
theorem dX8_account_96 : decode cX8_account 96 = .ok (.bipush 113, 2) := by decide +kernel
theorem dX8_account_98 : decode cX8_account 98 = .ok (.iaload, 1) := by decide +kernel
theorem dX8_account_99 : decode cX8_account 99 = .ok (.invokevirtual 105, 3) := by decide +kernel
theorem dX8_account_102 : decode cX8_account 102 = .ok (.ireturn, 1) := by decide +kernel
theorem dX8_account_103 : decode cX8_account 103 = .ok (.aload_n 0, 1) := by decide +kernel
theorem dX8_account_104 : decode cX8_account 104 = .ok (.aload_n 0, 1) := by decide +kernel
theorem dX8_account_105 : decode cX8_account 105 = .ok (.iconst 2, 1) := by decide +kernel
theorem dX8_account_106 : decode cX8_account 106 = .ok (.invokevirtual 202, 3) := by decide +kernel
theorem dX8_account_109 : decode cX8_account 109 = .ok (.aload_n 0, 1) := by decide +kernel
theorem dX8_account_110 : decode cX8_account 110 = .ok (.iconst 1, 1) := by decide +kernel
theorem dX8_account_111 : decode cX8_account 111 = .ok (.invokevirtual 202, 3) := by decide +kernel
theorem dX8_account_114 : decode cX8_account 114 = .ok (.isub, 1) := by decide +kernel
theorem dX8_account_115 : decode cX8_account 115 = .ok (.invokevirtual 105, 3) := by decide +kernel
theorem dX8_account_118 : decode cX8_account 118 = .ok (.ireturn, 1) := by decide +kernel
theorem dX8_account_119 : decode cX8_account 119 = .ok (.aload_n 0, 1) := by decide +kernel
theorem dX8_account_120 : decode cX8_account 120 = .ok (.aload_n 0, 1) := by decide +kernel
theorem dX8_account_121 : decode cX8_account 121 = .ok (.getfield 7, 3) := by decide +kernel
theorem dX8_account_124 : decode cX8_account 124 = .ok (.bipush 127, 2) := by decide +kernel
theorem dX8_account_126 : decode cX8_account 126 = .ok (.iload_n 1, 1) := by decide +kernel
theorem dX8_account_127 : decode cX8_account 127 = .ok (.iadd, 1) := by decide +kernel
theorem dX8_account_128 : decode cX8_account 128 = .ok (.bipush 6, 2) := by decide +kernel
theorem dX8_account_130 : decode cX8_account 130 = .ok (.isub, 1) := by decide +kernel
theorem dX8_account_131 : decode cX8_account 131 = .ok (.iaload, 1) := by decide +kernel
theorem dX8_account_132 : decode cX8_account 132 = .ok (.invokevirtual 105, 3) := by decide +kernel
theorem dX8_account_135 : decode cX8_account 135 = .ok (.ireturn, 1) := by decide +kernel
theorem dX8_account_136 : decode cX8_account 136 = .ok (.aload_n 0, 1) := by decide +kernel
theorem dX8_account_137 : decode cX8_account 137 = .ok (.aload_n 0, 1) := by decide +kernel
theorem dX8_account_138 : decode cX8_account 138 = .ok (.getfield 7, 3) := by decide +kernel
theorem dX8_account_141 : decode cX8_account 141 = .ok (.bipush 126, 2) := by decide +kernel
theorem dX8_account_143 : decode cX8_account 143 = .ok (.iaload, 1) := by decide +kernel
theorem dX8_account_144 : decode cX8_account 144 = .ok (.invokevirtual 105, 3) := by decide +kernel
theorem dX8_account_147 : decode cX8_account 147 = .ok (.ireturn, 1) := by decide +kernel
theorem dX8_account_148 : decode cX8_account 148 = .ok (.aload_n 0, 1) := by decide +kernel
theorem dX8_account_149 : decode cX8_account 149 = .ok (.aload_n 0, 1) := by decide +kernel
theorem dX8_account_150 : decode cX8_account 150 = .ok (.getfield 181, 3) := by decide +kernel
theorem dX8_account_153 : decode cX8_account 153 = .ok (.invokevirtual 105, 3) := by decide +kernel
theorem dX8_account_156 : decode cX8_account 156 = .ok (.ireturn, 1) := by decide +kernel
theorem dX8_account_157 : decode cX8_account 157 = .ok (.aload_n 0, 1) := by decide +kernel
theorem dX8_account_158 : decode cX8_account 158 = .ok (.aload_n 0, 1) := by decide +kernel
theorem dX8_account_159 : decode cX8_account 159 = .ok (.getfield 53, 3) := by decide +kernel
theorem dX8_account_162 : decode cX8_account 162 = .ok (.invokevirtual 105, 3) := by decide +kernel
theorem dX8_account_165 : decode cX8_account 165 = .ok (.ireturn, 1) := by decide +kernel
theorem dX8_account_166 : decode cX8_account 166 = .ok (.aload_n 0, 1) := by decide +kernel
theorem dX8_account_167 : decode cX8_account 167 = .ok (.iconst 1, 1) := by decide +kernel
theorem dX8_account_168 : decode cX8_account 168 = .ok (.invokevirtual 98, 3) := by decide +kernel
theorem dX8_account_171 : decode cX8_account 171 = .ok (.ireturn, 1) := by decide +kernel
theorem dX8_isWell_0 : decode cX8_isWell 0 = .ok (.aload_n 0, 1) := by decide +kernel
theorem dX8_isWell_1 : decode cX8_isWell 1 = .ok (.iconst 0, 1) := by decide +kernel
theorem dX8_isWell_2 : decode cX8_isWell 2 = .ok (.putfield 36, 3) := by decide +kernel
theorem dX8_isWell_5 : decode cX8_isWell 5 = .ok (.iconst 1, 1) := by decide +kernel
theorem dX8_isWell_6 : decode cX8_isWell 6 = .ok (.ireturn, 1) := by decide +kernel
theorem dX8_meanWaste_0 : decode cX8_meanWaste 0 = .ok (.aload_n 0, 1) := by decide +kernel
theorem dX8_meanWaste_1 : decode cX8_meanWaste 1 = .ok (.aload_n 0, 1) := by decide +kernel
theorem dX8_meanWaste_2 : decode cX8_meanWaste 2 = .ok (.getfield 7, 3) := by decide +kernel
theorem dX8_meanWaste_5 : decode cX8_meanWaste 5 = .ok (.bipush 64, 2) := by decide +kernel
theorem dX8_meanWaste_7 : decode cX8_meanWaste 7 = .ok (.iaload, 1) := by decide +kernel
theorem dX8_meanWaste_8 : decode cX8_meanWaste 8 = .ok (.ifCond .ne 7, 3) := by decide +kernel
theorem dX8_meanWaste_11 : decode cX8_meanWaste 11 = .ok (.iconst 1, 1) := by decide +kernel
theorem dX8_meanWaste_12 : decode cX8_meanWaste 12 = .ok (.goto 4, 3) := by decide +kernel
theorem dX8_meanWaste_15 : decode cX8_meanWaste 15 = .ok (.iconst 0, 1) := by decide +kernel
theorem dX8_meanWaste_16 : decode cX8_meanWaste 16 = .ok (.putfield 36, 3) := by decide +kernel
theorem dX8_meanWaste_19 : decode cX8_meanWaste 19 = .ok (.aload_n 0, 1) := by decide +kernel
theorem dX8_meanWaste_20 : decode cX8_meanWaste 20 = .ok (.getfield 36, 3) := by decide +kernel
theorem dX8_meanWaste_23 : decode cX8_meanWaste 23 = .ok (.ifCond .ne 27, 3) := by decide +kernel
theorem dX8_meanWaste_26 : decode cX8_meanWaste 26 = .ok (.aload_n 0, 1) := by decide +kernel
theorem dX8_meanWaste_27 : decode cX8_meanWaste 27 = .ok (.iconst 2, 1) := by decide +kernel
theorem dX8_meanWaste_28 : decode cX8_meanWaste 28 = .ok (.invokevirtual 202, 3) := by decide +kernel
theorem dX8_meanWaste_31 : decode cX8_meanWaste 31 = .ok (.aload_n 0, 1) := by decide +kernel
theorem dX8_meanWaste_32 : decode cX8_meanWaste 32 = .ok (.iconst 1, 1) := by decide +kernel
theorem dX8_meanWaste_33 : decode cX8_meanWaste 33 = .ok (.invokevirtual 202, 3) := by decide +kernel
theorem dX8_meanWaste_36 : decode cX8_meanWaste 36 = .ok (.isub, 1) := by decide +kernel
theorem dX8_meanWaste_37 : decode cX8_meanWaste 37 = .ok (.i2d, 1) := by decide +kernel
theorem dX8_meanWaste_38 : decode cX8_meanWaste 38 = .ok (.aload_n 0, 1) := by decide +kernel
theorem dX8_meanWaste_39 : decode cX8_meanWaste 39 = .ok (.getfield 7, 3) := by decide +kernel
theorem dX8_meanWaste_42 : decode cX8_meanWaste 42 = .ok (.bipush 64, 2) := by decide +kernel
theorem dX8_meanWaste_44 : decode cX8_meanWaste 44 = .ok (.iaload, 1) := by decide +kernel
theorem dX8_meanWaste_45 : decode cX8_meanWaste 45 = .ok (.i2d, 1) := by decide +kernel
theorem dX8_meanWaste_46 : decode cX8_meanWaste 46 = .ok (.ddiv, 1) := by decide +kernel
theorem dX8_meanWaste_47 : decode cX8_meanWaste 47 = .ok (.goto 4, 3) := by decide +kernel
theorem dX8_meanWaste_50 : decode cX8_meanWaste 50 = .ok (.dconst 0, 1) := by decide +kernel
theorem dX8_meanWaste_51 : decode cX8_meanWaste 51 = .ok (.dreturn, 1) := by decide +kernel
theorem dX8_lentShare_0 : decode cX8_lentShare 0 = .ok (.aload_n 0, 1) := by decide +kernel
theorem dX8_lentShare_1 : decode cX8_lentShare 1 = .ok (.iconst 0, 1) := by decide +kernel
theorem dX8_lentShare_2 : decode cX8_lentShare 2 = .ok (.putfield 36, 3) := by decide +kernel
theorem dX8_lentShare_5 : decode cX8_lentShare 5 = .ok (.aload_n 0, 1) := by decide +kernel
theorem dX8_lentShare_6 : decode cX8_lentShare 6 = .ok (.iconst 2, 1) := by decide +kernel
theorem dX8_lentShare_7 : decode cX8_lentShare 7 = .ok (.invokevirtual 202, 3) := by decide +kernel
theorem dX8_lentShare_10 : decode cX8_lentShare 10 = .ok (.i2f, 1) := by decide +kernel
theorem dX8_lentShare_11 : decode cX8_lentShare 11 = .ok (.ldc 208, 2) := by decide +kernel
theorem dX8_lentShare_13 : decode cX8_lentShare 13 = .ok (.fdiv, 1) := by decide +kernel
theorem dX8_lentShare_14 : decode cX8_lentShare 14 = .ok (.freturn, 1) := by decide +kernel
theorem dX8_undo_0 : decode cX8_undo 0 = .ok (.aload_n 0, 1) := by decide +kernel
theorem dX8_undo_1 : decode cX8_undo 1 = .ok (.getfield 53, 3) := by decide +kernel
theorem dX8_undo_4 : decode cX8_undo 4 = .ok (.ifCond .ne 9, 3) := by decide +kernel
theorem dX8_undo_7 : decode cX8_undo 7 = .ok (.aload_n 0, 1) := by decide +kernel
theorem dX8_undo_8 : decode cX8_undo 8 = .ok (.iconst 1, 1) := by decide +kernel
theorem dX8_undo_9 : decode cX8_undo 9 = .ok (.invokevirtual 98, 3) := by decide +kernel
theorem dX8_undo_12 : decode cX8_undo 12 = .ok (.ireturn, 1) := by decide +kernel
theorem dX8_undo_13 : decode cX8_undo 13 = .ok (.aload_n 0, 1) := by decide +kernel
theorem dX8_undo_14 : decode cX8_undo 14 = .ok (.dup, 1) := by decide +kernel
theorem dX8_undo_15 : decode cX8_undo 15 = .ok (.getfield 53, 3) := by decide +kernel
theorem dX8_undo_18 : decode cX8_undo 18 = .ok (.iconst 1, 1) := by decide +kernel
theorem dX8_undo_19 : decode cX8_undo 19 = .ok (.isub, 1) := by decide +kernel
theorem dX8_undo_20 : decode cX8_undo 20 = .ok (.putfield 53, 3) := by decide +kernel
theorem dX8_undo_23 : decode cX8_undo 23 = .ok (.aload_n 0, 1) := by decide +kernel
theorem dX8_undo_24 : decode cX8_undo 24 = .ok (.getfield 16, 3) := by decide +kernel
theorem dX8_undo_27 : decode cX8_undo 27 = .ok (.aload_n 0, 1) := by decide +kernel
theorem dX8_undo_28 : decode cX8_undo 28 = .ok (.getfield 53, 3) := by decide +kernel
theorem dX8_undo_31 : decode cX8_undo 31 = .ok (.sipush 129, 3) := by decide +kernel
theorem dX8_undo_34 : decode cX8_undo 34 = .ok (.imul, 1) := by decide +kernel
theorem dX8_undo_35 : decode cX8_undo 35 = .ok (.aload_n 0, 1) := by decide +kernel
theorem dX8_undo_36 : decode cX8_undo 36 = .ok (.getfield 7, 3) := by decide +kernel
theorem dX8_undo_39 : decode cX8_undo 39 = .ok (.iconst 0, 1) := by decide +kernel
theorem dX8_undo_40 : decode cX8_undo 40 = .ok (.invokestatic 49, 3) := by decide +kernel
theorem dX8_undo_43 : decode cX8_undo 43 = .ok (.aload_n 0, 1) := by decide +kernel
theorem dX8_undo_44 : decode cX8_undo 44 = .ok (.aload_n 0, 1) := by decide +kernel
theorem dX8_undo_45 : decode cX8_undo 45 = .ok (.getfield 53, 3) := by decide +kernel
theorem dX8_undo_48 : decode cX8_undo 48 = .ok (.invokevirtual 105, 3) := by decide +kernel
theorem dX8_undo_51 : decode cX8_undo 51 = .ok (.ireturn, 1) := by decide +kernel
theorem dX8_save_0 : decode cX8_save 0 = .ok (.aload_n 0, 1) := by decide +kernel
theorem dX8_save_1 : decode cX8_save 1 = .ok (.getfield 7, 3) := by decide +kernel
theorem dX8_save_4 : decode cX8_save 4 = .ok (.iconst 0, 1) := by decide +kernel
theorem dX8_save_5 : decode cX8_save 5 = .ok (.aload_n 0, 1) := by decide +kernel
theorem dX8_save_6 : decode cX8_save 6 = .ok (.getfield 19, 3) := by decide +kernel
theorem dX8_save_9 : decode cX8_save 9 = .ok (.iconst 0, 1) := by decide +kernel
theorem dX8_save_10 : decode cX8_save 10 = .ok (.invokestatic 49, 3) := by decide +kernel
theorem dX8_save_13 : decode cX8_save 13 = .ok (.aload_n 0, 1) := by decide +kernel
theorem dX8_save_14 : decode cX8_save 14 = .ok (.iconst 1, 1) := by decide +kernel
theorem dX8_save_15 : decode cX8_save 15 = .ok (.putfield 209, 3) := by decide +kernel
theorem dX8_save_18 : decode cX8_save 18 = .ok (.aload_n 0, 1) := by decide +kernel
theorem dX8_save_19 : decode cX8_save 19 = .ok (.aload_n 0, 1) := by decide +kernel
theorem dX8_save_20 : decode cX8_save 20 = .ok (.getfield 7, 3) := by decide +kernel
theorem dX8_save_23 : decode cX8_save 23 = .ok (.bipush 64, 2) := by decide +kernel
theorem dX8_save_25 : decode cX8_save 25 = .ok (.iaload, 1) := by decide +kernel
theorem dX8_save_26 : decode cX8_save 26 = .ok (.invokevirtual 105, 3) := by decide +kernel
theorem dX8_save_29 : decode cX8_save 29 = .ok (.ireturn, 1) := by decide +kernel
theorem dX8_restore_0 : decode cX8_restore 0 = .ok (.aload_n 0, 1) := by decide +kernel
theorem dX8_restore_1 : decode cX8_restore 1 = .ok (.getfield 209, 3) := by decide +kernel
theorem dX8_restore_4 : decode cX8_restore 4 = .ok (.ifCond .ne 9, 3) := by decide +kernel
theorem dX8_restore_7 : decode cX8_restore 7 = .ok (.aload_n 0, 1) := by decide +kernel
theorem dX8_restore_8 : decode cX8_restore 8 = .ok (.iconst 1, 1) := by decide +kernel
theorem dX8_restore_9 : decode cX8_restore 9 = .ok (.invokevirtual 98, 3) := by decide +kernel
theorem dX8_restore_12 : decode cX8_restore 12 = .ok (.ireturn, 1) := by decide +kernel
theorem dX8_restore_13 : decode cX8_restore 13 = .ok (.aload_n 0, 1) := by decide +kernel
theorem dX8_restore_14 : decode cX8_restore 14 = .ok (.getfield 19, 3) := by decide +kernel
theorem dX8_restore_17 : decode cX8_restore 17 = .ok (.iconst 0, 1) := by decide +kernel
theorem dX8_restore_18 : decode cX8_restore 18 = .ok (.aload_n 0, 1) := by decide +kernel
theorem dX8_restore_19 : decode cX8_restore 19 = .ok (.getfield 7, 3) := by decide +kernel
theorem dX8_restore_22 : decode cX8_restore 22 = .ok (.iconst 0, 1) := by decide +kernel
theorem dX8_restore_23 : decode cX8_restore 23 = .ok (.invokestatic 49, 3) := by decide +kernel
theorem dX8_restore_26 : decode cX8_restore 26 = .ok (.aload_n 0, 1) := by decide +kernel
theorem dX8_restore_27 : decode cX8_restore 27 = .ok (.iconst 0, 1) := by decide +kernel
theorem dX8_restore_28 : decode cX8_restore 28 = .ok (.putfield 53, 3) := by decide +kernel
theorem dX8_restore_31 : decode cX8_restore 31 = .ok (.aload_n 0, 1) := by decide +kernel
theorem dX8_restore_32 : decode cX8_restore 32 = .ok (.aload_n 0, 1) := by decide +kernel
theorem dX8_restore_33 : decode cX8_restore 33 = .ok (.getfield 7, 3) := by decide +kernel
theorem dX8_restore_36 : decode cX8_restore 36 = .ok (.bipush 64, 2) := by decide +kernel
theorem dX8_restore_38 : decode cX8_restore 38 = .ok (.iaload, 1) := by decide +kernel
theorem dX8_restore_39 : decode cX8_restore 39 = .ok (.invokevirtual 105, 3) := by decide +kernel
theorem dX8_restore_42 : decode cX8_restore 42 = .ok (.ireturn, 1) := by decide +kernel
theorem dL_lend_0 : decode cL_lend 0 = .ok (.aload_n 3, 1) := by decide +kernel
theorem dL_lend_1 : decode cL_lend 1 = .ok (.iconst 0, 1) := by decide +kernel
theorem dL_lend_2 : decode cL_lend 2 = .ok (.aload_n 0, 1) := by decide +kernel
theorem dL_lend_3 : decode cL_lend 3 = .ok (.iload_n 1, 1) := by decide +kernel
theorem dL_lend_4 : decode cL_lend 4 = .ok (.iload_n 2, 1) := by decide +kernel
theorem dL_lend_5 : decode cL_lend 5 = .ok (.invokevirtual 7, 3) := by decide +kernel
theorem dL_lend_8 : decode cL_lend 8 = .ok (.i2l, 1) := by decide +kernel
theorem dL_lend_9 : decode cL_lend 9 = .ok (.lastore, 1) := by decide +kernel
theorem dL_lend_10 : decode cL_lend 10 = .ok (.goto 11, 3) := by decide +kernel
theorem dL_lend_13 : decode cL_lend 13 = .ok (.astore 4, 2) := by decide +kernel
theorem dL_lend_15 : decode cL_lend 15 = .ok (.iconst 1, 1) := by decide +kernel
theorem dL_lend_16 : decode cL_lend 16 = .ok (.ireturn, 1) := by decide +kernel
theorem dL_lend_17 : decode cL_lend 17 = .ok (.astore 4, 2) := by decide +kernel
theorem dL_lend_19 : decode cL_lend 19 = .ok (.iconst 2, 1) := by decide +kernel
theorem dL_lend_20 : decode cL_lend 20 = .ok (.ireturn, 1) := by decide +kernel
theorem dL_lend_21 : decode cL_lend 21 = .ok (.iconst 0, 1) := by decide +kernel
theorem dL_lend_22 : decode cL_lend 22 = .ok (.ireturn, 1) := by decide +kernel
theorem dL_ask_0 : decode cL_ask 0 = .ok (.aload_n 3, 1) := by decide +kernel
theorem dL_ask_1 : decode cL_ask 1 = .ok (.iconst 0, 1) := by decide +kernel
theorem dL_ask_2 : decode cL_ask 2 = .ok (.aload_n 0, 1) := by decide +kernel
theorem dL_ask_3 : decode cL_ask 3 = .ok (.iload_n 1, 1) := by decide +kernel
theorem dL_ask_4 : decode cL_ask 4 = .ok (.iload_n 2, 1) := by decide +kernel
theorem dL_ask_5 : decode cL_ask 5 = .ok (.invokevirtual 17, 3) := by decide +kernel
theorem dL_ask_8 : decode cL_ask 8 = .ok (.i2l, 1) := by decide +kernel
theorem dL_ask_9 : decode cL_ask 9 = .ok (.lastore, 1) := by decide +kernel
theorem dL_ask_10 : decode cL_ask 10 = .ok (.goto 11, 3) := by decide +kernel
theorem dL_ask_13 : decode cL_ask 13 = .ok (.astore 4, 2) := by decide +kernel
theorem dL_ask_15 : decode cL_ask 15 = .ok (.iconst 1, 1) := by decide +kernel
theorem dL_ask_16 : decode cL_ask 16 = .ok (.ireturn, 1) := by decide +kernel
theorem dL_ask_17 : decode cL_ask 17 = .ok (.astore 4, 2) := by decide +kernel
theorem dL_ask_19 : decode cL_ask 19 = .ok (.iconst 2, 1) := by decide +kernel
theorem dL_ask_20 : decode cL_ask 20 = .ok (.ireturn, 1) := by decide +kernel
theorem dL_ask_21 : decode cL_ask 21 = .ok (.iconst 0, 1) := by decide +kernel
theorem dL_ask_22 : decode cL_ask 22 = .ok (.ireturn, 1) := by decide +kernel
theorem dL_give_0 : decode cL_give 0 = .ok (.aload_n 2, 1) := by decide +kernel
theorem dL_give_1 : decode cL_give 1 = .ok (.iconst 0, 1) := by decide +kernel
theorem dL_give_2 : decode cL_give 2 = .ok (.aload_n 0, 1) := by decide +kernel
theorem dL_give_3 : decode cL_give 3 = .ok (.iload_n 1, 1) := by decide +kernel
theorem dL_give_4 : decode cL_give 4 = .ok (.invokevirtual 20, 3) := by decide +kernel
theorem dL_give_7 : decode cL_give 7 = .ok (.i2l, 1) := by decide +kernel
theorem dL_give_8 : decode cL_give 8 = .ok (.lastore, 1) := by decide +kernel
theorem dL_give_9 : decode cL_give 9 = .ok (.goto 6, 3) := by decide +kernel
theorem dL_give_12 : decode cL_give 12 = .ok (.astore_n 3, 1) := by decide +kernel
theorem dL_give_13 : decode cL_give 13 = .ok (.iconst 1, 1) := by decide +kernel
theorem dL_give_14 : decode cL_give 14 = .ok (.ireturn, 1) := by decide +kernel
theorem dL_give_15 : decode cL_give 15 = .ok (.iconst 0, 1) := by decide +kernel
theorem dL_give_16 : decode cL_give 16 = .ok (.ireturn, 1) := by decide +kernel
theorem dL_giveAll_0 : decode cL_giveAll 0 = .ok (.aload_n 2, 1) := by decide +kernel
theorem dL_giveAll_1 : decode cL_giveAll 1 = .ok (.iconst 0, 1) := by decide +kernel
theorem dL_giveAll_2 : decode cL_giveAll 2 = .ok (.aload_n 0, 1) := by decide +kernel
theorem dL_giveAll_3 : decode cL_giveAll 3 = .ok (.iload_n 1, 1) := by decide +kernel
theorem dL_giveAll_4 : decode cL_giveAll 4 = .ok (.invokevirtual 26, 3) := by decide +kernel
theorem dL_giveAll_7 : decode cL_giveAll 7 = .ok (.i2l, 1) := by decide +kernel
theorem dL_giveAll_8 : decode cL_giveAll 8 = .ok (.lastore, 1) := by decide +kernel
theorem dL_giveAll_9 : decode cL_giveAll 9 = .ok (.goto 9, 3) := by decide +kernel
theorem dL_giveAll_12 : decode cL_giveAll 12 = .ok (.astore_n 3, 1) := by decide +kernel
theorem dL_giveAll_13 : decode cL_giveAll 13 = .ok (.iconst 1, 1) := by decide +kernel
theorem dL_giveAll_14 : decode cL_giveAll 14 = .ok (.ireturn, 1) := by decide +kernel
theorem dL_giveAll_15 : decode cL_giveAll 15 = .ok (.astore_n 3, 1) := by decide +kernel
theorem dL_giveAll_16 : decode cL_giveAll 16 = .ok (.iconst 2, 1) := by decide +kernel
theorem dL_giveAll_17 : decode cL_giveAll 17 = .ok (.ireturn, 1) := by decide +kernel
theorem dL_giveAll_18 : decode cL_giveAll 18 = .ok (.iconst 0, 1) := by decide +kernel
theorem dL_giveAll_19 : decode cL_giveAll 19 = .ok (.ireturn, 1) := by decide +kernel
theorem dL_resize_0 : decode cL_resize 0 = .ok (.aload_n 3, 1) := by decide +kernel
theorem dL_resize_1 : decode cL_resize 1 = .ok (.iconst 0, 1) := by decide +kernel
theorem dL_resize_2 : decode cL_resize 2 = .ok (.aload_n 0, 1) := by decide +kernel
theorem dL_resize_3 : decode cL_resize 3 = .ok (.iload_n 1, 1) := by decide +kernel
theorem dL_resize_4 : decode cL_resize 4 = .ok (.iload_n 2, 1) := by decide +kernel
theorem dL_resize_5 : decode cL_resize 5 = .ok (.invokevirtual 29, 3) := by decide +kernel
theorem dL_resize_8 : decode cL_resize 8 = .ok (.i2l, 1) := by decide +kernel
theorem dL_resize_9 : decode cL_resize 9 = .ok (.lastore, 1) := by decide +kernel
theorem dL_resize_10 : decode cL_resize 10 = .ok (.goto 15, 3) := by decide +kernel
theorem dL_resize_13 : decode cL_resize 13 = .ok (.astore 4, 2) := by decide +kernel
theorem dL_resize_15 : decode cL_resize 15 = .ok (.iconst 1, 1) := by decide +kernel
theorem dL_resize_16 : decode cL_resize 16 = .ok (.ireturn, 1) := by decide +kernel
theorem dL_resize_17 : decode cL_resize 17 = .ok (.astore 4, 2) := by decide +kernel
theorem dL_resize_19 : decode cL_resize 19 = .ok (.iconst 2, 1) := by decide +kernel
theorem dL_resize_20 : decode cL_resize 20 = .ok (.ireturn, 1) := by decide +kernel
theorem dL_resize_21 : decode cL_resize 21 = .ok (.astore 4, 2) := by decide +kernel
theorem dL_resize_23 : decode cL_resize 23 = .ok (.iconst 3, 1) := by decide +kernel
theorem dL_resize_24 : decode cL_resize 24 = .ok (.ireturn, 1) := by decide +kernel
theorem dL_resize_25 : decode cL_resize 25 = .ok (.iconst 0, 1) := by decide +kernel
theorem dL_resize_26 : decode cL_resize 26 = .ok (.ireturn, 1) := by decide +kernel
theorem dL_way_0 : decode cL_way 0 = .ok (.aload_n 2, 1) := by decide +kernel
theorem dL_way_1 : decode cL_way 1 = .ok (.iconst 0, 1) := by decide +kernel
theorem dL_way_2 : decode cL_way 2 = .ok (.aload_n 0, 1) := by decide +kernel
theorem dL_way_3 : decode cL_way 3 = .ok (.iload_n 1, 1) := by decide +kernel
theorem dL_way_4 : decode cL_way 4 = .ok (.invokevirtual 32, 3) := by decide +kernel
theorem dL_way_7 : decode cL_way 7 = .ok (.i2l, 1) := by decide +kernel
theorem dL_way_8 : decode cL_way 8 = .ok (.lastore, 1) := by decide +kernel
theorem dL_way_9 : decode cL_way 9 = .ok (.goto 9, 3) := by decide +kernel
theorem dL_way_12 : decode cL_way 12 = .ok (.astore_n 3, 1) := by decide +kernel
theorem dL_way_13 : decode cL_way 13 = .ok (.iconst 1, 1) := by decide +kernel
theorem dL_way_14 : decode cL_way 14 = .ok (.ireturn, 1) := by decide +kernel
theorem dL_way_15 : decode cL_way 15 = .ok (.astore_n 3, 1) := by decide +kernel
theorem dL_way_16 : decode cL_way 16 = .ok (.iconst 2, 1) := by decide +kernel
theorem dL_way_17 : decode cL_way 17 = .ok (.ireturn, 1) := by decide +kernel
theorem dL_way_18 : decode cL_way 18 = .ok (.iconst 0, 1) := by decide +kernel
theorem dL_way_19 : decode cL_way 19 = .ok (.ireturn, 1) := by decide +kernel
theorem dL_forget_0 : decode cL_forget 0 = .ok (.aload_n 2, 1) := by decide +kernel
theorem dL_forget_1 : decode cL_forget 1 = .ok (.iconst 0, 1) := by decide +kernel
theorem dL_forget_2 : decode cL_forget 2 = .ok (.aload_n 0, 1) := by decide +kernel
theorem dL_forget_3 : decode cL_forget 3 = .ok (.iload_n 1, 1) := by decide +kernel
theorem dL_forget_4 : decode cL_forget 4 = .ok (.invokevirtual 35, 3) := by decide +kernel
theorem dL_forget_7 : decode cL_forget 7 = .ok (.i2l, 1) := by decide +kernel
theorem dL_forget_8 : decode cL_forget 8 = .ok (.lastore, 1) := by decide +kernel
theorem dL_forget_9 : decode cL_forget 9 = .ok (.goto 6, 3) := by decide +kernel
theorem dL_forget_12 : decode cL_forget 12 = .ok (.astore_n 3, 1) := by decide +kernel
theorem dL_forget_13 : decode cL_forget 13 = .ok (.iconst 1, 1) := by decide +kernel
theorem dL_forget_14 : decode cL_forget 14 = .ok (.ireturn, 1) := by decide +kernel
theorem dL_forget_15 : decode cL_forget 15 = .ok (.iconst 0, 1) := by decide +kernel
theorem dL_forget_16 : decode cL_forget 16 = .ok (.ireturn, 1) := by decide +kernel
theorem dL_loanOf_0 : decode cL_loanOf 0 = .ok (.aload_n 3, 1) := by decide +kernel
theorem dL_loanOf_1 : decode cL_loanOf 1 = .ok (.iconst 0, 1) := by decide +kernel
theorem dL_loanOf_2 : decode cL_loanOf 2 = .ok (.aload_n 0, 1) := by decide +kernel
theorem dL_loanOf_3 : decode cL_loanOf 3 = .ok (.iload_n 1, 1) := by decide +kernel
theorem dL_loanOf_4 : decode cL_loanOf 4 = .ok (.iload_n 2, 1) := by decide +kernel
theorem dL_loanOf_5 : decode cL_loanOf 5 = .ok (.invokevirtual 38, 3) := by decide +kernel
theorem dL_loanOf_8 : decode cL_loanOf 8 = .ok (.i2l, 1) := by decide +kernel
theorem dL_loanOf_9 : decode cL_loanOf 9 = .ok (.lastore, 1) := by decide +kernel
theorem dL_loanOf_10 : decode cL_loanOf 10 = .ok (.goto 11, 3) := by decide +kernel
theorem dL_loanOf_13 : decode cL_loanOf 13 = .ok (.astore 4, 2) := by decide +kernel
theorem dL_loanOf_15 : decode cL_loanOf 15 = .ok (.iconst 1, 1) := by decide +kernel
theorem dL_loanOf_16 : decode cL_loanOf 16 = .ok (.ireturn, 1) := by decide +kernel
theorem dL_loanOf_17 : decode cL_loanOf 17 = .ok (.astore 4, 2) := by decide +kernel
theorem dL_loanOf_19 : decode cL_loanOf 19 = .ok (.iconst 2, 1) := by decide +kernel
theorem dL_loanOf_20 : decode cL_loanOf 20 = .ok (.ireturn, 1) := by decide +kernel
theorem dL_loanOf_21 : decode cL_loanOf 21 = .ok (.iconst 0, 1) := by decide +kernel
theorem dL_loanOf_22 : decode cL_loanOf 22 = .ok (.ireturn, 1) := by decide +kernel
theorem dL_nameOf_0 : decode cL_nameOf 0 = .ok (.aload_n 3, 1) := by decide +kernel
theorem dL_nameOf_1 : decode cL_nameOf 1 = .ok (.iconst 0, 1) := by decide +kernel
theorem dL_nameOf_2 : decode cL_nameOf 2 = .ok (.aload_n 0, 1) := by decide +kernel
theorem dL_nameOf_3 : decode cL_nameOf 3 = .ok (.iload_n 1, 1) := by decide +kernel
theorem dL_nameOf_4 : decode cL_nameOf 4 = .ok (.iload_n 2, 1) := by decide +kernel
theorem dL_nameOf_5 : decode cL_nameOf 5 = .ok (.invokevirtual 41, 3) := by decide +kernel
theorem dL_nameOf_8 : decode cL_nameOf 8 = .ok (.i2l, 1) := by decide +kernel
theorem dL_nameOf_9 : decode cL_nameOf 9 = .ok (.lastore, 1) := by decide +kernel
theorem dL_nameOf_10 : decode cL_nameOf 10 = .ok (.goto 11, 3) := by decide +kernel
theorem dL_nameOf_13 : decode cL_nameOf 13 = .ok (.astore 4, 2) := by decide +kernel
theorem dL_nameOf_15 : decode cL_nameOf 15 = .ok (.iconst 1, 1) := by decide +kernel
theorem dL_nameOf_16 : decode cL_nameOf 16 = .ok (.ireturn, 1) := by decide +kernel
theorem dL_nameOf_17 : decode cL_nameOf 17 = .ok (.astore 4, 2) := by decide +kernel
theorem dL_nameOf_19 : decode cL_nameOf 19 = .ok (.iconst 2, 1) := by decide +kernel
theorem dL_nameOf_20 : decode cL_nameOf 20 = .ok (.ireturn, 1) := by decide +kernel
theorem dL_nameOf_21 : decode cL_nameOf 21 = .ok (.iconst 0, 1) := by decide +kernel
theorem dL_nameOf_22 : decode cL_nameOf 22 = .ok (.ireturn, 1) := by decide +kernel
theorem dL_waitingOf_0 : decode cL_waitingOf 0 = .ok (.aload_n 3, 1) := by decide +kernel
theorem dL_waitingOf_1 : decode cL_waitingOf 1 = .ok (.iconst 0, 1) := by decide +kernel
theorem dL_waitingOf_2 : decode cL_waitingOf 2 = .ok (.aload_n 0, 1) := by decide +kernel
theorem dL_waitingOf_3 : decode cL_waitingOf 3 = .ok (.iload_n 1, 1) := by decide +kernel
theorem dL_waitingOf_4 : decode cL_waitingOf 4 = .ok (.iload_n 2, 1) := by decide +kernel
theorem dL_waitingOf_5 : decode cL_waitingOf 5 = .ok (.invokevirtual 44, 3) := by decide +kernel
theorem dL_waitingOf_8 : decode cL_waitingOf 8 = .ok (.i2l, 1) := by decide +kernel
theorem dL_waitingOf_9 : decode cL_waitingOf 9 = .ok (.lastore, 1) := by decide +kernel
theorem dL_waitingOf_10 : decode cL_waitingOf 10 = .ok (.goto 11, 3) := by decide +kernel
theorem dL_waitingOf_13 : decode cL_waitingOf 13 = .ok (.astore 4, 2) := by decide +kernel
theorem dL_waitingOf_15 : decode cL_waitingOf 15 = .ok (.iconst 1, 1) := by decide +kernel
theorem dL_waitingOf_16 : decode cL_waitingOf 16 = .ok (.ireturn, 1) := by decide +kernel
theorem dL_waitingOf_17 : decode cL_waitingOf 17 = .ok (.astore 4, 2) := by decide +kernel
theorem dL_waitingOf_19 : decode cL_waitingOf 19 = .ok (.iconst 2, 1) := by decide +kernel
theorem dL_waitingOf_20 : decode cL_waitingOf 20 = .ok (.ireturn, 1) := by decide +kernel
theorem dL_waitingOf_21 : decode cL_waitingOf 21 = .ok (.iconst 0, 1) := by decide +kernel
theorem dL_waitingOf_22 : decode cL_waitingOf 22 = .ok (.ireturn, 1) := by decide +kernel
theorem dL_pieceOf_0 : decode cL_pieceOf 0 = .ok (.aload_n 3, 1) := by decide +kernel
theorem dL_pieceOf_1 : decode cL_pieceOf 1 = .ok (.iconst 0, 1) := by decide +kernel
theorem dL_pieceOf_2 : decode cL_pieceOf 2 = .ok (.aload_n 0, 1) := by decide +kernel
theorem dL_pieceOf_3 : decode cL_pieceOf 3 = .ok (.iload_n 1, 1) := by decide +kernel
theorem dL_pieceOf_4 : decode cL_pieceOf 4 = .ok (.iload_n 2, 1) := by decide +kernel
theorem dL_pieceOf_5 : decode cL_pieceOf 5 = .ok (.invokevirtual 49, 3) := by decide +kernel
theorem dL_pieceOf_8 : decode cL_pieceOf 8 = .ok (.i2l, 1) := by decide +kernel
theorem dL_pieceOf_9 : decode cL_pieceOf 9 = .ok (.lastore, 1) := by decide +kernel
theorem dL_pieceOf_10 : decode cL_pieceOf 10 = .ok (.goto 11, 3) := by decide +kernel
theorem dL_pieceOf_13 : decode cL_pieceOf 13 = .ok (.astore 4, 2) := by decide +kernel
theorem dL_pieceOf_15 : decode cL_pieceOf 15 = .ok (.iconst 1, 1) := by decide +kernel
theorem dL_pieceOf_16 : decode cL_pieceOf 16 = .ok (.ireturn, 1) := by decide +kernel
theorem dL_pieceOf_17 : decode cL_pieceOf 17 = .ok (.astore 4, 2) := by decide +kernel
theorem dL_pieceOf_19 : decode cL_pieceOf 19 = .ok (.iconst 2, 1) := by decide +kernel
theorem dL_pieceOf_20 : decode cL_pieceOf 20 = .ok (.ireturn, 1) := by decide +kernel
theorem dL_pieceOf_21 : decode cL_pieceOf 21 = .ok (.iconst 0, 1) := by decide +kernel
theorem dL_pieceOf_22 : decode cL_pieceOf 22 = .ok (.ireturn, 1) := by decide +kernel
theorem dL_free_0 : decode cL_free 0 = .ok (.aload_n 3, 1) := by decide +kernel
theorem dL_free_1 : decode cL_free 1 = .ok (.iconst 0, 1) := by decide +kernel
theorem dL_free_2 : decode cL_free 2 = .ok (.aload_n 0, 1) := by decide +kernel
theorem dL_free_3 : decode cL_free 3 = .ok (.iload_n 1, 1) := by decide +kernel
theorem dL_free_4 : decode cL_free 4 = .ok (.iload_n 2, 1) := by decide +kernel
theorem dL_free_5 : decode cL_free 5 = .ok (.invokevirtual 52, 3) := by decide +kernel
theorem dL_free_8 : decode cL_free 8 = .ok (.i2l, 1) := by decide +kernel
theorem dL_free_9 : decode cL_free 9 = .ok (.lastore, 1) := by decide +kernel
theorem dL_free_10 : decode cL_free 10 = .ok (.goto 7, 3) := by decide +kernel
theorem dL_free_13 : decode cL_free 13 = .ok (.astore 4, 2) := by decide +kernel
theorem dL_free_15 : decode cL_free 15 = .ok (.iconst 1, 1) := by decide +kernel
theorem dL_free_16 : decode cL_free 16 = .ok (.ireturn, 1) := by decide +kernel
theorem dL_free_17 : decode cL_free 17 = .ok (.iconst 0, 1) := by decide +kernel
theorem dL_free_18 : decode cL_free 18 = .ok (.ireturn, 1) := by decide +kernel
theorem dL_greatest_0 : decode cL_greatest 0 = .ok (.aload_n 1, 1) := by decide +kernel
theorem dL_greatest_1 : decode cL_greatest 1 = .ok (.iconst 0, 1) := by decide +kernel
theorem dL_greatest_2 : decode cL_greatest 2 = .ok (.aload_n 0, 1) := by decide +kernel
theorem dL_greatest_3 : decode cL_greatest 3 = .ok (.invokevirtual 56, 3) := by decide +kernel
theorem dL_greatest_6 : decode cL_greatest 6 = .ok (.i2l, 1) := by decide +kernel
theorem dL_greatest_7 : decode cL_greatest 7 = .ok (.lastore, 1) := by decide +kernel
theorem dL_greatest_8 : decode cL_greatest 8 = .ok (.goto 6, 3) := by decide +kernel
theorem dL_greatest_11 : decode cL_greatest 11 = .ok (.astore_n 2, 1) := by decide +kernel
theorem dL_greatest_12 : decode cL_greatest 12 = .ok (.iconst 1, 1) := by decide +kernel
theorem dL_greatest_13 : decode cL_greatest 13 = .ok (.ireturn, 1) := by decide +kernel
theorem dL_greatest_14 : decode cL_greatest 14 = .ok (.iconst 0, 1) := by decide +kernel
theorem dL_greatest_15 : decode cL_greatest 15 = .ok (.ireturn, 1) := by decide +kernel
theorem dL_would_0 : decode cL_would 0 = .ok (.aload_n 2, 1) := by decide +kernel
theorem dL_would_1 : decode cL_would 1 = .ok (.iconst 0, 1) := by decide +kernel
theorem dL_would_2 : decode cL_would 2 = .ok (.aload_n 0, 1) := by decide +kernel
theorem dL_would_3 : decode cL_would 3 = .ok (.iload_n 1, 1) := by decide +kernel
theorem dL_would_4 : decode cL_would 4 = .ok (.invokevirtual 60, 3) := by decide +kernel
theorem dL_would_7 : decode cL_would 7 = .ok (.i2l, 1) := by decide +kernel
theorem dL_would_8 : decode cL_would 8 = .ok (.lastore, 1) := by decide +kernel
theorem dL_would_9 : decode cL_would 9 = .ok (.goto 9, 3) := by decide +kernel
theorem dL_would_12 : decode cL_would 12 = .ok (.astore_n 3, 1) := by decide +kernel
theorem dL_would_13 : decode cL_would 13 = .ok (.iconst 1, 1) := by decide +kernel
theorem dL_would_14 : decode cL_would 14 = .ok (.ireturn, 1) := by decide +kernel
theorem dL_would_15 : decode cL_would 15 = .ok (.astore_n 3, 1) := by decide +kernel
theorem dL_would_16 : decode cL_would 16 = .ok (.iconst 2, 1) := by decide +kernel
theorem dL_would_17 : decode cL_would 17 = .ok (.ireturn, 1) := by decide +kernel
theorem dL_would_18 : decode cL_would 18 = .ok (.iconst 0, 1) := by decide +kernel
theorem dL_would_19 : decode cL_would 19 = .ok (.ireturn, 1) := by decide +kernel
theorem dL_cuts_0 : decode cL_cuts 0 = .ok (.aload_n 2, 1) := by decide +kernel
theorem dL_cuts_1 : decode cL_cuts 1 = .ok (.iconst 0, 1) := by decide +kernel
theorem dL_cuts_2 : decode cL_cuts 2 = .ok (.aload_n 0, 1) := by decide +kernel
theorem dL_cuts_3 : decode cL_cuts 3 = .ok (.iload_n 1, 1) := by decide +kernel
theorem dL_cuts_4 : decode cL_cuts 4 = .ok (.invokevirtual 63, 3) := by decide +kernel
theorem dL_cuts_7 : decode cL_cuts 7 = .ok (.i2l, 1) := by decide +kernel
theorem dL_cuts_8 : decode cL_cuts 8 = .ok (.lastore, 1) := by decide +kernel
theorem dL_cuts_9 : decode cL_cuts 9 = .ok (.goto 9, 3) := by decide +kernel
theorem dL_cuts_12 : decode cL_cuts 12 = .ok (.astore_n 3, 1) := by decide +kernel
theorem dL_cuts_13 : decode cL_cuts 13 = .ok (.iconst 1, 1) := by decide +kernel
theorem dL_cuts_14 : decode cL_cuts 14 = .ok (.ireturn, 1) := by decide +kernel
theorem dL_cuts_15 : decode cL_cuts 15 = .ok (.astore_n 3, 1) := by decide +kernel
theorem dL_cuts_16 : decode cL_cuts 16 = .ok (.iconst 2, 1) := by decide +kernel
theorem dL_cuts_17 : decode cL_cuts 17 = .ok (.ireturn, 1) := by decide +kernel
theorem dL_cuts_18 : decode cL_cuts 18 = .ok (.iconst 0, 1) := by decide +kernel
theorem dL_cuts_19 : decode cL_cuts 19 = .ok (.ireturn, 1) := by decide +kernel
theorem dL_fits_0 : decode cL_fits 0 = .ok (.aload_n 2, 1) := by decide +kernel
theorem dL_fits_1 : decode cL_fits 1 = .ok (.iconst 0, 1) := by decide +kernel
theorem dL_fits_2 : decode cL_fits 2 = .ok (.aload_n 0, 1) := by decide +kernel
theorem dL_fits_3 : decode cL_fits 3 = .ok (.iload_n 1, 1) := by decide +kernel
theorem dL_fits_4 : decode cL_fits 4 = .ok (.invokevirtual 66, 3) := by decide +kernel
theorem dL_fits_7 : decode cL_fits 7 = .ok (.i2l, 1) := by decide +kernel
theorem dL_fits_8 : decode cL_fits 8 = .ok (.lastore, 1) := by decide +kernel
theorem dL_fits_9 : decode cL_fits 9 = .ok (.goto 6, 3) := by decide +kernel
theorem dL_fits_12 : decode cL_fits 12 = .ok (.astore_n 3, 1) := by decide +kernel
theorem dL_fits_13 : decode cL_fits 13 = .ok (.iconst 1, 1) := by decide +kernel
theorem dL_fits_14 : decode cL_fits 14 = .ok (.ireturn, 1) := by decide +kernel
theorem dL_fits_15 : decode cL_fits 15 = .ok (.iconst 0, 1) := by decide +kernel
theorem dL_fits_16 : decode cL_fits 16 = .ok (.ireturn, 1) := by decide +kernel
theorem dL_hole_0 : decode cL_hole 0 = .ok (.aload_n 2, 1) := by decide +kernel
theorem dL_hole_1 : decode cL_hole 1 = .ok (.iconst 0, 1) := by decide +kernel
theorem dL_hole_2 : decode cL_hole 2 = .ok (.aload_n 0, 1) := by decide +kernel
theorem dL_hole_3 : decode cL_hole 3 = .ok (.iload_n 1, 1) := by decide +kernel
theorem dL_hole_4 : decode cL_hole 4 = .ok (.invokevirtual 69, 3) := by decide +kernel
theorem dL_hole_7 : decode cL_hole 7 = .ok (.i2l, 1) := by decide +kernel
theorem dL_hole_8 : decode cL_hole 8 = .ok (.lastore, 1) := by decide +kernel
theorem dL_hole_9 : decode cL_hole 9 = .ok (.goto 6, 3) := by decide +kernel
theorem dL_hole_12 : decode cL_hole 12 = .ok (.astore_n 3, 1) := by decide +kernel
theorem dL_hole_13 : decode cL_hole 13 = .ok (.iconst 1, 1) := by decide +kernel
theorem dL_hole_14 : decode cL_hole 14 = .ok (.ireturn, 1) := by decide +kernel
theorem dL_hole_15 : decode cL_hole 15 = .ok (.iconst 0, 1) := by decide +kernel
theorem dL_hole_16 : decode cL_hole 16 = .ok (.ireturn, 1) := by decide +kernel
theorem dL_inTheWay_0 : decode cL_inTheWay 0 = .ok (.aload_n 2, 1) := by decide +kernel
theorem dL_inTheWay_1 : decode cL_inTheWay 1 = .ok (.iconst 0, 1) := by decide +kernel
theorem dL_inTheWay_2 : decode cL_inTheWay 2 = .ok (.aload_n 0, 1) := by decide +kernel
theorem dL_inTheWay_3 : decode cL_inTheWay 3 = .ok (.iload_n 1, 1) := by decide +kernel
theorem dL_inTheWay_4 : decode cL_inTheWay 4 = .ok (.invokevirtual 72, 3) := by decide +kernel
theorem dL_inTheWay_7 : decode cL_inTheWay 7 = .ok (.i2l, 1) := by decide +kernel
theorem dL_inTheWay_8 : decode cL_inTheWay 8 = .ok (.lastore, 1) := by decide +kernel
theorem dL_inTheWay_9 : decode cL_inTheWay 9 = .ok (.goto 6, 3) := by decide +kernel
theorem dL_inTheWay_12 : decode cL_inTheWay 12 = .ok (.astore_n 3, 1) := by decide +kernel
theorem dL_inTheWay_13 : decode cL_inTheWay 13 = .ok (.iconst 1, 1) := by decide +kernel
theorem dL_inTheWay_14 : decode cL_inTheWay 14 = .ok (.ireturn, 1) := by decide +kernel
theorem dL_inTheWay_15 : decode cL_inTheWay 15 = .ok (.iconst 0, 1) := by decide +kernel
theorem dL_inTheWay_16 : decode cL_inTheWay 16 = .ok (.ireturn, 1) := by decide +kernel
theorem dL_ranked_0 : decode cL_ranked 0 = .ok (.aload_n 2, 1) := by decide +kernel
theorem dL_ranked_1 : decode cL_ranked 1 = .ok (.iconst 0, 1) := by decide +kernel
theorem dL_ranked_2 : decode cL_ranked 2 = .ok (.aload_n 0, 1) := by decide +kernel
theorem dL_ranked_3 : decode cL_ranked 3 = .ok (.iload_n 1, 1) := by decide +kernel
theorem dL_ranked_4 : decode cL_ranked 4 = .ok (.invokevirtual 75, 3) := by decide +kernel
theorem dL_ranked_7 : decode cL_ranked 7 = .ok (.i2l, 1) := by decide +kernel
theorem dL_ranked_8 : decode cL_ranked 8 = .ok (.lastore, 1) := by decide +kernel
theorem dL_ranked_9 : decode cL_ranked 9 = .ok (.goto 6, 3) := by decide +kernel
theorem dL_ranked_12 : decode cL_ranked 12 = .ok (.astore_n 3, 1) := by decide +kernel
theorem dL_ranked_13 : decode cL_ranked 13 = .ok (.iconst 1, 1) := by decide +kernel
theorem dL_ranked_14 : decode cL_ranked 14 = .ok (.ireturn, 1) := by decide +kernel
theorem dL_ranked_15 : decode cL_ranked 15 = .ok (.iconst 0, 1) := by decide +kernel
theorem dL_ranked_16 : decode cL_ranked 16 = .ok (.ireturn, 1) := by decide +kernel
theorem dL_character_0 : decode cL_character 0 = .ok (.aload_n 2, 1) := by decide +kernel
theorem dL_character_1 : decode cL_character 1 = .ok (.iconst 0, 1) := by decide +kernel
theorem dL_character_2 : decode cL_character 2 = .ok (.aload_n 0, 1) := by decide +kernel
theorem dL_character_3 : decode cL_character 3 = .ok (.iload_n 1, 1) := by decide +kernel
theorem dL_character_4 : decode cL_character 4 = .ok (.invokevirtual 78, 3) := by decide +kernel
theorem dL_character_7 : decode cL_character 7 = .ok (.i2l, 1) := by decide +kernel
theorem dL_character_8 : decode cL_character 8 = .ok (.lastore, 1) := by decide +kernel
theorem dL_character_9 : decode cL_character 9 = .ok (.goto 6, 3) := by decide +kernel
theorem dL_character_12 : decode cL_character 12 = .ok (.astore_n 3, 1) := by decide +kernel
theorem dL_character_13 : decode cL_character 13 = .ok (.iconst 1, 1) := by decide +kernel
theorem dL_character_14 : decode cL_character 14 = .ok (.ireturn, 1) := by decide +kernel
theorem dL_character_15 : decode cL_character 15 = .ok (.iconst 0, 1) := by decide +kernel
theorem dL_character_16 : decode cL_character 16 = .ok (.ireturn, 1) := by decide +kernel
theorem dL_append_0 : decode cL_append 0 = .ok (.aload_n 2, 1) := by decide +kernel
theorem dL_append_1 : decode cL_append 1 = .ok (.iconst 0, 1) := by decide +kernel
theorem dL_append_2 : decode cL_append 2 = .ok (.aload_n 0, 1) := by decide +kernel
theorem dL_append_3 : decode cL_append 3 = .ok (.iload_n 1, 1) := by decide +kernel
theorem dL_append_4 : decode cL_append 4 = .ok (.invokevirtual 82, 3) := by decide +kernel
theorem dL_append_7 : decode cL_append 7 = .ok (.i2l, 1) := by decide +kernel
theorem dL_append_8 : decode cL_append 8 = .ok (.lastore, 1) := by decide +kernel
theorem dL_append_9 : decode cL_append 9 = .ok (.goto 6, 3) := by decide +kernel
theorem dL_append_12 : decode cL_append 12 = .ok (.astore_n 3, 1) := by decide +kernel
theorem dL_append_13 : decode cL_append 13 = .ok (.iconst 1, 1) := by decide +kernel
theorem dL_append_14 : decode cL_append 14 = .ok (.ireturn, 1) := by decide +kernel
theorem dL_append_15 : decode cL_append 15 = .ok (.iconst 0, 1) := by decide +kernel
theorem dL_append_16 : decode cL_append 16 = .ok (.ireturn, 1) := by decide +kernel
theorem dL_run_0 : decode cL_run 0 = .ok (.aload_n 1, 1) := by decide +kernel
theorem dL_run_1 : decode cL_run 1 = .ok (.iconst 0, 1) := by decide +kernel
theorem dL_run_2 : decode cL_run 2 = .ok (.aload_n 0, 1) := by decide +kernel
theorem dL_run_3 : decode cL_run 3 = .ok (.invokevirtual 88, 3) := by decide +kernel
theorem dL_run_6 : decode cL_run 6 = .ok (.i2l, 1) := by decide +kernel
theorem dL_run_7 : decode cL_run 7 = .ok (.lastore, 1) := by decide +kernel
theorem dL_run_8 : decode cL_run 8 = .ok (.goto 9, 3) := by decide +kernel
theorem dL_run_11 : decode cL_run 11 = .ok (.astore_n 2, 1) := by decide +kernel
theorem dL_run_12 : decode cL_run 12 = .ok (.iconst 1, 1) := by decide +kernel
theorem dL_run_13 : decode cL_run 13 = .ok (.ireturn, 1) := by decide +kernel
theorem dL_run_14 : decode cL_run 14 = .ok (.astore_n 2, 1) := by decide +kernel
theorem dL_run_15 : decode cL_run 15 = .ok (.iconst 2, 1) := by decide +kernel
theorem dL_run_16 : decode cL_run 16 = .ok (.ireturn, 1) := by decide +kernel
theorem dL_run_17 : decode cL_run 17 = .ok (.iconst 0, 1) := by decide +kernel
theorem dL_run_18 : decode cL_run 18 = .ok (.ireturn, 1) := by decide +kernel
theorem dL_refusal_0 : decode cL_refusal 0 = .ok (.aload_n 2, 1) := by decide +kernel
theorem dL_refusal_1 : decode cL_refusal 1 = .ok (.iconst 0, 1) := by decide +kernel
theorem dL_refusal_2 : decode cL_refusal 2 = .ok (.aload_n 0, 1) := by decide +kernel
theorem dL_refusal_3 : decode cL_refusal 3 = .ok (.iload_n 1, 1) := by decide +kernel
theorem dL_refusal_4 : decode cL_refusal 4 = .ok (.invokevirtual 91, 3) := by decide +kernel
theorem dL_refusal_7 : decode cL_refusal 7 = .ok (.i2l, 1) := by decide +kernel
theorem dL_refusal_8 : decode cL_refusal 8 = .ok (.lastore, 1) := by decide +kernel
theorem dL_refusal_9 : decode cL_refusal 9 = .ok (.goto 6, 3) := by decide +kernel
theorem dL_refusal_12 : decode cL_refusal 12 = .ok (.astore_n 3, 1) := by decide +kernel
theorem dL_refusal_13 : decode cL_refusal 13 = .ok (.iconst 1, 1) := by decide +kernel
theorem dL_refusal_14 : decode cL_refusal 14 = .ok (.ireturn, 1) := by decide +kernel
theorem dL_refusal_15 : decode cL_refusal 15 = .ok (.iconst 0, 1) := by decide +kernel
theorem dL_refusal_16 : decode cL_refusal 16 = .ok (.ireturn, 1) := by decide +kernel
theorem dL_account_0 : decode cL_account 0 = .ok (.aload_n 2, 1) := by decide +kernel
theorem dL_account_1 : decode cL_account 1 = .ok (.iconst 0, 1) := by decide +kernel
theorem dL_account_2 : decode cL_account 2 = .ok (.aload_n 0, 1) := by decide +kernel
theorem dL_account_3 : decode cL_account 3 = .ok (.iload_n 1, 1) := by decide +kernel
theorem dL_account_4 : decode cL_account 4 = .ok (.invokevirtual 95, 3) := by decide +kernel
theorem dL_account_7 : decode cL_account 7 = .ok (.i2l, 1) := by decide +kernel
theorem dL_account_8 : decode cL_account 8 = .ok (.lastore, 1) := by decide +kernel
theorem dL_account_9 : decode cL_account 9 = .ok (.goto 6, 3) := by decide +kernel
theorem dL_account_12 : decode cL_account 12 = .ok (.astore_n 3, 1) := by decide +kernel
theorem dL_account_13 : decode cL_account 13 = .ok (.iconst 1, 1) := by decide +kernel
theorem dL_account_14 : decode cL_account 14 = .ok (.ireturn, 1) := by decide +kernel
theorem dL_account_15 : decode cL_account 15 = .ok (.iconst 0, 1) := by decide +kernel
theorem dL_account_16 : decode cL_account 16 = .ok (.ireturn, 1) := by decide +kernel
theorem dL_meanWaste_0 : decode cL_meanWaste 0 = .ok (.aload_n 1, 1) := by decide +kernel
theorem dL_meanWaste_1 : decode cL_meanWaste 1 = .ok (.iconst 0, 1) := by decide +kernel
theorem dL_meanWaste_2 : decode cL_meanWaste 2 = .ok (.aload_n 0, 1) := by decide +kernel
theorem dL_meanWaste_3 : decode cL_meanWaste 3 = .ok (.invokevirtual 98, 3) := by decide +kernel
theorem dL_meanWaste_6 : decode cL_meanWaste 6 = .ok (.dastore, 1) := by decide +kernel
theorem dL_meanWaste_7 : decode cL_meanWaste 7 = .ok (.goto 6, 3) := by decide +kernel
theorem dL_meanWaste_10 : decode cL_meanWaste 10 = .ok (.astore_n 2, 1) := by decide +kernel
theorem dL_meanWaste_11 : decode cL_meanWaste 11 = .ok (.iconst 1, 1) := by decide +kernel
theorem dL_meanWaste_12 : decode cL_meanWaste 12 = .ok (.ireturn, 1) := by decide +kernel
theorem dL_meanWaste_13 : decode cL_meanWaste 13 = .ok (.iconst 0, 1) := by decide +kernel
theorem dL_meanWaste_14 : decode cL_meanWaste 14 = .ok (.ireturn, 1) := by decide +kernel
theorem dL_undo_0 : decode cL_undo 0 = .ok (.aload_n 1, 1) := by decide +kernel
theorem dL_undo_1 : decode cL_undo 1 = .ok (.iconst 0, 1) := by decide +kernel
theorem dL_undo_2 : decode cL_undo 2 = .ok (.aload_n 0, 1) := by decide +kernel
theorem dL_undo_3 : decode cL_undo 3 = .ok (.invokevirtual 104, 3) := by decide +kernel
theorem dL_undo_6 : decode cL_undo 6 = .ok (.i2l, 1) := by decide +kernel
theorem dL_undo_7 : decode cL_undo 7 = .ok (.lastore, 1) := by decide +kernel
theorem dL_undo_8 : decode cL_undo 8 = .ok (.goto 6, 3) := by decide +kernel
theorem dL_undo_11 : decode cL_undo 11 = .ok (.astore_n 2, 1) := by decide +kernel
theorem dL_undo_12 : decode cL_undo 12 = .ok (.iconst 1, 1) := by decide +kernel
theorem dL_undo_13 : decode cL_undo 13 = .ok (.ireturn, 1) := by decide +kernel
theorem dL_undo_14 : decode cL_undo 14 = .ok (.iconst 0, 1) := by decide +kernel
theorem dL_undo_15 : decode cL_undo 15 = .ok (.ireturn, 1) := by decide +kernel
theorem dL_restore_0 : decode cL_restore 0 = .ok (.aload_n 1, 1) := by decide +kernel
theorem dL_restore_1 : decode cL_restore 1 = .ok (.iconst 0, 1) := by decide +kernel
theorem dL_restore_2 : decode cL_restore 2 = .ok (.aload_n 0, 1) := by decide +kernel
theorem dL_restore_3 : decode cL_restore 3 = .ok (.invokevirtual 107, 3) := by decide +kernel
theorem dL_restore_6 : decode cL_restore 6 = .ok (.i2l, 1) := by decide +kernel
theorem dL_restore_7 : decode cL_restore 7 = .ok (.lastore, 1) := by decide +kernel
theorem dL_restore_8 : decode cL_restore 8 = .ok (.goto 6, 3) := by decide +kernel
theorem dL_restore_11 : decode cL_restore 11 = .ok (.astore_n 2, 1) := by decide +kernel
theorem dL_restore_12 : decode cL_restore 12 = .ok (.iconst 1, 1) := by decide +kernel
theorem dL_restore_13 : decode cL_restore 13 = .ok (.ireturn, 1) := by decide +kernel
theorem dL_restore_14 : decode cL_restore 14 = .ok (.iconst 0, 1) := by decide +kernel
theorem dL_restore_15 : decode cL_restore 15 = .ok (.ireturn, 1) := by decide +kernel
theorem dL_law_0 : decode cL_law 0 = .ok (.new 8, 3) := by decide +kernel
theorem dL_law_3 : decode cL_law 3 = .ok (.dup, 1) := by decide +kernel
theorem dL_law_4 : decode cL_law 4 = .ok (.invokespecial 110, 3) := by decide +kernel
theorem dL_law_7 : decode cL_law 7 = .ok (.astore_n 1, 1) := by decide +kernel
theorem dL_law_8 : decode cL_law 8 = .ok (.new 111, 3) := by decide +kernel
theorem dL_law_11 : decode cL_law 11 = .ok (.dup, 1) := by decide +kernel
theorem dL_law_12 : decode cL_law 12 = .ok (.invokespecial 113, 3) := by decide +kernel
theorem dL_law_15 : decode cL_law 15 = .ok (.astore_n 2, 1) := by decide +kernel
theorem dL_law_16 : decode cL_law 16 = .ok (.iconst 1, 1) := by decide +kernel
theorem dL_law_17 : decode cL_law 17 = .ok (.newarray .long, 2) := by decide +kernel
theorem dL_law_19 : decode cL_law 19 = .ok (.astore_n 3, 1) := by decide +kernel
theorem dL_law_20 : decode cL_law 20 = .ok (.iconst 1, 1) := by decide +kernel
theorem dL_law_21 : decode cL_law 21 = .ok (.newarray .double, 2) := by decide +kernel
theorem dL_law_23 : decode cL_law 23 = .ok (.astore 4, 2) := by decide +kernel
theorem dL_law_25 : decode cL_law 25 = .ok (.iconst 0, 1) := by decide +kernel
theorem dL_law_26 : decode cL_law 26 = .ok (.istore 5, 2) := by decide +kernel
theorem dL_law_28 : decode cL_law 28 = .ok (.iload 5, 2) := by decide +kernel
theorem dL_law_30 : decode cL_law 30 = .ok (.aload_n 0, 1) := by decide +kernel
theorem dL_law_31 : decode cL_law 31 = .ok (.arraylength, 1) := by decide +kernel
theorem dL_law_32 : decode cL_law 32 = .ok (.iconst 3, 1) := by decide +kernel
theorem dL_law_33 : decode cL_law 33 = .ok (.isub, 1) := by decide +kernel
theorem dL_law_34 : decode cL_law 34 = .ok (.if_icmp .gt 1875, 3) := by decide +kernel
theorem dL_law_37 : decode cL_law 37 = .ok (.aload_n 0, 1) := by decide +kernel
theorem dL_law_38 : decode cL_law 38 = .ok (.iload 5, 2) := by decide +kernel
theorem dL_law_40 : decode cL_law 40 = .ok (.iaload, 1) := by decide +kernel
theorem dL_law_41 : decode cL_law 41 = .ok (.bipush 63, 2) := by decide +kernel
theorem dL_law_43 : decode cL_law 43 = .ok (.iand, 1) := by decide +kernel
theorem dL_law_44 : decode cL_law 44 = .ok (.tableswitch 1859 0 32 #[148, 216, 284, 340, 396, 464, 520, 576, 644, 712, 780, 848, 932, 976, 1032, 1088, 1144, 1200, 1256, 1312, 1325, 1338, 1394, 1452, 1496, 1509, 1581, 1637, 1650, 1715, 1758, 1802, 1815], 148) := by decide +kernel
theorem dL_law_192 : decode cL_law 192 = .ok (.aload_n 1, 1) := by decide +kernel
theorem dL_law_193 : decode cL_law 193 = .ok (.aload_n 0, 1) := by decide +kernel
theorem dL_law_194 : decode cL_law 194 = .ok (.iload 5, 2) := by decide +kernel
theorem dL_law_196 : decode cL_law 196 = .ok (.iconst 1, 1) := by decide +kernel
theorem dL_law_197 : decode cL_law 197 = .ok (.iadd, 1) := by decide +kernel
theorem dL_law_198 : decode cL_law 198 = .ok (.iaload, 1) := by decide +kernel
theorem dL_law_199 : decode cL_law 199 = .ok (.aload_n 0, 1) := by decide +kernel
theorem dL_law_200 : decode cL_law 200 = .ok (.iload 5, 2) := by decide +kernel
theorem dL_law_202 : decode cL_law 202 = .ok (.iconst 2, 1) := by decide +kernel
theorem dL_law_203 : decode cL_law 203 = .ok (.iadd, 1) := by decide +kernel
theorem dL_law_204 : decode cL_law 204 = .ok (.iaload, 1) := by decide +kernel
theorem dL_law_205 : decode cL_law 205 = .ok (.aload_n 3, 1) := by decide +kernel
theorem dL_law_206 : decode cL_law 206 = .ok (.invokestatic 114, 3) := by decide +kernel
theorem dL_law_209 : decode cL_law 209 = .ok (.istore 6, 2) := by decide +kernel
theorem dL_law_211 : decode cL_law 211 = .ok (.aload_n 2, 1) := by decide +kernel
theorem dL_law_212 : decode cL_law 212 = .ok (.aload_n 0, 1) := by decide +kernel
theorem dL_law_213 : decode cL_law 213 = .ok (.iload 5, 2) := by decide +kernel
theorem dL_law_215 : decode cL_law 215 = .ok (.iconst 1, 1) := by decide +kernel
theorem dL_law_216 : decode cL_law 216 = .ok (.iadd, 1) := by decide +kernel
theorem dL_law_217 : decode cL_law 217 = .ok (.iaload, 1) := by decide +kernel
theorem dL_law_218 : decode cL_law 218 = .ok (.aload_n 0, 1) := by decide +kernel
theorem dL_law_219 : decode cL_law 219 = .ok (.iload 5, 2) := by decide +kernel
theorem dL_law_221 : decode cL_law 221 = .ok (.iconst 2, 1) := by decide +kernel
theorem dL_law_222 : decode cL_law 222 = .ok (.iadd, 1) := by decide +kernel
theorem dL_law_223 : decode cL_law 223 = .ok (.iaload, 1) := by decide +kernel
theorem dL_law_224 : decode cL_law 224 = .ok (.invokevirtual 119, 3) := by decide +kernel
theorem dL_law_227 : decode cL_law 227 = .ok (.istore 7, 2) := by decide +kernel
theorem dL_law_229 : decode cL_law 229 = .ok (.aload_n 2, 1) := by decide +kernel
theorem dL_law_230 : decode cL_law 230 = .ok (.invokevirtual 120, 3) := by decide +kernel
theorem dL_law_233 : decode cL_law 233 = .ok (.iload 6, 2) := by decide +kernel
theorem dL_law_235 : decode cL_law 235 = .ok (.if_icmp .eq 5, 3) := by decide +kernel
theorem dL_law_238 : decode cL_law 238 = .ok (.iconst 0, 1) := by decide +kernel
theorem dL_law_239 : decode cL_law 239 = .ok (.ireturn, 1) := by decide +kernel
theorem dL_law_240 : decode cL_law 240 = .ok (.iload 6, 2) := by decide +kernel
theorem dL_law_242 : decode cL_law 242 = .ok (.ifCond .ne 15, 3) := by decide +kernel
theorem dL_law_245 : decode cL_law 245 = .ok (.aload_n 3, 1) := by decide +kernel
theorem dL_law_246 : decode cL_law 246 = .ok (.iconst 0, 1) := by decide +kernel
theorem dL_law_247 : decode cL_law 247 = .ok (.laload, 1) := by decide +kernel
theorem dL_law_248 : decode cL_law 248 = .ok (.iload 7, 2) := by decide +kernel
theorem dL_law_250 : decode cL_law 250 = .ok (.i2l, 1) := by decide +kernel
theorem dL_law_251 : decode cL_law 251 = .ok (.lcmp, 1) := by decide +kernel
theorem dL_law_252 : decode cL_law 252 = .ok (.ifCond .eq 5, 3) := by decide +kernel
theorem dL_law_255 : decode cL_law 255 = .ok (.iconst 0, 1) := by decide +kernel
theorem dL_law_256 : decode cL_law 256 = .ok (.ireturn, 1) := by decide +kernel
theorem dL_law_257 : decode cL_law 257 = .ok (.goto 1646, 3) := by decide +kernel
theorem dL_law_260 : decode cL_law 260 = .ok (.aload_n 1, 1) := by decide +kernel
theorem dL_law_261 : decode cL_law 261 = .ok (.aload_n 0, 1) := by decide +kernel
theorem dL_law_262 : decode cL_law 262 = .ok (.iload 5, 2) := by decide +kernel
theorem dL_law_264 : decode cL_law 264 = .ok (.iconst 1, 1) := by decide +kernel
theorem dL_law_265 : decode cL_law 265 = .ok (.iadd, 1) := by decide +kernel
theorem dL_law_266 : decode cL_law 266 = .ok (.iaload, 1) := by decide +kernel
theorem dL_law_267 : decode cL_law 267 = .ok (.aload_n 0, 1) := by decide +kernel
theorem dL_law_268 : decode cL_law 268 = .ok (.iload 5, 2) := by decide +kernel
theorem dL_law_270 : decode cL_law 270 = .ok (.iconst 2, 1) := by decide +kernel
theorem dL_law_271 : decode cL_law 271 = .ok (.iadd, 1) := by decide +kernel
theorem dL_law_272 : decode cL_law 272 = .ok (.iaload, 1) := by decide +kernel
theorem dL_law_273 : decode cL_law 273 = .ok (.aload_n 3, 1) := by decide +kernel
theorem dL_law_274 : decode cL_law 274 = .ok (.invokestatic 123, 3) := by decide +kernel
theorem dL_law_277 : decode cL_law 277 = .ok (.istore 6, 2) := by decide +kernel
theorem dL_law_279 : decode cL_law 279 = .ok (.aload_n 2, 1) := by decide +kernel
theorem dL_law_280 : decode cL_law 280 = .ok (.aload_n 0, 1) := by decide +kernel
theorem dL_law_281 : decode cL_law 281 = .ok (.iload 5, 2) := by decide +kernel
theorem dL_law_283 : decode cL_law 283 = .ok (.iconst 1, 1) := by decide +kernel
theorem dL_law_284 : decode cL_law 284 = .ok (.iadd, 1) := by decide +kernel
theorem dL_law_285 : decode cL_law 285 = .ok (.iaload, 1) := by decide +kernel
theorem dL_law_286 : decode cL_law 286 = .ok (.aload_n 0, 1) := by decide +kernel
theorem dL_law_287 : decode cL_law 287 = .ok (.iload 5, 2) := by decide +kernel
theorem dL_law_289 : decode cL_law 289 = .ok (.iconst 2, 1) := by decide +kernel
theorem dL_law_290 : decode cL_law 290 = .ok (.iadd, 1) := by decide +kernel
theorem dL_law_291 : decode cL_law 291 = .ok (.iaload, 1) := by decide +kernel
theorem dL_law_292 : decode cL_law 292 = .ok (.invokevirtual 125, 3) := by decide +kernel
theorem dL_law_295 : decode cL_law 295 = .ok (.istore 7, 2) := by decide +kernel
theorem dL_law_297 : decode cL_law 297 = .ok (.aload_n 2, 1) := by decide +kernel
theorem dL_law_298 : decode cL_law 298 = .ok (.invokevirtual 120, 3) := by decide +kernel
theorem dL_law_301 : decode cL_law 301 = .ok (.iload 6, 2) := by decide +kernel
theorem dL_law_303 : decode cL_law 303 = .ok (.if_icmp .eq 5, 3) := by decide +kernel
theorem dL_law_306 : decode cL_law 306 = .ok (.iconst 0, 1) := by decide +kernel
theorem dL_law_307 : decode cL_law 307 = .ok (.ireturn, 1) := by decide +kernel
theorem dL_law_308 : decode cL_law 308 = .ok (.iload 6, 2) := by decide +kernel
theorem dL_law_310 : decode cL_law 310 = .ok (.ifCond .ne 15, 3) := by decide +kernel
theorem dL_law_313 : decode cL_law 313 = .ok (.aload_n 3, 1) := by decide +kernel
theorem dL_law_314 : decode cL_law 314 = .ok (.iconst 0, 1) := by decide +kernel
theorem dL_law_315 : decode cL_law 315 = .ok (.laload, 1) := by decide +kernel
theorem dL_law_316 : decode cL_law 316 = .ok (.iload 7, 2) := by decide +kernel
theorem dL_law_318 : decode cL_law 318 = .ok (.i2l, 1) := by decide +kernel
theorem dL_law_319 : decode cL_law 319 = .ok (.lcmp, 1) := by decide +kernel
theorem dL_law_320 : decode cL_law 320 = .ok (.ifCond .eq 5, 3) := by decide +kernel
theorem dL_law_323 : decode cL_law 323 = .ok (.iconst 0, 1) := by decide +kernel
theorem dL_law_324 : decode cL_law 324 = .ok (.ireturn, 1) := by decide +kernel
theorem dL_law_325 : decode cL_law 325 = .ok (.goto 1578, 3) := by decide +kernel
theorem dL_law_328 : decode cL_law 328 = .ok (.aload_n 1, 1) := by decide +kernel
theorem dL_law_329 : decode cL_law 329 = .ok (.aload_n 0, 1) := by decide +kernel
theorem dL_law_330 : decode cL_law 330 = .ok (.iload 5, 2) := by decide +kernel
theorem dL_law_332 : decode cL_law 332 = .ok (.iconst 1, 1) := by decide +kernel
theorem dL_law_333 : decode cL_law 333 = .ok (.iadd, 1) := by decide +kernel
theorem dL_law_334 : decode cL_law 334 = .ok (.iaload, 1) := by decide +kernel
theorem dL_law_335 : decode cL_law 335 = .ok (.aload_n 3, 1) := by decide +kernel
theorem dL_law_336 : decode cL_law 336 = .ok (.invokestatic 126, 3) := by decide +kernel
theorem dL_law_339 : decode cL_law 339 = .ok (.istore 6, 2) := by decide +kernel
theorem dL_law_341 : decode cL_law 341 = .ok (.aload_n 2, 1) := by decide +kernel
theorem dL_law_342 : decode cL_law 342 = .ok (.aload_n 0, 1) := by decide +kernel
theorem dL_law_343 : decode cL_law 343 = .ok (.iload 5, 2) := by decide +kernel
theorem dL_law_345 : decode cL_law 345 = .ok (.iconst 1, 1) := by decide +kernel
theorem dL_law_346 : decode cL_law 346 = .ok (.iadd, 1) := by decide +kernel
theorem dL_law_347 : decode cL_law 347 = .ok (.iaload, 1) := by decide +kernel
theorem dL_law_348 : decode cL_law 348 = .ok (.invokevirtual 129, 3) := by decide +kernel
theorem dL_law_351 : decode cL_law 351 = .ok (.istore 7, 2) := by decide +kernel
theorem dL_law_353 : decode cL_law 353 = .ok (.aload_n 2, 1) := by decide +kernel
theorem dL_law_354 : decode cL_law 354 = .ok (.invokevirtual 120, 3) := by decide +kernel
theorem dL_law_357 : decode cL_law 357 = .ok (.iload 6, 2) := by decide +kernel
theorem dL_law_359 : decode cL_law 359 = .ok (.if_icmp .eq 5, 3) := by decide +kernel
theorem dL_law_362 : decode cL_law 362 = .ok (.iconst 0, 1) := by decide +kernel
theorem dL_law_363 : decode cL_law 363 = .ok (.ireturn, 1) := by decide +kernel
theorem dL_law_364 : decode cL_law 364 = .ok (.iload 6, 2) := by decide +kernel
theorem dL_law_366 : decode cL_law 366 = .ok (.ifCond .ne 15, 3) := by decide +kernel
theorem dL_law_369 : decode cL_law 369 = .ok (.aload_n 3, 1) := by decide +kernel
theorem dL_law_370 : decode cL_law 370 = .ok (.iconst 0, 1) := by decide +kernel
theorem dL_law_371 : decode cL_law 371 = .ok (.laload, 1) := by decide +kernel
theorem dL_law_372 : decode cL_law 372 = .ok (.iload 7, 2) := by decide +kernel
theorem dL_law_374 : decode cL_law 374 = .ok (.i2l, 1) := by decide +kernel
theorem dL_law_375 : decode cL_law 375 = .ok (.lcmp, 1) := by decide +kernel
theorem dL_law_376 : decode cL_law 376 = .ok (.ifCond .eq 5, 3) := by decide +kernel
theorem dL_law_379 : decode cL_law 379 = .ok (.iconst 0, 1) := by decide +kernel
theorem dL_law_380 : decode cL_law 380 = .ok (.ireturn, 1) := by decide +kernel
theorem dL_law_381 : decode cL_law 381 = .ok (.goto 1522, 3) := by decide +kernel
theorem dL_law_384 : decode cL_law 384 = .ok (.aload_n 1, 1) := by decide +kernel
theorem dL_law_385 : decode cL_law 385 = .ok (.aload_n 0, 1) := by decide +kernel
theorem dL_law_386 : decode cL_law 386 = .ok (.iload 5, 2) := by decide +kernel
theorem dL_law_388 : decode cL_law 388 = .ok (.iconst 1, 1) := by decide +kernel
theorem dL_law_389 : decode cL_law 389 = .ok (.iadd, 1) := by decide +kernel
theorem dL_law_390 : decode cL_law 390 = .ok (.iaload, 1) := by decide +kernel
theorem dL_law_391 : decode cL_law 391 = .ok (.aload_n 3, 1) := by decide +kernel
theorem dL_law_392 : decode cL_law 392 = .ok (.invokestatic 130, 3) := by decide +kernel
theorem dL_law_395 : decode cL_law 395 = .ok (.istore 6, 2) := by decide +kernel
theorem dL_law_397 : decode cL_law 397 = .ok (.aload_n 2, 1) := by decide +kernel
theorem dL_law_398 : decode cL_law 398 = .ok (.aload_n 0, 1) := by decide +kernel
theorem dL_law_399 : decode cL_law 399 = .ok (.iload 5, 2) := by decide +kernel
theorem dL_law_401 : decode cL_law 401 = .ok (.iconst 1, 1) := by decide +kernel
theorem dL_law_402 : decode cL_law 402 = .ok (.iadd, 1) := by decide +kernel
theorem dL_law_403 : decode cL_law 403 = .ok (.iaload, 1) := by decide +kernel
theorem dL_law_404 : decode cL_law 404 = .ok (.invokevirtual 132, 3) := by decide +kernel
theorem dL_law_407 : decode cL_law 407 = .ok (.istore 7, 2) := by decide +kernel
theorem dL_law_409 : decode cL_law 409 = .ok (.aload_n 2, 1) := by decide +kernel
theorem dL_law_410 : decode cL_law 410 = .ok (.invokevirtual 120, 3) := by decide +kernel
theorem dL_law_413 : decode cL_law 413 = .ok (.iload 6, 2) := by decide +kernel
theorem dL_law_415 : decode cL_law 415 = .ok (.if_icmp .eq 5, 3) := by decide +kernel
theorem dL_law_418 : decode cL_law 418 = .ok (.iconst 0, 1) := by decide +kernel
theorem dL_law_419 : decode cL_law 419 = .ok (.ireturn, 1) := by decide +kernel
theorem dL_law_420 : decode cL_law 420 = .ok (.iload 6, 2) := by decide +kernel
theorem dL_law_422 : decode cL_law 422 = .ok (.ifCond .ne 15, 3) := by decide +kernel
theorem dL_law_425 : decode cL_law 425 = .ok (.aload_n 3, 1) := by decide +kernel
theorem dL_law_426 : decode cL_law 426 = .ok (.iconst 0, 1) := by decide +kernel
theorem dL_law_427 : decode cL_law 427 = .ok (.laload, 1) := by decide +kernel
theorem dL_law_428 : decode cL_law 428 = .ok (.iload 7, 2) := by decide +kernel
theorem dL_law_430 : decode cL_law 430 = .ok (.i2l, 1) := by decide +kernel
theorem dL_law_431 : decode cL_law 431 = .ok (.lcmp, 1) := by decide +kernel
theorem dL_law_432 : decode cL_law 432 = .ok (.ifCond .eq 5, 3) := by decide +kernel
theorem dL_law_435 : decode cL_law 435 = .ok (.iconst 0, 1) := by decide +kernel
theorem dL_law_436 : decode cL_law 436 = .ok (.ireturn, 1) := by decide +kernel
theorem dL_law_437 : decode cL_law 437 = .ok (.goto 1466, 3) := by decide +kernel
theorem dL_law_440 : decode cL_law 440 = .ok (.aload_n 1, 1) := by decide +kernel
theorem dL_law_441 : decode cL_law 441 = .ok (.aload_n 0, 1) := by decide +kernel
theorem dL_law_442 : decode cL_law 442 = .ok (.iload 5, 2) := by decide +kernel
theorem dL_law_444 : decode cL_law 444 = .ok (.iconst 1, 1) := by decide +kernel
theorem dL_law_445 : decode cL_law 445 = .ok (.iadd, 1) := by decide +kernel
theorem dL_law_446 : decode cL_law 446 = .ok (.iaload, 1) := by decide +kernel
theorem dL_law_447 : decode cL_law 447 = .ok (.aload_n 0, 1) := by decide +kernel
theorem dL_law_448 : decode cL_law 448 = .ok (.iload 5, 2) := by decide +kernel
theorem dL_law_450 : decode cL_law 450 = .ok (.iconst 2, 1) := by decide +kernel
theorem dL_law_451 : decode cL_law 451 = .ok (.iadd, 1) := by decide +kernel
theorem dL_law_452 : decode cL_law 452 = .ok (.iaload, 1) := by decide +kernel
theorem dL_law_453 : decode cL_law 453 = .ok (.aload_n 3, 1) := by decide +kernel
theorem dL_law_454 : decode cL_law 454 = .ok (.invokestatic 133, 3) := by decide +kernel
theorem dL_law_457 : decode cL_law 457 = .ok (.istore 6, 2) := by decide +kernel
theorem dL_law_459 : decode cL_law 459 = .ok (.aload_n 2, 1) := by decide +kernel
theorem dL_law_460 : decode cL_law 460 = .ok (.aload_n 0, 1) := by decide +kernel
theorem dL_law_461 : decode cL_law 461 = .ok (.iload 5, 2) := by decide +kernel
theorem dL_law_463 : decode cL_law 463 = .ok (.iconst 1, 1) := by decide +kernel
theorem dL_law_464 : decode cL_law 464 = .ok (.iadd, 1) := by decide +kernel
theorem dL_law_465 : decode cL_law 465 = .ok (.iaload, 1) := by decide +kernel
theorem dL_law_466 : decode cL_law 466 = .ok (.aload_n 0, 1) := by decide +kernel
theorem dL_law_467 : decode cL_law 467 = .ok (.iload 5, 2) := by decide +kernel
theorem dL_law_469 : decode cL_law 469 = .ok (.iconst 2, 1) := by decide +kernel
theorem dL_law_470 : decode cL_law 470 = .ok (.iadd, 1) := by decide +kernel
theorem dL_law_471 : decode cL_law 471 = .ok (.iaload, 1) := by decide +kernel
theorem dL_law_472 : decode cL_law 472 = .ok (.invokevirtual 135, 3) := by decide +kernel
theorem dL_law_475 : decode cL_law 475 = .ok (.istore 7, 2) := by decide +kernel
theorem dL_law_477 : decode cL_law 477 = .ok (.aload_n 2, 1) := by decide +kernel
theorem dL_law_478 : decode cL_law 478 = .ok (.invokevirtual 120, 3) := by decide +kernel
theorem dL_law_481 : decode cL_law 481 = .ok (.iload 6, 2) := by decide +kernel
theorem dL_law_483 : decode cL_law 483 = .ok (.if_icmp .eq 5, 3) := by decide +kernel
theorem dL_law_486 : decode cL_law 486 = .ok (.iconst 0, 1) := by decide +kernel
theorem dL_law_487 : decode cL_law 487 = .ok (.ireturn, 1) := by decide +kernel
theorem dL_law_488 : decode cL_law 488 = .ok (.iload 6, 2) := by decide +kernel
theorem dL_law_490 : decode cL_law 490 = .ok (.ifCond .ne 15, 3) := by decide +kernel
theorem dL_law_493 : decode cL_law 493 = .ok (.aload_n 3, 1) := by decide +kernel
theorem dL_law_494 : decode cL_law 494 = .ok (.iconst 0, 1) := by decide +kernel
theorem dL_law_495 : decode cL_law 495 = .ok (.laload, 1) := by decide +kernel
theorem dL_law_496 : decode cL_law 496 = .ok (.iload 7, 2) := by decide +kernel
theorem dL_law_498 : decode cL_law 498 = .ok (.i2l, 1) := by decide +kernel
theorem dL_law_499 : decode cL_law 499 = .ok (.lcmp, 1) := by decide +kernel
theorem dL_law_500 : decode cL_law 500 = .ok (.ifCond .eq 5, 3) := by decide +kernel
theorem dL_law_503 : decode cL_law 503 = .ok (.iconst 0, 1) := by decide +kernel
theorem dL_law_504 : decode cL_law 504 = .ok (.ireturn, 1) := by decide +kernel
theorem dL_law_505 : decode cL_law 505 = .ok (.goto 1398, 3) := by decide +kernel
theorem dL_law_508 : decode cL_law 508 = .ok (.aload_n 1, 1) := by decide +kernel
theorem dL_law_509 : decode cL_law 509 = .ok (.aload_n 0, 1) := by decide +kernel
theorem dL_law_510 : decode cL_law 510 = .ok (.iload 5, 2) := by decide +kernel
theorem dL_law_512 : decode cL_law 512 = .ok (.iconst 1, 1) := by decide +kernel
theorem dL_law_513 : decode cL_law 513 = .ok (.iadd, 1) := by decide +kernel
theorem dL_law_514 : decode cL_law 514 = .ok (.iaload, 1) := by decide +kernel
theorem dL_law_515 : decode cL_law 515 = .ok (.aload_n 3, 1) := by decide +kernel
theorem dL_law_516 : decode cL_law 516 = .ok (.invokestatic 136, 3) := by decide +kernel
theorem dL_law_519 : decode cL_law 519 = .ok (.istore 6, 2) := by decide +kernel
theorem dL_law_521 : decode cL_law 521 = .ok (.aload_n 2, 1) := by decide +kernel
theorem dL_law_522 : decode cL_law 522 = .ok (.aload_n 0, 1) := by decide +kernel
theorem dL_law_523 : decode cL_law 523 = .ok (.iload 5, 2) := by decide +kernel
theorem dL_law_525 : decode cL_law 525 = .ok (.iconst 1, 1) := by decide +kernel
theorem dL_law_526 : decode cL_law 526 = .ok (.iadd, 1) := by decide +kernel
theorem dL_law_527 : decode cL_law 527 = .ok (.iaload, 1) := by decide +kernel
theorem dL_law_528 : decode cL_law 528 = .ok (.invokevirtual 138, 3) := by decide +kernel
theorem dL_law_531 : decode cL_law 531 = .ok (.istore 7, 2) := by decide +kernel
theorem dL_law_533 : decode cL_law 533 = .ok (.aload_n 2, 1) := by decide +kernel
theorem dL_law_534 : decode cL_law 534 = .ok (.invokevirtual 120, 3) := by decide +kernel
theorem dL_law_537 : decode cL_law 537 = .ok (.iload 6, 2) := by decide +kernel
theorem dL_law_539 : decode cL_law 539 = .ok (.if_icmp .eq 5, 3) := by decide +kernel
theorem dL_law_542 : decode cL_law 542 = .ok (.iconst 0, 1) := by decide +kernel
theorem dL_law_543 : decode cL_law 543 = .ok (.ireturn, 1) := by decide +kernel
theorem dL_law_544 : decode cL_law 544 = .ok (.iload 6, 2) := by decide +kernel
theorem dL_law_546 : decode cL_law 546 = .ok (.ifCond .ne 15, 3) := by decide +kernel
theorem dL_law_549 : decode cL_law 549 = .ok (.aload_n 3, 1) := by decide +kernel
theorem dL_law_550 : decode cL_law 550 = .ok (.iconst 0, 1) := by decide +kernel
theorem dL_law_551 : decode cL_law 551 = .ok (.laload, 1) := by decide +kernel
theorem dL_law_552 : decode cL_law 552 = .ok (.iload 7, 2) := by decide +kernel
theorem dL_law_554 : decode cL_law 554 = .ok (.i2l, 1) := by decide +kernel
theorem dL_law_555 : decode cL_law 555 = .ok (.lcmp, 1) := by decide +kernel
theorem dL_law_556 : decode cL_law 556 = .ok (.ifCond .eq 5, 3) := by decide +kernel
theorem dL_law_559 : decode cL_law 559 = .ok (.iconst 0, 1) := by decide +kernel
theorem dL_law_560 : decode cL_law 560 = .ok (.ireturn, 1) := by decide +kernel
theorem dL_law_561 : decode cL_law 561 = .ok (.goto 1342, 3) := by decide +kernel
theorem dL_law_564 : decode cL_law 564 = .ok (.aload_n 1, 1) := by decide +kernel
theorem dL_law_565 : decode cL_law 565 = .ok (.aload_n 0, 1) := by decide +kernel
theorem dL_law_566 : decode cL_law 566 = .ok (.iload 5, 2) := by decide +kernel
theorem dL_law_568 : decode cL_law 568 = .ok (.iconst 1, 1) := by decide +kernel
theorem dL_law_569 : decode cL_law 569 = .ok (.iadd, 1) := by decide +kernel
theorem dL_law_570 : decode cL_law 570 = .ok (.iaload, 1) := by decide +kernel
theorem dL_law_571 : decode cL_law 571 = .ok (.aload_n 3, 1) := by decide +kernel
theorem dL_law_572 : decode cL_law 572 = .ok (.invokestatic 139, 3) := by decide +kernel
theorem dL_law_575 : decode cL_law 575 = .ok (.istore 6, 2) := by decide +kernel
theorem dL_law_577 : decode cL_law 577 = .ok (.aload_n 2, 1) := by decide +kernel
theorem dL_law_578 : decode cL_law 578 = .ok (.aload_n 0, 1) := by decide +kernel
theorem dL_law_579 : decode cL_law 579 = .ok (.iload 5, 2) := by decide +kernel
theorem dL_law_581 : decode cL_law 581 = .ok (.iconst 1, 1) := by decide +kernel
theorem dL_law_582 : decode cL_law 582 = .ok (.iadd, 1) := by decide +kernel
theorem dL_law_583 : decode cL_law 583 = .ok (.iaload, 1) := by decide +kernel
theorem dL_law_584 : decode cL_law 584 = .ok (.invokevirtual 141, 3) := by decide +kernel
theorem dL_law_587 : decode cL_law 587 = .ok (.istore 7, 2) := by decide +kernel
theorem dL_law_589 : decode cL_law 589 = .ok (.aload_n 2, 1) := by decide +kernel
theorem dL_law_590 : decode cL_law 590 = .ok (.invokevirtual 120, 3) := by decide +kernel
theorem dL_law_593 : decode cL_law 593 = .ok (.iload 6, 2) := by decide +kernel
theorem dL_law_595 : decode cL_law 595 = .ok (.if_icmp .eq 5, 3) := by decide +kernel
theorem dL_law_598 : decode cL_law 598 = .ok (.iconst 0, 1) := by decide +kernel
theorem dL_law_599 : decode cL_law 599 = .ok (.ireturn, 1) := by decide +kernel
theorem dL_law_600 : decode cL_law 600 = .ok (.iload 6, 2) := by decide +kernel
theorem dL_law_602 : decode cL_law 602 = .ok (.ifCond .ne 15, 3) := by decide +kernel
theorem dL_law_605 : decode cL_law 605 = .ok (.aload_n 3, 1) := by decide +kernel
theorem dL_law_606 : decode cL_law 606 = .ok (.iconst 0, 1) := by decide +kernel
theorem dL_law_607 : decode cL_law 607 = .ok (.laload, 1) := by decide +kernel
theorem dL_law_608 : decode cL_law 608 = .ok (.iload 7, 2) := by decide +kernel
theorem dL_law_610 : decode cL_law 610 = .ok (.i2l, 1) := by decide +kernel
theorem dL_law_611 : decode cL_law 611 = .ok (.lcmp, 1) := by decide +kernel
theorem dL_law_612 : decode cL_law 612 = .ok (.ifCond .eq 5, 3) := by decide +kernel
theorem dL_law_615 : decode cL_law 615 = .ok (.iconst 0, 1) := by decide +kernel
theorem dL_law_616 : decode cL_law 616 = .ok (.ireturn, 1) := by decide +kernel
theorem dL_law_617 : decode cL_law 617 = .ok (.goto 1286, 3) := by decide +kernel
theorem dL_law_620 : decode cL_law 620 = .ok (.aload_n 1, 1) := by decide +kernel
theorem dL_law_621 : decode cL_law 621 = .ok (.aload_n 0, 1) := by decide +kernel
theorem dL_law_622 : decode cL_law 622 = .ok (.iload 5, 2) := by decide +kernel
theorem dL_law_624 : decode cL_law 624 = .ok (.iconst 1, 1) := by decide +kernel
theorem dL_law_625 : decode cL_law 625 = .ok (.iadd, 1) := by decide +kernel
theorem dL_law_626 : decode cL_law 626 = .ok (.iaload, 1) := by decide +kernel
theorem dL_law_627 : decode cL_law 627 = .ok (.aload_n 0, 1) := by decide +kernel
theorem dL_law_628 : decode cL_law 628 = .ok (.iload 5, 2) := by decide +kernel
theorem dL_law_630 : decode cL_law 630 = .ok (.iconst 2, 1) := by decide +kernel
theorem dL_law_631 : decode cL_law 631 = .ok (.iadd, 1) := by decide +kernel
theorem dL_law_632 : decode cL_law 632 = .ok (.iaload, 1) := by decide +kernel
theorem dL_law_633 : decode cL_law 633 = .ok (.aload_n 3, 1) := by decide +kernel
theorem dL_law_634 : decode cL_law 634 = .ok (.invokestatic 142, 3) := by decide +kernel
theorem dL_law_637 : decode cL_law 637 = .ok (.istore 6, 2) := by decide +kernel
theorem dL_law_639 : decode cL_law 639 = .ok (.aload_n 2, 1) := by decide +kernel
theorem dL_law_640 : decode cL_law 640 = .ok (.aload_n 0, 1) := by decide +kernel
theorem dL_law_641 : decode cL_law 641 = .ok (.iload 5, 2) := by decide +kernel
theorem dL_law_643 : decode cL_law 643 = .ok (.iconst 1, 1) := by decide +kernel
theorem dL_law_644 : decode cL_law 644 = .ok (.iadd, 1) := by decide +kernel
theorem dL_law_645 : decode cL_law 645 = .ok (.iaload, 1) := by decide +kernel
theorem dL_law_646 : decode cL_law 646 = .ok (.aload_n 0, 1) := by decide +kernel
theorem dL_law_647 : decode cL_law 647 = .ok (.iload 5, 2) := by decide +kernel
theorem dL_law_649 : decode cL_law 649 = .ok (.iconst 2, 1) := by decide +kernel
theorem dL_law_650 : decode cL_law 650 = .ok (.iadd, 1) := by decide +kernel
theorem dL_law_651 : decode cL_law 651 = .ok (.iaload, 1) := by decide +kernel
theorem dL_law_652 : decode cL_law 652 = .ok (.invokevirtual 144, 3) := by decide +kernel
theorem dL_law_655 : decode cL_law 655 = .ok (.istore 7, 2) := by decide +kernel
theorem dL_law_657 : decode cL_law 657 = .ok (.aload_n 2, 1) := by decide +kernel
theorem dL_law_658 : decode cL_law 658 = .ok (.invokevirtual 120, 3) := by decide +kernel
theorem dL_law_661 : decode cL_law 661 = .ok (.iload 6, 2) := by decide +kernel
theorem dL_law_663 : decode cL_law 663 = .ok (.if_icmp .eq 5, 3) := by decide +kernel
theorem dL_law_666 : decode cL_law 666 = .ok (.iconst 0, 1) := by decide +kernel
theorem dL_law_667 : decode cL_law 667 = .ok (.ireturn, 1) := by decide +kernel
theorem dL_law_668 : decode cL_law 668 = .ok (.iload 6, 2) := by decide +kernel
theorem dL_law_670 : decode cL_law 670 = .ok (.ifCond .ne 15, 3) := by decide +kernel
theorem dL_law_673 : decode cL_law 673 = .ok (.aload_n 3, 1) := by decide +kernel
theorem dL_law_674 : decode cL_law 674 = .ok (.iconst 0, 1) := by decide +kernel
theorem dL_law_675 : decode cL_law 675 = .ok (.laload, 1) := by decide +kernel
theorem dL_law_676 : decode cL_law 676 = .ok (.iload 7, 2) := by decide +kernel
theorem dL_law_678 : decode cL_law 678 = .ok (.i2l, 1) := by decide +kernel
theorem dL_law_679 : decode cL_law 679 = .ok (.lcmp, 1) := by decide +kernel
theorem dL_law_680 : decode cL_law 680 = .ok (.ifCond .eq 5, 3) := by decide +kernel
theorem dL_law_683 : decode cL_law 683 = .ok (.iconst 0, 1) := by decide +kernel
theorem dL_law_684 : decode cL_law 684 = .ok (.ireturn, 1) := by decide +kernel
theorem dL_law_685 : decode cL_law 685 = .ok (.goto 1218, 3) := by decide +kernel
theorem dL_law_688 : decode cL_law 688 = .ok (.aload_n 1, 1) := by decide +kernel
theorem dL_law_689 : decode cL_law 689 = .ok (.aload_n 0, 1) := by decide +kernel
theorem dL_law_690 : decode cL_law 690 = .ok (.iload 5, 2) := by decide +kernel
theorem dL_law_692 : decode cL_law 692 = .ok (.iconst 1, 1) := by decide +kernel
theorem dL_law_693 : decode cL_law 693 = .ok (.iadd, 1) := by decide +kernel
theorem dL_law_694 : decode cL_law 694 = .ok (.iaload, 1) := by decide +kernel
theorem dL_law_695 : decode cL_law 695 = .ok (.aload_n 0, 1) := by decide +kernel
theorem dL_law_696 : decode cL_law 696 = .ok (.iload 5, 2) := by decide +kernel
theorem dL_law_698 : decode cL_law 698 = .ok (.iconst 2, 1) := by decide +kernel
theorem dL_law_699 : decode cL_law 699 = .ok (.iadd, 1) := by decide +kernel
theorem dL_law_700 : decode cL_law 700 = .ok (.iaload, 1) := by decide +kernel
theorem dL_law_701 : decode cL_law 701 = .ok (.aload_n 3, 1) := by decide +kernel
theorem dL_law_702 : decode cL_law 702 = .ok (.invokestatic 145, 3) := by decide +kernel
theorem dL_law_705 : decode cL_law 705 = .ok (.istore 6, 2) := by decide +kernel
theorem dL_law_707 : decode cL_law 707 = .ok (.aload_n 2, 1) := by decide +kernel
theorem dL_law_708 : decode cL_law 708 = .ok (.aload_n 0, 1) := by decide +kernel
theorem dL_law_709 : decode cL_law 709 = .ok (.iload 5, 2) := by decide +kernel
theorem dL_law_711 : decode cL_law 711 = .ok (.iconst 1, 1) := by decide +kernel
theorem dL_law_712 : decode cL_law 712 = .ok (.iadd, 1) := by decide +kernel
theorem dL_law_713 : decode cL_law 713 = .ok (.iaload, 1) := by decide +kernel
theorem dL_law_714 : decode cL_law 714 = .ok (.aload_n 0, 1) := by decide +kernel
theorem dL_law_715 : decode cL_law 715 = .ok (.iload 5, 2) := by decide +kernel
theorem dL_law_717 : decode cL_law 717 = .ok (.iconst 2, 1) := by decide +kernel
theorem dL_law_718 : decode cL_law 718 = .ok (.iadd, 1) := by decide +kernel
theorem dL_law_719 : decode cL_law 719 = .ok (.iaload, 1) := by decide +kernel
theorem dL_law_720 : decode cL_law 720 = .ok (.invokevirtual 147, 3) := by decide +kernel
theorem dL_law_723 : decode cL_law 723 = .ok (.istore 7, 2) := by decide +kernel
theorem dL_law_725 : decode cL_law 725 = .ok (.aload_n 2, 1) := by decide +kernel
theorem dL_law_726 : decode cL_law 726 = .ok (.invokevirtual 120, 3) := by decide +kernel
theorem dL_law_729 : decode cL_law 729 = .ok (.iload 6, 2) := by decide +kernel
theorem dL_law_731 : decode cL_law 731 = .ok (.if_icmp .eq 5, 3) := by decide +kernel
theorem dL_law_734 : decode cL_law 734 = .ok (.iconst 0, 1) := by decide +kernel
theorem dL_law_735 : decode cL_law 735 = .ok (.ireturn, 1) := by decide +kernel
theorem dL_law_736 : decode cL_law 736 = .ok (.iload 6, 2) := by decide +kernel
theorem dL_law_738 : decode cL_law 738 = .ok (.ifCond .ne 15, 3) := by decide +kernel
theorem dL_law_741 : decode cL_law 741 = .ok (.aload_n 3, 1) := by decide +kernel
theorem dL_law_742 : decode cL_law 742 = .ok (.iconst 0, 1) := by decide +kernel
theorem dL_law_743 : decode cL_law 743 = .ok (.laload, 1) := by decide +kernel
theorem dL_law_744 : decode cL_law 744 = .ok (.iload 7, 2) := by decide +kernel
theorem dL_law_746 : decode cL_law 746 = .ok (.i2l, 1) := by decide +kernel
theorem dL_law_747 : decode cL_law 747 = .ok (.lcmp, 1) := by decide +kernel
theorem dL_law_748 : decode cL_law 748 = .ok (.ifCond .eq 5, 3) := by decide +kernel
theorem dL_law_751 : decode cL_law 751 = .ok (.iconst 0, 1) := by decide +kernel
theorem dL_law_752 : decode cL_law 752 = .ok (.ireturn, 1) := by decide +kernel
theorem dL_law_753 : decode cL_law 753 = .ok (.goto 1150, 3) := by decide +kernel
theorem dL_law_756 : decode cL_law 756 = .ok (.aload_n 1, 1) := by decide +kernel
theorem dL_law_757 : decode cL_law 757 = .ok (.aload_n 0, 1) := by decide +kernel
theorem dL_law_758 : decode cL_law 758 = .ok (.iload 5, 2) := by decide +kernel
theorem dL_law_760 : decode cL_law 760 = .ok (.iconst 1, 1) := by decide +kernel
theorem dL_law_761 : decode cL_law 761 = .ok (.iadd, 1) := by decide +kernel
theorem dL_law_762 : decode cL_law 762 = .ok (.iaload, 1) := by decide +kernel
theorem dL_law_763 : decode cL_law 763 = .ok (.aload_n 0, 1) := by decide +kernel
theorem dL_law_764 : decode cL_law 764 = .ok (.iload 5, 2) := by decide +kernel
theorem dL_law_766 : decode cL_law 766 = .ok (.iconst 2, 1) := by decide +kernel
theorem dL_law_767 : decode cL_law 767 = .ok (.iadd, 1) := by decide +kernel
theorem dL_law_768 : decode cL_law 768 = .ok (.iaload, 1) := by decide +kernel
theorem dL_law_769 : decode cL_law 769 = .ok (.aload_n 3, 1) := by decide +kernel
theorem dL_law_770 : decode cL_law 770 = .ok (.invokestatic 148, 3) := by decide +kernel
theorem dL_law_773 : decode cL_law 773 = .ok (.istore 6, 2) := by decide +kernel
theorem dL_law_775 : decode cL_law 775 = .ok (.aload_n 2, 1) := by decide +kernel
theorem dL_law_776 : decode cL_law 776 = .ok (.aload_n 0, 1) := by decide +kernel
theorem dL_law_777 : decode cL_law 777 = .ok (.iload 5, 2) := by decide +kernel
theorem dL_law_779 : decode cL_law 779 = .ok (.iconst 1, 1) := by decide +kernel
theorem dL_law_780 : decode cL_law 780 = .ok (.iadd, 1) := by decide +kernel
theorem dL_law_781 : decode cL_law 781 = .ok (.iaload, 1) := by decide +kernel
theorem dL_law_782 : decode cL_law 782 = .ok (.aload_n 0, 1) := by decide +kernel
theorem dL_law_783 : decode cL_law 783 = .ok (.iload 5, 2) := by decide +kernel
theorem dL_law_785 : decode cL_law 785 = .ok (.iconst 2, 1) := by decide +kernel
theorem dL_law_786 : decode cL_law 786 = .ok (.iadd, 1) := by decide +kernel
theorem dL_law_787 : decode cL_law 787 = .ok (.iaload, 1) := by decide +kernel
theorem dL_law_788 : decode cL_law 788 = .ok (.invokevirtual 150, 3) := by decide +kernel
theorem dL_law_791 : decode cL_law 791 = .ok (.istore 7, 2) := by decide +kernel
theorem dL_law_793 : decode cL_law 793 = .ok (.aload_n 2, 1) := by decide +kernel
theorem dL_law_794 : decode cL_law 794 = .ok (.invokevirtual 120, 3) := by decide +kernel
theorem dL_law_797 : decode cL_law 797 = .ok (.iload 6, 2) := by decide +kernel
theorem dL_law_799 : decode cL_law 799 = .ok (.if_icmp .eq 5, 3) := by decide +kernel
theorem dL_law_802 : decode cL_law 802 = .ok (.iconst 0, 1) := by decide +kernel
theorem dL_law_803 : decode cL_law 803 = .ok (.ireturn, 1) := by decide +kernel
theorem dL_law_804 : decode cL_law 804 = .ok (.iload 6, 2) := by decide +kernel
theorem dL_law_806 : decode cL_law 806 = .ok (.ifCond .ne 15, 3) := by decide +kernel
theorem dL_law_809 : decode cL_law 809 = .ok (.aload_n 3, 1) := by decide +kernel
theorem dL_law_810 : decode cL_law 810 = .ok (.iconst 0, 1) := by decide +kernel
theorem dL_law_811 : decode cL_law 811 = .ok (.laload, 1) := by decide +kernel
theorem dL_law_812 : decode cL_law 812 = .ok (.iload 7, 2) := by decide +kernel
theorem dL_law_814 : decode cL_law 814 = .ok (.i2l, 1) := by decide +kernel
theorem dL_law_815 : decode cL_law 815 = .ok (.lcmp, 1) := by decide +kernel
theorem dL_law_816 : decode cL_law 816 = .ok (.ifCond .eq 5, 3) := by decide +kernel
theorem dL_law_819 : decode cL_law 819 = .ok (.iconst 0, 1) := by decide +kernel
theorem dL_law_820 : decode cL_law 820 = .ok (.ireturn, 1) := by decide +kernel
theorem dL_law_821 : decode cL_law 821 = .ok (.goto 1082, 3) := by decide +kernel
theorem dL_law_824 : decode cL_law 824 = .ok (.aload_n 1, 1) := by decide +kernel
theorem dL_law_825 : decode cL_law 825 = .ok (.aload_n 0, 1) := by decide +kernel
theorem dL_law_826 : decode cL_law 826 = .ok (.iload 5, 2) := by decide +kernel
theorem dL_law_828 : decode cL_law 828 = .ok (.iconst 1, 1) := by decide +kernel
theorem dL_law_829 : decode cL_law 829 = .ok (.iadd, 1) := by decide +kernel
theorem dL_law_830 : decode cL_law 830 = .ok (.iaload, 1) := by decide +kernel
theorem dL_law_831 : decode cL_law 831 = .ok (.aload_n 0, 1) := by decide +kernel
theorem dL_law_832 : decode cL_law 832 = .ok (.iload 5, 2) := by decide +kernel
theorem dL_law_834 : decode cL_law 834 = .ok (.iconst 2, 1) := by decide +kernel
theorem dL_law_835 : decode cL_law 835 = .ok (.iadd, 1) := by decide +kernel
theorem dL_law_836 : decode cL_law 836 = .ok (.iaload, 1) := by decide +kernel
theorem dL_law_837 : decode cL_law 837 = .ok (.aload_n 3, 1) := by decide +kernel
theorem dL_law_838 : decode cL_law 838 = .ok (.invokestatic 151, 3) := by decide +kernel
theorem dL_law_841 : decode cL_law 841 = .ok (.istore 6, 2) := by decide +kernel
theorem dL_law_843 : decode cL_law 843 = .ok (.aload_n 2, 1) := by decide +kernel
theorem dL_law_844 : decode cL_law 844 = .ok (.aload_n 0, 1) := by decide +kernel
theorem dL_law_845 : decode cL_law 845 = .ok (.iload 5, 2) := by decide +kernel
theorem dL_law_847 : decode cL_law 847 = .ok (.iconst 1, 1) := by decide +kernel
theorem dL_law_848 : decode cL_law 848 = .ok (.iadd, 1) := by decide +kernel
theorem dL_law_849 : decode cL_law 849 = .ok (.iaload, 1) := by decide +kernel
theorem dL_law_850 : decode cL_law 850 = .ok (.aload_n 0, 1) := by decide +kernel
theorem dL_law_851 : decode cL_law 851 = .ok (.iload 5, 2) := by decide +kernel
theorem dL_law_853 : decode cL_law 853 = .ok (.iconst 2, 1) := by decide +kernel
theorem dL_law_854 : decode cL_law 854 = .ok (.iadd, 1) := by decide +kernel
theorem dL_law_855 : decode cL_law 855 = .ok (.iaload, 1) := by decide +kernel
theorem dL_law_856 : decode cL_law 856 = .ok (.invokevirtual 153, 3) := by decide +kernel
theorem dL_law_859 : decode cL_law 859 = .ok (.istore 7, 2) := by decide +kernel
theorem dL_law_861 : decode cL_law 861 = .ok (.aload_n 2, 1) := by decide +kernel
theorem dL_law_862 : decode cL_law 862 = .ok (.invokevirtual 120, 3) := by decide +kernel
theorem dL_law_865 : decode cL_law 865 = .ok (.iload 6, 2) := by decide +kernel
theorem dL_law_867 : decode cL_law 867 = .ok (.if_icmp .eq 5, 3) := by decide +kernel
theorem dL_law_870 : decode cL_law 870 = .ok (.iconst 0, 1) := by decide +kernel
theorem dL_law_871 : decode cL_law 871 = .ok (.ireturn, 1) := by decide +kernel
theorem dL_law_872 : decode cL_law 872 = .ok (.iload 6, 2) := by decide +kernel
theorem dL_law_874 : decode cL_law 874 = .ok (.ifCond .ne 15, 3) := by decide +kernel
theorem dL_law_877 : decode cL_law 877 = .ok (.aload_n 3, 1) := by decide +kernel
theorem dL_law_878 : decode cL_law 878 = .ok (.iconst 0, 1) := by decide +kernel
theorem dL_law_879 : decode cL_law 879 = .ok (.laload, 1) := by decide +kernel
theorem dL_law_880 : decode cL_law 880 = .ok (.iload 7, 2) := by decide +kernel
theorem dL_law_882 : decode cL_law 882 = .ok (.i2l, 1) := by decide +kernel
theorem dL_law_883 : decode cL_law 883 = .ok (.lcmp, 1) := by decide +kernel
theorem dL_law_884 : decode cL_law 884 = .ok (.ifCond .eq 5, 3) := by decide +kernel
theorem dL_law_887 : decode cL_law 887 = .ok (.iconst 0, 1) := by decide +kernel
theorem dL_law_888 : decode cL_law 888 = .ok (.ireturn, 1) := by decide +kernel
theorem dL_law_889 : decode cL_law 889 = .ok (.goto 1014, 3) := by decide +kernel
theorem dL_law_892 : decode cL_law 892 = .ok (.aload_n 1, 1) := by decide +kernel
theorem dL_law_893 : decode cL_law 893 = .ok (.aload_n 0, 1) := by decide +kernel
theorem dL_law_894 : decode cL_law 894 = .ok (.iload 5, 2) := by decide +kernel
theorem dL_law_896 : decode cL_law 896 = .ok (.iconst 1, 1) := by decide +kernel
theorem dL_law_897 : decode cL_law 897 = .ok (.iadd, 1) := by decide +kernel
theorem dL_law_898 : decode cL_law 898 = .ok (.iaload, 1) := by decide +kernel
theorem dL_law_899 : decode cL_law 899 = .ok (.aload_n 0, 1) := by decide +kernel
theorem dL_law_900 : decode cL_law 900 = .ok (.iload 5, 2) := by decide +kernel
theorem dL_law_902 : decode cL_law 902 = .ok (.iconst 2, 1) := by decide +kernel
theorem dL_law_903 : decode cL_law 903 = .ok (.iadd, 1) := by decide +kernel
theorem dL_law_904 : decode cL_law 904 = .ok (.iaload, 1) := by decide +kernel
theorem dL_law_905 : decode cL_law 905 = .ok (.ifCond .eq 7, 3) := by decide +kernel
theorem dL_law_908 : decode cL_law 908 = .ok (.iconst 1, 1) := by decide +kernel
theorem dL_law_909 : decode cL_law 909 = .ok (.goto 4, 3) := by decide +kernel
theorem dL_law_912 : decode cL_law 912 = .ok (.iconst 0, 1) := by decide +kernel
theorem dL_law_913 : decode cL_law 913 = .ok (.aload_n 3, 1) := by decide +kernel
theorem dL_law_914 : decode cL_law 914 = .ok (.invokestatic 154, 3) := by decide +kernel
theorem dL_law_917 : decode cL_law 917 = .ok (.istore 6, 2) := by decide +kernel
theorem dL_law_919 : decode cL_law 919 = .ok (.aload_n 2, 1) := by decide +kernel
theorem dL_law_920 : decode cL_law 920 = .ok (.aload_n 0, 1) := by decide +kernel
theorem dL_law_921 : decode cL_law 921 = .ok (.iload 5, 2) := by decide +kernel
theorem dL_law_923 : decode cL_law 923 = .ok (.iconst 1, 1) := by decide +kernel
theorem dL_law_924 : decode cL_law 924 = .ok (.iadd, 1) := by decide +kernel
theorem dL_law_925 : decode cL_law 925 = .ok (.iaload, 1) := by decide +kernel
theorem dL_law_926 : decode cL_law 926 = .ok (.aload_n 0, 1) := by decide +kernel
theorem dL_law_927 : decode cL_law 927 = .ok (.iload 5, 2) := by decide +kernel
theorem dL_law_929 : decode cL_law 929 = .ok (.iconst 2, 1) := by decide +kernel
theorem dL_law_930 : decode cL_law 930 = .ok (.iadd, 1) := by decide +kernel
theorem dL_law_931 : decode cL_law 931 = .ok (.iaload, 1) := by decide +kernel
theorem dL_law_932 : decode cL_law 932 = .ok (.ifCond .eq 7, 3) := by decide +kernel
theorem dL_law_935 : decode cL_law 935 = .ok (.iconst 1, 1) := by decide +kernel
theorem dL_law_936 : decode cL_law 936 = .ok (.goto 4, 3) := by decide +kernel
theorem dL_law_939 : decode cL_law 939 = .ok (.iconst 0, 1) := by decide +kernel
theorem dL_law_940 : decode cL_law 940 = .ok (.invokevirtual 157, 3) := by decide +kernel
theorem dL_law_943 : decode cL_law 943 = .ok (.istore 7, 2) := by decide +kernel
theorem dL_law_945 : decode cL_law 945 = .ok (.aload_n 2, 1) := by decide +kernel
theorem dL_law_946 : decode cL_law 946 = .ok (.invokevirtual 120, 3) := by decide +kernel
theorem dL_law_949 : decode cL_law 949 = .ok (.iload 6, 2) := by decide +kernel
theorem dL_law_951 : decode cL_law 951 = .ok (.if_icmp .eq 5, 3) := by decide +kernel
theorem dL_law_954 : decode cL_law 954 = .ok (.iconst 0, 1) := by decide +kernel
theorem dL_law_955 : decode cL_law 955 = .ok (.ireturn, 1) := by decide +kernel
theorem dL_law_956 : decode cL_law 956 = .ok (.iload 6, 2) := by decide +kernel
theorem dL_law_958 : decode cL_law 958 = .ok (.ifCond .ne 15, 3) := by decide +kernel
theorem dL_law_961 : decode cL_law 961 = .ok (.aload_n 3, 1) := by decide +kernel
theorem dL_law_962 : decode cL_law 962 = .ok (.iconst 0, 1) := by decide +kernel
theorem dL_law_963 : decode cL_law 963 = .ok (.laload, 1) := by decide +kernel
theorem dL_law_964 : decode cL_law 964 = .ok (.iload 7, 2) := by decide +kernel
theorem dL_law_966 : decode cL_law 966 = .ok (.i2l, 1) := by decide +kernel
theorem dL_law_967 : decode cL_law 967 = .ok (.lcmp, 1) := by decide +kernel
theorem dL_law_968 : decode cL_law 968 = .ok (.ifCond .eq 5, 3) := by decide +kernel
theorem dL_law_971 : decode cL_law 971 = .ok (.iconst 0, 1) := by decide +kernel
theorem dL_law_972 : decode cL_law 972 = .ok (.ireturn, 1) := by decide +kernel
theorem dL_law_973 : decode cL_law 973 = .ok (.goto 930, 3) := by decide +kernel
theorem dL_law_976 : decode cL_law 976 = .ok (.aload_n 1, 1) := by decide +kernel
theorem dL_law_977 : decode cL_law 977 = .ok (.aload_n 3, 1) := by decide +kernel
theorem dL_law_978 : decode cL_law 978 = .ok (.invokestatic 158, 3) := by decide +kernel
theorem dL_law_981 : decode cL_law 981 = .ok (.istore 6, 2) := by decide +kernel
theorem dL_law_983 : decode cL_law 983 = .ok (.aload_n 2, 1) := by decide +kernel
theorem dL_law_984 : decode cL_law 984 = .ok (.invokevirtual 161, 3) := by decide +kernel
theorem dL_law_987 : decode cL_law 987 = .ok (.istore 7, 2) := by decide +kernel
theorem dL_law_989 : decode cL_law 989 = .ok (.aload_n 2, 1) := by decide +kernel
theorem dL_law_990 : decode cL_law 990 = .ok (.invokevirtual 120, 3) := by decide +kernel
theorem dL_law_993 : decode cL_law 993 = .ok (.iload 6, 2) := by decide +kernel
theorem dL_law_995 : decode cL_law 995 = .ok (.if_icmp .eq 5, 3) := by decide +kernel
theorem dL_law_998 : decode cL_law 998 = .ok (.iconst 0, 1) := by decide +kernel
theorem dL_law_999 : decode cL_law 999 = .ok (.ireturn, 1) := by decide +kernel
theorem dL_law_1000 : decode cL_law 1000 = .ok (.iload 6, 2) := by decide +kernel
theorem dL_law_1002 : decode cL_law 1002 = .ok (.ifCond .ne 15, 3) := by decide +kernel
theorem dL_law_1005 : decode cL_law 1005 = .ok (.aload_n 3, 1) := by decide +kernel
theorem dL_law_1006 : decode cL_law 1006 = .ok (.iconst 0, 1) := by decide +kernel
theorem dL_law_1007 : decode cL_law 1007 = .ok (.laload, 1) := by decide +kernel
theorem dL_law_1008 : decode cL_law 1008 = .ok (.iload 7, 2) := by decide +kernel
theorem dL_law_1010 : decode cL_law 1010 = .ok (.i2l, 1) := by decide +kernel
theorem dL_law_1011 : decode cL_law 1011 = .ok (.lcmp, 1) := by decide +kernel
theorem dL_law_1012 : decode cL_law 1012 = .ok (.ifCond .eq 5, 3) := by decide +kernel
theorem dL_law_1015 : decode cL_law 1015 = .ok (.iconst 0, 1) := by decide +kernel
theorem dL_law_1016 : decode cL_law 1016 = .ok (.ireturn, 1) := by decide +kernel
theorem dL_law_1017 : decode cL_law 1017 = .ok (.goto 886, 3) := by decide +kernel
theorem dL_law_1020 : decode cL_law 1020 = .ok (.aload_n 1, 1) := by decide +kernel
theorem dL_law_1021 : decode cL_law 1021 = .ok (.aload_n 0, 1) := by decide +kernel
theorem dL_law_1022 : decode cL_law 1022 = .ok (.iload 5, 2) := by decide +kernel
theorem dL_law_1024 : decode cL_law 1024 = .ok (.iconst 1, 1) := by decide +kernel
theorem dL_law_1025 : decode cL_law 1025 = .ok (.iadd, 1) := by decide +kernel
theorem dL_law_1026 : decode cL_law 1026 = .ok (.iaload, 1) := by decide +kernel
theorem dL_law_1027 : decode cL_law 1027 = .ok (.aload_n 3, 1) := by decide +kernel
theorem dL_law_1028 : decode cL_law 1028 = .ok (.invokestatic 162, 3) := by decide +kernel
theorem dL_law_1031 : decode cL_law 1031 = .ok (.istore 6, 2) := by decide +kernel
theorem dL_law_1033 : decode cL_law 1033 = .ok (.aload_n 2, 1) := by decide +kernel
theorem dL_law_1034 : decode cL_law 1034 = .ok (.aload_n 0, 1) := by decide +kernel
theorem dL_law_1035 : decode cL_law 1035 = .ok (.iload 5, 2) := by decide +kernel
theorem dL_law_1037 : decode cL_law 1037 = .ok (.iconst 1, 1) := by decide +kernel
theorem dL_law_1038 : decode cL_law 1038 = .ok (.iadd, 1) := by decide +kernel
theorem dL_law_1039 : decode cL_law 1039 = .ok (.iaload, 1) := by decide +kernel
theorem dL_law_1040 : decode cL_law 1040 = .ok (.invokevirtual 164, 3) := by decide +kernel
theorem dL_law_1043 : decode cL_law 1043 = .ok (.istore 7, 2) := by decide +kernel
theorem dL_law_1045 : decode cL_law 1045 = .ok (.aload_n 2, 1) := by decide +kernel
theorem dL_law_1046 : decode cL_law 1046 = .ok (.invokevirtual 120, 3) := by decide +kernel
theorem dL_law_1049 : decode cL_law 1049 = .ok (.iload 6, 2) := by decide +kernel
theorem dL_law_1051 : decode cL_law 1051 = .ok (.if_icmp .eq 5, 3) := by decide +kernel
theorem dL_law_1054 : decode cL_law 1054 = .ok (.iconst 0, 1) := by decide +kernel
theorem dL_law_1055 : decode cL_law 1055 = .ok (.ireturn, 1) := by decide +kernel
theorem dL_law_1056 : decode cL_law 1056 = .ok (.iload 6, 2) := by decide +kernel
theorem dL_law_1058 : decode cL_law 1058 = .ok (.ifCond .ne 15, 3) := by decide +kernel
theorem dL_law_1061 : decode cL_law 1061 = .ok (.aload_n 3, 1) := by decide +kernel
theorem dL_law_1062 : decode cL_law 1062 = .ok (.iconst 0, 1) := by decide +kernel
theorem dL_law_1063 : decode cL_law 1063 = .ok (.laload, 1) := by decide +kernel
theorem dL_law_1064 : decode cL_law 1064 = .ok (.iload 7, 2) := by decide +kernel
theorem dL_law_1066 : decode cL_law 1066 = .ok (.i2l, 1) := by decide +kernel
theorem dL_law_1067 : decode cL_law 1067 = .ok (.lcmp, 1) := by decide +kernel
theorem dL_law_1068 : decode cL_law 1068 = .ok (.ifCond .eq 5, 3) := by decide +kernel
theorem dL_law_1071 : decode cL_law 1071 = .ok (.iconst 0, 1) := by decide +kernel
theorem dL_law_1072 : decode cL_law 1072 = .ok (.ireturn, 1) := by decide +kernel
theorem dL_law_1073 : decode cL_law 1073 = .ok (.goto 830, 3) := by decide +kernel
theorem dL_law_1076 : decode cL_law 1076 = .ok (.aload_n 1, 1) := by decide +kernel
theorem dL_law_1077 : decode cL_law 1077 = .ok (.aload_n 0, 1) := by decide +kernel
theorem dL_law_1078 : decode cL_law 1078 = .ok (.iload 5, 2) := by decide +kernel
theorem dL_law_1080 : decode cL_law 1080 = .ok (.iconst 1, 1) := by decide +kernel
theorem dL_law_1081 : decode cL_law 1081 = .ok (.iadd, 1) := by decide +kernel
theorem dL_law_1082 : decode cL_law 1082 = .ok (.iaload, 1) := by decide +kernel
theorem dL_law_1083 : decode cL_law 1083 = .ok (.aload_n 3, 1) := by decide +kernel
theorem dL_law_1084 : decode cL_law 1084 = .ok (.invokestatic 165, 3) := by decide +kernel
theorem dL_law_1087 : decode cL_law 1087 = .ok (.istore 6, 2) := by decide +kernel
theorem dL_law_1089 : decode cL_law 1089 = .ok (.aload_n 2, 1) := by decide +kernel
theorem dL_law_1090 : decode cL_law 1090 = .ok (.aload_n 0, 1) := by decide +kernel
theorem dL_law_1091 : decode cL_law 1091 = .ok (.iload 5, 2) := by decide +kernel
theorem dL_law_1093 : decode cL_law 1093 = .ok (.iconst 1, 1) := by decide +kernel
theorem dL_law_1094 : decode cL_law 1094 = .ok (.iadd, 1) := by decide +kernel
theorem dL_law_1095 : decode cL_law 1095 = .ok (.iaload, 1) := by decide +kernel
theorem dL_law_1096 : decode cL_law 1096 = .ok (.invokevirtual 167, 3) := by decide +kernel
theorem dL_law_1099 : decode cL_law 1099 = .ok (.istore 7, 2) := by decide +kernel
theorem dL_law_1101 : decode cL_law 1101 = .ok (.aload_n 2, 1) := by decide +kernel
theorem dL_law_1102 : decode cL_law 1102 = .ok (.invokevirtual 120, 3) := by decide +kernel
theorem dL_law_1105 : decode cL_law 1105 = .ok (.iload 6, 2) := by decide +kernel
theorem dL_law_1107 : decode cL_law 1107 = .ok (.if_icmp .eq 5, 3) := by decide +kernel
theorem dL_law_1110 : decode cL_law 1110 = .ok (.iconst 0, 1) := by decide +kernel
theorem dL_law_1111 : decode cL_law 1111 = .ok (.ireturn, 1) := by decide +kernel
theorem dL_law_1112 : decode cL_law 1112 = .ok (.iload 6, 2) := by decide +kernel
theorem dL_law_1114 : decode cL_law 1114 = .ok (.ifCond .ne 15, 3) := by decide +kernel
theorem dL_law_1117 : decode cL_law 1117 = .ok (.aload_n 3, 1) := by decide +kernel
theorem dL_law_1118 : decode cL_law 1118 = .ok (.iconst 0, 1) := by decide +kernel
theorem dL_law_1119 : decode cL_law 1119 = .ok (.laload, 1) := by decide +kernel
theorem dL_law_1120 : decode cL_law 1120 = .ok (.iload 7, 2) := by decide +kernel
theorem dL_law_1122 : decode cL_law 1122 = .ok (.i2l, 1) := by decide +kernel
theorem dL_law_1123 : decode cL_law 1123 = .ok (.lcmp, 1) := by decide +kernel
theorem dL_law_1124 : decode cL_law 1124 = .ok (.ifCond .eq 5, 3) := by decide +kernel
theorem dL_law_1127 : decode cL_law 1127 = .ok (.iconst 0, 1) := by decide +kernel
theorem dL_law_1128 : decode cL_law 1128 = .ok (.ireturn, 1) := by decide +kernel
theorem dL_law_1129 : decode cL_law 1129 = .ok (.goto 774, 3) := by decide +kernel
theorem dL_law_1132 : decode cL_law 1132 = .ok (.aload_n 1, 1) := by decide +kernel
theorem dL_law_1133 : decode cL_law 1133 = .ok (.aload_n 0, 1) := by decide +kernel
theorem dL_law_1134 : decode cL_law 1134 = .ok (.iload 5, 2) := by decide +kernel
theorem dL_law_1136 : decode cL_law 1136 = .ok (.iconst 1, 1) := by decide +kernel
theorem dL_law_1137 : decode cL_law 1137 = .ok (.iadd, 1) := by decide +kernel
theorem dL_law_1138 : decode cL_law 1138 = .ok (.iaload, 1) := by decide +kernel
theorem dL_law_1139 : decode cL_law 1139 = .ok (.aload_n 3, 1) := by decide +kernel
theorem dL_law_1140 : decode cL_law 1140 = .ok (.invokestatic 168, 3) := by decide +kernel
theorem dL_law_1143 : decode cL_law 1143 = .ok (.istore 6, 2) := by decide +kernel
theorem dL_law_1145 : decode cL_law 1145 = .ok (.aload_n 2, 1) := by decide +kernel
theorem dL_law_1146 : decode cL_law 1146 = .ok (.aload_n 0, 1) := by decide +kernel
theorem dL_law_1147 : decode cL_law 1147 = .ok (.iload 5, 2) := by decide +kernel
theorem dL_law_1149 : decode cL_law 1149 = .ok (.iconst 1, 1) := by decide +kernel
theorem dL_law_1150 : decode cL_law 1150 = .ok (.iadd, 1) := by decide +kernel
theorem dL_law_1151 : decode cL_law 1151 = .ok (.iaload, 1) := by decide +kernel
theorem dL_law_1152 : decode cL_law 1152 = .ok (.invokevirtual 170, 3) := by decide +kernel
theorem dL_law_1155 : decode cL_law 1155 = .ok (.istore 7, 2) := by decide +kernel
theorem dL_law_1157 : decode cL_law 1157 = .ok (.aload_n 2, 1) := by decide +kernel
theorem dL_law_1158 : decode cL_law 1158 = .ok (.invokevirtual 120, 3) := by decide +kernel
theorem dL_law_1161 : decode cL_law 1161 = .ok (.iload 6, 2) := by decide +kernel
theorem dL_law_1163 : decode cL_law 1163 = .ok (.if_icmp .eq 5, 3) := by decide +kernel
theorem dL_law_1166 : decode cL_law 1166 = .ok (.iconst 0, 1) := by decide +kernel
theorem dL_law_1167 : decode cL_law 1167 = .ok (.ireturn, 1) := by decide +kernel
theorem dL_law_1168 : decode cL_law 1168 = .ok (.iload 6, 2) := by decide +kernel
theorem dL_law_1170 : decode cL_law 1170 = .ok (.ifCond .ne 15, 3) := by decide +kernel
theorem dL_law_1173 : decode cL_law 1173 = .ok (.aload_n 3, 1) := by decide +kernel
theorem dL_law_1174 : decode cL_law 1174 = .ok (.iconst 0, 1) := by decide +kernel
theorem dL_law_1175 : decode cL_law 1175 = .ok (.laload, 1) := by decide +kernel
theorem dL_law_1176 : decode cL_law 1176 = .ok (.iload 7, 2) := by decide +kernel
theorem dL_law_1178 : decode cL_law 1178 = .ok (.i2l, 1) := by decide +kernel
theorem dL_law_1179 : decode cL_law 1179 = .ok (.lcmp, 1) := by decide +kernel
theorem dL_law_1180 : decode cL_law 1180 = .ok (.ifCond .eq 5, 3) := by decide +kernel
theorem dL_law_1183 : decode cL_law 1183 = .ok (.iconst 0, 1) := by decide +kernel
theorem dL_law_1184 : decode cL_law 1184 = .ok (.ireturn, 1) := by decide +kernel
theorem dL_law_1185 : decode cL_law 1185 = .ok (.goto 718, 3) := by decide +kernel
theorem dL_law_1188 : decode cL_law 1188 = .ok (.aload_n 1, 1) := by decide +kernel
theorem dL_law_1189 : decode cL_law 1189 = .ok (.aload_n 0, 1) := by decide +kernel
theorem dL_law_1190 : decode cL_law 1190 = .ok (.iload 5, 2) := by decide +kernel
theorem dL_law_1192 : decode cL_law 1192 = .ok (.iconst 1, 1) := by decide +kernel
theorem dL_law_1193 : decode cL_law 1193 = .ok (.iadd, 1) := by decide +kernel
theorem dL_law_1194 : decode cL_law 1194 = .ok (.iaload, 1) := by decide +kernel
theorem dL_law_1195 : decode cL_law 1195 = .ok (.aload_n 3, 1) := by decide +kernel
theorem dL_law_1196 : decode cL_law 1196 = .ok (.invokestatic 171, 3) := by decide +kernel
theorem dL_law_1199 : decode cL_law 1199 = .ok (.istore 6, 2) := by decide +kernel
theorem dL_law_1201 : decode cL_law 1201 = .ok (.aload_n 2, 1) := by decide +kernel
theorem dL_law_1202 : decode cL_law 1202 = .ok (.aload_n 0, 1) := by decide +kernel
theorem dL_law_1203 : decode cL_law 1203 = .ok (.iload 5, 2) := by decide +kernel
theorem dL_law_1205 : decode cL_law 1205 = .ok (.iconst 1, 1) := by decide +kernel
theorem dL_law_1206 : decode cL_law 1206 = .ok (.iadd, 1) := by decide +kernel
theorem dL_law_1207 : decode cL_law 1207 = .ok (.iaload, 1) := by decide +kernel
theorem dL_law_1208 : decode cL_law 1208 = .ok (.invokevirtual 173, 3) := by decide +kernel
theorem dL_law_1211 : decode cL_law 1211 = .ok (.istore 7, 2) := by decide +kernel
theorem dL_law_1213 : decode cL_law 1213 = .ok (.aload_n 2, 1) := by decide +kernel
theorem dL_law_1214 : decode cL_law 1214 = .ok (.invokevirtual 120, 3) := by decide +kernel
theorem dL_law_1217 : decode cL_law 1217 = .ok (.iload 6, 2) := by decide +kernel
theorem dL_law_1219 : decode cL_law 1219 = .ok (.if_icmp .eq 5, 3) := by decide +kernel
theorem dL_law_1222 : decode cL_law 1222 = .ok (.iconst 0, 1) := by decide +kernel
theorem dL_law_1223 : decode cL_law 1223 = .ok (.ireturn, 1) := by decide +kernel
theorem dL_law_1224 : decode cL_law 1224 = .ok (.iload 6, 2) := by decide +kernel
theorem dL_law_1226 : decode cL_law 1226 = .ok (.ifCond .ne 15, 3) := by decide +kernel
theorem dL_law_1229 : decode cL_law 1229 = .ok (.aload_n 3, 1) := by decide +kernel
theorem dL_law_1230 : decode cL_law 1230 = .ok (.iconst 0, 1) := by decide +kernel
theorem dL_law_1231 : decode cL_law 1231 = .ok (.laload, 1) := by decide +kernel
theorem dL_law_1232 : decode cL_law 1232 = .ok (.iload 7, 2) := by decide +kernel
theorem dL_law_1234 : decode cL_law 1234 = .ok (.i2l, 1) := by decide +kernel
theorem dL_law_1235 : decode cL_law 1235 = .ok (.lcmp, 1) := by decide +kernel
theorem dL_law_1236 : decode cL_law 1236 = .ok (.ifCond .eq 5, 3) := by decide +kernel
theorem dL_law_1239 : decode cL_law 1239 = .ok (.iconst 0, 1) := by decide +kernel
theorem dL_law_1240 : decode cL_law 1240 = .ok (.ireturn, 1) := by decide +kernel
theorem dL_law_1241 : decode cL_law 1241 = .ok (.goto 662, 3) := by decide +kernel
theorem dL_law_1244 : decode cL_law 1244 = .ok (.aload_n 1, 1) := by decide +kernel
theorem dL_law_1245 : decode cL_law 1245 = .ok (.aload_n 0, 1) := by decide +kernel
theorem dL_law_1246 : decode cL_law 1246 = .ok (.iload 5, 2) := by decide +kernel
theorem dL_law_1248 : decode cL_law 1248 = .ok (.iconst 1, 1) := by decide +kernel
theorem dL_law_1249 : decode cL_law 1249 = .ok (.iadd, 1) := by decide +kernel
theorem dL_law_1250 : decode cL_law 1250 = .ok (.iaload, 1) := by decide +kernel
theorem dL_law_1251 : decode cL_law 1251 = .ok (.aload_n 3, 1) := by decide +kernel
theorem dL_law_1252 : decode cL_law 1252 = .ok (.invokestatic 174, 3) := by decide +kernel
theorem dL_law_1255 : decode cL_law 1255 = .ok (.istore 6, 2) := by decide +kernel
theorem dL_law_1257 : decode cL_law 1257 = .ok (.aload_n 2, 1) := by decide +kernel
theorem dL_law_1258 : decode cL_law 1258 = .ok (.aload_n 0, 1) := by decide +kernel
theorem dL_law_1259 : decode cL_law 1259 = .ok (.iload 5, 2) := by decide +kernel
theorem dL_law_1261 : decode cL_law 1261 = .ok (.iconst 1, 1) := by decide +kernel
theorem dL_law_1262 : decode cL_law 1262 = .ok (.iadd, 1) := by decide +kernel
theorem dL_law_1263 : decode cL_law 1263 = .ok (.iaload, 1) := by decide +kernel
theorem dL_law_1264 : decode cL_law 1264 = .ok (.invokevirtual 176, 3) := by decide +kernel
theorem dL_law_1267 : decode cL_law 1267 = .ok (.istore 7, 2) := by decide +kernel
theorem dL_law_1269 : decode cL_law 1269 = .ok (.aload_n 2, 1) := by decide +kernel
theorem dL_law_1270 : decode cL_law 1270 = .ok (.invokevirtual 120, 3) := by decide +kernel
theorem dL_law_1273 : decode cL_law 1273 = .ok (.iload 6, 2) := by decide +kernel
theorem dL_law_1275 : decode cL_law 1275 = .ok (.if_icmp .eq 5, 3) := by decide +kernel
theorem dL_law_1278 : decode cL_law 1278 = .ok (.iconst 0, 1) := by decide +kernel
theorem dL_law_1279 : decode cL_law 1279 = .ok (.ireturn, 1) := by decide +kernel
theorem dL_law_1280 : decode cL_law 1280 = .ok (.iload 6, 2) := by decide +kernel
theorem dL_law_1282 : decode cL_law 1282 = .ok (.ifCond .ne 15, 3) := by decide +kernel
theorem dL_law_1285 : decode cL_law 1285 = .ok (.aload_n 3, 1) := by decide +kernel
theorem dL_law_1286 : decode cL_law 1286 = .ok (.iconst 0, 1) := by decide +kernel
theorem dL_law_1287 : decode cL_law 1287 = .ok (.laload, 1) := by decide +kernel
theorem dL_law_1288 : decode cL_law 1288 = .ok (.iload 7, 2) := by decide +kernel
theorem dL_law_1290 : decode cL_law 1290 = .ok (.i2l, 1) := by decide +kernel
theorem dL_law_1291 : decode cL_law 1291 = .ok (.lcmp, 1) := by decide +kernel
theorem dL_law_1292 : decode cL_law 1292 = .ok (.ifCond .eq 5, 3) := by decide +kernel
theorem dL_law_1295 : decode cL_law 1295 = .ok (.iconst 0, 1) := by decide +kernel
theorem dL_law_1296 : decode cL_law 1296 = .ok (.ireturn, 1) := by decide +kernel
theorem dL_law_1297 : decode cL_law 1297 = .ok (.goto 606, 3) := by decide +kernel
theorem dL_law_1300 : decode cL_law 1300 = .ok (.aload_n 1, 1) := by decide +kernel
theorem dL_law_1301 : decode cL_law 1301 = .ok (.aload_n 0, 1) := by decide +kernel
theorem dL_law_1302 : decode cL_law 1302 = .ok (.iload 5, 2) := by decide +kernel
theorem dL_law_1304 : decode cL_law 1304 = .ok (.iconst 1, 1) := by decide +kernel
theorem dL_law_1305 : decode cL_law 1305 = .ok (.iadd, 1) := by decide +kernel
theorem dL_law_1306 : decode cL_law 1306 = .ok (.iaload, 1) := by decide +kernel
theorem dL_law_1307 : decode cL_law 1307 = .ok (.aload_n 3, 1) := by decide +kernel
theorem dL_law_1308 : decode cL_law 1308 = .ok (.invokestatic 177, 3) := by decide +kernel
theorem dL_law_1311 : decode cL_law 1311 = .ok (.istore 6, 2) := by decide +kernel
theorem dL_law_1313 : decode cL_law 1313 = .ok (.aload_n 2, 1) := by decide +kernel
theorem dL_law_1314 : decode cL_law 1314 = .ok (.aload_n 0, 1) := by decide +kernel
theorem dL_law_1315 : decode cL_law 1315 = .ok (.iload 5, 2) := by decide +kernel
theorem dL_law_1317 : decode cL_law 1317 = .ok (.iconst 1, 1) := by decide +kernel
theorem dL_law_1318 : decode cL_law 1318 = .ok (.iadd, 1) := by decide +kernel
theorem dL_law_1319 : decode cL_law 1319 = .ok (.iaload, 1) := by decide +kernel
theorem dL_law_1320 : decode cL_law 1320 = .ok (.invokevirtual 179, 3) := by decide +kernel
theorem dL_law_1323 : decode cL_law 1323 = .ok (.istore 7, 2) := by decide +kernel
theorem dL_law_1325 : decode cL_law 1325 = .ok (.aload_n 2, 1) := by decide +kernel
theorem dL_law_1326 : decode cL_law 1326 = .ok (.invokevirtual 120, 3) := by decide +kernel
theorem dL_law_1329 : decode cL_law 1329 = .ok (.iload 6, 2) := by decide +kernel
theorem dL_law_1331 : decode cL_law 1331 = .ok (.if_icmp .eq 5, 3) := by decide +kernel
theorem dL_law_1334 : decode cL_law 1334 = .ok (.iconst 0, 1) := by decide +kernel
theorem dL_law_1335 : decode cL_law 1335 = .ok (.ireturn, 1) := by decide +kernel
theorem dL_law_1336 : decode cL_law 1336 = .ok (.iload 6, 2) := by decide +kernel
theorem dL_law_1338 : decode cL_law 1338 = .ok (.ifCond .ne 15, 3) := by decide +kernel
theorem dL_law_1341 : decode cL_law 1341 = .ok (.aload_n 3, 1) := by decide +kernel
theorem dL_law_1342 : decode cL_law 1342 = .ok (.iconst 0, 1) := by decide +kernel
theorem dL_law_1343 : decode cL_law 1343 = .ok (.laload, 1) := by decide +kernel
theorem dL_law_1344 : decode cL_law 1344 = .ok (.iload 7, 2) := by decide +kernel
theorem dL_law_1346 : decode cL_law 1346 = .ok (.i2l, 1) := by decide +kernel
theorem dL_law_1347 : decode cL_law 1347 = .ok (.lcmp, 1) := by decide +kernel
theorem dL_law_1348 : decode cL_law 1348 = .ok (.ifCond .eq 5, 3) := by decide +kernel
theorem dL_law_1351 : decode cL_law 1351 = .ok (.iconst 0, 1) := by decide +kernel
theorem dL_law_1352 : decode cL_law 1352 = .ok (.ireturn, 1) := by decide +kernel
theorem dL_law_1353 : decode cL_law 1353 = .ok (.goto 550, 3) := by decide +kernel
theorem dL_law_1356 : decode cL_law 1356 = .ok (.aload_n 1, 1) := by decide +kernel
theorem dL_law_1357 : decode cL_law 1357 = .ok (.invokevirtual 180, 3) := by decide +kernel
theorem dL_law_1360 : decode cL_law 1360 = .ok (.aload_n 2, 1) := by decide +kernel
theorem dL_law_1361 : decode cL_law 1361 = .ok (.invokevirtual 183, 3) := by decide +kernel
theorem dL_law_1364 : decode cL_law 1364 = .ok (.if_icmp .eq 539, 3) := by decide +kernel
theorem dL_law_1367 : decode cL_law 1367 = .ok (.iconst 0, 1) := by decide +kernel
theorem dL_law_1368 : decode cL_law 1368 = .ok (.ireturn, 1) := by decide +kernel
theorem dL_law_1369 : decode cL_law 1369 = .ok (.aload_n 1, 1) := by decide +kernel
theorem dL_law_1370 : decode cL_law 1370 = .ok (.invokevirtual 184, 3) := by decide +kernel
theorem dL_law_1373 : decode cL_law 1373 = .ok (.aload_n 2, 1) := by decide +kernel
theorem dL_law_1374 : decode cL_law 1374 = .ok (.invokevirtual 187, 3) := by decide +kernel
theorem dL_law_1377 : decode cL_law 1377 = .ok (.if_icmp .eq 526, 3) := by decide +kernel
theorem dL_law_1380 : decode cL_law 1380 = .ok (.iconst 0, 1) := by decide +kernel
theorem dL_law_1381 : decode cL_law 1381 = .ok (.ireturn, 1) := by decide +kernel
theorem dL_law_1382 : decode cL_law 1382 = .ok (.aload_n 1, 1) := by decide +kernel
theorem dL_law_1383 : decode cL_law 1383 = .ok (.aload_n 0, 1) := by decide +kernel
theorem dL_law_1384 : decode cL_law 1384 = .ok (.iload 5, 2) := by decide +kernel
theorem dL_law_1386 : decode cL_law 1386 = .ok (.iconst 1, 1) := by decide +kernel
theorem dL_law_1387 : decode cL_law 1387 = .ok (.iadd, 1) := by decide +kernel
theorem dL_law_1388 : decode cL_law 1388 = .ok (.iaload, 1) := by decide +kernel
theorem dL_law_1389 : decode cL_law 1389 = .ok (.aload_n 3, 1) := by decide +kernel
theorem dL_law_1390 : decode cL_law 1390 = .ok (.invokestatic 188, 3) := by decide +kernel
theorem dL_law_1393 : decode cL_law 1393 = .ok (.istore 6, 2) := by decide +kernel
theorem dL_law_1395 : decode cL_law 1395 = .ok (.aload_n 2, 1) := by decide +kernel
theorem dL_law_1396 : decode cL_law 1396 = .ok (.aload_n 0, 1) := by decide +kernel
theorem dL_law_1397 : decode cL_law 1397 = .ok (.iload 5, 2) := by decide +kernel
theorem dL_law_1399 : decode cL_law 1399 = .ok (.iconst 1, 1) := by decide +kernel
theorem dL_law_1400 : decode cL_law 1400 = .ok (.iadd, 1) := by decide +kernel
theorem dL_law_1401 : decode cL_law 1401 = .ok (.iaload, 1) := by decide +kernel
theorem dL_law_1402 : decode cL_law 1402 = .ok (.invokevirtual 190, 3) := by decide +kernel
theorem dL_law_1405 : decode cL_law 1405 = .ok (.istore 7, 2) := by decide +kernel
theorem dL_law_1407 : decode cL_law 1407 = .ok (.aload_n 2, 1) := by decide +kernel
theorem dL_law_1408 : decode cL_law 1408 = .ok (.invokevirtual 120, 3) := by decide +kernel
theorem dL_law_1411 : decode cL_law 1411 = .ok (.iload 6, 2) := by decide +kernel
theorem dL_law_1413 : decode cL_law 1413 = .ok (.if_icmp .eq 5, 3) := by decide +kernel
theorem dL_law_1416 : decode cL_law 1416 = .ok (.iconst 0, 1) := by decide +kernel
theorem dL_law_1417 : decode cL_law 1417 = .ok (.ireturn, 1) := by decide +kernel
theorem dL_law_1418 : decode cL_law 1418 = .ok (.iload 6, 2) := by decide +kernel
theorem dL_law_1420 : decode cL_law 1420 = .ok (.ifCond .ne 15, 3) := by decide +kernel
theorem dL_law_1423 : decode cL_law 1423 = .ok (.aload_n 3, 1) := by decide +kernel
theorem dL_law_1424 : decode cL_law 1424 = .ok (.iconst 0, 1) := by decide +kernel
theorem dL_law_1425 : decode cL_law 1425 = .ok (.laload, 1) := by decide +kernel
theorem dL_law_1426 : decode cL_law 1426 = .ok (.iload 7, 2) := by decide +kernel
theorem dL_law_1428 : decode cL_law 1428 = .ok (.i2l, 1) := by decide +kernel
theorem dL_law_1429 : decode cL_law 1429 = .ok (.lcmp, 1) := by decide +kernel
theorem dL_law_1430 : decode cL_law 1430 = .ok (.ifCond .eq 5, 3) := by decide +kernel
theorem dL_law_1433 : decode cL_law 1433 = .ok (.iconst 0, 1) := by decide +kernel
theorem dL_law_1434 : decode cL_law 1434 = .ok (.ireturn, 1) := by decide +kernel
theorem dL_law_1435 : decode cL_law 1435 = .ok (.goto 468, 3) := by decide +kernel
theorem dL_law_1438 : decode cL_law 1438 = .ok (.aload_n 1, 1) := by decide +kernel
theorem dL_law_1439 : decode cL_law 1439 = .ok (.aload_n 0, 1) := by decide +kernel
theorem dL_law_1440 : decode cL_law 1440 = .ok (.iload 5, 2) := by decide +kernel
theorem dL_law_1442 : decode cL_law 1442 = .ok (.iconst 1, 1) := by decide +kernel
theorem dL_law_1443 : decode cL_law 1443 = .ok (.iadd, 1) := by decide +kernel
theorem dL_law_1444 : decode cL_law 1444 = .ok (.iaload, 1) := by decide +kernel
theorem dL_law_1445 : decode cL_law 1445 = .ok (.i2c, 1) := by decide +kernel
theorem dL_law_1446 : decode cL_law 1446 = .ok (.aload_n 3, 1) := by decide +kernel
theorem dL_law_1447 : decode cL_law 1447 = .ok (.invokestatic 191, 3) := by decide +kernel
theorem dL_law_1450 : decode cL_law 1450 = .ok (.istore 6, 2) := by decide +kernel
theorem dL_law_1452 : decode cL_law 1452 = .ok (.aload_n 2, 1) := by decide +kernel
theorem dL_law_1453 : decode cL_law 1453 = .ok (.aload_n 0, 1) := by decide +kernel
theorem dL_law_1454 : decode cL_law 1454 = .ok (.iload 5, 2) := by decide +kernel
theorem dL_law_1456 : decode cL_law 1456 = .ok (.iconst 1, 1) := by decide +kernel
theorem dL_law_1457 : decode cL_law 1457 = .ok (.iadd, 1) := by decide +kernel
theorem dL_law_1458 : decode cL_law 1458 = .ok (.iaload, 1) := by decide +kernel
theorem dL_law_1459 : decode cL_law 1459 = .ok (.i2c, 1) := by decide +kernel
theorem dL_law_1460 : decode cL_law 1460 = .ok (.invokevirtual 194, 3) := by decide +kernel
theorem dL_law_1463 : decode cL_law 1463 = .ok (.istore 7, 2) := by decide +kernel
theorem dL_law_1465 : decode cL_law 1465 = .ok (.aload_n 2, 1) := by decide +kernel
theorem dL_law_1466 : decode cL_law 1466 = .ok (.invokevirtual 120, 3) := by decide +kernel
theorem dL_law_1469 : decode cL_law 1469 = .ok (.iload 6, 2) := by decide +kernel
theorem dL_law_1471 : decode cL_law 1471 = .ok (.if_icmp .eq 5, 3) := by decide +kernel
theorem dL_law_1474 : decode cL_law 1474 = .ok (.iconst 0, 1) := by decide +kernel
theorem dL_law_1475 : decode cL_law 1475 = .ok (.ireturn, 1) := by decide +kernel
theorem dL_law_1476 : decode cL_law 1476 = .ok (.iload 6, 2) := by decide +kernel
theorem dL_law_1478 : decode cL_law 1478 = .ok (.ifCond .ne 15, 3) := by decide +kernel
theorem dL_law_1481 : decode cL_law 1481 = .ok (.aload_n 3, 1) := by decide +kernel
theorem dL_law_1482 : decode cL_law 1482 = .ok (.iconst 0, 1) := by decide +kernel
theorem dL_law_1483 : decode cL_law 1483 = .ok (.laload, 1) := by decide +kernel
theorem dL_law_1484 : decode cL_law 1484 = .ok (.iload 7, 2) := by decide +kernel
theorem dL_law_1486 : decode cL_law 1486 = .ok (.i2l, 1) := by decide +kernel
theorem dL_law_1487 : decode cL_law 1487 = .ok (.lcmp, 1) := by decide +kernel
theorem dL_law_1488 : decode cL_law 1488 = .ok (.ifCond .eq 5, 3) := by decide +kernel
theorem dL_law_1491 : decode cL_law 1491 = .ok (.iconst 0, 1) := by decide +kernel
theorem dL_law_1492 : decode cL_law 1492 = .ok (.ireturn, 1) := by decide +kernel
theorem dL_law_1493 : decode cL_law 1493 = .ok (.goto 410, 3) := by decide +kernel
theorem dL_law_1496 : decode cL_law 1496 = .ok (.aload_n 1, 1) := by decide +kernel
theorem dL_law_1497 : decode cL_law 1497 = .ok (.aload_n 3, 1) := by decide +kernel
theorem dL_law_1498 : decode cL_law 1498 = .ok (.invokestatic 195, 3) := by decide +kernel
theorem dL_law_1501 : decode cL_law 1501 = .ok (.istore 6, 2) := by decide +kernel
theorem dL_law_1503 : decode cL_law 1503 = .ok (.aload_n 2, 1) := by decide +kernel
theorem dL_law_1504 : decode cL_law 1504 = .ok (.invokevirtual 197, 3) := by decide +kernel
theorem dL_law_1507 : decode cL_law 1507 = .ok (.istore 7, 2) := by decide +kernel
theorem dL_law_1509 : decode cL_law 1509 = .ok (.aload_n 2, 1) := by decide +kernel
theorem dL_law_1510 : decode cL_law 1510 = .ok (.invokevirtual 120, 3) := by decide +kernel
theorem dL_law_1513 : decode cL_law 1513 = .ok (.iload 6, 2) := by decide +kernel
theorem dL_law_1515 : decode cL_law 1515 = .ok (.if_icmp .eq 5, 3) := by decide +kernel
theorem dL_law_1518 : decode cL_law 1518 = .ok (.iconst 0, 1) := by decide +kernel
theorem dL_law_1519 : decode cL_law 1519 = .ok (.ireturn, 1) := by decide +kernel
theorem dL_law_1520 : decode cL_law 1520 = .ok (.iload 6, 2) := by decide +kernel
theorem dL_law_1522 : decode cL_law 1522 = .ok (.ifCond .ne 15, 3) := by decide +kernel
theorem dL_law_1525 : decode cL_law 1525 = .ok (.aload_n 3, 1) := by decide +kernel
theorem dL_law_1526 : decode cL_law 1526 = .ok (.iconst 0, 1) := by decide +kernel
theorem dL_law_1527 : decode cL_law 1527 = .ok (.laload, 1) := by decide +kernel
theorem dL_law_1528 : decode cL_law 1528 = .ok (.iload 7, 2) := by decide +kernel
theorem dL_law_1530 : decode cL_law 1530 = .ok (.i2l, 1) := by decide +kernel
theorem dL_law_1531 : decode cL_law 1531 = .ok (.lcmp, 1) := by decide +kernel
theorem dL_law_1532 : decode cL_law 1532 = .ok (.ifCond .eq 5, 3) := by decide +kernel
theorem dL_law_1535 : decode cL_law 1535 = .ok (.iconst 0, 1) := by decide +kernel
theorem dL_law_1536 : decode cL_law 1536 = .ok (.ireturn, 1) := by decide +kernel
theorem dL_law_1537 : decode cL_law 1537 = .ok (.goto 366, 3) := by decide +kernel
theorem dL_law_1540 : decode cL_law 1540 = .ok (.aload_n 1, 1) := by decide +kernel
theorem dL_law_1541 : decode cL_law 1541 = .ok (.invokevirtual 198, 3) := by decide +kernel
theorem dL_law_1544 : decode cL_law 1544 = .ok (.aload_n 2, 1) := by decide +kernel
theorem dL_law_1545 : decode cL_law 1545 = .ok (.invokevirtual 201, 3) := by decide +kernel
theorem dL_law_1548 : decode cL_law 1548 = .ok (.if_icmp .eq 355, 3) := by decide +kernel
theorem dL_law_1551 : decode cL_law 1551 = .ok (.iconst 0, 1) := by decide +kernel
theorem dL_law_1552 : decode cL_law 1552 = .ok (.ireturn, 1) := by decide +kernel
theorem dL_law_1553 : decode cL_law 1553 = .ok (.aload_n 1, 1) := by decide +kernel
theorem dL_law_1554 : decode cL_law 1554 = .ok (.aload_n 0, 1) := by decide +kernel
theorem dL_law_1555 : decode cL_law 1555 = .ok (.iload 5, 2) := by decide +kernel
theorem dL_law_1557 : decode cL_law 1557 = .ok (.iconst 1, 1) := by decide +kernel
theorem dL_law_1558 : decode cL_law 1558 = .ok (.iadd, 1) := by decide +kernel
theorem dL_law_1559 : decode cL_law 1559 = .ok (.iaload, 1) := by decide +kernel
theorem dL_law_1560 : decode cL_law 1560 = .ok (.ifCond .eq 7, 3) := by decide +kernel
theorem dL_law_1563 : decode cL_law 1563 = .ok (.iconst 1, 1) := by decide +kernel
theorem dL_law_1564 : decode cL_law 1564 = .ok (.goto 4, 3) := by decide +kernel
theorem dL_law_1567 : decode cL_law 1567 = .ok (.iconst 0, 1) := by decide +kernel
theorem dL_law_1568 : decode cL_law 1568 = .ok (.aload_n 3, 1) := by decide +kernel
theorem dL_law_1569 : decode cL_law 1569 = .ok (.invokestatic 202, 3) := by decide +kernel
theorem dL_law_1572 : decode cL_law 1572 = .ok (.istore 6, 2) := by decide +kernel
theorem dL_law_1574 : decode cL_law 1574 = .ok (.aload_n 2, 1) := by decide +kernel
theorem dL_law_1575 : decode cL_law 1575 = .ok (.aload_n 0, 1) := by decide +kernel
theorem dL_law_1576 : decode cL_law 1576 = .ok (.iload 5, 2) := by decide +kernel
theorem dL_law_1578 : decode cL_law 1578 = .ok (.iconst 1, 1) := by decide +kernel
theorem dL_law_1579 : decode cL_law 1579 = .ok (.iadd, 1) := by decide +kernel
theorem dL_law_1580 : decode cL_law 1580 = .ok (.iaload, 1) := by decide +kernel
theorem dL_law_1581 : decode cL_law 1581 = .ok (.ifCond .eq 7, 3) := by decide +kernel
theorem dL_law_1584 : decode cL_law 1584 = .ok (.iconst 1, 1) := by decide +kernel
theorem dL_law_1585 : decode cL_law 1585 = .ok (.goto 4, 3) := by decide +kernel
theorem dL_law_1588 : decode cL_law 1588 = .ok (.iconst 0, 1) := by decide +kernel
theorem dL_law_1589 : decode cL_law 1589 = .ok (.invokevirtual 205, 3) := by decide +kernel
theorem dL_law_1592 : decode cL_law 1592 = .ok (.istore 7, 2) := by decide +kernel
theorem dL_law_1594 : decode cL_law 1594 = .ok (.aload_n 2, 1) := by decide +kernel
theorem dL_law_1595 : decode cL_law 1595 = .ok (.invokevirtual 120, 3) := by decide +kernel
theorem dL_law_1598 : decode cL_law 1598 = .ok (.iload 6, 2) := by decide +kernel
theorem dL_law_1600 : decode cL_law 1600 = .ok (.if_icmp .eq 5, 3) := by decide +kernel
theorem dL_law_1603 : decode cL_law 1603 = .ok (.iconst 0, 1) := by decide +kernel
theorem dL_law_1604 : decode cL_law 1604 = .ok (.ireturn, 1) := by decide +kernel
theorem dL_law_1605 : decode cL_law 1605 = .ok (.iload 6, 2) := by decide +kernel
theorem dL_law_1607 : decode cL_law 1607 = .ok (.ifCond .ne 15, 3) := by decide +kernel
theorem dL_law_1610 : decode cL_law 1610 = .ok (.aload_n 3, 1) := by decide +kernel
theorem dL_law_1611 : decode cL_law 1611 = .ok (.iconst 0, 1) := by decide +kernel
theorem dL_law_1612 : decode cL_law 1612 = .ok (.laload, 1) := by decide +kernel
theorem dL_law_1613 : decode cL_law 1613 = .ok (.iload 7, 2) := by decide +kernel
theorem dL_law_1615 : decode cL_law 1615 = .ok (.i2l, 1) := by decide +kernel
theorem dL_law_1616 : decode cL_law 1616 = .ok (.lcmp, 1) := by decide +kernel
theorem dL_law_1617 : decode cL_law 1617 = .ok (.ifCond .eq 5, 3) := by decide +kernel
theorem dL_law_1620 : decode cL_law 1620 = .ok (.iconst 0, 1) := by decide +kernel
theorem dL_law_1621 : decode cL_law 1621 = .ok (.ireturn, 1) := by decide +kernel
theorem dL_law_1622 : decode cL_law 1622 = .ok (.goto 281, 3) := by decide +kernel
theorem dL_law_1625 : decode cL_law 1625 = .ok (.aload_n 1, 1) := by decide +kernel
theorem dL_law_1626 : decode cL_law 1626 = .ok (.aload_n 0, 1) := by decide +kernel
theorem dL_law_1627 : decode cL_law 1627 = .ok (.iload 5, 2) := by decide +kernel
theorem dL_law_1629 : decode cL_law 1629 = .ok (.iconst 1, 1) := by decide +kernel
theorem dL_law_1630 : decode cL_law 1630 = .ok (.iadd, 1) := by decide +kernel
theorem dL_law_1631 : decode cL_law 1631 = .ok (.iaload, 1) := by decide +kernel
theorem dL_law_1632 : decode cL_law 1632 = .ok (.aload_n 3, 1) := by decide +kernel
theorem dL_law_1633 : decode cL_law 1633 = .ok (.invokestatic 206, 3) := by decide +kernel
theorem dL_law_1636 : decode cL_law 1636 = .ok (.istore 6, 2) := by decide +kernel
theorem dL_law_1638 : decode cL_law 1638 = .ok (.aload_n 2, 1) := by decide +kernel
theorem dL_law_1639 : decode cL_law 1639 = .ok (.aload_n 0, 1) := by decide +kernel
theorem dL_law_1640 : decode cL_law 1640 = .ok (.iload 5, 2) := by decide +kernel
theorem dL_law_1642 : decode cL_law 1642 = .ok (.iconst 1, 1) := by decide +kernel
theorem dL_law_1643 : decode cL_law 1643 = .ok (.iadd, 1) := by decide +kernel
theorem dL_law_1644 : decode cL_law 1644 = .ok (.iaload, 1) := by decide +kernel
theorem dL_law_1645 : decode cL_law 1645 = .ok (.invokevirtual 208, 3) := by decide +kernel
theorem dL_law_1648 : decode cL_law 1648 = .ok (.istore 7, 2) := by decide +kernel
theorem dL_law_1650 : decode cL_law 1650 = .ok (.aload_n 2, 1) := by decide +kernel
theorem dL_law_1651 : decode cL_law 1651 = .ok (.invokevirtual 120, 3) := by decide +kernel
theorem dL_law_1654 : decode cL_law 1654 = .ok (.iload 6, 2) := by decide +kernel
theorem dL_law_1656 : decode cL_law 1656 = .ok (.if_icmp .eq 5, 3) := by decide +kernel
theorem dL_law_1659 : decode cL_law 1659 = .ok (.iconst 0, 1) := by decide +kernel
theorem dL_law_1660 : decode cL_law 1660 = .ok (.ireturn, 1) := by decide +kernel
theorem dL_law_1661 : decode cL_law 1661 = .ok (.iload 6, 2) := by decide +kernel
theorem dL_law_1663 : decode cL_law 1663 = .ok (.ifCond .ne 15, 3) := by decide +kernel
theorem dL_law_1666 : decode cL_law 1666 = .ok (.aload_n 3, 1) := by decide +kernel
theorem dL_law_1667 : decode cL_law 1667 = .ok (.iconst 0, 1) := by decide +kernel
theorem dL_law_1668 : decode cL_law 1668 = .ok (.laload, 1) := by decide +kernel
theorem dL_law_1669 : decode cL_law 1669 = .ok (.iload 7, 2) := by decide +kernel
theorem dL_law_1671 : decode cL_law 1671 = .ok (.i2l, 1) := by decide +kernel
theorem dL_law_1672 : decode cL_law 1672 = .ok (.lcmp, 1) := by decide +kernel
theorem dL_law_1673 : decode cL_law 1673 = .ok (.ifCond .eq 5, 3) := by decide +kernel
theorem dL_law_1676 : decode cL_law 1676 = .ok (.iconst 0, 1) := by decide +kernel
theorem dL_law_1677 : decode cL_law 1677 = .ok (.ireturn, 1) := by decide +kernel
theorem dL_law_1678 : decode cL_law 1678 = .ok (.goto 225, 3) := by decide +kernel
theorem dL_law_1681 : decode cL_law 1681 = .ok (.aload_n 1, 1) := by decide +kernel
theorem dL_law_1682 : decode cL_law 1682 = .ok (.invokevirtual 209, 3) := by decide +kernel
theorem dL_law_1685 : decode cL_law 1685 = .ok (.aload_n 2, 1) := by decide +kernel
theorem dL_law_1686 : decode cL_law 1686 = .ok (.invokevirtual 213, 3) := by decide +kernel
theorem dL_law_1689 : decode cL_law 1689 = .ok (.if_icmp .eq 214, 3) := by decide +kernel
theorem dL_law_1692 : decode cL_law 1692 = .ok (.iconst 0, 1) := by decide +kernel
theorem dL_law_1693 : decode cL_law 1693 = .ok (.ireturn, 1) := by decide +kernel
theorem dL_law_1694 : decode cL_law 1694 = .ok (.aload_n 1, 1) := by decide +kernel
theorem dL_law_1695 : decode cL_law 1695 = .ok (.aload 4, 2) := by decide +kernel
theorem dL_law_1697 : decode cL_law 1697 = .ok (.invokestatic 214, 3) := by decide +kernel
theorem dL_law_1700 : decode cL_law 1700 = .ok (.istore 6, 2) := by decide +kernel
theorem dL_law_1702 : decode cL_law 1702 = .ok (.aload_n 2, 1) := by decide +kernel
theorem dL_law_1703 : decode cL_law 1703 = .ok (.invokevirtual 217, 3) := by decide +kernel
theorem dL_law_1706 : decode cL_law 1706 = .ok (.dstore 7, 2) := by decide +kernel
theorem dL_law_1708 : decode cL_law 1708 = .ok (.aload_n 2, 1) := by decide +kernel
theorem dL_law_1709 : decode cL_law 1709 = .ok (.invokevirtual 120, 3) := by decide +kernel
theorem dL_law_1712 : decode cL_law 1712 = .ok (.iload 6, 2) := by decide +kernel
theorem dL_law_1714 : decode cL_law 1714 = .ok (.if_icmp .eq 5, 3) := by decide +kernel
theorem dL_law_1717 : decode cL_law 1717 = .ok (.iconst 0, 1) := by decide +kernel
theorem dL_law_1718 : decode cL_law 1718 = .ok (.ireturn, 1) := by decide +kernel
theorem dL_law_1719 : decode cL_law 1719 = .ok (.iload 6, 2) := by decide +kernel
theorem dL_law_1721 : decode cL_law 1721 = .ok (.ifCond .ne 35, 3) := by decide +kernel
theorem dL_law_1724 : decode cL_law 1724 = .ok (.aload 4, 2) := by decide +kernel
theorem dL_law_1726 : decode cL_law 1726 = .ok (.iconst 0, 1) := by decide +kernel
theorem dL_law_1727 : decode cL_law 1727 = .ok (.daload, 1) := by decide +kernel
theorem dL_law_1728 : decode cL_law 1728 = .ok (.dload 7, 2) := by decide +kernel
theorem dL_law_1730 : decode cL_law 1730 = .ok (.dcmp .l, 1) := by decide +kernel
theorem dL_law_1731 : decode cL_law 1731 = .ok (.ifCond .eq 25, 3) := by decide +kernel
theorem dL_law_1734 : decode cL_law 1734 = .ok (.aload 4, 2) := by decide +kernel
theorem dL_law_1736 : decode cL_law 1736 = .ok (.iconst 0, 1) := by decide +kernel
theorem dL_law_1737 : decode cL_law 1737 = .ok (.daload, 1) := by decide +kernel
theorem dL_law_1738 : decode cL_law 1738 = .ok (.aload 4, 2) := by decide +kernel
theorem dL_law_1740 : decode cL_law 1740 = .ok (.iconst 0, 1) := by decide +kernel
theorem dL_law_1741 : decode cL_law 1741 = .ok (.daload, 1) := by decide +kernel
theorem dL_law_1742 : decode cL_law 1742 = .ok (.dcmp .l, 1) := by decide +kernel
theorem dL_law_1743 : decode cL_law 1743 = .ok (.ifCond .eq 11, 3) := by decide +kernel
theorem dL_law_1746 : decode cL_law 1746 = .ok (.dload 7, 2) := by decide +kernel
theorem dL_law_1748 : decode cL_law 1748 = .ok (.dload 7, 2) := by decide +kernel
theorem dL_law_1750 : decode cL_law 1750 = .ok (.dcmp .l, 1) := by decide +kernel
theorem dL_law_1751 : decode cL_law 1751 = .ok (.ifCond .ne 5, 3) := by decide +kernel
theorem dL_law_1754 : decode cL_law 1754 = .ok (.iconst 0, 1) := by decide +kernel
theorem dL_law_1755 : decode cL_law 1755 = .ok (.ireturn, 1) := by decide +kernel
theorem dL_law_1756 : decode cL_law 1756 = .ok (.goto 147, 3) := by decide +kernel
theorem dL_law_1759 : decode cL_law 1759 = .ok (.aload_n 1, 1) := by decide +kernel
theorem dL_law_1760 : decode cL_law 1760 = .ok (.invokevirtual 218, 3) := by decide +kernel
theorem dL_law_1763 : decode cL_law 1763 = .ok (.f2d, 1) := by decide +kernel
theorem dL_law_1764 : decode cL_law 1764 = .ok (.dstore 6, 2) := by decide +kernel
theorem dL_law_1766 : decode cL_law 1766 = .ok (.aload_n 2, 1) := by decide +kernel
theorem dL_law_1767 : decode cL_law 1767 = .ok (.invokevirtual 222, 3) := by decide +kernel
theorem dL_law_1770 : decode cL_law 1770 = .ok (.f2d, 1) := by decide +kernel
theorem dL_law_1771 : decode cL_law 1771 = .ok (.dstore 8, 2) := by decide +kernel
theorem dL_law_1773 : decode cL_law 1773 = .ok (.dload 6, 2) := by decide +kernel
theorem dL_law_1775 : decode cL_law 1775 = .ok (.dload 8, 2) := by decide +kernel
theorem dL_law_1777 : decode cL_law 1777 = .ok (.dcmp .l, 1) := by decide +kernel
theorem dL_law_1778 : decode cL_law 1778 = .ok (.ifCond .eq 21, 3) := by decide +kernel
theorem dL_law_1781 : decode cL_law 1781 = .ok (.dload 6, 2) := by decide +kernel
theorem dL_law_1783 : decode cL_law 1783 = .ok (.dload 6, 2) := by decide +kernel
theorem dL_law_1785 : decode cL_law 1785 = .ok (.dcmp .l, 1) := by decide +kernel
theorem dL_law_1786 : decode cL_law 1786 = .ok (.ifCond .eq 11, 3) := by decide +kernel
theorem dL_law_1789 : decode cL_law 1789 = .ok (.dload 8, 2) := by decide +kernel
theorem dL_law_1791 : decode cL_law 1791 = .ok (.dload 8, 2) := by decide +kernel
theorem dL_law_1793 : decode cL_law 1793 = .ok (.dcmp .l, 1) := by decide +kernel
theorem dL_law_1794 : decode cL_law 1794 = .ok (.ifCond .ne 5, 3) := by decide +kernel
theorem dL_law_1797 : decode cL_law 1797 = .ok (.iconst 0, 1) := by decide +kernel
theorem dL_law_1798 : decode cL_law 1798 = .ok (.ireturn, 1) := by decide +kernel
theorem dL_law_1799 : decode cL_law 1799 = .ok (.goto 104, 3) := by decide +kernel
theorem dL_law_1802 : decode cL_law 1802 = .ok (.aload_n 1, 1) := by decide +kernel
theorem dL_law_1803 : decode cL_law 1803 = .ok (.aload_n 3, 1) := by decide +kernel
theorem dL_law_1804 : decode cL_law 1804 = .ok (.invokestatic 223, 3) := by decide +kernel
theorem dL_law_1807 : decode cL_law 1807 = .ok (.istore 6, 2) := by decide +kernel
theorem dL_law_1809 : decode cL_law 1809 = .ok (.aload_n 2, 1) := by decide +kernel
theorem dL_law_1810 : decode cL_law 1810 = .ok (.invokevirtual 225, 3) := by decide +kernel
theorem dL_law_1813 : decode cL_law 1813 = .ok (.istore 7, 2) := by decide +kernel
theorem dL_law_1815 : decode cL_law 1815 = .ok (.aload_n 2, 1) := by decide +kernel
theorem dL_law_1816 : decode cL_law 1816 = .ok (.invokevirtual 120, 3) := by decide +kernel
theorem dL_law_1819 : decode cL_law 1819 = .ok (.iload 6, 2) := by decide +kernel
theorem dL_law_1821 : decode cL_law 1821 = .ok (.if_icmp .eq 5, 3) := by decide +kernel
theorem dL_law_1824 : decode cL_law 1824 = .ok (.iconst 0, 1) := by decide +kernel
theorem dL_law_1825 : decode cL_law 1825 = .ok (.ireturn, 1) := by decide +kernel
theorem dL_law_1826 : decode cL_law 1826 = .ok (.iload 6, 2) := by decide +kernel
theorem dL_law_1828 : decode cL_law 1828 = .ok (.ifCond .ne 15, 3) := by decide +kernel
theorem dL_law_1831 : decode cL_law 1831 = .ok (.aload_n 3, 1) := by decide +kernel
theorem dL_law_1832 : decode cL_law 1832 = .ok (.iconst 0, 1) := by decide +kernel
theorem dL_law_1833 : decode cL_law 1833 = .ok (.laload, 1) := by decide +kernel
theorem dL_law_1834 : decode cL_law 1834 = .ok (.iload 7, 2) := by decide +kernel
theorem dL_law_1836 : decode cL_law 1836 = .ok (.i2l, 1) := by decide +kernel
theorem dL_law_1837 : decode cL_law 1837 = .ok (.lcmp, 1) := by decide +kernel
theorem dL_law_1838 : decode cL_law 1838 = .ok (.ifCond .eq 5, 3) := by decide +kernel
theorem dL_law_1841 : decode cL_law 1841 = .ok (.iconst 0, 1) := by decide +kernel
theorem dL_law_1842 : decode cL_law 1842 = .ok (.ireturn, 1) := by decide +kernel
theorem dL_law_1843 : decode cL_law 1843 = .ok (.goto 60, 3) := by decide +kernel
theorem dL_law_1846 : decode cL_law 1846 = .ok (.aload_n 1, 1) := by decide +kernel
theorem dL_law_1847 : decode cL_law 1847 = .ok (.invokevirtual 226, 3) := by decide +kernel
theorem dL_law_1850 : decode cL_law 1850 = .ok (.aload_n 2, 1) := by decide +kernel
theorem dL_law_1851 : decode cL_law 1851 = .ok (.invokevirtual 229, 3) := by decide +kernel
theorem dL_law_1854 : decode cL_law 1854 = .ok (.if_icmp .eq 49, 3) := by decide +kernel
theorem dL_law_1857 : decode cL_law 1857 = .ok (.iconst 0, 1) := by decide +kernel
theorem dL_law_1858 : decode cL_law 1858 = .ok (.ireturn, 1) := by decide +kernel
theorem dL_law_1859 : decode cL_law 1859 = .ok (.aload_n 1, 1) := by decide +kernel
theorem dL_law_1860 : decode cL_law 1860 = .ok (.aload_n 3, 1) := by decide +kernel
theorem dL_law_1861 : decode cL_law 1861 = .ok (.invokestatic 230, 3) := by decide +kernel
theorem dL_law_1864 : decode cL_law 1864 = .ok (.istore 6, 2) := by decide +kernel
theorem dL_law_1866 : decode cL_law 1866 = .ok (.aload_n 2, 1) := by decide +kernel
theorem dL_law_1867 : decode cL_law 1867 = .ok (.invokevirtual 232, 3) := by decide +kernel
theorem dL_law_1870 : decode cL_law 1870 = .ok (.istore 7, 2) := by decide +kernel
theorem dL_law_1872 : decode cL_law 1872 = .ok (.aload_n 2, 1) := by decide +kernel
theorem dL_law_1873 : decode cL_law 1873 = .ok (.invokevirtual 120, 3) := by decide +kernel
theorem dL_law_1876 : decode cL_law 1876 = .ok (.iload 6, 2) := by decide +kernel
theorem dL_law_1878 : decode cL_law 1878 = .ok (.if_icmp .eq 5, 3) := by decide +kernel
theorem dL_law_1881 : decode cL_law 1881 = .ok (.iconst 0, 1) := by decide +kernel
theorem dL_law_1882 : decode cL_law 1882 = .ok (.ireturn, 1) := by decide +kernel
theorem dL_law_1883 : decode cL_law 1883 = .ok (.iload 6, 2) := by decide +kernel
theorem dL_law_1885 : decode cL_law 1885 = .ok (.ifCond .ne 15, 3) := by decide +kernel
theorem dL_law_1888 : decode cL_law 1888 = .ok (.aload_n 3, 1) := by decide +kernel
theorem dL_law_1889 : decode cL_law 1889 = .ok (.iconst 0, 1) := by decide +kernel
theorem dL_law_1890 : decode cL_law 1890 = .ok (.laload, 1) := by decide +kernel
theorem dL_law_1891 : decode cL_law 1891 = .ok (.iload 7, 2) := by decide +kernel
theorem dL_law_1893 : decode cL_law 1893 = .ok (.i2l, 1) := by decide +kernel
theorem dL_law_1894 : decode cL_law 1894 = .ok (.lcmp, 1) := by decide +kernel
theorem dL_law_1895 : decode cL_law 1895 = .ok (.ifCond .eq 5, 3) := by decide +kernel
theorem dL_law_1898 : decode cL_law 1898 = .ok (.iconst 0, 1) := by decide +kernel
theorem dL_law_1899 : decode cL_law 1899 = .ok (.ireturn, 1) := by decide +kernel
theorem dL_law_1900 : decode cL_law 1900 = .ok (.goto 3, 3) := by decide +kernel
theorem dL_law_1903 : decode cL_law 1903 = .ok (.iinc 5 3, 3) := by decide +kernel
theorem dL_law_1906 : decode cL_law 1906 = .ok (.goto (-1878), 3) := by decide +kernel
theorem dL_law_1909 : decode cL_law 1909 = .ok (.iconst 1, 1) := by decide +kernel
theorem dL_law_1910 : decode cL_law 1910 = .ok (.ireturn, 1) := by decide +kernel
end
section
theorem zz_dummy : True := trivial
end
