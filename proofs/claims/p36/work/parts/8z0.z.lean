/-! ===== p36: z's run, by evaluation ===== -/
def ztx (ta tb : List Int32) : List Int32 := [108, 49, 58] ++ (ta ++ ([59, 108, 50, 58] ++ (tb ++ ([59, 113, 49, 58, 50, 59, 108, 51, 58] ++ tb))))
def tx1 : List Int32 := [49, 54, 61, 48, 32, 52, 61, 49, 32, 50, 61, 50, 32, 50, 46, 32, 52, 61, 51, 32, 52, 46, 32, 51, 50, 46]
def tx2 : List Int32 := [49, 54, 61, 48, 32, 52, 46, 32, 50, 61, 49, 32, 50, 46, 32, 52, 61, 50, 32, 52, 46, 32, 51, 50, 46]
def tx3 : List Int32 := [49, 54, 61, 48, 32, 52, 46, 32, 49, 61, 49, 32, 49, 46, 32, 50, 46, 32, 52, 61, 50, 32, 52, 46, 32, 51, 50, 46]
def tx4 : List Int32 := [49, 54, 61, 48, 32, 56, 46, 32, 52, 61, 50, 32, 52, 61, 49, 32, 51, 50, 46]
def tx5 : List Int32 := [49, 54, 61, 48, 32, 56, 61, 49, 32, 52, 61, 50, 32, 52, 46, 32, 51, 50, 46]
def tx6 : List Int32 := [49, 54, 61, 48, 32, 56, 61, 49, 32, 56, 46, 32, 51, 50, 46]
def tx7 : List Int32 := [54, 52, 61, 48]
def tx8 : List Int32 := [50, 46, 32, 50, 61, 48, 32, 52, 46, 32, 56, 46, 32, 49, 54, 46, 32, 50, 61, 49, 32, 50, 46, 32, 52, 46, 32, 56, 46, 32, 49, 54, 46]
def Z1 : GS := sLine gsI
def Z2 (ta tb : List Int32) : GS := typ (ztx ta tb) Z1
def Z3 (ta tb : List Int32) : GS := rnS (Z2 ta tb)
def Z4 (ta tb : List Int32) : GS := sLine (Z3 ta tb)
def Z5 (ta tb : List Int32) : GS := sAsk (Z4 ta tb) 4 64
def Z6 (ta tb : List Int32) : GS := sGive (Z5 ta tb) 1
def Z7 (ta tb : List Int32) : GS := sLine (Z6 ta tb)
def Z8 (ta tb : List Int32) : GS := sResize (Z7 ta tb) 1 1
def Z9 (ta tb : List Int32) : GS := sLine (Z8 ta tb)
def Z10 (ta tb : List Int32) : GS := sResize (Z9 ta tb) 1 4
def Z11 (ta tb : List Int32) : GS := sLine (Z10 ta tb)
def Z12 (ta tb : List Int32) : GS := sResize (Z11 ta tb) 1 5
def Z13 (ta tb : List Int32) : GS := sLine (Z12 ta tb)
def Z14 (ta tb : List Int32) : GS := sGive (Z13 ta tb) 2
def Z15 (ta tb : List Int32) : GS := sLine (Z14 ta tb)
def Z16 (ta tb : List Int32) : GS := sGiveAll (Z15 ta tb) 1
def Z17 (ta tb : List Int32) : GS := sLine (Z16 ta tb)
def Z18 (ta tb : List Int32) : GS := sLend (Z17 ta tb) 5 1
def Z19 (ta tb : List Int32) : GS := sResize (Z18 ta tb) 0 2
def Z20 (ta tb : List Int32) : GS := sWay (Z19 ta tb) 1
def Z21 (ta tb : List Int32) : GS := sLend (Z20 ta tb) 5 2
def Z22 (ta tb : List Int32) : GS := sWay (Z21 ta tb) 2
def Z23 (ta tb : List Int32) : GS := sAsk (Z22 ta tb) 6 2
def Z24 (ta tb : List Int32) : GS := sGive (Z23 ta tb) 0
def Z25 (ta tb : List Int32) : GS := sLine (Z24 ta tb)
def zA : Bool :=
  decide (r_X7_line gsI (gsI.1 0) = 3) && (decide (r_X7_character Z1 2 = 46) && (decide (e_X7_character Z1 2 = "") && (decide (r_X7_greatest (Z1.1 0) = 64) && (decide (e_X7_greatest (Z1.1 0) = "") && (decide (r_X7_pieceOf (Z1.1 0) 9 3 = (-1)) && (decide (e_X7_pieceOf (Z1.1 0) 9 3 = "") && (decide (r_X7_cuts (Z1.1 0) 1 = 6) && (decide (e_X7_cuts (Z1.1 0) 1 = "") && ((lp_X7_cuts_29 1 64 0 ((r_X5_sizeAt (Z1.1 0) (r_X7_insistOnPiece (Z1.1 0) (r_X7_insistOnNeed 1))) / 2)).isSome && (decide (r_X7_fits (Z1.1 0) 33 = 1) && (decide (e_X7_fits 33 = "") && (decide (r_X7_inTheWay (Z1.1 0) 64 = 0) && (decide (e_X7_inTheWay 64 = "") && (decide (r_X7_lentShare (Z1.1 0) = 0)))))))))))))))
def zB (a b : Int32) (ta tb : List Int32) : Bool :=
  (m_X7_run (Z2 ta tb) ((Z2 ta tb).1 0)).isSome && (decide ((rnQ (Z2 ta tb)).1 = "") && (decide ((rnQ (Z2 ta tb)).2.1 = 4) && (decide (r_X7_line (Z3 ta tb) ((Z3 ta tb).1 0) = nI tx1.length) && (isL (Z4 ta tb) 0 tx1 && (decide (r_X7_account (Z4 ta tb) ((Z4 ta tb).1 0) 6 = 6) && (decide (r_X7_account (Z4 ta tb) ((Z4 ta tb).1 0) 7 = 0) && (decide (r_X7_would ((Z4 ta tb).1 0) 1 = 22) && (decide (e_X7_would ((Z4 ta tb).1 0) 1 = "") && (decide (r_X7_would ((Z4 ta tb).1 0) 4 = 28) && (decide (e_X7_would ((Z4 ta tb).1 0) 4 = "") && (decide (r_X7_cuts ((Z4 ta tb).1 0) 5 = 2) && (decide (e_X7_cuts ((Z4 ta tb).1 0) 5 = "") && ((lp_X7_cuts_29 5 64 0 ((r_X5_sizeAt ((Z4 ta tb).1 0) (r_X7_insistOnPiece ((Z4 ta tb).1 0) (r_X7_insistOnNeed 5))) / 2)).isSome && (decide (r_X7_fits ((Z4 ta tb).1 0) 4 = 9) && (decide (e_X7_fits 4 = "") && (decide (r_X7_inTheWay ((Z4 ta tb).1 0) 32 = 0) && (decide (e_X7_inTheWay 32 = "") && (decide (r_X7_inTheWay ((Z4 ta tb).1 0) 64 = 4) && (decide (e_X7_inTheWay 64 = "") && (decide (r_X7_account (Z4 ta tb) ((Z4 ta tb).1 0) 5 = 16 - a + 8 - 2 * b)))))))))))))))))))))
def zC (ta tb : List Int32) : Bool :=
  decide (r_X7_ask ((Z4 ta tb).1 0) 4 64 = (-1)) && (decide (e_X7_ask ((Z4 ta tb).1 0) 4 64 = "") && (decide (r_X7_give ((Z5 ta tb).1 0) 1 = 0) && (decide (e_X7_give ((Z5 ta tb).1 0) 1 = "") && (decide (r_X7_line (Z6 ta tb) ((Z6 ta tb).1 0) = nI tx2.length) && (isL (Z7 ta tb) 0 tx2 && (decide (r_X7_resize ((Z7 ta tb).1 0) 1 1 = 20) && (decide (e_X7_resize ((Z7 ta tb).1 0) 1 1 = "") && (decide (r_X7_line (Z8 ta tb) ((Z8 ta tb).1 0) = nI tx3.length) && (isL (Z9 ta tb) 0 tx3 && (decide (r_X7_resize ((Z9 ta tb).1 0) 1 4 = 28) && (decide (e_X7_resize ((Z9 ta tb).1 0) 1 4 = "") && (decide (r_X7_line (Z10 ta tb) ((Z10 ta tb).1 0) = nI tx4.length) && (isL (Z11 ta tb) 0 tx4 && (decide (r_X7_resize ((Z11 ta tb).1 0) 1 5 = 16) && (decide (e_X7_resize ((Z11 ta tb).1 0) 1 5 = "") && (decide (r_X7_line (Z12 ta tb) ((Z12 ta tb).1 0) = nI tx5.length) && (isL (Z13 ta tb) 0 tx5)))))))))))))))))
def zD (ta tb : List Int32) : Bool :=
  decide (r_X7_give ((Z13 ta tb).1 0) 2 = 0) && (decide (e_X7_give ((Z13 ta tb).1 0) 2 = "") && (decide (r_X7_line (Z14 ta tb) ((Z14 ta tb).1 0) = nI tx6.length) && (isL (Z15 ta tb) 0 tx6 && (decide (r_X7_giveAll ((Z15 ta tb).1 0) 1 = 2) && (decide (e_X7_giveAll ((Z15 ta tb).1 0) 1 = "") && (decide (r_X7_line (Z16 ta tb) ((Z16 ta tb).1 0) = nI tx7.length) && (isL (Z17 ta tb) 0 tx7 && (decide (r_X7_loanOf ((Z17 ta tb).1 0) 0 0 = 4) && (decide (e_X7_loanOf ((Z17 ta tb).1 0) 0 0 = "") && (decide (r_X7_account (Z17 ta tb) ((Z17 ta tb).1 0) 4 = 0) && (decide (e_X7_lend ((Z17 ta tb).1 0) 5 1 = "java/lang/UnsupportedOperationException") && (decide (r_X7_refusal (Z18 ta tb) 0 = 2) && (decide (e_X7_refusal (Z18 ta tb) 0 = "") && (decide (r_X7_refusal (Z18 ta tb) 1 = 0) && (decide (e_X7_refusal (Z18 ta tb) 1 = "") && (decide (r_X7_resize ((Z18 ta tb).1 0) 0 2 = 0) && (decide (e_X7_resize ((Z18 ta tb).1 0) 0 2 = "") && (decide (r_X7_way ((Z19 ta tb).1 0) 1 = 0) && (decide (e_X7_way ((Z19 ta tb).1 0) 1 = "") && (decide (r_X7_lend ((Z20 ta tb).1 0) 5 2 = 1) && (decide (e_X7_lend ((Z20 ta tb).1 0) 5 2 = "") && (decide (r_X7_loanOf ((Z21 ta tb).1 0) 1 2 = 2) && (decide (e_X7_loanOf ((Z21 ta tb).1 0) 1 2 = ""))))))))))))))))))))))))
def zE (ta tb : List Int32) : Bool :=
  decide (r_X7_way ((Z21 ta tb).1 0) 2 = 1) && (decide (e_X7_way ((Z21 ta tb).1 0) 2 = "") && (decide (r_X7_ask ((Z22 ta tb).1 0) 6 2 = 32) && (decide (e_X7_ask ((Z22 ta tb).1 0) 6 2 = "") && (decide (r_X7_isWell ((Z23 ta tb).1 0) = 1) && (decide (r_X7_give ((Z23 ta tb).1 0) 0 = 0) && (decide (e_X7_give ((Z23 ta tb).1 0) 0 = "") && (decide (r_X7_line (Z24 ta tb) ((Z24 ta tb).1 0) = nI tx8.length) && (isL (Z25 ta tb) 0 tx8 && (decide (r_X7_would ((Z25 ta tb).1 0) 1 = 16) && (decide (e_X7_would ((Z25 ta tb).1 0) 1 = "") && (decide (r_X7_ranked ((Z25 ta tb).1 0) 0 = 5) && (decide (e_X7_ranked ((Z25 ta tb).1 0) 0 = "") && (decide (e_X7_meanWaste ((Z25 ta tb).1 0) = "") && (decide (r_X7_meanWaste ((Z25 ta tb).1 0) = 0)))))))))))))))
def zO (ta tb : List Int32) : Bool :=
  decide (¬ (Z2 ta tb).2.1 0 < 0) && (decide (¬ (Z4 ta tb).2.1 0 < 0) && (decide (¬ (Z5 ta tb).2.1 0 < 0) && (decide (¬ (Z7 ta tb).2.1 0 < 0) && (decide (¬ (Z9 ta tb).2.1 0 < 0) && (decide (¬ (Z11 ta tb).2.1 0 < 0) && (decide (¬ (Z13 ta tb).2.1 0 < 0) && (decide (¬ (Z15 ta tb).2.1 0 < 0) && (decide (¬ (Z17 ta tb).2.1 0 < 0) && (decide (¬ (Z18 ta tb).2.1 0 < 0) && (decide (¬ (Z19 ta tb).2.1 0 < 0) && (decide (¬ (Z20 ta tb).2.1 0 < 0) && (decide (¬ (Z21 ta tb).2.1 0 < 0) && (decide (¬ (Z22 ta tb).2.1 0 < 0) && (decide (¬ (Z23 ta tb).2.1 0 < 0) && (decide (¬ (8 : Int32) ≤ (Z2 ta tb).2.1 0) && (decide (¬ (8 : Int32) ≤ (Z4 ta tb).2.1 0) && (decide (¬ (8 : Int32) ≤ (Z5 ta tb).2.1 0) && (decide (¬ (8 : Int32) ≤ (Z7 ta tb).2.1 0) && (decide (¬ (8 : Int32) ≤ (Z9 ta tb).2.1 0) && (decide (¬ (8 : Int32) ≤ (Z11 ta tb).2.1 0) && (decide (¬ (8 : Int32) ≤ (Z13 ta tb).2.1 0) && (decide (¬ (8 : Int32) ≤ (Z15 ta tb).2.1 0) && (decide (¬ (8 : Int32) ≤ (Z17 ta tb).2.1 0) && (decide (¬ (8 : Int32) ≤ (Z18 ta tb).2.1 0) && (decide (¬ (8 : Int32) ≤ (Z19 ta tb).2.1 0) && (decide (¬ (8 : Int32) ≤ (Z20 ta tb).2.1 0) && (decide (¬ (8 : Int32) ≤ (Z21 ta tb).2.1 0) && (decide (¬ (8 : Int32) ≤ (Z22 ta tb).2.1 0) && (decide (¬ (8 : Int32) ≤ (Z23 ta tb).2.1 0) && (decide (Z1.2.1 4 = 0)))))))))))))))))))))))))))))))
theorem zA_ok : zA = true := by decide +kernel
