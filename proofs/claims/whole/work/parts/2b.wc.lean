def r_X7_undo (X : GS) : Int32 := (if 0 < (X.2.1 1) then ((x_X1_takeBack X).2.1 1) else 0)

def u_X7_undo (X : GS) (b : BD) : BD := (if 0 < (X.2.1 1) then (u_X1_takeBack X b) else b)

def x_X7_undo (X : GS) : GS := (if 0 < (X.2.1 1) then (x_X1_takeBack X) else X)

def e_X7_undo (X : GS) : String := (if 0 < (X.2.1 1) then "" else "java/lang/IllegalStateException")
set_option maxRecDepth 20000 in
theorem s_X7_undo (X : GS) (b : BD) (hN : okI (X.2.1 0)) : Ct 6 1 6 yX7_undo (.code yX7_undo cX7_undo 1 (some (.int))) [.ref 0] (mkH (uB X 0 b)) (rT (e_X7_undo X) (some (.int (r_X7_undo X)))) (mkH (uB (x_X7_undo X) 0 (u_X7_undo X b))) := by
  refine Ct.of (LL := [some (.ref 0)]) mkX7_undo.1 owX7_undo rfl (Nat.le_of_ble_eq_true rfl) rfl (fun Wk C => ?_)
  have K := C.core
  refine K.aload_n (q := 1) dX7_undo_0 rfl rfl ?_
  refine K.getf (q := 4) (v := .ref 34) fo_X7_25.r rx0b (lt141 (by decide)) rfl dX7_undo_1 rfl ?_
  refine K.getf (q := 7) (v := .int (X.2.1 1)) fo_X7_330.r rx34b (lt141 (by decide)) rfl dX7_undo_4 rfl ?_
  refine K.if_gt (q := 10) (tgt := 21) dX7_undo_7 rfl (by decide) (fun c_7_1 => ?_) (fun c_7_1 => ?_)
  · refine K.aload_n (q := 22) dX7_undo_21 rfl rfl ?_
    refine K.getf (q := 25) (v := .ref 34) fo_X7_25.r rx0b (lt141 (by decide)) rfl dX7_undo_22 rfl ?_
    refine K.aload_n (q := 26) dX7_undo_25 rfl rfl ?_
    refine K.getf (q := 29) (v := .ref 1) fo_X7_12.r rx0b (lt141 (by decide)) rfl dX7_undo_26 rfl ?_
    refine K.callVv0 (q := 32) mkX1_takeBack mw_X7_353 (s_X1_takeBack _ _ hN) rfl (by decide) rfl (lt141 (by decide)) rx34b (Nat.le_of_ble_eq_true rfl) (Nat.le_of_ble_eq_true rfl) (Nat.le_of_ble_eq_true rfl) dX7_undo_29 rfl ?_
    refine K.aload_n (q := 33) dX7_undo_32 rfl rfl ?_
    refine K.getf (q := 36) (v := .ref 34) fo_X7_25.r rx0b (lt141 (by decide)) rfl dX7_undo_33 rfl ?_
    refine K.getf (q := 39) (v := .int ((x_X1_takeBack X).2.1 1)) fo_X7_330.r rx34b (lt141 (by decide)) rfl dX7_undo_36 rfl ?_
    exact C.iret rfl rfl (by rw [rT, if_pos (by rw [e_X7_undo, if_pos c_7_1]), r_X7_undo, if_pos c_7_1]) (by rw [u_X7_undo, if_pos c_7_1, x_X7_undo, if_pos c_7_1]) (Nat.le_of_ble_eq_true rfl) (Nat.le_of_ble_eq_true rfl) dX7_undo_39
  · exact (C.cast (by rw [rT, if_neg (by rw [e_X7_undo, if_neg c_7_1]; decide), e_X7_undo, if_neg c_7_1]) (by rw [u_X7_undo, if_neg c_7_1, x_X7_undo, if_neg c_7_1])).throwSW (is := 351) (text := "no change can be undone") tok_ISE (by decide) rfl (by decide) (Nat.le_of_ble_eq_true rfl) (Nat.le_of_ble_eq_true rfl) (Nat.le_of_ble_eq_true rfl) dX7_undo_10 dX7_undo_13 dX7_undo_14 dX7_undo_17 dX7_undo_20

def r_X7_save (b : BD) : Int32 := (b.1 3)

def x_X7_save (X : GS) (b : BD) : GS := (uS (uB X 2 (cpB b (X.1 2))) 8 1)
set_option maxRecDepth 20000 in
theorem s_X7_save (X : GS) (b : BD) : Ct 4 0 0 yX7_save (.code yX7_save cX7_save 1 (some (.int))) [.ref 0] (mkH (uB X 0 b)) (.inl (some (.int (r_X7_save b)))) (mkH (uB (x_X7_save X b) 0 b)) := by
  refine Ct.of (LL := [some (.ref 0)]) mkX7_save.1 owX7_save rfl (Nat.le_of_ble_eq_true rfl) rfl (fun Wk C => ?_)
  have K := C.core
  refine K.aload_n (q := 1) dX7_save_0 rfl rfl ?_
  refine K.getf (q := 4) (v := .ref 23) fo_X7_19.r rx0b (lt141 (by decide)) rfl dX7_save_1 rfl ?_
  refine K.aload_n (q := 5) dX7_save_4 rfl rfl ?_
  refine K.getf (q := 8) (v := .ref 1) fo_X7_12.r rx0b (lt141 (by decide)) rfl dX7_save_5 rfl ?_
  refine K.callVv0 (q := 11) mkX0_copyFrom mw_X7_281 (s_copy20 X b) rfl (by decide) rfl (lt141 (by decide)) rd23 (Nat.le_of_ble_eq_true rfl) (Nat.le_of_ble_eq_true rfl) (Nat.le_of_ble_eq_true rfl) dX7_save_8 rfl ?_
  refine K.aload_n (q := 12) dX7_save_11 rfl rfl ?_
  refine K.iconst (q := 13) (v := 1) dX7_save_12 rfl (by decide) ?_
  refine K.putf (q := 16) fo_X7_47 rx0b (lt141 (by decide)) (Nat.le_of_ble_eq_true rfl) (fun _ => rfl) (fun _ => rfl) pxs8b dX7_save_13 rfl ?_
  refine K.aload_n (q := 17) dX7_save_16 rfl rfl ?_
  refine K.getf (q := 20) (v := .ref 1) fo_X7_12.r rx0b (lt141 (by decide)) rfl dX7_save_17 rfl ?_
  refine K.getf (q := 23) (v := .ref 4) fo_X7_126 rb1 (lt141 (by decide)) rfl dX7_save_20 rfl ?_
  refine K.getf (q := 26) (v := .int (b.1 3)) fo_X7_311.r rb4 (lt141 (by decide)) rfl dX7_save_23 rfl ?_
  exact C.iret rfl rfl (by rw [r_X7_save]) (by rw [x_X7_save]) (Nat.le_of_ble_eq_true rfl) (Nat.le_of_ble_eq_true rfl) dX7_save_26

def r_X7_restore (X : GS) (b : BD) : Int32 := (if (X.2.1 8) = 0 then 0 else ((cpB (X.1 2) b).1 3))

def u_X7_restore (X : GS) (b : BD) : BD := (if (X.2.1 8) = 0 then b else (cpB (X.1 2) b))

def x_X7_restore (X : GS) : GS := (if (X.2.1 8) = 0 then X else (x_X1_clear X))

def e_X7_restore (X : GS) : String := (if (X.2.1 8) = 0 then "java/lang/IllegalStateException" else "")
set_option maxRecDepth 20000 in
theorem s_X7_restore (X : GS) (b : BD) : Ct 6 1 6 yX7_restore (.code yX7_restore cX7_restore 1 (some (.int))) [.ref 0] (mkH (uB X 0 b)) (rT (e_X7_restore X) (some (.int (r_X7_restore X b)))) (mkH (uB (x_X7_restore X) 0 (u_X7_restore X b))) := by
  refine Ct.of (LL := [some (.ref 0)]) mkX7_restore.1 owX7_restore rfl (Nat.le_of_ble_eq_true rfl) rfl (fun Wk C => ?_)
  have K := C.core
  refine K.aload_n (q := 1) dX7_restore_0 rfl rfl ?_
  refine K.getf (q := 4) (v := .int (X.2.1 8)) fo_X7_47.r rx0b (lt141 (by decide)) rfl dX7_restore_1 rfl ?_
  refine K.if_ne (q := 7) (tgt := 18) dX7_restore_4 rfl (by decide) (fun c_4_1 => ?_) (fun c_4_1 => ?_)
  · refine K.aload_n (q := 19) dX7_restore_18 rfl rfl ?_
    refine K.getf (q := 22) (v := .ref 1) fo_X7_12.r rx0b (lt141 (by decide)) rfl dX7_restore_19 rfl ?_
    refine K.aload_n (q := 23) dX7_restore_22 rfl rfl ?_
    refine K.getf (q := 26) (v := .ref 23) fo_X7_19.r rx0b (lt141 (by decide)) rfl dX7_restore_23 rfl ?_
    refine K.callVv0 (q := 29) mkX0_copyFrom mw_X7_281 (s_copy02 X b) rfl (by decide) rfl (lt141 (by decide)) rb1 (Nat.le_of_ble_eq_true rfl) (Nat.le_of_ble_eq_true rfl) (Nat.le_of_ble_eq_true rfl) dX7_restore_26 rfl ?_
    refine K.aload_n (q := 30) dX7_restore_29 rfl rfl ?_
    refine K.getf (q := 33) (v := .ref 34) fo_X7_25.r rx0b (lt141 (by decide)) rfl dX7_restore_30 rfl ?_
    refine K.callVv0 (q := 36) mkX1_clear mw_X7_358 (s_X1_clear _ _) rfl (by decide) rfl (lt141 (by decide)) rx34b (Nat.le_of_ble_eq_true rfl) (Nat.le_of_ble_eq_true rfl) (Nat.le_of_ble_eq_true rfl) dX7_restore_33 rfl ?_
    refine K.aload_n (q := 37) dX7_restore_36 rfl rfl ?_
    refine K.getf (q := 40) (v := .ref 1) fo_X7_12.r rx0b (lt141 (by decide)) rfl dX7_restore_37 rfl ?_
    refine K.getf (q := 43) (v := .ref 4) fo_X7_126 rb1 (lt141 (by decide)) rfl dX7_restore_40 rfl ?_
    refine K.getf (q := 46) (v := .int ((cpB (X.1 2) b).1 3)) fo_X7_311.r rb4 (lt141 (by decide)) rfl dX7_restore_43 rfl ?_
    exact C.iret rfl rfl (by rw [rT, if_pos (by rw [e_X7_restore, if_neg c_4_1]), r_X7_restore, if_neg c_4_1]) (by rw [u_X7_restore, if_neg c_4_1, x_X7_restore, if_neg c_4_1]) (Nat.le_of_ble_eq_true rfl) (Nat.le_of_ble_eq_true rfl) dX7_restore_46
  · exact (C.cast (by rw [rT, if_neg (by rw [e_X7_restore, if_pos c_4_1]; decide), e_X7_restore, if_pos c_4_1]) (by rw [u_X7_restore, if_pos c_4_1, x_X7_restore, if_pos c_4_1])).throwSW (is := 356) (text := "there is no snapshot") tok_ISE (by decide) rfl (by decide) (Nat.le_of_ble_eq_true rfl) (Nat.le_of_ble_eq_true rfl) (Nat.le_of_ble_eq_true rfl) dX7_restore_7 dX7_restore_10 dX7_restore_11 dX7_restore_14 dX7_restore_17

def lp_X7_run_51 : Nat → Int32 → Int32 → BD → GS → Option (Int32 × Int32 × BD × GS)
  | 0, _, _, _, _ => none
  | j + 1, a1, a2, bb, XX => (if (XX.2.1 3) ≤ a2 then (some (a1, a2, bb, XX)) else (if a1 = 0 then (if (r_X7_judgeOrder bb (r_X4_kindAt XX a2) (r_X4_firstAt XX a2) (r_X4_secondAt XX a2)) = 0 then (lp_X7_run_51 j (r_X7_judgeOrder bb (r_X4_kindAt XX a2) (r_X4_firstAt XX a2) (r_X4_secondAt XX a2)) (a2 + 1) (u_X7_carryOut bb (r_X4_kindAt (x_X7_judgeOrder XX bb (r_X4_kindAt XX a2) (r_X4_firstAt XX a2) (r_X4_secondAt XX a2)) a2) (r_X4_firstAt (x_X7_judgeOrder XX bb (r_X4_kindAt XX a2) (r_X4_firstAt XX a2) (r_X4_secondAt XX a2)) a2) (r_X4_secondAt (x_X7_judgeOrder XX bb (r_X4_kindAt XX a2) (r_X4_firstAt XX a2) (r_X4_secondAt XX a2)) a2)) (x_X7_judgeOrder XX bb (r_X4_kindAt XX a2) (r_X4_firstAt XX a2) (r_X4_secondAt XX a2))) else (lp_X7_run_51 j (r_X7_judgeOrder bb (r_X4_kindAt XX a2) (r_X4_firstAt XX a2) (r_X4_secondAt XX a2)) (a2 + 1) bb (x_X7_judgeOrder XX bb (r_X4_kindAt XX a2) (r_X4_firstAt XX a2) (r_X4_secondAt XX a2)))) else (some (a1, a2, bb, XX))))

def r_X7_run (X : GS) (b : BD) : Int32 := (if ((x_X4_clearText (uS (x_X4_read X) 7 (r_X4_read X))).2.1 7) < 0 then (if (((lp_X7_run_51 bigF 0 0 b (uB (x_X4_clearText (uS (x_X4_read X) 7 (r_X4_read X))) 1 (cpB b ((x_X4_clearText (uS (x_X4_read X) 7 (r_X4_read X))).1 1)))).getD ((0 : Int32), (0 : Int32), bd0, gs0)).1) = 0 then (if (((lp_X7_run_51 bigF 0 0 b (uB (x_X4_clearText (uS (x_X4_read X) 7 (r_X4_read X))) 1 (cpB b ((x_X4_clearText (uS (x_X4_read X) 7 (r_X4_read X))).1 1)))).getD ((0 : Int32), (0 : Int32), bd0, gs0)).1) = 3 then 0 else (if (((lp_X7_run_51 bigF 0 0 b (uB (x_X4_clearText (uS (x_X4_read X) 7 (r_X4_read X))) 1 (cpB b ((x_X4_clearText (uS (x_X4_read X) 7 (r_X4_read X))).1 1)))).getD ((0 : Int32), (0 : Int32), bd0, gs0)).1) = 0 then ((x_X1_keep1 (((lp_X7_run_51 bigF 0 0 b (uB (x_X4_clearText (uS (x_X4_read X) 7 (r_X4_read X))) 1 (cpB b ((x_X4_clearText (uS (x_X4_read X) 7 (r_X4_read X))).1 1)))).getD ((0 : Int32), (0 : Int32), bd0, gs0)).2.2.2)).2.1 3) else 0)) else (if (((lp_X7_run_51 bigF 0 0 b (uB (x_X4_clearText (uS (x_X4_read X) 7 (r_X4_read X))) 1 (cpB b ((x_X4_clearText (uS (x_X4_read X) 7 (r_X4_read X))).1 1)))).getD ((0 : Int32), (0 : Int32), bd0, gs0)).1) = 3 then 0 else (if (((lp_X7_run_51 bigF 0 0 b (uB (x_X4_clearText (uS (x_X4_read X) 7 (r_X4_read X))) 1 (cpB b ((x_X4_clearText (uS (x_X4_read X) 7 (r_X4_read X))).1 1)))).getD ((0 : Int32), (0 : Int32), bd0, gs0)).1) = 0 then ((x_X1_keep1 (((lp_X7_run_51 bigF 0 0 b (uB (x_X4_clearText (uS (x_X4_read X) 7 (r_X4_read X))) 1 (cpB b ((x_X4_clearText (uS (x_X4_read X) 7 (r_X4_read X))).1 1)))).getD ((0 : Int32), (0 : Int32), bd0, gs0)).2.2.2)).2.1 3) else 0))) else 0)

def u_X7_run (X : GS) (b : BD) : BD := (if ((x_X4_clearText (uS (x_X4_read X) 7 (r_X4_read X))).2.1 7) < 0 then (if (((lp_X7_run_51 bigF 0 0 b (uB (x_X4_clearText (uS (x_X4_read X) 7 (r_X4_read X))) 1 (cpB b ((x_X4_clearText (uS (x_X4_read X) 7 (r_X4_read X))).1 1)))).getD ((0 : Int32), (0 : Int32), bd0, gs0)).1) = 0 then (if (((lp_X7_run_51 bigF 0 0 b (uB (x_X4_clearText (uS (x_X4_read X) 7 (r_X4_read X))) 1 (cpB b ((x_X4_clearText (uS (x_X4_read X) 7 (r_X4_read X))).1 1)))).getD ((0 : Int32), (0 : Int32), bd0, gs0)).1) = 3 then (((lp_X7_run_51 bigF 0 0 b (uB (x_X4_clearText (uS (x_X4_read X) 7 (r_X4_read X))) 1 (cpB b ((x_X4_clearText (uS (x_X4_read X) 7 (r_X4_read X))).1 1)))).getD ((0 : Int32), (0 : Int32), bd0, gs0)).2.2.1) else (if (((lp_X7_run_51 bigF 0 0 b (uB (x_X4_clearText (uS (x_X4_read X) 7 (r_X4_read X))) 1 (cpB b ((x_X4_clearText (uS (x_X4_read X) 7 (r_X4_read X))).1 1)))).getD ((0 : Int32), (0 : Int32), bd0, gs0)).1) = 0 then (((lp_X7_run_51 bigF 0 0 b (uB (x_X4_clearText (uS (x_X4_read X) 7 (r_X4_read X))) 1 (cpB b ((x_X4_clearText (uS (x_X4_read X) 7 (r_X4_read X))).1 1)))).getD ((0 : Int32), (0 : Int32), bd0, gs0)).2.2.1) else (((lp_X7_run_51 bigF 0 0 b (uB (x_X4_clearText (uS (x_X4_read X) 7 (r_X4_read X))) 1 (cpB b ((x_X4_clearText (uS (x_X4_read X) 7 (r_X4_read X))).1 1)))).getD ((0 : Int32), (0 : Int32), bd0, gs0)).2.2.1))) else (if (((lp_X7_run_51 bigF 0 0 b (uB (x_X4_clearText (uS (x_X4_read X) 7 (r_X4_read X))) 1 (cpB b ((x_X4_clearText (uS (x_X4_read X) 7 (r_X4_read X))).1 1)))).getD ((0 : Int32), (0 : Int32), bd0, gs0)).1) = 3 then (cpB ((((lp_X7_run_51 bigF 0 0 b (uB (x_X4_clearText (uS (x_X4_read X) 7 (r_X4_read X))) 1 (cpB b ((x_X4_clearText (uS (x_X4_read X) 7 (r_X4_read X))).1 1)))).getD ((0 : Int32), (0 : Int32), bd0, gs0)).2.2.2).1 1) (((lp_X7_run_51 bigF 0 0 b (uB (x_X4_clearText (uS (x_X4_read X) 7 (r_X4_read X))) 1 (cpB b ((x_X4_clearText (uS (x_X4_read X) 7 (r_X4_read X))).1 1)))).getD ((0 : Int32), (0 : Int32), bd0, gs0)).2.2.1)) else (if (((lp_X7_run_51 bigF 0 0 b (uB (x_X4_clearText (uS (x_X4_read X) 7 (r_X4_read X))) 1 (cpB b ((x_X4_clearText (uS (x_X4_read X) 7 (r_X4_read X))).1 1)))).getD ((0 : Int32), (0 : Int32), bd0, gs0)).1) = 0 then (cpB ((((lp_X7_run_51 bigF 0 0 b (uB (x_X4_clearText (uS (x_X4_read X) 7 (r_X4_read X))) 1 (cpB b ((x_X4_clearText (uS (x_X4_read X) 7 (r_X4_read X))).1 1)))).getD ((0 : Int32), (0 : Int32), bd0, gs0)).2.2.2).1 1) (((lp_X7_run_51 bigF 0 0 b (uB (x_X4_clearText (uS (x_X4_read X) 7 (r_X4_read X))) 1 (cpB b ((x_X4_clearText (uS (x_X4_read X) 7 (r_X4_read X))).1 1)))).getD ((0 : Int32), (0 : Int32), bd0, gs0)).2.2.1)) else (cpB ((((lp_X7_run_51 bigF 0 0 b (uB (x_X4_clearText (uS (x_X4_read X) 7 (r_X4_read X))) 1 (cpB b ((x_X4_clearText (uS (x_X4_read X) 7 (r_X4_read X))).1 1)))).getD ((0 : Int32), (0 : Int32), bd0, gs0)).2.2.2).1 1) (((lp_X7_run_51 bigF 0 0 b (uB (x_X4_clearText (uS (x_X4_read X) 7 (r_X4_read X))) 1 (cpB b ((x_X4_clearText (uS (x_X4_read X) 7 (r_X4_read X))).1 1)))).getD ((0 : Int32), (0 : Int32), bd0, gs0)).2.2.1))))) else b)

def x_X7_run (X : GS) (b : BD) : GS := (if ((x_X4_clearText (uS (x_X4_read X) 7 (r_X4_read X))).2.1 7) < 0 then (if (((lp_X7_run_51 bigF 0 0 b (uB (x_X4_clearText (uS (x_X4_read X) 7 (r_X4_read X))) 1 (cpB b ((x_X4_clearText (uS (x_X4_read X) 7 (r_X4_read X))).1 1)))).getD ((0 : Int32), (0 : Int32), bd0, gs0)).1) = 0 then (if (((lp_X7_run_51 bigF 0 0 b (uB (x_X4_clearText (uS (x_X4_read X) 7 (r_X4_read X))) 1 (cpB b ((x_X4_clearText (uS (x_X4_read X) 7 (r_X4_read X))).1 1)))).getD ((0 : Int32), (0 : Int32), bd0, gs0)).1) = 3 then (((lp_X7_run_51 bigF 0 0 b (uB (x_X4_clearText (uS (x_X4_read X) 7 (r_X4_read X))) 1 (cpB b ((x_X4_clearText (uS (x_X4_read X) 7 (r_X4_read X))).1 1)))).getD ((0 : Int32), (0 : Int32), bd0, gs0)).2.2.2) else (if (((lp_X7_run_51 bigF 0 0 b (uB (x_X4_clearText (uS (x_X4_read X) 7 (r_X4_read X))) 1 (cpB b ((x_X4_clearText (uS (x_X4_read X) 7 (r_X4_read X))).1 1)))).getD ((0 : Int32), (0 : Int32), bd0, gs0)).1) = 0 then (x_X1_keep1 (((lp_X7_run_51 bigF 0 0 b (uB (x_X4_clearText (uS (x_X4_read X) 7 (r_X4_read X))) 1 (cpB b ((x_X4_clearText (uS (x_X4_read X) 7 (r_X4_read X))).1 1)))).getD ((0 : Int32), (0 : Int32), bd0, gs0)).2.2.2)) else (((lp_X7_run_51 bigF 0 0 b (uB (x_X4_clearText (uS (x_X4_read X) 7 (r_X4_read X))) 1 (cpB b ((x_X4_clearText (uS (x_X4_read X) 7 (r_X4_read X))).1 1)))).getD ((0 : Int32), (0 : Int32), bd0, gs0)).2.2.2))) else (if (((lp_X7_run_51 bigF 0 0 b (uB (x_X4_clearText (uS (x_X4_read X) 7 (r_X4_read X))) 1 (cpB b ((x_X4_clearText (uS (x_X4_read X) 7 (r_X4_read X))).1 1)))).getD ((0 : Int32), (0 : Int32), bd0, gs0)).1) = 3 then (((lp_X7_run_51 bigF 0 0 b (uB (x_X4_clearText (uS (x_X4_read X) 7 (r_X4_read X))) 1 (cpB b ((x_X4_clearText (uS (x_X4_read X) 7 (r_X4_read X))).1 1)))).getD ((0 : Int32), (0 : Int32), bd0, gs0)).2.2.2) else (if (((lp_X7_run_51 bigF 0 0 b (uB (x_X4_clearText (uS (x_X4_read X) 7 (r_X4_read X))) 1 (cpB b ((x_X4_clearText (uS (x_X4_read X) 7 (r_X4_read X))).1 1)))).getD ((0 : Int32), (0 : Int32), bd0, gs0)).1) = 0 then (x_X1_keep1 (((lp_X7_run_51 bigF 0 0 b (uB (x_X4_clearText (uS (x_X4_read X) 7 (r_X4_read X))) 1 (cpB b ((x_X4_clearText (uS (x_X4_read X) 7 (r_X4_read X))).1 1)))).getD ((0 : Int32), (0 : Int32), bd0, gs0)).2.2.2)) else (((lp_X7_run_51 bigF 0 0 b (uB (x_X4_clearText (uS (x_X4_read X) 7 (r_X4_read X))) 1 (cpB b ((x_X4_clearText (uS (x_X4_read X) 7 (r_X4_read X))).1 1)))).getD ((0 : Int32), (0 : Int32), bd0, gs0)).2.2.2)))) else (x_X4_clearText (uS (x_X4_read X) 7 (r_X4_read X))))

def e_X7_run (X : GS) (b : BD) : String := (if ((x_X4_clearText (uS (x_X4_read X) 7 (r_X4_read X))).2.1 7) < 0 then (if (((lp_X7_run_51 bigF 0 0 b (uB (x_X4_clearText (uS (x_X4_read X) 7 (r_X4_read X))) 1 (cpB b ((x_X4_clearText (uS (x_X4_read X) 7 (r_X4_read X))).1 1)))).getD ((0 : Int32), (0 : Int32), bd0, gs0)).1) = 0 then (if (((lp_X7_run_51 bigF 0 0 b (uB (x_X4_clearText (uS (x_X4_read X) 7 (r_X4_read X))) 1 (cpB b ((x_X4_clearText (uS (x_X4_read X) 7 (r_X4_read X))).1 1)))).getD ((0 : Int32), (0 : Int32), bd0, gs0)).1) = 3 then "java/lang/UnsupportedOperationException" else (if (((lp_X7_run_51 bigF 0 0 b (uB (x_X4_clearText (uS (x_X4_read X) 7 (r_X4_read X))) 1 (cpB b ((x_X4_clearText (uS (x_X4_read X) 7 (r_X4_read X))).1 1)))).getD ((0 : Int32), (0 : Int32), bd0, gs0)).1) = 0 then "" else "java/lang/IllegalArgumentException")) else (if (((lp_X7_run_51 bigF 0 0 b (uB (x_X4_clearText (uS (x_X4_read X) 7 (r_X4_read X))) 1 (cpB b ((x_X4_clearText (uS (x_X4_read X) 7 (r_X4_read X))).1 1)))).getD ((0 : Int32), (0 : Int32), bd0, gs0)).1) = 3 then "java/lang/UnsupportedOperationException" else (if (((lp_X7_run_51 bigF 0 0 b (uB (x_X4_clearText (uS (x_X4_read X) 7 (r_X4_read X))) 1 (cpB b ((x_X4_clearText (uS (x_X4_read X) 7 (r_X4_read X))).1 1)))).getD ((0 : Int32), (0 : Int32), bd0, gs0)).1) = 0 then "" else "java/lang/IllegalArgumentException"))) else "java/lang/IllegalArgumentException")
set_option maxRecDepth 20000 in
theorem s_X7_run (X : GS) (b : BD) (hN : okI (X.2.1 0)) (hf_51 : (lp_X7_run_51 bigF 0 0 b (uB (x_X4_clearText (uS (x_X4_read X) 7 (r_X4_read X))) 1 (cpB b ((x_X4_clearText (uS (x_X4_read X) 7 (r_X4_read X))).1 1)))) ≠ none) : Ct 8 1 6 yX7_run (.code yX7_run cX7_run 3 (some (.int))) [.ref 0] (mkH (uB X 0 b)) (rT (e_X7_run X b) (some (.int (r_X7_run X b)))) (mkH (uB (x_X7_run X b) 0 (u_X7_run X b))) := by
  refine Ct.of (LL := [some (.ref 0), none, none]) mkX7_run.1 owX7_run rfl (Nat.le_of_ble_eq_true rfl) rfl (fun Wk C => ?_)
  have K := C.core
  refine K.aload_n (q := 1) dX7_run_0 rfl rfl ?_
  refine K.aload_n (q := 2) dX7_run_1 rfl rfl ?_
  refine K.getf (q := 5) (v := .ref 126) fo_X7_39.r rx0b (lt141 (by decide)) rfl dX7_run_2 rfl ?_
  refine K.callV0 (q := 8) mkX4_read mw_X7_273 (s_X4_read _ _) rfl (by decide) rfl (lt141 (by decide)) rx126b (Nat.le_of_ble_eq_true rfl) (Nat.le_of_ble_eq_true rfl) (Nat.le_of_ble_eq_true rfl) dX7_run_5 rfl ?_
  refine K.putf (q := 11) fo_X7_43 rx0b (lt141 (by decide)) (Nat.le_of_ble_eq_true rfl) (fun _ => rfl) (fun _ => rfl) pxs7b dX7_run_8 rfl ?_
  refine K.aload_n (q := 12) dX7_run_11 rfl rfl ?_
  refine K.getf (q := 15) (v := .ref 126) fo_X7_39.r rx0b (lt141 (by decide)) rfl dX7_run_12 rfl ?_
  refine K.callVv0 (q := 18) mkX4_clearText mw_X7_276 (s_X4_clearText _ _) rfl (by decide) rfl (lt141 (by decide)) rx126b (Nat.le_of_ble_eq_true rfl) (Nat.le_of_ble_eq_true rfl) (Nat.le_of_ble_eq_true rfl) dX7_run_15 rfl ?_
  refine K.aload_n (q := 19) dX7_run_18 rfl rfl ?_
  refine K.getf (q := 22) (v := .int ((x_X4_clearText (uS (x_X4_read X) 7 (r_X4_read X))).2.1 7)) fo_X7_43.r rx0b (lt141 (by decide)) rfl dX7_run_19 rfl ?_
  refine K.if_lt (q := 25) (tgt := 36) dX7_run_22 rfl (by decide) (fun c_22_1 => ?_) (fun c_22_1 => ?_)
  · refine K.aload_n (q := 37) dX7_run_36 rfl rfl ?_
    refine K.getf (q := 40) (v := .ref 12) fo_X7_16.r rx0b (lt141 (by decide)) rfl dX7_run_37 rfl ?_
    refine K.aload_n (q := 41) dX7_run_40 rfl rfl ?_
    refine K.getf (q := 44) (v := .ref 1) fo_X7_12.r rx0b (lt141 (by decide)) rfl dX7_run_41 rfl ?_
    refine K.callVv0 (q := 47) mkX0_copyFrom mw_X7_281 (s_copy10 (x_X4_clearText (uS (x_X4_read X) 7 (r_X4_read X))) b) rfl (by decide) rfl (lt141 (by decide)) rd12 (Nat.le_of_ble_eq_true rfl) (Nat.le_of_ble_eq_true rfl) (Nat.le_of_ble_eq_true rfl) dX7_run_44 rfl ?_
    refine K.iconst (q := 48) (v := 0) dX7_run_47 rfl (by decide) ?_
    refine K.istore_n (q := 49) (i := 1) dX7_run_48 rfl rfl (by decide) rfl ?_
    refine K.iconst (q := 50) (v := 0) dX7_run_49 rfl (by decide) ?_
    refine K.istore_n (q := 51) (i := 2) dX7_run_50 rfl rfl (by decide) rfl ?_
    have L51 : ∀ (j : Nat) (a1 : Int32) (a2 : Int32) (bb : BD) (XX : GS) (rr : Int32 × Int32 × BD × GS), lp_X7_run_51 j a1 a2 bb XX = some rr → (Wk 0 0 133 [some (.ref 0), some (.int (rr.1)), some (.int (rr.2.1))] [] (mkH (uB (rr.2.2.2) 0 (rr.2.2.1)))) → Wk 0 0 51 [some (.ref 0), some (.int a1), some (.int a2)] [] (mkH (uB XX 0 bb)) := by
      intro j
      induction j with
      | zero =>
        intro a1 a2 bb XX rr hrr hx
        exact absurd hrr (by rw [lp_X7_run_51]; exact fun h => nomatch h)
      | succ j ih =>
        intro a1 a2 bb XX rr hrr hx
        refine K.iload_n (q := 52) dX7_run_51 rfl rfl ?_
        refine K.aload_n (q := 53) dX7_run_52 rfl rfl ?_
        refine K.getf (q := 56) (v := .ref 126) fo_X7_39.r rx0b (lt141 (by decide)) rfl dX7_run_53 rfl ?_
        refine K.getf (q := 59) (v := .int (XX.2.1 3)) fo_X7_284.r rx126b (lt141 (by decide)) rfl dX7_run_56 rfl ?_
        refine K.icmp_ge (q := 62) (tgt := 133) dX7_run_59 rfl (by decide) (fun c_59_2 => ?_) (fun c_59_2 => ?_)
        · rw [lp_X7_run_51, if_pos c_59_2] at hrr
          obtain rfl := Option.some.inj hrr
          exact hx
        · refine K.iload_n (q := 63) dX7_run_62 rfl rfl ?_
          refine K.if_ne (q := 66) (tgt := 133) dX7_run_63 rfl (by decide) (fun c_63_3 => ?_) (fun c_63_3 => ?_)
          · rw [lp_X7_run_51, if_neg c_59_2, if_neg c_63_3] at hrr
            obtain rfl := Option.some.inj hrr
            exact hx
          · refine K.aload_n (q := 67) dX7_run_66 rfl rfl ?_
            refine K.aload_n (q := 68) dX7_run_67 rfl rfl ?_
            refine K.getf (q := 71) (v := .ref 126) fo_X7_39.r rx0b (lt141 (by decide)) rfl dX7_run_68 rfl ?_
            refine K.iload_n (q := 72) dX7_run_71 rfl rfl ?_
            refine K.callV0 (q := 75) mkX4_kindAt mw_X7_285 (s_X4_kindAt _ _ _) rfl (by decide) rfl (lt141 (by decide)) rx126b (Nat.le_of_ble_eq_true rfl) (Nat.le_of_ble_eq_true rfl) (Nat.le_of_ble_eq_true rfl) dX7_run_72 rfl ?_
            refine K.aload_n (q := 76) dX7_run_75 rfl rfl ?_
            refine K.getf (q := 79) (v := .ref 126) fo_X7_39.r rx0b (lt141 (by decide)) rfl dX7_run_76 rfl ?_
            refine K.iload_n (q := 80) dX7_run_79 rfl rfl ?_
            refine K.callV0 (q := 83) mkX4_firstAt mw_X7_288 (s_X4_firstAt _ _ _) rfl (by decide) rfl (lt141 (by decide)) rx126b (Nat.le_of_ble_eq_true rfl) (Nat.le_of_ble_eq_true rfl) (Nat.le_of_ble_eq_true rfl) dX7_run_80 rfl ?_
            refine K.aload_n (q := 84) dX7_run_83 rfl rfl ?_
            refine K.getf (q := 87) (v := .ref 126) fo_X7_39.r rx0b (lt141 (by decide)) rfl dX7_run_84 rfl ?_
            refine K.iload_n (q := 88) dX7_run_87 rfl rfl ?_
            refine K.callV0 (q := 91) mkX4_secondAt mw_X7_291 (s_X4_secondAt _ _ _) rfl (by decide) rfl (lt141 (by decide)) rx126b (Nat.le_of_ble_eq_true rfl) (Nat.le_of_ble_eq_true rfl) (Nat.le_of_ble_eq_true rfl) dX7_run_88 rfl ?_
            refine K.callV0 (q := 94) mkX7_judgeOrder mw_X7_294 (s_X7_judgeOrder _ _ _ _ _) rfl (by decide) rfl (lt141 (by decide)) rx0b (Nat.le_of_ble_eq_true rfl) (Nat.le_of_ble_eq_true rfl) (Nat.le_of_ble_eq_true rfl) dX7_run_91 rfl ?_
            refine K.istore_n (q := 95) (i := 1) dX7_run_94 rfl rfl (by decide) rfl ?_
            refine K.iload_n (q := 96) dX7_run_95 rfl rfl ?_
            refine K.if_ne (q := 99) (tgt := 127) dX7_run_96 rfl (by decide) (fun c_96_4 => ?_) (fun c_96_4 => ?_)
            · refine K.iinc (q := 130) (v := (a2 + 1)) dX7_run_127 rfl rfl rfl (by decide) rfl ?_
              refine K.goto (tgt := 51) dX7_run_130 (by decide) ?_
              rw [lp_X7_run_51, if_neg c_59_2, if_pos c_63_3, if_neg c_96_4] at hrr
              exact ih (r_X7_judgeOrder bb (r_X4_kindAt XX a2) (r_X4_firstAt XX a2) (r_X4_secondAt XX a2)) (a2 + 1) bb (x_X7_judgeOrder XX bb (r_X4_kindAt XX a2) (r_X4_firstAt XX a2) (r_X4_secondAt XX a2)) rr hrr hx
            · refine K.aload_n (q := 100) dX7_run_99 rfl rfl ?_
              refine K.aload_n (q := 101) dX7_run_100 rfl rfl ?_
              refine K.getf (q := 104) (v := .ref 126) fo_X7_39.r rx0b (lt141 (by decide)) rfl dX7_run_101 rfl ?_
              refine K.iload_n (q := 105) dX7_run_104 rfl rfl ?_
              refine K.callV0 (q := 108) mkX4_kindAt mw_X7_285 (s_X4_kindAt _ _ _) rfl (by decide) rfl (lt141 (by decide)) rx126b (Nat.le_of_ble_eq_true rfl) (Nat.le_of_ble_eq_true rfl) (Nat.le_of_ble_eq_true rfl) dX7_run_105 rfl ?_
              refine K.aload_n (q := 109) dX7_run_108 rfl rfl ?_
              refine K.getf (q := 112) (v := .ref 126) fo_X7_39.r rx0b (lt141 (by decide)) rfl dX7_run_109 rfl ?_
              refine K.iload_n (q := 113) dX7_run_112 rfl rfl ?_
              refine K.callV0 (q := 116) mkX4_firstAt mw_X7_288 (s_X4_firstAt _ _ _) rfl (by decide) rfl (lt141 (by decide)) rx126b (Nat.le_of_ble_eq_true rfl) (Nat.le_of_ble_eq_true rfl) (Nat.le_of_ble_eq_true rfl) dX7_run_113 rfl ?_
              refine K.aload_n (q := 117) dX7_run_116 rfl rfl ?_
              refine K.getf (q := 120) (v := .ref 126) fo_X7_39.r rx0b (lt141 (by decide)) rfl dX7_run_117 rfl ?_
              refine K.iload_n (q := 121) dX7_run_120 rfl rfl ?_
              refine K.callV0 (q := 124) mkX4_secondAt mw_X7_291 (s_X4_secondAt _ _ _) rfl (by decide) rfl (lt141 (by decide)) rx126b (Nat.le_of_ble_eq_true rfl) (Nat.le_of_ble_eq_true rfl) (Nat.le_of_ble_eq_true rfl) dX7_run_121 rfl ?_
              refine K.callVv0 (q := 127) mkX7_carryOut mw_X7_298 (s_X7_carryOut _ _ _ _ _) rfl (by decide) rfl (lt141 (by decide)) rx0b (Nat.le_of_ble_eq_true rfl) (Nat.le_of_ble_eq_true rfl) (Nat.le_of_ble_eq_true rfl) dX7_run_124 rfl ?_
              refine K.iinc (q := 130) (v := (a2 + 1)) dX7_run_127 rfl rfl rfl (by decide) rfl ?_
              refine K.goto (tgt := 51) dX7_run_130 (by decide) ?_
              rw [lp_X7_run_51, if_neg c_59_2, if_pos c_63_3, if_pos c_96_4] at hrr
              exact ih (r_X7_judgeOrder bb (r_X4_kindAt XX a2) (r_X4_firstAt XX a2) (r_X4_secondAt XX a2)) (a2 + 1) (u_X7_carryOut bb (r_X4_kindAt (x_X7_judgeOrder XX bb (r_X4_kindAt XX a2) (r_X4_firstAt XX a2) (r_X4_secondAt XX a2)) a2) (r_X4_firstAt (x_X7_judgeOrder XX bb (r_X4_kindAt XX a2) (r_X4_firstAt XX a2) (r_X4_secondAt XX a2)) a2) (r_X4_secondAt (x_X7_judgeOrder XX bb (r_X4_kindAt XX a2) (r_X4_firstAt XX a2) (r_X4_secondAt XX a2)) a2)) (x_X7_judgeOrder XX bb (r_X4_kindAt XX a2) (r_X4_firstAt XX a2) (r_X4_secondAt XX a2)) rr hrr hx
    refine L51 _ 0 0 b (uB (x_X4_clearText (uS (x_X4_read X) 7 (r_X4_read X))) 1 (cpB b ((x_X4_clearText (uS (x_X4_read X) 7 (r_X4_read X))).1 1))) _ (fu_some (d := ((0 : Int32), (0 : Int32), bd0, gs0)) hf_51) ?_
    refine K.iload_n (q := 134) dX7_run_133 rfl rfl ?_
    refine K.if_eq (q := 137) (tgt := 148) dX7_run_134 rfl (by decide) (fun c_134_5 => ?_) (fun c_134_5 => ?_)
    · refine K.iload_n (q := 149) dX7_run_148 rfl rfl ?_
      refine K.iconst (q := 150) (v := 3) dX7_run_149 rfl (by decide) ?_
      refine K.icmp_ne (q := 153) (tgt := 164) dX7_run_150 rfl (by decide) (fun c_150_6 => ?_) (fun c_150_6 => ?_)
      · refine K.iload_n (q := 165) dX7_run_164 rfl rfl ?_
        refine K.if_eq (q := 168) (tgt := 179) dX7_run_165 rfl (by decide) (fun c_165_7 => ?_) (fun c_165_7 => ?_)
        · refine K.aload_n (q := 180) dX7_run_179 rfl rfl ?_
          refine K.getf (q := 183) (v := .ref 34) fo_X7_25.r rx0b (lt141 (by decide)) rfl dX7_run_180 rfl ?_
          refine K.aload_n (q := 184) dX7_run_183 rfl rfl ?_
          refine K.getf (q := 187) (v := .ref 12) fo_X7_16.r rx0b (lt141 (by decide)) rfl dX7_run_184 rfl ?_
          refine K.callVv0 (q := 190) mkX1_keep mw_X7_65 (s_X1_keep1 _ _ HN187) rfl (by decide) rfl (lt141 (by decide)) rx34b (Nat.le_of_ble_eq_true rfl) (Nat.le_of_ble_eq_true rfl) (Nat.le_of_ble_eq_true rfl) dX7_run_187 rfl ?_
          refine K.aload_n (q := 191) dX7_run_190 rfl rfl ?_
          refine K.getf (q := 194) (v := .ref 126) fo_X7_39.r rx0b (lt141 (by decide)) rfl dX7_run_191 rfl ?_
          refine K.getf (q := 197) (v := .int ((x_X1_keep1 (((lp_X7_run_51 bigF 0 0 b (uB (x_X4_clearText (uS (x_X4_read X) 7 (r_X4_read X))) 1 (cpB b ((x_X4_clearText (uS (x_X4_read X) 7 (r_X4_read X))).1 1)))).getD ((0 : Int32), (0 : Int32), bd0, gs0)).2.2.2)).2.1 3)) fo_X7_284.r rx126b (lt141 (by decide)) rfl dX7_run_194 rfl ?_
          exact C.iret rfl rfl (by rw [rT, if_pos (by rw [e_X7_run, if_pos c_22_1, if_pos c_134_5, if_neg c_150_6, if_pos c_165_7]), r_X7_run, if_pos c_22_1, if_pos c_134_5, if_neg c_150_6, if_pos c_165_7]) (by rw [u_X7_run, if_pos c_22_1, if_pos c_134_5, if_neg c_150_6, if_pos c_165_7, x_X7_run, if_pos c_22_1, if_pos c_134_5, if_neg c_150_6, if_pos c_165_7]) (Nat.le_of_ble_eq_true rfl) (Nat.le_of_ble_eq_true rfl) dX7_run_197
        · exact (C.cast (by rw [rT, if_neg (by rw [e_X7_run, if_pos c_22_1, if_pos c_134_5, if_neg c_150_6, if_neg c_165_7]; decide), e_X7_run, if_pos c_22_1, if_pos c_134_5, if_neg c_150_6, if_neg c_165_7]) (by rw [u_X7_run, if_pos c_22_1, if_pos c_134_5, if_neg c_150_6, if_neg c_165_7, x_X7_run, if_pos c_22_1, if_pos c_134_5, if_neg c_150_6, if_neg c_165_7])).throwSW (is := 307) (text := "an order cannot be carried out") tok_IAE (by decide) rfl (by decide) (Nat.le_of_ble_eq_true rfl) (Nat.le_of_ble_eq_true rfl) (Nat.le_of_ble_eq_true rfl) dX7_run_168 dX7_run_171 dX7_run_172 dX7_run_175 dX7_run_178
      · exact (C.cast (by rw [rT, if_neg (by rw [e_X7_run, if_pos c_22_1, if_pos c_134_5, if_pos c_150_6]; decide), e_X7_run, if_pos c_22_1, if_pos c_134_5, if_pos c_150_6]) (by rw [u_X7_run, if_pos c_22_1, if_pos c_134_5, if_pos c_150_6, x_X7_run, if_pos c_22_1, if_pos c_134_5, if_pos c_150_6])).throwSW (is := 304) (text := "an order is refused") tok_UOE (by decide) rfl (by decide) (Nat.le_of_ble_eq_true rfl) (Nat.le_of_ble_eq_true rfl) (Nat.le_of_ble_eq_true rfl) dX7_run_153 dX7_run_156 dX7_run_157 dX7_run_160 dX7_run_163
    · refine K.aload_n (q := 138) dX7_run_137 rfl rfl ?_
      refine K.getf (q := 141) (v := .ref 1) fo_X7_12.r rx0b (lt141 (by decide)) rfl dX7_run_138 rfl ?_
      refine K.aload_n (q := 142) dX7_run_141 rfl rfl ?_
      refine K.getf (q := 145) (v := .ref 12) fo_X7_16.r rx0b (lt141 (by decide)) rfl dX7_run_142 rfl ?_
      refine K.callVv0 (q := 148) mkX0_copyFrom mw_X7_281 (s_copy01 (((lp_X7_run_51 bigF 0 0 b (uB (x_X4_clearText (uS (x_X4_read X) 7 (r_X4_read X))) 1 (cpB b ((x_X4_clearText (uS (x_X4_read X) 7 (r_X4_read X))).1 1)))).getD ((0 : Int32), (0 : Int32), bd0, gs0)).2.2.2) (((lp_X7_run_51 bigF 0 0 b (uB (x_X4_clearText (uS (x_X4_read X) 7 (r_X4_read X))) 1 (cpB b ((x_X4_clearText (uS (x_X4_read X) 7 (r_X4_read X))).1 1)))).getD ((0 : Int32), (0 : Int32), bd0, gs0)).2.2.1)) rfl (by decide) rfl (lt141 (by decide)) rb1 (Nat.le_of_ble_eq_true rfl) (Nat.le_of_ble_eq_true rfl) (Nat.le_of_ble_eq_true rfl) dX7_run_145 rfl ?_
      refine K.iload_n (q := 149) dX7_run_148 rfl rfl ?_
      refine K.iconst (q := 150) (v := 3) dX7_run_149 rfl (by decide) ?_
      refine K.icmp_ne (q := 153) (tgt := 164) dX7_run_150 rfl (by decide) (fun c_150_8 => ?_) (fun c_150_8 => ?_)
      · refine K.iload_n (q := 165) dX7_run_164 rfl rfl ?_
        refine K.if_eq (q := 168) (tgt := 179) dX7_run_165 rfl (by decide) (fun c_165_9 => ?_) (fun c_165_9 => ?_)
        · refine K.aload_n (q := 180) dX7_run_179 rfl rfl ?_
          refine K.getf (q := 183) (v := .ref 34) fo_X7_25.r rx0b (lt141 (by decide)) rfl dX7_run_180 rfl ?_
          refine K.aload_n (q := 184) dX7_run_183 rfl rfl ?_
          refine K.getf (q := 187) (v := .ref 12) fo_X7_16.r rx0b (lt141 (by decide)) rfl dX7_run_184 rfl ?_
          refine K.callVv0 (q := 190) mkX1_keep mw_X7_65 (s_X1_keep1 _ _ HN187) rfl (by decide) rfl (lt141 (by decide)) rx34b (Nat.le_of_ble_eq_true rfl) (Nat.le_of_ble_eq_true rfl) (Nat.le_of_ble_eq_true rfl) dX7_run_187 rfl ?_
          refine K.aload_n (q := 191) dX7_run_190 rfl rfl ?_
          refine K.getf (q := 194) (v := .ref 126) fo_X7_39.r rx0b (lt141 (by decide)) rfl dX7_run_191 rfl ?_
          refine K.getf (q := 197) (v := .int ((x_X1_keep1 (((lp_X7_run_51 bigF 0 0 b (uB (x_X4_clearText (uS (x_X4_read X) 7 (r_X4_read X))) 1 (cpB b ((x_X4_clearText (uS (x_X4_read X) 7 (r_X4_read X))).1 1)))).getD ((0 : Int32), (0 : Int32), bd0, gs0)).2.2.2)).2.1 3)) fo_X7_284.r rx126b (lt141 (by decide)) rfl dX7_run_194 rfl ?_
          exact C.iret rfl rfl (by rw [rT, if_pos (by rw [e_X7_run, if_pos c_22_1, if_neg c_134_5, if_neg c_150_8, if_pos c_165_9]), r_X7_run, if_pos c_22_1, if_neg c_134_5, if_neg c_150_8, if_pos c_165_9]) (by rw [u_X7_run, if_pos c_22_1, if_neg c_134_5, if_neg c_150_8, if_pos c_165_9, x_X7_run, if_pos c_22_1, if_neg c_134_5, if_neg c_150_8, if_pos c_165_9]) (Nat.le_of_ble_eq_true rfl) (Nat.le_of_ble_eq_true rfl) dX7_run_197
        · exact (C.cast (by rw [rT, if_neg (by rw [e_X7_run, if_pos c_22_1, if_neg c_134_5, if_neg c_150_8, if_neg c_165_9]; decide), e_X7_run, if_pos c_22_1, if_neg c_134_5, if_neg c_150_8, if_neg c_165_9]) (by rw [u_X7_run, if_pos c_22_1, if_neg c_134_5, if_neg c_150_8, if_neg c_165_9, x_X7_run, if_pos c_22_1, if_neg c_134_5, if_neg c_150_8, if_neg c_165_9])).throwSW (is := 307) (text := "an order cannot be carried out") tok_IAE (by decide) rfl (by decide) (Nat.le_of_ble_eq_true rfl) (Nat.le_of_ble_eq_true rfl) (Nat.le_of_ble_eq_true rfl) dX7_run_168 dX7_run_171 dX7_run_172 dX7_run_175 dX7_run_178
      · exact (C.cast (by rw [rT, if_neg (by rw [e_X7_run, if_pos c_22_1, if_neg c_134_5, if_pos c_150_8]; decide), e_X7_run, if_pos c_22_1, if_neg c_134_5, if_pos c_150_8]) (by rw [u_X7_run, if_pos c_22_1, if_neg c_134_5, if_pos c_150_8, x_X7_run, if_pos c_22_1, if_neg c_134_5, if_pos c_150_8])).throwSW (is := 304) (text := "an order is refused") tok_UOE (by decide) rfl (by decide) (Nat.le_of_ble_eq_true rfl) (Nat.le_of_ble_eq_true rfl) (Nat.le_of_ble_eq_true rfl) dX7_run_153 dX7_run_156 dX7_run_157 dX7_run_160 dX7_run_163
  · exact (C.cast (by rw [rT, if_neg (by rw [e_X7_run, if_neg c_22_1]; decide), e_X7_run, if_neg c_22_1]) (by rw [u_X7_run, if_neg c_22_1, x_X7_run, if_neg c_22_1])).throwSW (is := 279) (text := "the text has an error") tok_IAE (by decide) rfl (by decide) (Nat.le_of_ble_eq_true rfl) (Nat.le_of_ble_eq_true rfl) (Nat.le_of_ble_eq_true rfl) dX7_run_25 dX7_run_28 dX7_run_29 dX7_run_32 dX7_run_35
