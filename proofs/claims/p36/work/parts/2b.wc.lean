def r_X7_undo (X : GS) : Int32 := (if 0 < (X.2.1 1) then ((x_X1_takeBack X).2.1 1) else 0)

def u_X7_undo (X : GS) (b : BD) : BD := (if 0 < (X.2.1 1) then (u_X1_takeBack X b) else b)

def x_X7_undo (X : GS) : GS := (if 0 < (X.2.1 1) then (x_X1_takeBack X) else X)

def e_X7_undo (X : GS) : String := (if 0 < (X.2.1 1) then "" else "java/lang/IllegalStateException")
set_option maxRecDepth 20000 in
theorem s_X7_undo (X : GS) (b : BD) (hN : okI (X.2.1 0)) : Ct 6 1 6 yX7_undo (.code yX7_undo cX7_undo 1 (some (.int))) [.ref 0] (mkH (uB X 0 b)) (rT (e_X7_undo X) (some (.int (r_X7_undo X)))) (mkH (uB (x_X7_undo X) 0 (u_X7_undo X b))) := by
  refine Ct.of (LL := [some (.ref 0)]) mkX7_undo.1 owX7_undo rfl (Nat.le_of_ble_eq_true rfl) rfl (fun Wk C => ?_)
  have K := C.core
  refine K.aload_n (q := 1) dX7_undo_0 rfl rfl ?_
  refine K.getf (q := 4) (v := .ref 34) fo_X7_25.r rx0b (lt141 (by decide)) rfl dX7_undo_1 rfl ?_
  refine K.getf (q := 7) (v := .int (X.2.1 1)) fo_X7_330.r rx34b (lt141 (by decide)) rfl dX7_undo_4 rfl ?_
  refine K.if_gt (q := 10) (tgt := 21) dX7_undo_7 rfl (by decide) (fun c_7_1 => ?_) (fun c_7_1 => ?_)
  · refine K.aload_n (q := 22) dX7_undo_21 rfl rfl ?_
    refine K.getf (q := 25) (v := .ref 34) fo_X7_25.r rx0b (lt141 (by decide)) rfl dX7_undo_22 rfl ?_
    refine K.aload_n (q := 26) dX7_undo_25 rfl rfl ?_
    refine K.getf (q := 29) (v := .ref 1) fo_X7_12.r rx0b (lt141 (by decide)) rfl dX7_undo_26 rfl ?_
    refine K.callVv0 (q := 32) mkX1_takeBack mw_X7_353 (s_X1_takeBack _ _ hN) rfl (by decide) rfl (lt141 (by decide)) rx34b (Nat.le_of_ble_eq_true rfl) (Nat.le_of_ble_eq_true rfl) (Nat.le_of_ble_eq_true rfl) dX7_undo_29 rfl ?_
    refine K.aload_n (q := 33) dX7_undo_32 rfl rfl ?_
    refine K.getf (q := 36) (v := .ref 34) fo_X7_25.r rx0b (lt141 (by decide)) rfl dX7_undo_33 rfl ?_
    refine K.getf (q := 39) (v := .int ((x_X1_takeBack X).2.1 1)) fo_X7_330.r rx34b (lt141 (by decide)) rfl dX7_undo_36 rfl ?_
    exact C.iret rfl rfl (by rw [rT, if_pos (by rw [e_X7_undo, if_pos c_7_1]), r_X7_undo, if_pos c_7_1]) (by rw [u_X7_undo, if_pos c_7_1, x_X7_undo, if_pos c_7_1]) (Nat.le_of_ble_eq_true rfl) (Nat.le_of_ble_eq_true rfl) dX7_undo_39
  · exact (C.cast (by rw [rT, if_neg (by rw [e_X7_undo, if_neg c_7_1]; decide), e_X7_undo, if_neg c_7_1]) (by rw [u_X7_undo, if_neg c_7_1, x_X7_undo, if_neg c_7_1])).throwSW (is := 351) (text := "no change can be undone") tok_ISE (by decide) rfl (by decide) (Nat.le_of_ble_eq_true rfl) (Nat.le_of_ble_eq_true rfl) (Nat.le_of_ble_eq_true rfl) dX7_undo_10 dX7_undo_13 dX7_undo_14 dX7_undo_17 dX7_undo_20

def r_X7_save (b : BD) : Int32 := (b.1 3)

def x_X7_save (X : GS) (b : BD) : GS := (uS (uB X 2 (cpB b (X.1 2))) 8 1)
set_option maxRecDepth 20000 in
theorem s_X7_save (X : GS) (b : BD) : Ct 4 0 0 yX7_save (.code yX7_save cX7_save 1 (some (.int))) [.ref 0] (mkH (uB X 0 b)) (.inl (some (.int (r_X7_save b)))) (mkH (uB (x_X7_save X b) 0 b)) := by
  refine Ct.of (LL := [some (.ref 0)]) mkX7_save.1 owX7_save rfl (Nat.le_of_ble_eq_true rfl) rfl (fun Wk C => ?_)
  have K := C.core
  refine K.aload_n (q := 1) dX7_save_0 rfl rfl ?_
  refine K.getf (q := 4) (v := .ref 23) fo_X7_19.r rx0b (lt141 (by decide)) rfl dX7_save_1 rfl ?_
  refine K.aload_n (q := 5) dX7_save_4 rfl rfl ?_
  refine K.getf (q := 8) (v := .ref 1) fo_X7_12.r rx0b (lt141 (by decide)) rfl dX7_save_5 rfl ?_
  refine K.callVv0 (q := 11) mkX0_copyFrom mw_X7_281 (s_copy20 X b) rfl (by decide) rfl (lt141 (by decide)) rd23 (Nat.le_of_ble_eq_true rfl) (Nat.le_of_ble_eq_true rfl) (Nat.le_of_ble_eq_true rfl) dX7_save_8 rfl ?_
  refine K.aload_n (q := 12) dX7_save_11 rfl rfl ?_
  refine K.iconst (q := 13) (v := 1) dX7_save_12 rfl (by decide) ?_
  refine K.putf (q := 16) fo_X7_47 rx0b (lt141 (by decide)) (Nat.le_of_ble_eq_true rfl) (fun _ => rfl) (fun _ => rfl) pxs8b dX7_save_13 rfl ?_
  refine K.aload_n (q := 17) dX7_save_16 rfl rfl ?_
  refine K.getf (q := 20) (v := .ref 1) fo_X7_12.r rx0b (lt141 (by decide)) rfl dX7_save_17 rfl ?_
  refine K.getf (q := 23) (v := .ref 4) fo_X7_126 rb1 (lt141 (by decide)) rfl dX7_save_20 rfl ?_
  refine K.getf (q := 26) (v := .int (b.1 3)) fo_X7_311.r rb4 (lt141 (by decide)) rfl dX7_save_23 rfl ?_
  exact C.iret rfl rfl (by rw [r_X7_save]) (by rw [x_X7_save]) (Nat.le_of_ble_eq_true rfl) (Nat.le_of_ble_eq_true rfl) dX7_save_26

def r_X7_restore (X : GS) (b : BD) : Int32 := (if (X.2.1 8) = 0 then 0 else ((cpB (X.1 2) b).1 3))

def u_X7_restore (X : GS) (b : BD) : BD := (if (X.2.1 8) = 0 then b else (cpB (X.1 2) b))

def x_X7_restore (X : GS) : GS := (if (X.2.1 8) = 0 then X else (x_X1_clear X))

def e_X7_restore (X : GS) : String := (if (X.2.1 8) = 0 then "java/lang/IllegalStateException" else "")
set_option maxRecDepth 20000 in
theorem s_X7_restore (X : GS) (b : BD) : Ct 6 1 6 yX7_restore (.code yX7_restore cX7_restore 1 (some (.int))) [.ref 0] (mkH (uB X 0 b)) (rT (e_X7_restore X) (some (.int (r_X7_restore X b)))) (mkH (uB (x_X7_restore X) 0 (u_X7_restore X b))) := by
  refine Ct.of (LL := [some (.ref 0)]) mkX7_restore.1 owX7_restore rfl (Nat.le_of_ble_eq_true rfl) rfl (fun Wk C => ?_)
  have K := C.core
  refine K.aload_n (q := 1) dX7_restore_0 rfl rfl ?_
  refine K.getf (q := 4) (v := .int (X.2.1 8)) fo_X7_47.r rx0b (lt141 (by decide)) rfl dX7_restore_1 rfl ?_
  refine K.if_ne (q := 7) (tgt := 18) dX7_restore_4 rfl (by decide) (fun c_4_1 => ?_) (fun c_4_1 => ?_)
  · refine K.aload_n (q := 19) dX7_restore_18 rfl rfl ?_
    refine K.getf (q := 22) (v := .ref 1) fo_X7_12.r rx0b (lt141 (by decide)) rfl dX7_restore_19 rfl ?_
    refine K.aload_n (q := 23) dX7_restore_22 rfl rfl ?_
    refine K.getf (q := 26) (v := .ref 23) fo_X7_19.r rx0b (lt141 (by decide)) rfl dX7_restore_23 rfl ?_
    refine K.callVv0 (q := 29) mkX0_copyFrom mw_X7_281 (s_copy02 X b) rfl (by decide) rfl (lt141 (by decide)) rb1 (Nat.le_of_ble_eq_true rfl) (Nat.le_of_ble_eq_true rfl) (Nat.le_of_ble_eq_true rfl) dX7_restore_26 rfl ?_
    refine K.aload_n (q := 30) dX7_restore_29 rfl rfl ?_
    refine K.getf (q := 33) (v := .ref 34) fo_X7_25.r rx0b (lt141 (by decide)) rfl dX7_restore_30 rfl ?_
    refine K.callVv0 (q := 36) mkX1_clear mw_X7_358 (s_X1_clear _ _) rfl (by decide) rfl (lt141 (by decide)) rx34b (Nat.le_of_ble_eq_true rfl) (Nat.le_of_ble_eq_true rfl) (Nat.le_of_ble_eq_true rfl) dX7_restore_33 rfl ?_
    refine K.aload_n (q := 37) dX7_restore_36 rfl rfl ?_
    refine K.getf (q := 40) (v := .ref 1) fo_X7_12.r rx0b (lt141 (by decide)) rfl dX7_restore_37 rfl ?_
    refine K.getf (q := 43) (v := .ref 4) fo_X7_126 rb1 (lt141 (by decide)) rfl dX7_restore_40 rfl ?_
    refine K.getf (q := 46) (v := .int ((cpB (X.1 2) b).1 3)) fo_X7_311.r rb4 (lt141 (by decide)) rfl dX7_restore_43 rfl ?_
    exact C.iret rfl rfl (by rw [rT, if_pos (by rw [e_X7_restore, if_neg c_4_1]), r_X7_restore, if_neg c_4_1]) (by rw [u_X7_restore, if_neg c_4_1, x_X7_restore, if_neg c_4_1]) (Nat.le_of_ble_eq_true rfl) (Nat.le_of_ble_eq_true rfl) dX7_restore_46
  · exact (C.cast (by rw [rT, if_neg (by rw [e_X7_restore, if_pos c_4_1]; decide), e_X7_restore, if_pos c_4_1]) (by rw [u_X7_restore, if_pos c_4_1, x_X7_restore, if_pos c_4_1])).throwSW (is := 356) (text := "there is no snapshot") tok_ISE (by decide) rfl (by decide) (Nat.le_of_ble_eq_true rfl) (Nat.le_of_ble_eq_true rfl) (Nat.le_of_ble_eq_true rfl) dX7_restore_7 dX7_restore_10 dX7_restore_11 dX7_restore_14 dX7_restore_17
