def r_X7_refuse : Int32 := 3

def x_X7_refuse (X : GS) (newReason : Int32) (newDetail : Int32) : GS := (uS (uS X 9 newReason) 10 newDetail)
set_option maxRecDepth 20000 in
theorem s_X7_refuse (X : GS) (b : BD) (newReason : Int32) (newDetail : Int32) : Ct 1 0 0 yX7_refuse (.code yX7_refuse cX7_refuse 3 (some (.int))) [.ref 0, .int newReason, .int newDetail] (mkH (uB X 0 b)) (.inl (some (.int (r_X7_refuse)))) (mkH (uB (x_X7_refuse X newReason newDetail) 0 b)) := by
  refine Ct.of (LL := [some (.ref 0), some (.int newReason), some (.int newDetail)]) mkX7_refuse.1 owX7_refuse rfl (Nat.le_of_ble_eq_true rfl) rfl (fun Wk C => ?_)
  have K := C.core
  refine K.aload_n (q := 1) dX7_refuse_0 rfl rfl ?_
  refine K.iload_n (q := 2) dX7_refuse_1 rfl rfl ?_
  refine K.putf (q := 5) fo_X7_51 rx0b (lt141 (by decide)) (Nat.le_of_ble_eq_true rfl) (fun _ => rfl) (fun _ => rfl) pxs9b dX7_refuse_2 rfl ?_
  refine K.aload_n (q := 6) dX7_refuse_5 rfl rfl ?_
  refine K.iload_n (q := 7) dX7_refuse_6 rfl rfl ?_
  refine K.putf (q := 10) fo_X7_54 rx0b (lt141 (by decide)) (Nat.le_of_ble_eq_true rfl) (fun _ => rfl) (fun _ => rfl) pxs10b dX7_refuse_7 rfl ?_
  refine K.iconst (q := 11) (v := 3) dX7_refuse_10 rfl (by decide) ?_
  exact C.iret rfl rfl (by rw [r_X7_refuse]) (by rw [x_X7_refuse]) (Nat.le_of_ble_eq_true rfl) (Nat.le_of_ble_eq_true rfl) dX7_refuse_11

def r_X7_judgeLend (b : BD) (name : Int32) (amount : Int32) : Int32 := (if (r_X7_isName name) = 0 then 2 else (if (r_X7_isAmount amount) = 0 then 2 else (if (b.1 3) < 16 then (if (r_X7_needOf amount) ≤ (r_X5_greatestSize b) then 0 else r_X7_refuse) else r_X7_refuse)))

def x_X7_judgeLend (X : GS) (b : BD) (name : Int32) (amount : Int32) : GS := (if (r_X7_isName name) = 0 then X else (if (r_X7_isAmount amount) = 0 then X else (if (b.1 3) < 16 then (if (r_X7_needOf amount) ≤ (r_X5_greatestSize b) then X else (x_X7_refuse X 2 (r_X5_greatestSize b))) else (x_X7_refuse X 1 (b.1 3)))))
set_option maxRecDepth 20000 in
theorem s_X7_judgeLend (X : GS) (b : BD) (name : Int32) (amount : Int32) : Ct 3 0 0 yX7_judgeLend (.code yX7_judgeLend cX7_judgeLend 4 (some (.int))) [.ref 0, .int name, .int amount] (mkH (uB X 0 b)) (.inl (some (.int (r_X7_judgeLend b name amount)))) (mkH (uB (x_X7_judgeLend X b name amount) 0 b)) := by
  refine Ct.of (LL := [some (.ref 0), some (.int name), some (.int amount), none]) mkX7_judgeLend.1 owX7_judgeLend rfl (Nat.le_of_ble_eq_true rfl) rfl (fun Wk C => ?_)
  have K := C.core
  refine K.iload_n (q := 1) dX7_judgeLend_0 rfl rfl ?_
  refine K.callS0 (q := 4) mkX7_isName mw_X7_152 (s_X7_isName _ _) rfl (by decide) rfl (Nat.le_of_ble_eq_true rfl) (Nat.le_of_ble_eq_true rfl) (Nat.le_of_ble_eq_true rfl) dX7_judgeLend_1 rfl ?_
  refine K.if_eq (q := 7) (tgt := 14) dX7_judgeLend_4 rfl (by decide) (fun c_4_1 => ?_) (fun c_4_1 => ?_)
  · refine K.iconst (q := 15) (v := 2) dX7_judgeLend_14 rfl (by decide) ?_
    exact C.iret rfl rfl (by rw [r_X7_judgeLend, if_pos c_4_1]) (by rw [x_X7_judgeLend, if_pos c_4_1]) (Nat.le_of_ble_eq_true rfl) (Nat.le_of_ble_eq_true rfl) dX7_judgeLend_15
  · refine K.iload_n (q := 8) dX7_judgeLend_7 rfl rfl ?_
    refine K.callS0 (q := 11) mkX7_isAmount mw_X7_361 (s_X7_isAmount _ _) rfl (by decide) rfl (Nat.le_of_ble_eq_true rfl) (Nat.le_of_ble_eq_true rfl) (Nat.le_of_ble_eq_true rfl) dX7_judgeLend_8 rfl ?_
    refine K.if_ne (q := 14) (tgt := 16) dX7_judgeLend_11 rfl (by decide) (fun c_11_2 => ?_) (fun c_11_2 => ?_)
    · refine K.aload_n (q := 17) dX7_judgeLend_16 rfl rfl ?_
      refine K.getf (q := 20) (v := .ref 1) fo_X7_12.r rx0b (lt141 (by decide)) rfl dX7_judgeLend_17 rfl ?_
      refine K.getf (q := 23) (v := .ref 4) fo_X7_126 rb1 (lt141 (by decide)) rfl dX7_judgeLend_20 rfl ?_
      refine K.getf (q := 26) (v := .int (b.1 3)) fo_X7_311.r rb4 (lt141 (by decide)) rfl dX7_judgeLend_23 rfl ?_
      refine K.bipush (q := 28) (v := 16) dX7_judgeLend_26 rfl (by decide) ?_
      refine K.icmp_lt (q := 31) (tgt := 47) dX7_judgeLend_28 rfl (by decide) (fun c_28_3 => ?_) (fun c_28_3 => ?_)
      · refine K.aload_n (q := 48) dX7_judgeLend_47 rfl rfl ?_
        refine K.getf (q := 51) (v := .ref 1) fo_X7_12.r rx0b (lt141 (by decide)) rfl dX7_judgeLend_48 rfl ?_
        refine K.getf (q := 54) (v := .ref 2) fo_X7_203 rb1 (lt141 (by decide)) rfl dX7_judgeLend_51 rfl ?_
        refine K.callV0 (q := 57) mkX5_greatestSize mw_X7_212 (s_X5_greatestSize _ _) rfl (by decide) rfl (lt141 (by decide)) rb2 (Nat.le_of_ble_eq_true rfl) (Nat.le_of_ble_eq_true rfl) (Nat.le_of_ble_eq_true rfl) dX7_judgeLend_54 rfl ?_
        refine K.istore_n (q := 58) (i := 3) dX7_judgeLend_57 rfl rfl (by decide) rfl ?_
        refine K.iload_n (q := 59) dX7_judgeLend_58 rfl rfl ?_
        refine K.iload_n (q := 60) dX7_judgeLend_59 rfl rfl ?_
        refine K.callS0 (q := 63) mkX7_needOf mw_X7_367 (s_X7_needOf _ _ (lp_needOf_ne _)) rfl (by decide) rfl (Nat.le_of_ble_eq_true rfl) (Nat.le_of_ble_eq_true rfl) (Nat.le_of_ble_eq_true rfl) dX7_judgeLend_60 rfl ?_
        refine K.icmp_ge (q := 66) (tgt := 75) dX7_judgeLend_63 rfl (by decide) (fun c_63_4 => ?_) (fun c_63_4 => ?_)
        · refine K.iconst (q := 76) (v := 0) dX7_judgeLend_75 rfl (by decide) ?_
          exact C.iret rfl rfl (by rw [r_X7_judgeLend, if_neg c_4_1, if_neg c_11_2, if_pos c_28_3, if_pos c_63_4]) (by rw [x_X7_judgeLend, if_neg c_4_1, if_neg c_11_2, if_pos c_28_3, if_pos c_63_4]) (Nat.le_of_ble_eq_true rfl) (Nat.le_of_ble_eq_true rfl) dX7_judgeLend_76
        · refine K.aload_n (q := 67) dX7_judgeLend_66 rfl rfl ?_
          refine K.iconst (q := 68) (v := 2) dX7_judgeLend_67 rfl (by decide) ?_
          refine K.iload_n (q := 69) dX7_judgeLend_68 rfl rfl ?_
          refine K.callV0 (q := 72) mkX7_refuse mw_X7_364 (s_X7_refuse _ _ _ _) rfl (by decide) rfl (lt141 (by decide)) rx0b (Nat.le_of_ble_eq_true rfl) (Nat.le_of_ble_eq_true rfl) (Nat.le_of_ble_eq_true rfl) dX7_judgeLend_69 rfl ?_
          refine K.goto (tgt := 76) dX7_judgeLend_72 (by decide) ?_
          exact C.iret rfl rfl (by rw [r_X7_judgeLend, if_neg c_4_1, if_neg c_11_2, if_pos c_28_3, if_neg c_63_4]) (by rw [x_X7_judgeLend, if_neg c_4_1, if_neg c_11_2, if_pos c_28_3, if_neg c_63_4]) (Nat.le_of_ble_eq_true rfl) (Nat.le_of_ble_eq_true rfl) dX7_judgeLend_76
      · refine K.aload_n (q := 32) dX7_judgeLend_31 rfl rfl ?_
        refine K.iconst (q := 33) (v := 1) dX7_judgeLend_32 rfl (by decide) ?_
        refine K.aload_n (q := 34) dX7_judgeLend_33 rfl rfl ?_
        refine K.getf (q := 37) (v := .ref 1) fo_X7_12.r rx0b (lt141 (by decide)) rfl dX7_judgeLend_34 rfl ?_
        refine K.getf (q := 40) (v := .ref 4) fo_X7_126 rb1 (lt141 (by decide)) rfl dX7_judgeLend_37 rfl ?_
        refine K.getf (q := 43) (v := .int (b.1 3)) fo_X7_311.r rb4 (lt141 (by decide)) rfl dX7_judgeLend_40 rfl ?_
        refine K.callV0 (q := 46) mkX7_refuse mw_X7_364 (s_X7_refuse _ _ _ _) rfl (by decide) rfl (lt141 (by decide)) rx0b (Nat.le_of_ble_eq_true rfl) (Nat.le_of_ble_eq_true rfl) (Nat.le_of_ble_eq_true rfl) dX7_judgeLend_43 rfl ?_
        exact C.iret rfl rfl (by rw [r_X7_judgeLend, if_neg c_4_1, if_neg c_11_2, if_neg c_28_3]) (by rw [x_X7_judgeLend, if_neg c_4_1, if_neg c_11_2, if_neg c_28_3]) (Nat.le_of_ble_eq_true rfl) (Nat.le_of_ble_eq_true rfl) dX7_judgeLend_46
    · refine K.iconst (q := 15) (v := 2) dX7_judgeLend_14 rfl (by decide) ?_
      exact C.iret rfl rfl (by rw [r_X7_judgeLend, if_neg c_4_1, if_pos c_11_2]) (by rw [x_X7_judgeLend, if_neg c_4_1, if_pos c_11_2]) (Nat.le_of_ble_eq_true rfl) (Nat.le_of_ble_eq_true rfl) dX7_judgeLend_15

def r_X7_judgeAsk (b : BD) (name : Int32) (amount : Int32) : Int32 := (if (r_X7_isName name) = 0 then 2 else (if (r_X7_isAmount amount) = 0 then 2 else (if (r_X0_canLend b amount) = 0 then (if (b.1 4) < 6 then 0 else r_X7_refuse) else 0)))

def x_X7_judgeAsk (X : GS) (b : BD) (name : Int32) (amount : Int32) : GS := (if (r_X7_isName name) = 0 then X else (if (r_X7_isAmount amount) = 0 then X else (if (r_X0_canLend b amount) = 0 then (if (b.1 4) < 6 then X else (x_X7_refuse X 3 (b.1 4))) else X)))
set_option maxRecDepth 20000 in
theorem s_X7_judgeAsk (X : GS) (b : BD) (name : Int32) (amount : Int32) : Ct 4 0 0 yX7_judgeAsk (.code yX7_judgeAsk cX7_judgeAsk 3 (some (.int))) [.ref 0, .int name, .int amount] (mkH (uB X 0 b)) (.inl (some (.int (r_X7_judgeAsk b name amount)))) (mkH (uB (x_X7_judgeAsk X b name amount) 0 b)) := by
  refine Ct.of (LL := [some (.ref 0), some (.int name), some (.int amount)]) mkX7_judgeAsk.1 owX7_judgeAsk rfl (Nat.le_of_ble_eq_true rfl) rfl (fun Wk C => ?_)
  have K := C.core
  refine K.iload_n (q := 1) dX7_judgeAsk_0 rfl rfl ?_
  refine K.callS0 (q := 4) mkX7_isName mw_X7_152 (s_X7_isName _ _) rfl (by decide) rfl (Nat.le_of_ble_eq_true rfl) (Nat.le_of_ble_eq_true rfl) (Nat.le_of_ble_eq_true rfl) dX7_judgeAsk_1 rfl ?_
  refine K.if_eq (q := 7) (tgt := 14) dX7_judgeAsk_4 rfl (by decide) (fun c_4_1 => ?_) (fun c_4_1 => ?_)
  · refine K.iconst (q := 15) (v := 2) dX7_judgeAsk_14 rfl (by decide) ?_
    exact C.iret rfl rfl (by rw [r_X7_judgeAsk, if_pos c_4_1]) (by rw [x_X7_judgeAsk, if_pos c_4_1]) (Nat.le_of_ble_eq_true rfl) (Nat.le_of_ble_eq_true rfl) dX7_judgeAsk_15
  · refine K.iload_n (q := 8) dX7_judgeAsk_7 rfl rfl ?_
    refine K.callS0 (q := 11) mkX7_isAmount mw_X7_361 (s_X7_isAmount _ _) rfl (by decide) rfl (Nat.le_of_ble_eq_true rfl) (Nat.le_of_ble_eq_true rfl) (Nat.le_of_ble_eq_true rfl) dX7_judgeAsk_8 rfl ?_
    refine K.if_ne (q := 14) (tgt := 16) dX7_judgeAsk_11 rfl (by decide) (fun c_11_2 => ?_) (fun c_11_2 => ?_)
    · refine K.aload_n (q := 17) dX7_judgeAsk_16 rfl rfl ?_
      refine K.getf (q := 20) (v := .ref 1) fo_X7_12.r rx0b (lt141 (by decide)) rfl dX7_judgeAsk_17 rfl ?_
      refine K.iload_n (q := 21) dX7_judgeAsk_20 rfl rfl ?_
      refine K.callV0 (q := 24) mkX0_canLend mw_X7_370 (s_X0_canLend _ _ _) rfl (by decide) rfl (lt141 (by decide)) rb1 (Nat.le_of_ble_eq_true rfl) (Nat.le_of_ble_eq_true rfl) (Nat.le_of_ble_eq_true rfl) dX7_judgeAsk_21 rfl ?_
      refine K.if_ne (q := 27) (tgt := 58) dX7_judgeAsk_24 rfl (by decide) (fun c_24_3 => ?_) (fun c_24_3 => ?_)
      · refine K.iconst (q := 59) (v := 0) dX7_judgeAsk_58 rfl (by decide) ?_
        exact C.iret rfl rfl (by rw [r_X7_judgeAsk, if_neg c_4_1, if_neg c_11_2, if_neg c_24_3]) (by rw [x_X7_judgeAsk, if_neg c_4_1, if_neg c_11_2, if_neg c_24_3]) (Nat.le_of_ble_eq_true rfl) (Nat.le_of_ble_eq_true rfl) dX7_judgeAsk_59
      · refine K.aload_n (q := 28) dX7_judgeAsk_27 rfl rfl ?_
        refine K.getf (q := 31) (v := .ref 1) fo_X7_12.r rx0b (lt141 (by decide)) rfl dX7_judgeAsk_28 rfl ?_
        refine K.getf (q := 34) (v := .ref 9) fo_X7_103 rb1 (lt141 (by decide)) rfl dX7_judgeAsk_31 rfl ?_
        refine K.getf (q := 37) (v := .int (b.1 4)) fo_X7_123.r rb9 (lt141 (by decide)) rfl dX7_judgeAsk_34 rfl ?_
        refine K.bipush (q := 39) (v := 6) dX7_judgeAsk_37 rfl (by decide) ?_
        refine K.icmp_lt (q := 42) (tgt := 58) dX7_judgeAsk_39 rfl (by decide) (fun c_39_4 => ?_) (fun c_39_4 => ?_)
        · refine K.iconst (q := 59) (v := 0) dX7_judgeAsk_58 rfl (by decide) ?_
          exact C.iret rfl rfl (by rw [r_X7_judgeAsk, if_neg c_4_1, if_neg c_11_2, if_pos c_24_3, if_pos c_39_4]) (by rw [x_X7_judgeAsk, if_neg c_4_1, if_neg c_11_2, if_pos c_24_3, if_pos c_39_4]) (Nat.le_of_ble_eq_true rfl) (Nat.le_of_ble_eq_true rfl) dX7_judgeAsk_59
        · refine K.aload_n (q := 43) dX7_judgeAsk_42 rfl rfl ?_
          refine K.iconst (q := 44) (v := 3) dX7_judgeAsk_43 rfl (by decide) ?_
          refine K.aload_n (q := 45) dX7_judgeAsk_44 rfl rfl ?_
          refine K.getf (q := 48) (v := .ref 1) fo_X7_12.r rx0b (lt141 (by decide)) rfl dX7_judgeAsk_45 rfl ?_
          refine K.getf (q := 51) (v := .ref 9) fo_X7_103 rb1 (lt141 (by decide)) rfl dX7_judgeAsk_48 rfl ?_
          refine K.getf (q := 54) (v := .int (b.1 4)) fo_X7_123.r rb9 (lt141 (by decide)) rfl dX7_judgeAsk_51 rfl ?_
          refine K.callV0 (q := 57) mkX7_refuse mw_X7_364 (s_X7_refuse _ _ _ _) rfl (by decide) rfl (lt141 (by decide)) rx0b (Nat.le_of_ble_eq_true rfl) (Nat.le_of_ble_eq_true rfl) (Nat.le_of_ble_eq_true rfl) dX7_judgeAsk_54 rfl ?_
          exact C.iret rfl rfl (by rw [r_X7_judgeAsk, if_neg c_4_1, if_neg c_11_2, if_pos c_24_3, if_neg c_39_4]) (by rw [x_X7_judgeAsk, if_neg c_4_1, if_neg c_11_2, if_pos c_24_3, if_neg c_39_4]) (Nat.le_of_ble_eq_true rfl) (Nat.le_of_ble_eq_true rfl) dX7_judgeAsk_57
    · refine K.iconst (q := 15) (v := 2) dX7_judgeAsk_14 rfl (by decide) ?_
      exact C.iret rfl rfl (by rw [r_X7_judgeAsk, if_neg c_4_1, if_pos c_11_2]) (by rw [x_X7_judgeAsk, if_neg c_4_1, if_pos c_11_2]) (Nat.le_of_ble_eq_true rfl) (Nat.le_of_ble_eq_true rfl) dX7_judgeAsk_15

def r_X7_judgeGive (b : BD) (loan : Int32) : Int32 := (if (r_X3_has b loan) = 0 then 1 else 0)
set_option maxRecDepth 20000 in
theorem s_X7_judgeGive (X : GS) (b : BD) (loan : Int32) : Ct 2 0 0 yX7_judgeGive (.code yX7_judgeGive cX7_judgeGive 2 (some (.int))) [.ref 0, .int loan] (mkH (uB X 0 b)) (.inl (some (.int (r_X7_judgeGive b loan)))) (mkH (uB X 0 b)) := by
  refine Ct.of (LL := [some (.ref 0), some (.int loan)]) mkX7_judgeGive.1 owX7_judgeGive rfl (Nat.le_of_ble_eq_true rfl) rfl (fun Wk C => ?_)
  have K := C.core
  refine K.aload_n (q := 1) dX7_judgeGive_0 rfl rfl ?_
  refine K.getf (q := 4) (v := .ref 1) fo_X7_12.r rx0b (lt141 (by decide)) rfl dX7_judgeGive_1 rfl ?_
  refine K.getf (q := 7) (v := .ref 4) fo_X7_126 rb1 (lt141 (by decide)) rfl dX7_judgeGive_4 rfl ?_
  refine K.iload_n (q := 8) dX7_judgeGive_7 rfl rfl ?_
  refine K.callV0 (q := 11) mkX3_has mw_X7_130 (s_X3_has _ _ _) rfl (by decide) rfl (lt141 (by decide)) rb4 (Nat.le_of_ble_eq_true rfl) (Nat.le_of_ble_eq_true rfl) (Nat.le_of_ble_eq_true rfl) dX7_judgeGive_8 rfl ?_
  refine K.if_eq (q := 14) (tgt := 18) dX7_judgeGive_11 rfl (by decide) (fun c_11_1 => ?_) (fun c_11_1 => ?_)
  · refine K.iconst (q := 19) (v := 1) dX7_judgeGive_18 rfl (by decide) ?_
    exact C.iret rfl rfl (by rw [r_X7_judgeGive, if_pos c_11_1]) rfl (Nat.le_of_ble_eq_true rfl) (Nat.le_of_ble_eq_true rfl) dX7_judgeGive_19
  · refine K.iconst (q := 15) (v := 0) dX7_judgeGive_14 rfl (by decide) ?_
    refine K.goto (tgt := 19) dX7_judgeGive_15 (by decide) ?_
    exact C.iret rfl rfl (by rw [r_X7_judgeGive, if_neg c_11_1]) rfl (Nat.le_of_ble_eq_true rfl) (Nat.le_of_ble_eq_true rfl) dX7_judgeGive_19

def r_X7_judgeGiveAll (b : BD) (name : Int32) : Int32 := (if (r_X7_isName name) = 0 then 2 else (if (r_X3_countOf b name) = 0 then r_X7_refuse else 0))

def x_X7_judgeGiveAll (X : GS) (b : BD) (name : Int32) : GS := (if (r_X7_isName name) = 0 then X else (if (r_X3_countOf b name) = 0 then (x_X7_refuse X 4 (r_X6_countOf b name)) else X))
set_option maxRecDepth 20000 in
theorem s_X7_judgeGiveAll (X : GS) (b : BD) (name : Int32) : Ct 4 0 0 yX7_judgeGiveAll (.code yX7_judgeGiveAll cX7_judgeGiveAll 2 (some (.int))) [.ref 0, .int name] (mkH (uB X 0 b)) (.inl (some (.int (r_X7_judgeGiveAll b name)))) (mkH (uB (x_X7_judgeGiveAll X b name) 0 b)) := by
  refine Ct.of (LL := [some (.ref 0), some (.int name)]) mkX7_judgeGiveAll.1 owX7_judgeGiveAll rfl (Nat.le_of_ble_eq_true rfl) rfl (fun Wk C => ?_)
  have K := C.core
  refine K.iload_n (q := 1) dX7_judgeGiveAll_0 rfl rfl ?_
  refine K.callS0 (q := 4) mkX7_isName mw_X7_152 (s_X7_isName _ _) rfl (by decide) rfl (Nat.le_of_ble_eq_true rfl) (Nat.le_of_ble_eq_true rfl) (Nat.le_of_ble_eq_true rfl) dX7_judgeGiveAll_1 rfl ?_
  refine K.if_ne (q := 7) (tgt := 9) dX7_judgeGiveAll_4 rfl (by decide) (fun c_4_1 => ?_) (fun c_4_1 => ?_)
  · refine K.aload_n (q := 10) dX7_judgeGiveAll_9 rfl rfl ?_
    refine K.getf (q := 13) (v := .ref 1) fo_X7_12.r rx0b (lt141 (by decide)) rfl dX7_judgeGiveAll_10 rfl ?_
    refine K.getf (q := 16) (v := .ref 4) fo_X7_126 rb1 (lt141 (by decide)) rfl dX7_judgeGiveAll_13 rfl ?_
    refine K.iload_n (q := 17) dX7_judgeGiveAll_16 rfl rfl ?_
    refine K.callV0 (q := 20) mkX3_countOf mw_X7_157 (s_X3_countOf _ _ _) rfl (by decide) rfl (lt141 (by decide)) rb4 (Nat.le_of_ble_eq_true rfl) (Nat.le_of_ble_eq_true rfl) (Nat.le_of_ble_eq_true rfl) dX7_judgeGiveAll_17 rfl ?_
    refine K.if_ne (q := 23) (tgt := 42) dX7_judgeGiveAll_20 rfl (by decide) (fun c_20_2 => ?_) (fun c_20_2 => ?_)
    · refine K.iconst (q := 43) (v := 0) dX7_judgeGiveAll_42 rfl (by decide) ?_
      exact C.iret rfl rfl (by rw [r_X7_judgeGiveAll, if_neg c_4_1, if_neg c_20_2]) (by rw [x_X7_judgeGiveAll, if_neg c_4_1, if_neg c_20_2]) (Nat.le_of_ble_eq_true rfl) (Nat.le_of_ble_eq_true rfl) dX7_judgeGiveAll_43
    · refine K.aload_n (q := 24) dX7_judgeGiveAll_23 rfl rfl ?_
      refine K.iconst (q := 25) (v := 4) dX7_judgeGiveAll_24 rfl (by decide) ?_
      refine K.aload_n (q := 26) dX7_judgeGiveAll_25 rfl rfl ?_
      refine K.getf (q := 29) (v := .ref 1) fo_X7_12.r rx0b (lt141 (by decide)) rfl dX7_judgeGiveAll_26 rfl ?_
      refine K.getf (q := 32) (v := .ref 9) fo_X7_103 rb1 (lt141 (by decide)) rfl dX7_judgeGiveAll_29 rfl ?_
      refine K.iload_n (q := 33) dX7_judgeGiveAll_32 rfl rfl ?_
      refine K.callV0 (q := 36) mkX6_countOf mw_X7_166 (s_X6_countOf _ _ _) rfl (by decide) rfl (lt141 (by decide)) rb9 (Nat.le_of_ble_eq_true rfl) (Nat.le_of_ble_eq_true rfl) (Nat.le_of_ble_eq_true rfl) dX7_judgeGiveAll_33 rfl ?_
      refine K.callV0 (q := 39) mkX7_refuse mw_X7_364 (s_X7_refuse _ _ _ _) rfl (by decide) rfl (lt141 (by decide)) rx0b (Nat.le_of_ble_eq_true rfl) (Nat.le_of_ble_eq_true rfl) (Nat.le_of_ble_eq_true rfl) dX7_judgeGiveAll_36 rfl ?_
      refine K.goto (tgt := 43) dX7_judgeGiveAll_39 (by decide) ?_
      exact C.iret rfl rfl (by rw [r_X7_judgeGiveAll, if_neg c_4_1, if_pos c_20_2]) (by rw [x_X7_judgeGiveAll, if_neg c_4_1, if_pos c_20_2]) (Nat.le_of_ble_eq_true rfl) (Nat.le_of_ble_eq_true rfl) dX7_judgeGiveAll_43
  · refine K.iconst (q := 8) (v := 2) dX7_judgeGiveAll_7 rfl (by decide) ?_
    exact C.iret rfl rfl (by rw [r_X7_judgeGiveAll, if_pos c_4_1]) (by rw [x_X7_judgeGiveAll, if_pos c_4_1]) (Nat.le_of_ble_eq_true rfl) (Nat.le_of_ble_eq_true rfl) dX7_judgeGiveAll_8

def r_X7_judgeResize (b : BD) (loan : Int32) (amount : Int32) : Int32 := (if (r_X3_has b loan) = 0 then 1 else (if (r_X7_isAmount amount) = 0 then 2 else (if (r_X3_amountAt b loan) = amount then r_X7_refuse else (if (r_X7_needOf amount) ≤ (r_X0_greatestSizeWithout b loan) then 0 else r_X7_refuse))))

def x_X7_judgeResize (X : GS) (b : BD) (loan : Int32) (amount : Int32) : GS := (if (r_X3_has b loan) = 0 then X else (if (r_X7_isAmount amount) = 0 then X else (if (r_X3_amountAt b loan) = amount then (x_X7_refuse X 5 amount) else (if (r_X7_needOf amount) ≤ (r_X0_greatestSizeWithout b loan) then X else (x_X7_refuse X 2 (r_X0_greatestSizeWithout b loan))))))
set_option maxRecDepth 20000 in
theorem s_X7_judgeResize (X : GS) (b : BD) (loan : Int32) (amount : Int32) : Ct 5 0 0 yX7_judgeResize (.code yX7_judgeResize cX7_judgeResize 4 (some (.int))) [.ref 0, .int loan, .int amount] (mkH (uB X 0 b)) (.inl (some (.int (r_X7_judgeResize b loan amount)))) (mkH (uB (x_X7_judgeResize X b loan amount) 0 b)) := by
  refine Ct.of (LL := [some (.ref 0), some (.int loan), some (.int amount), none]) mkX7_judgeResize.1 owX7_judgeResize rfl (Nat.le_of_ble_eq_true rfl) rfl (fun Wk C => ?_)
  have K := C.core
  refine K.aload_n (q := 1) dX7_judgeResize_0 rfl rfl ?_
  refine K.getf (q := 4) (v := .ref 1) fo_X7_12.r rx0b (lt141 (by decide)) rfl dX7_judgeResize_1 rfl ?_
  refine K.getf (q := 7) (v := .ref 4) fo_X7_126 rb1 (lt141 (by decide)) rfl dX7_judgeResize_4 rfl ?_
  refine K.iload_n (q := 8) dX7_judgeResize_7 rfl rfl ?_
  refine K.callV0 (q := 11) mkX3_has mw_X7_130 (s_X3_has _ _ _) rfl (by decide) rfl (lt141 (by decide)) rb4 (Nat.le_of_ble_eq_true rfl) (Nat.le_of_ble_eq_true rfl) (Nat.le_of_ble_eq_true rfl) dX7_judgeResize_8 rfl ?_
  refine K.if_ne (q := 14) (tgt := 16) dX7_judgeResize_11 rfl (by decide) (fun c_11_1 => ?_) (fun c_11_1 => ?_)
  · refine K.iload_n (q := 17) dX7_judgeResize_16 rfl rfl ?_
    refine K.callS0 (q := 20) mkX7_isAmount mw_X7_361 (s_X7_isAmount _ _) rfl (by decide) rfl (Nat.le_of_ble_eq_true rfl) (Nat.le_of_ble_eq_true rfl) (Nat.le_of_ble_eq_true rfl) dX7_judgeResize_17 rfl ?_
    refine K.if_ne (q := 23) (tgt := 25) dX7_judgeResize_20 rfl (by decide) (fun c_20_2 => ?_) (fun c_20_2 => ?_)
    · refine K.aload_n (q := 26) dX7_judgeResize_25 rfl rfl ?_
      refine K.getf (q := 29) (v := .ref 1) fo_X7_12.r rx0b (lt141 (by decide)) rfl dX7_judgeResize_26 rfl ?_
      refine K.getf (q := 32) (v := .ref 4) fo_X7_126 rb1 (lt141 (by decide)) rfl dX7_judgeResize_29 rfl ?_
      refine K.iload_n (q := 33) dX7_judgeResize_32 rfl rfl ?_
      refine K.callV0 (q := 36) mkX3_amountAt mw_X7_138 (s_X3_amountAt _ _ _) rfl (by decide) rfl (lt141 (by decide)) rb4 (Nat.le_of_ble_eq_true rfl) (Nat.le_of_ble_eq_true rfl) (Nat.le_of_ble_eq_true rfl) dX7_judgeResize_33 rfl ?_
      refine K.iload_n (q := 37) dX7_judgeResize_36 rfl rfl ?_
      refine K.icmp_ne (q := 40) (tgt := 47) dX7_judgeResize_37 rfl (by decide) (fun c_37_3 => ?_) (fun c_37_3 => ?_)
      · refine K.aload_n (q := 48) dX7_judgeResize_47 rfl rfl ?_
        refine K.getf (q := 51) (v := .ref 1) fo_X7_12.r rx0b (lt141 (by decide)) rfl dX7_judgeResize_48 rfl ?_
        refine K.iload_n (q := 52) dX7_judgeResize_51 rfl rfl ?_
        refine K.callV0 (q := 55) mkX0_greatestSizeWithout mw_X7_373 (s_X0_greatestSizeWithout _ _ _) rfl (by decide) rfl (lt141 (by decide)) rb1 (Nat.le_of_ble_eq_true rfl) (Nat.le_of_ble_eq_true rfl) (Nat.le_of_ble_eq_true rfl) dX7_judgeResize_52 rfl ?_
        refine K.istore_n (q := 56) (i := 3) dX7_judgeResize_55 rfl rfl (by decide) rfl ?_
        refine K.iload_n (q := 57) dX7_judgeResize_56 rfl rfl ?_
        refine K.iload_n (q := 58) dX7_judgeResize_57 rfl rfl ?_
        refine K.callS0 (q := 61) mkX7_needOf mw_X7_367 (s_X7_needOf _ _ (lp_needOf_ne _)) rfl (by decide) rfl (Nat.le_of_ble_eq_true rfl) (Nat.le_of_ble_eq_true rfl) (Nat.le_of_ble_eq_true rfl) dX7_judgeResize_58 rfl ?_
        refine K.icmp_ge (q := 64) (tgt := 73) dX7_judgeResize_61 rfl (by decide) (fun c_61_4 => ?_) (fun c_61_4 => ?_)
        · refine K.iconst (q := 74) (v := 0) dX7_judgeResize_73 rfl (by decide) ?_
          exact C.iret rfl rfl (by rw [r_X7_judgeResize, if_neg c_11_1, if_neg c_20_2, if_neg c_37_3, if_pos c_61_4]) (by rw [x_X7_judgeResize, if_neg c_11_1, if_neg c_20_2, if_neg c_37_3, if_pos c_61_4]) (Nat.le_of_ble_eq_true rfl) (Nat.le_of_ble_eq_true rfl) dX7_judgeResize_74
        · refine K.aload_n (q := 65) dX7_judgeResize_64 rfl rfl ?_
          refine K.iconst (q := 66) (v := 2) dX7_judgeResize_65 rfl (by decide) ?_
          refine K.iload_n (q := 67) dX7_judgeResize_66 rfl rfl ?_
          refine K.callV0 (q := 70) mkX7_refuse mw_X7_364 (s_X7_refuse _ _ _ _) rfl (by decide) rfl (lt141 (by decide)) rx0b (Nat.le_of_ble_eq_true rfl) (Nat.le_of_ble_eq_true rfl) (Nat.le_of_ble_eq_true rfl) dX7_judgeResize_67 rfl ?_
          refine K.goto (tgt := 74) dX7_judgeResize_70 (by decide) ?_
          exact C.iret rfl rfl (by rw [r_X7_judgeResize, if_neg c_11_1, if_neg c_20_2, if_neg c_37_3, if_neg c_61_4]) (by rw [x_X7_judgeResize, if_neg c_11_1, if_neg c_20_2, if_neg c_37_3, if_neg c_61_4]) (Nat.le_of_ble_eq_true rfl) (Nat.le_of_ble_eq_true rfl) dX7_judgeResize_74
      · refine K.aload_n (q := 41) dX7_judgeResize_40 rfl rfl ?_
        refine K.iconst (q := 42) (v := 5) dX7_judgeResize_41 rfl (by decide) ?_
        refine K.iload_n (q := 43) dX7_judgeResize_42 rfl rfl ?_
        refine K.callV0 (q := 46) mkX7_refuse mw_X7_364 (s_X7_refuse _ _ _ _) rfl (by decide) rfl (lt141 (by decide)) rx0b (Nat.le_of_ble_eq_true rfl) (Nat.le_of_ble_eq_true rfl) (Nat.le_of_ble_eq_true rfl) dX7_judgeResize_43 rfl ?_
        exact C.iret rfl rfl (by rw [r_X7_judgeResize, if_neg c_11_1, if_neg c_20_2, if_pos c_37_3]) (by rw [x_X7_judgeResize, if_neg c_11_1, if_neg c_20_2, if_pos c_37_3]) (Nat.le_of_ble_eq_true rfl) (Nat.le_of_ble_eq_true rfl) dX7_judgeResize_46
    · refine K.iconst (q := 24) (v := 2) dX7_judgeResize_23 rfl (by decide) ?_
      exact C.iret rfl rfl (by rw [r_X7_judgeResize, if_neg c_11_1, if_pos c_20_2]) (by rw [x_X7_judgeResize, if_neg c_11_1, if_pos c_20_2]) (Nat.le_of_ble_eq_true rfl) (Nat.le_of_ble_eq_true rfl) dX7_judgeResize_24
  · refine K.iconst (q := 15) (v := 1) dX7_judgeResize_14 rfl (by decide) ?_
    exact C.iret rfl rfl (by rw [r_X7_judgeResize, if_pos c_11_1]) (by rw [x_X7_judgeResize, if_pos c_11_1]) (Nat.le_of_ble_eq_true rfl) (Nat.le_of_ble_eq_true rfl) dX7_judgeResize_15

def r_X7_judgeWay (b : BD) (way : Int32) : Int32 := (if way < 0 then 2 else (if way ≤ 2 then (if (b.1 0) = way then r_X7_refuse else 0) else 2))

def x_X7_judgeWay (X : GS) (b : BD) (way : Int32) : GS := (if way < 0 then X else (if way ≤ 2 then (if (b.1 0) = way then (x_X7_refuse X 5 way) else X) else X))
set_option maxRecDepth 20000 in
theorem s_X7_judgeWay (X : GS) (b : BD) (way : Int32) : Ct 2 0 0 yX7_judgeWay (.code yX7_judgeWay cX7_judgeWay 2 (some (.int))) [.ref 0, .int way] (mkH (uB X 0 b)) (.inl (some (.int (r_X7_judgeWay b way)))) (mkH (uB (x_X7_judgeWay X b way) 0 b)) := by
  refine Ct.of (LL := [some (.ref 0), some (.int way)]) mkX7_judgeWay.1 owX7_judgeWay rfl (Nat.le_of_ble_eq_true rfl) rfl (fun Wk C => ?_)
  have K := C.core
  refine K.iload_n (q := 1) dX7_judgeWay_0 rfl rfl ?_
  refine K.if_lt (q := 4) (tgt := 9) dX7_judgeWay_1 rfl (by decide) (fun c_1_1 => ?_) (fun c_1_1 => ?_)
  · refine K.iconst (q := 10) (v := 2) dX7_judgeWay_9 rfl (by decide) ?_
    exact C.iret rfl rfl (by rw [r_X7_judgeWay, if_pos c_1_1]) (by rw [x_X7_judgeWay, if_pos c_1_1]) (Nat.le_of_ble_eq_true rfl) (Nat.le_of_ble_eq_true rfl) dX7_judgeWay_10
  · refine K.iload_n (q := 5) dX7_judgeWay_4 rfl rfl ?_
    refine K.iconst (q := 6) (v := 2) dX7_judgeWay_5 rfl (by decide) ?_
    refine K.icmp_le (q := 9) (tgt := 11) dX7_judgeWay_6 rfl (by decide) (fun c_6_2 => ?_) (fun c_6_2 => ?_)
    · refine K.aload_n (q := 12) dX7_judgeWay_11 rfl rfl ?_
      refine K.getf (q := 15) (v := .ref 1) fo_X7_12.r rx0b (lt141 (by decide)) rfl dX7_judgeWay_12 rfl ?_
      refine K.getf (q := 18) (v := .ref 2) fo_X7_203 rb1 (lt141 (by decide)) rfl dX7_judgeWay_15 rfl ?_
      refine K.getf (q := 21) (v := .int (b.1 0)) fo_X7_327.r rb2 (lt141 (by decide)) rfl dX7_judgeWay_18 rfl ?_
      refine K.iload_n (q := 22) dX7_judgeWay_21 rfl rfl ?_
      refine K.icmp_ne (q := 25) (tgt := 34) dX7_judgeWay_22 rfl (by decide) (fun c_22_3 => ?_) (fun c_22_3 => ?_)
      · refine K.iconst (q := 35) (v := 0) dX7_judgeWay_34 rfl (by decide) ?_
        exact C.iret rfl rfl (by rw [r_X7_judgeWay, if_neg c_1_1, if_pos c_6_2, if_neg c_22_3]) (by rw [x_X7_judgeWay, if_neg c_1_1, if_pos c_6_2, if_neg c_22_3]) (Nat.le_of_ble_eq_true rfl) (Nat.le_of_ble_eq_true rfl) dX7_judgeWay_35
      · refine K.aload_n (q := 26) dX7_judgeWay_25 rfl rfl ?_
        refine K.iconst (q := 27) (v := 5) dX7_judgeWay_26 rfl (by decide) ?_
        refine K.iload_n (q := 28) dX7_judgeWay_27 rfl rfl ?_
        refine K.callV0 (q := 31) mkX7_refuse mw_X7_364 (s_X7_refuse _ _ _ _) rfl (by decide) rfl (lt141 (by decide)) rx0b (Nat.le_of_ble_eq_true rfl) (Nat.le_of_ble_eq_true rfl) (Nat.le_of_ble_eq_true rfl) dX7_judgeWay_28 rfl ?_
        refine K.goto (tgt := 35) dX7_judgeWay_31 (by decide) ?_
        exact C.iret rfl rfl (by rw [r_X7_judgeWay, if_neg c_1_1, if_pos c_6_2, if_pos c_22_3]) (by rw [x_X7_judgeWay, if_neg c_1_1, if_pos c_6_2, if_pos c_22_3]) (Nat.le_of_ble_eq_true rfl) (Nat.le_of_ble_eq_true rfl) dX7_judgeWay_35
    · refine K.iconst (q := 10) (v := 2) dX7_judgeWay_9 rfl (by decide) ?_
      exact C.iret rfl rfl (by rw [r_X7_judgeWay, if_neg c_1_1, if_neg c_6_2]) (by rw [x_X7_judgeWay, if_neg c_1_1, if_neg c_6_2]) (Nat.le_of_ble_eq_true rfl) (Nat.le_of_ble_eq_true rfl) dX7_judgeWay_10

def r_X7_judgeOrder (b : BD) (kind : Int32) (first : Int32) (second : Int32) : Int32 := (if kind = 103 then (r_X7_judgeGive b first) else (if kind = 104 then 2 else (if kind = 105 then 2 else (if kind = 106 then 2 else (if kind = 107 then 2 else (if kind = 108 then (r_X7_judgeLend b first second) else (if kind = 109 then 2 else (if kind = 110 then (r_X7_judgeGiveAll b first) else (if kind = 111 then 2 else (if kind = 112 then 2 else (if kind = 113 then (r_X7_judgeAsk b first second) else (if kind = 114 then (r_X7_judgeResize b first second) else (if kind = 115 then 2 else (if kind = 116 then 2 else (if kind = 117 then 2 else (if kind = 118 then 2 else (if kind = 119 then (r_X7_judgeWay b first) else 2)))))))))))))))))

def x_X7_judgeOrder (X : GS) (b : BD) (kind : Int32) (first : Int32) (second : Int32) : GS := (if kind = 103 then X else (if kind = 104 then X else (if kind = 105 then X else (if kind = 106 then X else (if kind = 107 then X else (if kind = 108 then (x_X7_judgeLend X b first second) else (if kind = 109 then X else (if kind = 110 then (x_X7_judgeGiveAll X b first) else (if kind = 111 then X else (if kind = 112 then X else (if kind = 113 then (x_X7_judgeAsk X b first second) else (if kind = 114 then (x_X7_judgeResize X b first second) else (if kind = 115 then X else (if kind = 116 then X else (if kind = 117 then X else (if kind = 118 then X else (if kind = 119 then (x_X7_judgeWay X b first) else X)))))))))))))))))
set_option maxRecDepth 20000 in
theorem s_X7_judgeOrder (X : GS) (b : BD) (kind : Int32) (first : Int32) (second : Int32) : Ct 6 0 0 yX7_judgeOrder (.code yX7_judgeOrder cX7_judgeOrder 4 (some (.int))) [.ref 0, .int kind, .int first, .int second] (mkH (uB X 0 b)) (.inl (some (.int (r_X7_judgeOrder b kind first second)))) (mkH (uB (x_X7_judgeOrder X b kind first second) 0 b)) := by
  refine Ct.of (LL := [some (.ref 0), some (.int kind), some (.int first), some (.int second)]) mkX7_judgeOrder.1 owX7_judgeOrder rfl (Nat.le_of_ble_eq_true rfl) rfl (fun Wk C => ?_)
  have K := C.core
  refine K.iload_n (q := 1) dX7_judgeOrder_0 rfl rfl ?_
  by_cases c_1_1 : kind = 103
  · refine K.tableIn (tgt := 98) dX7_judgeOrder_1 (by rw [c_1_1]; decide) (by rw [c_1_1]; decide) (by rw [c_1_1]; try rfl) (by decide) ?_
    refine K.aload_n (q := 99) dX7_judgeOrder_98 rfl rfl ?_
    refine K.iload_n (q := 100) dX7_judgeOrder_99 rfl rfl ?_
    refine K.callV0 (q := 103) mkX7_judgeGive mw_X7_78 (s_X7_judgeGive _ _ _) rfl (by decide) rfl (lt141 (by decide)) rx0b (Nat.le_of_ble_eq_true rfl) (Nat.le_of_ble_eq_true rfl) (Nat.le_of_ble_eq_true rfl) dX7_judgeOrder_100 rfl ?_
    exact C.iret rfl rfl (by rw [r_X7_judgeOrder, if_pos c_1_1]) (by rw [x_X7_judgeOrder, if_pos c_1_1]) (Nat.le_of_ble_eq_true rfl) (Nat.le_of_ble_eq_true rfl) dX7_judgeOrder_103
  · skip
    by_cases c_1_2 : kind = 104
    · refine K.tableIn (tgt := 123) dX7_judgeOrder_1 (by rw [c_1_2]; decide) (by rw [c_1_2]; decide) (by rw [c_1_2]; try rfl) (by decide) ?_
      refine K.iconst (q := 124) (v := 2) dX7_judgeOrder_123 rfl (by decide) ?_
      exact C.iret rfl rfl (by rw [r_X7_judgeOrder, if_neg c_1_1, if_pos c_1_2]) (by rw [x_X7_judgeOrder, if_neg c_1_1, if_pos c_1_2]) (Nat.le_of_ble_eq_true rfl) (Nat.le_of_ble_eq_true rfl) dX7_judgeOrder_124
    · skip
      by_cases c_1_3 : kind = 105
      · refine K.tableIn (tgt := 123) dX7_judgeOrder_1 (by rw [c_1_3]; decide) (by rw [c_1_3]; decide) (by rw [c_1_3]; try rfl) (by decide) ?_
        refine K.iconst (q := 124) (v := 2) dX7_judgeOrder_123 rfl (by decide) ?_
        exact C.iret rfl rfl (by rw [r_X7_judgeOrder, if_neg c_1_1, if_neg c_1_2, if_pos c_1_3]) (by rw [x_X7_judgeOrder, if_neg c_1_1, if_neg c_1_2, if_pos c_1_3]) (Nat.le_of_ble_eq_true rfl) (Nat.le_of_ble_eq_true rfl) dX7_judgeOrder_124
      · skip
        by_cases c_1_4 : kind = 106
        · refine K.tableIn (tgt := 123) dX7_judgeOrder_1 (by rw [c_1_4]; decide) (by rw [c_1_4]; decide) (by rw [c_1_4]; try rfl) (by decide) ?_
          refine K.iconst (q := 124) (v := 2) dX7_judgeOrder_123 rfl (by decide) ?_
          exact C.iret rfl rfl (by rw [r_X7_judgeOrder, if_neg c_1_1, if_neg c_1_2, if_neg c_1_3, if_pos c_1_4]) (by rw [x_X7_judgeOrder, if_neg c_1_1, if_neg c_1_2, if_neg c_1_3, if_pos c_1_4]) (Nat.le_of_ble_eq_true rfl) (Nat.le_of_ble_eq_true rfl) dX7_judgeOrder_124
        · skip
          by_cases c_1_5 : kind = 107
          · refine K.tableIn (tgt := 123) dX7_judgeOrder_1 (by rw [c_1_5]; decide) (by rw [c_1_5]; decide) (by rw [c_1_5]; try rfl) (by decide) ?_
            refine K.iconst (q := 124) (v := 2) dX7_judgeOrder_123 rfl (by decide) ?_
            exact C.iret rfl rfl (by rw [r_X7_judgeOrder, if_neg c_1_1, if_neg c_1_2, if_neg c_1_3, if_neg c_1_4, if_pos c_1_5]) (by rw [x_X7_judgeOrder, if_neg c_1_1, if_neg c_1_2, if_neg c_1_3, if_neg c_1_4, if_pos c_1_5]) (Nat.le_of_ble_eq_true rfl) (Nat.le_of_ble_eq_true rfl) dX7_judgeOrder_124
          · skip
            by_cases c_1_6 : kind = 108
            · refine K.tableIn (tgt := 84) dX7_judgeOrder_1 (by rw [c_1_6]; decide) (by rw [c_1_6]; decide) (by rw [c_1_6]; try rfl) (by decide) ?_
              refine K.aload_n (q := 85) dX7_judgeOrder_84 rfl rfl ?_
              refine K.iload_n (q := 86) dX7_judgeOrder_85 rfl rfl ?_
              refine K.iload_n (q := 87) dX7_judgeOrder_86 rfl rfl ?_
              refine K.callV0 (q := 90) mkX7_judgeLend mw_X7_57 (s_X7_judgeLend _ _ _ _) rfl (by decide) rfl (lt141 (by decide)) rx0b (Nat.le_of_ble_eq_true rfl) (Nat.le_of_ble_eq_true rfl) (Nat.le_of_ble_eq_true rfl) dX7_judgeOrder_87 rfl ?_
              exact C.iret rfl rfl (by rw [r_X7_judgeOrder, if_neg c_1_1, if_neg c_1_2, if_neg c_1_3, if_neg c_1_4, if_neg c_1_5, if_pos c_1_6]) (by rw [x_X7_judgeOrder, if_neg c_1_1, if_neg c_1_2, if_neg c_1_3, if_neg c_1_4, if_neg c_1_5, if_pos c_1_6]) (Nat.le_of_ble_eq_true rfl) (Nat.le_of_ble_eq_true rfl) dX7_judgeOrder_90
            · skip
              by_cases c_1_7 : kind = 109
              · refine K.tableIn (tgt := 123) dX7_judgeOrder_1 (by rw [c_1_7]; decide) (by rw [c_1_7]; decide) (by rw [c_1_7]; try rfl) (by decide) ?_
                refine K.iconst (q := 124) (v := 2) dX7_judgeOrder_123 rfl (by decide) ?_
                exact C.iret rfl rfl (by rw [r_X7_judgeOrder, if_neg c_1_1, if_neg c_1_2, if_neg c_1_3, if_neg c_1_4, if_neg c_1_5, if_neg c_1_6, if_pos c_1_7]) (by rw [x_X7_judgeOrder, if_neg c_1_1, if_neg c_1_2, if_neg c_1_3, if_neg c_1_4, if_neg c_1_5, if_neg c_1_6, if_pos c_1_7]) (Nat.le_of_ble_eq_true rfl) (Nat.le_of_ble_eq_true rfl) dX7_judgeOrder_124
              · skip
                by_cases c_1_8 : kind = 110
                · refine K.tableIn (tgt := 104) dX7_judgeOrder_1 (by rw [c_1_8]; decide) (by rw [c_1_8]; decide) (by rw [c_1_8]; try rfl) (by decide) ?_
                  refine K.aload_n (q := 105) dX7_judgeOrder_104 rfl rfl ?_
                  refine K.iload_n (q := 106) dX7_judgeOrder_105 rfl rfl ?_
                  refine K.callV0 (q := 109) mkX7_judgeGiveAll mw_X7_85 (s_X7_judgeGiveAll _ _ _) rfl (by decide) rfl (lt141 (by decide)) rx0b (Nat.le_of_ble_eq_true rfl) (Nat.le_of_ble_eq_true rfl) (Nat.le_of_ble_eq_true rfl) dX7_judgeOrder_106 rfl ?_
                  exact C.iret rfl rfl (by rw [r_X7_judgeOrder, if_neg c_1_1, if_neg c_1_2, if_neg c_1_3, if_neg c_1_4, if_neg c_1_5, if_neg c_1_6, if_neg c_1_7, if_pos c_1_8]) (by rw [x_X7_judgeOrder, if_neg c_1_1, if_neg c_1_2, if_neg c_1_3, if_neg c_1_4, if_neg c_1_5, if_neg c_1_6, if_neg c_1_7, if_pos c_1_8]) (Nat.le_of_ble_eq_true rfl) (Nat.le_of_ble_eq_true rfl) dX7_judgeOrder_109
                · skip
                  by_cases c_1_9 : kind = 111
                  · refine K.tableIn (tgt := 123) dX7_judgeOrder_1 (by rw [c_1_9]; decide) (by rw [c_1_9]; decide) (by rw [c_1_9]; try rfl) (by decide) ?_
                    refine K.iconst (q := 124) (v := 2) dX7_judgeOrder_123 rfl (by decide) ?_
                    exact C.iret rfl rfl (by rw [r_X7_judgeOrder, if_neg c_1_1, if_neg c_1_2, if_neg c_1_3, if_neg c_1_4, if_neg c_1_5, if_neg c_1_6, if_neg c_1_7, if_neg c_1_8, if_pos c_1_9]) (by rw [x_X7_judgeOrder, if_neg c_1_1, if_neg c_1_2, if_neg c_1_3, if_neg c_1_4, if_neg c_1_5, if_neg c_1_6, if_neg c_1_7, if_neg c_1_8, if_pos c_1_9]) (Nat.le_of_ble_eq_true rfl) (Nat.le_of_ble_eq_true rfl) dX7_judgeOrder_124
                  · skip
                    by_cases c_1_10 : kind = 112
                    · refine K.tableIn (tgt := 123) dX7_judgeOrder_1 (by rw [c_1_10]; decide) (by rw [c_1_10]; decide) (by rw [c_1_10]; try rfl) (by decide) ?_
                      refine K.iconst (q := 124) (v := 2) dX7_judgeOrder_123 rfl (by decide) ?_
                      exact C.iret rfl rfl (by rw [r_X7_judgeOrder, if_neg c_1_1, if_neg c_1_2, if_neg c_1_3, if_neg c_1_4, if_neg c_1_5, if_neg c_1_6, if_neg c_1_7, if_neg c_1_8, if_neg c_1_9, if_pos c_1_10]) (by rw [x_X7_judgeOrder, if_neg c_1_1, if_neg c_1_2, if_neg c_1_3, if_neg c_1_4, if_neg c_1_5, if_neg c_1_6, if_neg c_1_7, if_neg c_1_8, if_neg c_1_9, if_pos c_1_10]) (Nat.le_of_ble_eq_true rfl) (Nat.le_of_ble_eq_true rfl) dX7_judgeOrder_124
                    · skip
                      by_cases c_1_11 : kind = 113
                      · refine K.tableIn (tgt := 91) dX7_judgeOrder_1 (by rw [c_1_11]; decide) (by rw [c_1_11]; decide) (by rw [c_1_11]; try rfl) (by decide) ?_
                        refine K.aload_n (q := 92) dX7_judgeOrder_91 rfl rfl ?_
                        refine K.iload_n (q := 93) dX7_judgeOrder_92 rfl rfl ?_
                        refine K.iload_n (q := 94) dX7_judgeOrder_93 rfl rfl ?_
                        refine K.callV0 (q := 97) mkX7_judgeAsk mw_X7_72 (s_X7_judgeAsk _ _ _ _) rfl (by decide) rfl (lt141 (by decide)) rx0b (Nat.le_of_ble_eq_true rfl) (Nat.le_of_ble_eq_true rfl) (Nat.le_of_ble_eq_true rfl) dX7_judgeOrder_94 rfl ?_
                        exact C.iret rfl rfl (by rw [r_X7_judgeOrder, if_neg c_1_1, if_neg c_1_2, if_neg c_1_3, if_neg c_1_4, if_neg c_1_5, if_neg c_1_6, if_neg c_1_7, if_neg c_1_8, if_neg c_1_9, if_neg c_1_10, if_pos c_1_11]) (by rw [x_X7_judgeOrder, if_neg c_1_1, if_neg c_1_2, if_neg c_1_3, if_neg c_1_4, if_neg c_1_5, if_neg c_1_6, if_neg c_1_7, if_neg c_1_8, if_neg c_1_9, if_neg c_1_10, if_pos c_1_11]) (Nat.le_of_ble_eq_true rfl) (Nat.le_of_ble_eq_true rfl) dX7_judgeOrder_97
                      · skip
                        by_cases c_1_12 : kind = 114
                        · refine K.tableIn (tgt := 110) dX7_judgeOrder_1 (by rw [c_1_12]; decide) (by rw [c_1_12]; decide) (by rw [c_1_12]; try rfl) (by decide) ?_
                          refine K.aload_n (q := 111) dX7_judgeOrder_110 rfl rfl ?_
                          refine K.iload_n (q := 112) dX7_judgeOrder_111 rfl rfl ?_
                          refine K.iload_n (q := 113) dX7_judgeOrder_112 rfl rfl ?_
                          refine K.callV0 (q := 116) mkX7_judgeResize mw_X7_91 (s_X7_judgeResize _ _ _ _) rfl (by decide) rfl (lt141 (by decide)) rx0b (Nat.le_of_ble_eq_true rfl) (Nat.le_of_ble_eq_true rfl) (Nat.le_of_ble_eq_true rfl) dX7_judgeOrder_113 rfl ?_
                          exact C.iret rfl rfl (by rw [r_X7_judgeOrder, if_neg c_1_1, if_neg c_1_2, if_neg c_1_3, if_neg c_1_4, if_neg c_1_5, if_neg c_1_6, if_neg c_1_7, if_neg c_1_8, if_neg c_1_9, if_neg c_1_10, if_neg c_1_11, if_pos c_1_12]) (by rw [x_X7_judgeOrder, if_neg c_1_1, if_neg c_1_2, if_neg c_1_3, if_neg c_1_4, if_neg c_1_5, if_neg c_1_6, if_neg c_1_7, if_neg c_1_8, if_neg c_1_9, if_neg c_1_10, if_neg c_1_11, if_pos c_1_12]) (Nat.le_of_ble_eq_true rfl) (Nat.le_of_ble_eq_true rfl) dX7_judgeOrder_116
                        · skip
                          by_cases c_1_13 : kind = 115
                          · refine K.tableIn (tgt := 123) dX7_judgeOrder_1 (by rw [c_1_13]; decide) (by rw [c_1_13]; decide) (by rw [c_1_13]; try rfl) (by decide) ?_
                            refine K.iconst (q := 124) (v := 2) dX7_judgeOrder_123 rfl (by decide) ?_
                            exact C.iret rfl rfl (by rw [r_X7_judgeOrder, if_neg c_1_1, if_neg c_1_2, if_neg c_1_3, if_neg c_1_4, if_neg c_1_5, if_neg c_1_6, if_neg c_1_7, if_neg c_1_8, if_neg c_1_9, if_neg c_1_10, if_neg c_1_11, if_neg c_1_12, if_pos c_1_13]) (by rw [x_X7_judgeOrder, if_neg c_1_1, if_neg c_1_2, if_neg c_1_3, if_neg c_1_4, if_neg c_1_5, if_neg c_1_6, if_neg c_1_7, if_neg c_1_8, if_neg c_1_9, if_neg c_1_10, if_neg c_1_11, if_neg c_1_12, if_pos c_1_13]) (Nat.le_of_ble_eq_true rfl) (Nat.le_of_ble_eq_true rfl) dX7_judgeOrder_124
                          · skip
                            by_cases c_1_14 : kind = 116
                            · refine K.tableIn (tgt := 123) dX7_judgeOrder_1 (by rw [c_1_14]; decide) (by rw [c_1_14]; decide) (by rw [c_1_14]; try rfl) (by decide) ?_
                              refine K.iconst (q := 124) (v := 2) dX7_judgeOrder_123 rfl (by decide) ?_
                              exact C.iret rfl rfl (by rw [r_X7_judgeOrder, if_neg c_1_1, if_neg c_1_2, if_neg c_1_3, if_neg c_1_4, if_neg c_1_5, if_neg c_1_6, if_neg c_1_7, if_neg c_1_8, if_neg c_1_9, if_neg c_1_10, if_neg c_1_11, if_neg c_1_12, if_neg c_1_13, if_pos c_1_14]) (by rw [x_X7_judgeOrder, if_neg c_1_1, if_neg c_1_2, if_neg c_1_3, if_neg c_1_4, if_neg c_1_5, if_neg c_1_6, if_neg c_1_7, if_neg c_1_8, if_neg c_1_9, if_neg c_1_10, if_neg c_1_11, if_neg c_1_12, if_neg c_1_13, if_pos c_1_14]) (Nat.le_of_ble_eq_true rfl) (Nat.le_of_ble_eq_true rfl) dX7_judgeOrder_124
                            · skip
                              by_cases c_1_15 : kind = 117
                              · refine K.tableIn (tgt := 123) dX7_judgeOrder_1 (by rw [c_1_15]; decide) (by rw [c_1_15]; decide) (by rw [c_1_15]; try rfl) (by decide) ?_
                                refine K.iconst (q := 124) (v := 2) dX7_judgeOrder_123 rfl (by decide) ?_
                                exact C.iret rfl rfl (by rw [r_X7_judgeOrder, if_neg c_1_1, if_neg c_1_2, if_neg c_1_3, if_neg c_1_4, if_neg c_1_5, if_neg c_1_6, if_neg c_1_7, if_neg c_1_8, if_neg c_1_9, if_neg c_1_10, if_neg c_1_11, if_neg c_1_12, if_neg c_1_13, if_neg c_1_14, if_pos c_1_15]) (by rw [x_X7_judgeOrder, if_neg c_1_1, if_neg c_1_2, if_neg c_1_3, if_neg c_1_4, if_neg c_1_5, if_neg c_1_6, if_neg c_1_7, if_neg c_1_8, if_neg c_1_9, if_neg c_1_10, if_neg c_1_11, if_neg c_1_12, if_neg c_1_13, if_neg c_1_14, if_pos c_1_15]) (Nat.le_of_ble_eq_true rfl) (Nat.le_of_ble_eq_true rfl) dX7_judgeOrder_124
                              · skip
                                by_cases c_1_16 : kind = 118
                                · refine K.tableIn (tgt := 123) dX7_judgeOrder_1 (by rw [c_1_16]; decide) (by rw [c_1_16]; decide) (by rw [c_1_16]; try rfl) (by decide) ?_
                                  refine K.iconst (q := 124) (v := 2) dX7_judgeOrder_123 rfl (by decide) ?_
                                  exact C.iret rfl rfl (by rw [r_X7_judgeOrder, if_neg c_1_1, if_neg c_1_2, if_neg c_1_3, if_neg c_1_4, if_neg c_1_5, if_neg c_1_6, if_neg c_1_7, if_neg c_1_8, if_neg c_1_9, if_neg c_1_10, if_neg c_1_11, if_neg c_1_12, if_neg c_1_13, if_neg c_1_14, if_neg c_1_15, if_pos c_1_16]) (by rw [x_X7_judgeOrder, if_neg c_1_1, if_neg c_1_2, if_neg c_1_3, if_neg c_1_4, if_neg c_1_5, if_neg c_1_6, if_neg c_1_7, if_neg c_1_8, if_neg c_1_9, if_neg c_1_10, if_neg c_1_11, if_neg c_1_12, if_neg c_1_13, if_neg c_1_14, if_neg c_1_15, if_pos c_1_16]) (Nat.le_of_ble_eq_true rfl) (Nat.le_of_ble_eq_true rfl) dX7_judgeOrder_124
                                · skip
                                  by_cases c_1_17 : kind = 119
                                  · refine K.tableIn (tgt := 117) dX7_judgeOrder_1 (by rw [c_1_17]; decide) (by rw [c_1_17]; decide) (by rw [c_1_17]; try rfl) (by decide) ?_
                                    refine K.aload_n (q := 118) dX7_judgeOrder_117 rfl rfl ?_
                                    refine K.iload_n (q := 119) dX7_judgeOrder_118 rfl rfl ?_
                                    refine K.callV0 (q := 122) mkX7_judgeWay mw_X7_97 (s_X7_judgeWay _ _ _) rfl (by decide) rfl (lt141 (by decide)) rx0b (Nat.le_of_ble_eq_true rfl) (Nat.le_of_ble_eq_true rfl) (Nat.le_of_ble_eq_true rfl) dX7_judgeOrder_119 rfl ?_
                                    exact C.iret rfl rfl (by rw [r_X7_judgeOrder, if_neg c_1_1, if_neg c_1_2, if_neg c_1_3, if_neg c_1_4, if_neg c_1_5, if_neg c_1_6, if_neg c_1_7, if_neg c_1_8, if_neg c_1_9, if_neg c_1_10, if_neg c_1_11, if_neg c_1_12, if_neg c_1_13, if_neg c_1_14, if_neg c_1_15, if_neg c_1_16, if_pos c_1_17]) (by rw [x_X7_judgeOrder, if_neg c_1_1, if_neg c_1_2, if_neg c_1_3, if_neg c_1_4, if_neg c_1_5, if_neg c_1_6, if_neg c_1_7, if_neg c_1_8, if_neg c_1_9, if_neg c_1_10, if_neg c_1_11, if_neg c_1_12, if_neg c_1_13, if_neg c_1_14, if_neg c_1_15, if_neg c_1_16, if_pos c_1_17]) (Nat.le_of_ble_eq_true rfl) (Nat.le_of_ble_eq_true rfl) dX7_judgeOrder_122
                                  · skip
                                    refine K.tableOut (tgt := 123) dX7_judgeOrder_1 (by have e0 := lv_neT (k := 103) (a := 103) c_1_1 (by decide); have e1 := lv_neT (k := 104) (a := 104) c_1_2 (by decide); have e2 := lv_neT (k := 105) (a := 105) c_1_3 (by decide); have e3 := lv_neT (k := 106) (a := 106) c_1_4 (by decide); have e4 := lv_neT (k := 107) (a := 107) c_1_5 (by decide); have e5 := lv_neT (k := 108) (a := 108) c_1_6 (by decide); have e6 := lv_neT (k := 109) (a := 109) c_1_7 (by decide); have e7 := lv_neT (k := 110) (a := 110) c_1_8 (by decide); have e8 := lv_neT (k := 111) (a := 111) c_1_9 (by decide); have e9 := lv_neT (k := 112) (a := 112) c_1_10 (by decide); have e10 := lv_neT (k := 113) (a := 113) c_1_11 (by decide); have e11 := lv_neT (k := 114) (a := 114) c_1_12 (by decide); have e12 := lv_neT (k := 115) (a := 115) c_1_13 (by decide); have e13 := lv_neT (k := 116) (a := 116) c_1_14 (by decide); have e14 := lv_neT (k := 117) (a := 117) c_1_15 (by decide); have e15 := lv_neT (k := 118) (a := 118) c_1_16 (by decide); have e16 := lv_neT (k := 119) (a := 119) c_1_17 (by decide); omega) (by decide) ?_
                                    refine K.iconst (q := 124) (v := 2) dX7_judgeOrder_123 rfl (by decide) ?_
                                    exact C.iret rfl rfl (by rw [r_X7_judgeOrder, if_neg c_1_1, if_neg c_1_2, if_neg c_1_3, if_neg c_1_4, if_neg c_1_5, if_neg c_1_6, if_neg c_1_7, if_neg c_1_8, if_neg c_1_9, if_neg c_1_10, if_neg c_1_11, if_neg c_1_12, if_neg c_1_13, if_neg c_1_14, if_neg c_1_15, if_neg c_1_16, if_neg c_1_17]) (by rw [x_X7_judgeOrder, if_neg c_1_1, if_neg c_1_2, if_neg c_1_3, if_neg c_1_4, if_neg c_1_5, if_neg c_1_6, if_neg c_1_7, if_neg c_1_8, if_neg c_1_9, if_neg c_1_10, if_neg c_1_11, if_neg c_1_12, if_neg c_1_13, if_neg c_1_14, if_neg c_1_15, if_neg c_1_16, if_neg c_1_17]) (Nat.le_of_ble_eq_true rfl) (Nat.le_of_ble_eq_true rfl) dX7_judgeOrder_124

def u_X7_carryOut (b : BD) (kind : Int32) (first : Int32) (second : Int32) : BD := (if kind = 103 then (u_X0_giveBack b first) else (if kind = 104 then b else (if kind = 105 then b else (if kind = 106 then b else (if kind = 107 then b else (if kind = 108 then (u_X0_lendTo b first second) else (if kind = 109 then b else (if kind = 110 then (u_X0_giveBackAll b first) else (if kind = 111 then b else (if kind = 112 then b else (if kind = 113 then (u_X0_lendOrQueue b first second) else (if kind = 114 then (u_X0_changeAmount b first second) else (if kind = 115 then b else (if kind = 116 then b else (if kind = 117 then b else (if kind = 118 then b else (if kind = 119 then (u_X0_changeWay b first) else b)))))))))))))))))
set_option maxRecDepth 20000 in
theorem s_X7_carryOut (X : GS) (b : BD) (kind : Int32) (first : Int32) (second : Int32) : Ct 7 0 0 yX7_carryOut (.code yX7_carryOut cX7_carryOut 4 none) [.ref 0, .int kind, .int first, .int second] (mkH (uB X 0 b)) (.inl none) (mkH (uB X 0 (u_X7_carryOut b kind first second))) := by
  refine Ct.of (LL := [some (.ref 0), some (.int kind), some (.int first), some (.int second)]) mkX7_carryOut.1 owX7_carryOut rfl (Nat.le_of_ble_eq_true rfl) rfl (fun Wk C => ?_)
  have K := C.core
  refine K.iload_n (q := 1) dX7_carryOut_0 rfl rfl ?_
  by_cases c_1_1 : kind = 103
  · refine K.tableIn (tgt := 110) dX7_carryOut_1 (by rw [c_1_1]; decide) (by rw [c_1_1]; decide) (by rw [c_1_1]; try rfl) (by decide) ?_
    refine K.aload_n (q := 111) dX7_carryOut_110 rfl rfl ?_
    refine K.getf (q := 114) (v := .ref 1) fo_X7_12.r rx0b (lt141 (by decide)) rfl dX7_carryOut_111 rfl ?_
    refine K.iload_n (q := 115) dX7_carryOut_114 rfl rfl ?_
    refine K.callV0 (q := 118) mkX0_giveBack mw_X7_82 (s_X0_giveBack _ _ _) rfl (by decide) rfl (lt141 (by decide)) rb1 (Nat.le_of_ble_eq_true rfl) (Nat.le_of_ble_eq_true rfl) (Nat.le_of_ble_eq_true rfl) dX7_carryOut_115 rfl ?_
    refine K.pop (q := 119) dX7_carryOut_118 rfl rfl ?_
    refine K.goto (tgt := 159) dX7_carryOut_119 (by decide) ?_
    exact C.vret rfl rfl (by rw [u_X7_carryOut, if_pos c_1_1]) (Nat.le_of_ble_eq_true rfl) (Nat.le_of_ble_eq_true rfl) dX7_carryOut_159
  · skip
    by_cases c_1_2 : kind = 104
    · refine K.tableIn (tgt := 159) dX7_carryOut_1 (by rw [c_1_2]; decide) (by rw [c_1_2]; decide) (by rw [c_1_2]; try rfl) (by decide) ?_
      exact C.vret rfl rfl (by rw [u_X7_carryOut, if_neg c_1_1, if_pos c_1_2]) (Nat.le_of_ble_eq_true rfl) (Nat.le_of_ble_eq_true rfl) dX7_carryOut_159
    · skip
      by_cases c_1_3 : kind = 105
      · refine K.tableIn (tgt := 159) dX7_carryOut_1 (by rw [c_1_3]; decide) (by rw [c_1_3]; decide) (by rw [c_1_3]; try rfl) (by decide) ?_
        exact C.vret rfl rfl (by rw [u_X7_carryOut, if_neg c_1_1, if_neg c_1_2, if_pos c_1_3]) (Nat.le_of_ble_eq_true rfl) (Nat.le_of_ble_eq_true rfl) dX7_carryOut_159
      · skip
        by_cases c_1_4 : kind = 106
        · refine K.tableIn (tgt := 159) dX7_carryOut_1 (by rw [c_1_4]; decide) (by rw [c_1_4]; decide) (by rw [c_1_4]; try rfl) (by decide) ?_
          exact C.vret rfl rfl (by rw [u_X7_carryOut, if_neg c_1_1, if_neg c_1_2, if_neg c_1_3, if_pos c_1_4]) (Nat.le_of_ble_eq_true rfl) (Nat.le_of_ble_eq_true rfl) dX7_carryOut_159
        · skip
          by_cases c_1_5 : kind = 107
          · refine K.tableIn (tgt := 159) dX7_carryOut_1 (by rw [c_1_5]; decide) (by rw [c_1_5]; decide) (by rw [c_1_5]; try rfl) (by decide) ?_
            exact C.vret rfl rfl (by rw [u_X7_carryOut, if_neg c_1_1, if_neg c_1_2, if_neg c_1_3, if_neg c_1_4, if_pos c_1_5]) (Nat.le_of_ble_eq_true rfl) (Nat.le_of_ble_eq_true rfl) dX7_carryOut_159
          · skip
            by_cases c_1_6 : kind = 108
            · refine K.tableIn (tgt := 84) dX7_carryOut_1 (by rw [c_1_6]; decide) (by rw [c_1_6]; decide) (by rw [c_1_6]; try rfl) (by decide) ?_
              refine K.aload_n (q := 85) dX7_carryOut_84 rfl rfl ?_
              refine K.getf (q := 88) (v := .ref 1) fo_X7_12.r rx0b (lt141 (by decide)) rfl dX7_carryOut_85 rfl ?_
              refine K.iload_n (q := 89) dX7_carryOut_88 rfl rfl ?_
              refine K.iload_n (q := 90) dX7_carryOut_89 rfl rfl ?_
              refine K.callV0 (q := 93) mkX0_lendTo mw_X7_69 (s_X0_lendTo _ _ _ _) rfl (by decide) rfl (lt141 (by decide)) rb1 (Nat.le_of_ble_eq_true rfl) (Nat.le_of_ble_eq_true rfl) (Nat.le_of_ble_eq_true rfl) dX7_carryOut_90 rfl ?_
              refine K.pop (q := 94) dX7_carryOut_93 rfl rfl ?_
              refine K.goto (tgt := 159) dX7_carryOut_94 (by decide) ?_
              exact C.vret rfl rfl (by rw [u_X7_carryOut, if_neg c_1_1, if_neg c_1_2, if_neg c_1_3, if_neg c_1_4, if_neg c_1_5, if_pos c_1_6]) (Nat.le_of_ble_eq_true rfl) (Nat.le_of_ble_eq_true rfl) dX7_carryOut_159
            · skip
              by_cases c_1_7 : kind = 109
              · refine K.tableIn (tgt := 159) dX7_carryOut_1 (by rw [c_1_7]; decide) (by rw [c_1_7]; decide) (by rw [c_1_7]; try rfl) (by decide) ?_
                exact C.vret rfl rfl (by rw [u_X7_carryOut, if_neg c_1_1, if_neg c_1_2, if_neg c_1_3, if_neg c_1_4, if_neg c_1_5, if_neg c_1_6, if_pos c_1_7]) (Nat.le_of_ble_eq_true rfl) (Nat.le_of_ble_eq_true rfl) dX7_carryOut_159
              · skip
                by_cases c_1_8 : kind = 110
                · refine K.tableIn (tgt := 122) dX7_carryOut_1 (by rw [c_1_8]; decide) (by rw [c_1_8]; decide) (by rw [c_1_8]; try rfl) (by decide) ?_
                  refine K.aload_n (q := 123) dX7_carryOut_122 rfl rfl ?_
                  refine K.getf (q := 126) (v := .ref 1) fo_X7_12.r rx0b (lt141 (by decide)) rfl dX7_carryOut_123 rfl ?_
                  refine K.iload_n (q := 127) dX7_carryOut_126 rfl rfl ?_
                  refine K.callV0 (q := 130) mkX0_giveBackAll mw_X7_88 (s_X0_giveBackAll _ _ _ (giveBackAll_ne _ _ _ _)) rfl (by decide) rfl (lt141 (by decide)) rb1 (Nat.le_of_ble_eq_true rfl) (Nat.le_of_ble_eq_true rfl) (Nat.le_of_ble_eq_true rfl) dX7_carryOut_127 rfl ?_
                  refine K.pop (q := 131) dX7_carryOut_130 rfl rfl ?_
                  refine K.goto (tgt := 159) dX7_carryOut_131 (by decide) ?_
                  exact C.vret rfl rfl (by rw [u_X7_carryOut, if_neg c_1_1, if_neg c_1_2, if_neg c_1_3, if_neg c_1_4, if_neg c_1_5, if_neg c_1_6, if_neg c_1_7, if_pos c_1_8]) (Nat.le_of_ble_eq_true rfl) (Nat.le_of_ble_eq_true rfl) dX7_carryOut_159
                · skip
                  by_cases c_1_9 : kind = 111
                  · refine K.tableIn (tgt := 159) dX7_carryOut_1 (by rw [c_1_9]; decide) (by rw [c_1_9]; decide) (by rw [c_1_9]; try rfl) (by decide) ?_
                    exact C.vret rfl rfl (by rw [u_X7_carryOut, if_neg c_1_1, if_neg c_1_2, if_neg c_1_3, if_neg c_1_4, if_neg c_1_5, if_neg c_1_6, if_neg c_1_7, if_neg c_1_8, if_pos c_1_9]) (Nat.le_of_ble_eq_true rfl) (Nat.le_of_ble_eq_true rfl) dX7_carryOut_159
                  · skip
                    by_cases c_1_10 : kind = 112
                    · refine K.tableIn (tgt := 159) dX7_carryOut_1 (by rw [c_1_10]; decide) (by rw [c_1_10]; decide) (by rw [c_1_10]; try rfl) (by decide) ?_
                      exact C.vret rfl rfl (by rw [u_X7_carryOut, if_neg c_1_1, if_neg c_1_2, if_neg c_1_3, if_neg c_1_4, if_neg c_1_5, if_neg c_1_6, if_neg c_1_7, if_neg c_1_8, if_neg c_1_9, if_pos c_1_10]) (Nat.le_of_ble_eq_true rfl) (Nat.le_of_ble_eq_true rfl) dX7_carryOut_159
                    · skip
                      by_cases c_1_11 : kind = 113
                      · refine K.tableIn (tgt := 97) dX7_carryOut_1 (by rw [c_1_11]; decide) (by rw [c_1_11]; decide) (by rw [c_1_11]; try rfl) (by decide) ?_
                        refine K.aload_n (q := 98) dX7_carryOut_97 rfl rfl ?_
                        refine K.getf (q := 101) (v := .ref 1) fo_X7_12.r rx0b (lt141 (by decide)) rfl dX7_carryOut_98 rfl ?_
                        refine K.iload_n (q := 102) dX7_carryOut_101 rfl rfl ?_
                        refine K.iload_n (q := 103) dX7_carryOut_102 rfl rfl ?_
                        refine K.callV0 (q := 106) mkX0_lendOrQueue mw_X7_75 (s_X0_lendOrQueue _ _ _ _) rfl (by decide) rfl (lt141 (by decide)) rb1 (Nat.le_of_ble_eq_true rfl) (Nat.le_of_ble_eq_true rfl) (Nat.le_of_ble_eq_true rfl) dX7_carryOut_103 rfl ?_
                        refine K.pop (q := 107) dX7_carryOut_106 rfl rfl ?_
                        refine K.goto (tgt := 159) dX7_carryOut_107 (by decide) ?_
                        exact C.vret rfl rfl (by rw [u_X7_carryOut, if_neg c_1_1, if_neg c_1_2, if_neg c_1_3, if_neg c_1_4, if_neg c_1_5, if_neg c_1_6, if_neg c_1_7, if_neg c_1_8, if_neg c_1_9, if_neg c_1_10, if_pos c_1_11]) (Nat.le_of_ble_eq_true rfl) (Nat.le_of_ble_eq_true rfl) dX7_carryOut_159
                      · skip
                        by_cases c_1_12 : kind = 114
                        · refine K.tableIn (tgt := 134) dX7_carryOut_1 (by rw [c_1_12]; decide) (by rw [c_1_12]; decide) (by rw [c_1_12]; try rfl) (by decide) ?_
                          refine K.aload_n (q := 135) dX7_carryOut_134 rfl rfl ?_
                          refine K.getf (q := 138) (v := .ref 1) fo_X7_12.r rx0b (lt141 (by decide)) rfl dX7_carryOut_135 rfl ?_
                          refine K.iload_n (q := 139) dX7_carryOut_138 rfl rfl ?_
                          refine K.iload_n (q := 140) dX7_carryOut_139 rfl rfl ?_
                          refine K.callV0 (q := 143) mkX0_changeAmount mw_X7_94 (s_X0_changeAmount _ _ _ _) rfl (by decide) rfl (lt141 (by decide)) rb1 (Nat.le_of_ble_eq_true rfl) (Nat.le_of_ble_eq_true rfl) (Nat.le_of_ble_eq_true rfl) dX7_carryOut_140 rfl ?_
                          refine K.pop (q := 144) dX7_carryOut_143 rfl rfl ?_
                          refine K.goto (tgt := 159) dX7_carryOut_144 (by decide) ?_
                          exact C.vret rfl rfl (by rw [u_X7_carryOut, if_neg c_1_1, if_neg c_1_2, if_neg c_1_3, if_neg c_1_4, if_neg c_1_5, if_neg c_1_6, if_neg c_1_7, if_neg c_1_8, if_neg c_1_9, if_neg c_1_10, if_neg c_1_11, if_pos c_1_12]) (Nat.le_of_ble_eq_true rfl) (Nat.le_of_ble_eq_true rfl) dX7_carryOut_159
                        · skip
                          by_cases c_1_13 : kind = 115
                          · refine K.tableIn (tgt := 159) dX7_carryOut_1 (by rw [c_1_13]; decide) (by rw [c_1_13]; decide) (by rw [c_1_13]; try rfl) (by decide) ?_
                            exact C.vret rfl rfl (by rw [u_X7_carryOut, if_neg c_1_1, if_neg c_1_2, if_neg c_1_3, if_neg c_1_4, if_neg c_1_5, if_neg c_1_6, if_neg c_1_7, if_neg c_1_8, if_neg c_1_9, if_neg c_1_10, if_neg c_1_11, if_neg c_1_12, if_pos c_1_13]) (Nat.le_of_ble_eq_true rfl) (Nat.le_of_ble_eq_true rfl) dX7_carryOut_159
                          · skip
                            by_cases c_1_14 : kind = 116
                            · refine K.tableIn (tgt := 159) dX7_carryOut_1 (by rw [c_1_14]; decide) (by rw [c_1_14]; decide) (by rw [c_1_14]; try rfl) (by decide) ?_
                              exact C.vret rfl rfl (by rw [u_X7_carryOut, if_neg c_1_1, if_neg c_1_2, if_neg c_1_3, if_neg c_1_4, if_neg c_1_5, if_neg c_1_6, if_neg c_1_7, if_neg c_1_8, if_neg c_1_9, if_neg c_1_10, if_neg c_1_11, if_neg c_1_12, if_neg c_1_13, if_pos c_1_14]) (Nat.le_of_ble_eq_true rfl) (Nat.le_of_ble_eq_true rfl) dX7_carryOut_159
                            · skip
                              by_cases c_1_15 : kind = 117
                              · refine K.tableIn (tgt := 159) dX7_carryOut_1 (by rw [c_1_15]; decide) (by rw [c_1_15]; decide) (by rw [c_1_15]; try rfl) (by decide) ?_
                                exact C.vret rfl rfl (by rw [u_X7_carryOut, if_neg c_1_1, if_neg c_1_2, if_neg c_1_3, if_neg c_1_4, if_neg c_1_5, if_neg c_1_6, if_neg c_1_7, if_neg c_1_8, if_neg c_1_9, if_neg c_1_10, if_neg c_1_11, if_neg c_1_12, if_neg c_1_13, if_neg c_1_14, if_pos c_1_15]) (Nat.le_of_ble_eq_true rfl) (Nat.le_of_ble_eq_true rfl) dX7_carryOut_159
                              · skip
                                by_cases c_1_16 : kind = 118
                                · refine K.tableIn (tgt := 159) dX7_carryOut_1 (by rw [c_1_16]; decide) (by rw [c_1_16]; decide) (by rw [c_1_16]; try rfl) (by decide) ?_
                                  exact C.vret rfl rfl (by rw [u_X7_carryOut, if_neg c_1_1, if_neg c_1_2, if_neg c_1_3, if_neg c_1_4, if_neg c_1_5, if_neg c_1_6, if_neg c_1_7, if_neg c_1_8, if_neg c_1_9, if_neg c_1_10, if_neg c_1_11, if_neg c_1_12, if_neg c_1_13, if_neg c_1_14, if_neg c_1_15, if_pos c_1_16]) (Nat.le_of_ble_eq_true rfl) (Nat.le_of_ble_eq_true rfl) dX7_carryOut_159
                                · skip
                                  by_cases c_1_17 : kind = 119
                                  · refine K.tableIn (tgt := 147) dX7_carryOut_1 (by rw [c_1_17]; decide) (by rw [c_1_17]; decide) (by rw [c_1_17]; try rfl) (by decide) ?_
                                    refine K.aload_n (q := 148) dX7_carryOut_147 rfl rfl ?_
                                    refine K.getf (q := 151) (v := .ref 1) fo_X7_12.r rx0b (lt141 (by decide)) rfl dX7_carryOut_148 rfl ?_
                                    refine K.iload_n (q := 152) dX7_carryOut_151 rfl rfl ?_
                                    refine K.callV0 (q := 155) mkX0_changeWay mw_X7_100 (s_X0_changeWay _ _ _) rfl (by decide) rfl (lt141 (by decide)) rb1 (Nat.le_of_ble_eq_true rfl) (Nat.le_of_ble_eq_true rfl) (Nat.le_of_ble_eq_true rfl) dX7_carryOut_152 rfl ?_
                                    refine K.pop (q := 156) dX7_carryOut_155 rfl rfl ?_
                                    refine K.goto (tgt := 159) dX7_carryOut_156 (by decide) ?_
                                    exact C.vret rfl rfl (by rw [u_X7_carryOut, if_neg c_1_1, if_neg c_1_2, if_neg c_1_3, if_neg c_1_4, if_neg c_1_5, if_neg c_1_6, if_neg c_1_7, if_neg c_1_8, if_neg c_1_9, if_neg c_1_10, if_neg c_1_11, if_neg c_1_12, if_neg c_1_13, if_neg c_1_14, if_neg c_1_15, if_neg c_1_16, if_pos c_1_17]) (Nat.le_of_ble_eq_true rfl) (Nat.le_of_ble_eq_true rfl) dX7_carryOut_159
                                  · skip
                                    refine K.tableOut (tgt := 159) dX7_carryOut_1 (by have e0 := lv_neT (k := 103) (a := 103) c_1_1 (by decide); have e1 := lv_neT (k := 104) (a := 104) c_1_2 (by decide); have e2 := lv_neT (k := 105) (a := 105) c_1_3 (by decide); have e3 := lv_neT (k := 106) (a := 106) c_1_4 (by decide); have e4 := lv_neT (k := 107) (a := 107) c_1_5 (by decide); have e5 := lv_neT (k := 108) (a := 108) c_1_6 (by decide); have e6 := lv_neT (k := 109) (a := 109) c_1_7 (by decide); have e7 := lv_neT (k := 110) (a := 110) c_1_8 (by decide); have e8 := lv_neT (k := 111) (a := 111) c_1_9 (by decide); have e9 := lv_neT (k := 112) (a := 112) c_1_10 (by decide); have e10 := lv_neT (k := 113) (a := 113) c_1_11 (by decide); have e11 := lv_neT (k := 114) (a := 114) c_1_12 (by decide); have e12 := lv_neT (k := 115) (a := 115) c_1_13 (by decide); have e13 := lv_neT (k := 116) (a := 116) c_1_14 (by decide); have e14 := lv_neT (k := 117) (a := 117) c_1_15 (by decide); have e15 := lv_neT (k := 118) (a := 118) c_1_16 (by decide); have e16 := lv_neT (k := 119) (a := 119) c_1_17 (by decide); omega) (by decide) ?_
                                    exact C.vret rfl rfl (by rw [u_X7_carryOut, if_neg c_1_1, if_neg c_1_2, if_neg c_1_3, if_neg c_1_4, if_neg c_1_5, if_neg c_1_6, if_neg c_1_7, if_neg c_1_8, if_neg c_1_9, if_neg c_1_10, if_neg c_1_11, if_neg c_1_12, if_neg c_1_13, if_neg c_1_14, if_neg c_1_15, if_neg c_1_16, if_neg c_1_17]) (Nat.le_of_ble_eq_true rfl) (Nat.le_of_ble_eq_true rfl) dX7_carryOut_159

def e_X7_insist (verdict : Int32) : String := (if verdict = 1 then "java/lang/IndexOutOfBoundsException" else (if verdict = 2 then "java/lang/IllegalArgumentException" else (if verdict = 3 then "java/lang/UnsupportedOperationException" else "")))
set_option maxRecDepth 20000 in
theorem s_X7_insist (X : GS) (b : BD) (verdict : Int32) : Ct 6 1 6 yX7_insist (.code yX7_insist cX7_insist 1 none) [.int verdict] (mkH (uB X 0 b)) (rT (e_X7_insist verdict) none) (mkH (uB X 0 b)) := by
  refine Ct.of (LL := [some (.int verdict)]) mkX7_insist.1 owX7_insist rfl (Nat.le_of_ble_eq_true rfl) rfl (fun Wk C => ?_)
  have K := C.core
  refine K.iload_n (q := 1) dX7_insist_0 rfl rfl ?_
  refine K.iconst (q := 2) (v := 1) dX7_insist_1 rfl (by decide) ?_
  refine K.icmp_ne (q := 5) (tgt := 15) dX7_insist_2 rfl (by decide) (fun c_2_1 => ?_) (fun c_2_1 => ?_)
  · refine K.iload_n (q := 16) dX7_insist_15 rfl rfl ?_
    refine K.iconst (q := 17) (v := 2) dX7_insist_16 rfl (by decide) ?_
    refine K.icmp_ne (q := 20) (tgt := 31) dX7_insist_17 rfl (by decide) (fun c_17_2 => ?_) (fun c_17_2 => ?_)
    · refine K.iload_n (q := 32) dX7_insist_31 rfl rfl ?_
      refine K.iconst (q := 33) (v := 3) dX7_insist_32 rfl (by decide) ?_
      refine K.icmp_ne (q := 36) (tgt := 47) dX7_insist_33 rfl (by decide) (fun c_33_3 => ?_) (fun c_33_3 => ?_)
      · exact C.vret rfl (by rw [rT, if_pos (by rw [e_X7_insist, if_neg c_2_1, if_neg c_17_2, if_neg c_33_3])]) rfl (Nat.le_of_ble_eq_true rfl) (Nat.le_of_ble_eq_true rfl) dX7_insist_47
      · exact (C.cast (by rw [rT, if_neg (by rw [e_X7_insist, if_neg c_2_1, if_neg c_17_2, if_pos c_33_3]; decide), e_X7_insist, if_neg c_2_1, if_neg c_17_2, if_pos c_33_3]) rfl).throwSW (is := 378) (text := "refused") tok_UOE (by decide) rfl (by decide) (Nat.le_of_ble_eq_true rfl) (Nat.le_of_ble_eq_true rfl) (Nat.le_of_ble_eq_true rfl) dX7_insist_36 dX7_insist_39 dX7_insist_40 dX7_insist_43 dX7_insist_46
    · exact (C.cast (by rw [rT, if_neg (by rw [e_X7_insist, if_neg c_2_1, if_pos c_17_2]; decide), e_X7_insist, if_neg c_2_1, if_pos c_17_2]) rfl).throwSW (is := 376) (text := "no such name, amount or way") tok_IAE (by decide) rfl (by decide) (Nat.le_of_ble_eq_true rfl) (Nat.le_of_ble_eq_true rfl) (Nat.le_of_ble_eq_true rfl) dX7_insist_20 dX7_insist_23 dX7_insist_24 dX7_insist_27 dX7_insist_30
  · exact (C.cast (by rw [rT, if_neg (by rw [e_X7_insist, if_pos c_2_1]; decide), e_X7_insist, if_pos c_2_1]) rfl).throwS (is := 133) (text := "no such loan") tok_IOOBE (by decide) rfl (by decide) (Nat.le_of_ble_eq_true rfl) (Nat.le_of_ble_eq_true rfl) (Nat.le_of_ble_eq_true rfl) dX7_insist_5 dX7_insist_8 dX7_insist_9 dX7_insist_11 dX7_insist_14

def r_X7_insistOnNeed (amount : Int32) : Int32 := (if (r_X7_isAmount amount) = 0 then 0 else (r_X7_needOf amount))

def e_X7_insistOnNeed (amount : Int32) : String := (if (r_X7_isAmount amount) = 0 then "java/lang/IllegalArgumentException" else "")
set_option maxRecDepth 20000 in
theorem s_X7_insistOnNeed (X : GS) (b : BD) (amount : Int32) : Ct 6 1 6 yX7_insistOnNeed (.code yX7_insistOnNeed cX7_insistOnNeed 1 (some (.int))) [.int amount] (mkH (uB X 0 b)) (rT (e_X7_insistOnNeed amount) (some (.int (r_X7_insistOnNeed amount)))) (mkH (uB X 0 b)) := by
  refine Ct.of (LL := [some (.int amount)]) mkX7_insistOnNeed.1 owX7_insistOnNeed rfl (Nat.le_of_ble_eq_true rfl) rfl (fun Wk C => ?_)
  have K := C.core
  refine K.iload_n (q := 1) dX7_insistOnNeed_0 rfl rfl ?_
  refine K.callS0 (q := 4) mkX7_isAmount mw_X7_361 (s_X7_isAmount _ _) rfl (by decide) rfl (Nat.le_of_ble_eq_true rfl) (Nat.le_of_ble_eq_true rfl) (Nat.le_of_ble_eq_true rfl) dX7_insistOnNeed_1 rfl ?_
  refine K.if_ne (q := 7) (tgt := 18) dX7_insistOnNeed_4 rfl (by decide) (fun c_4_1 => ?_) (fun c_4_1 => ?_)
  · refine K.iload_n (q := 19) dX7_insistOnNeed_18 rfl rfl ?_
    refine K.callS0 (q := 22) mkX7_needOf mw_X7_367 (s_X7_needOf _ _ (lp_needOf_ne _)) rfl (by decide) rfl (Nat.le_of_ble_eq_true rfl) (Nat.le_of_ble_eq_true rfl) (Nat.le_of_ble_eq_true rfl) dX7_insistOnNeed_19 rfl ?_
    exact C.iret rfl rfl (by rw [rT, if_pos (by rw [e_X7_insistOnNeed, if_neg c_4_1]), r_X7_insistOnNeed, if_neg c_4_1]) rfl (Nat.le_of_ble_eq_true rfl) (Nat.le_of_ble_eq_true rfl) dX7_insistOnNeed_22
  · exact (C.cast (by rw [rT, if_neg (by rw [e_X7_insistOnNeed, if_pos c_4_1]; decide), e_X7_insistOnNeed, if_pos c_4_1]) rfl).throwSW (is := 380) (text := "no such amount") tok_IAE (by decide) rfl (by decide) (Nat.le_of_ble_eq_true rfl) (Nat.le_of_ble_eq_true rfl) (Nat.le_of_ble_eq_true rfl) dX7_insistOnNeed_7 dX7_insistOnNeed_10 dX7_insistOnNeed_11 dX7_insistOnNeed_14 dX7_insistOnNeed_17

def r_X7_insistOnPiece (b : BD) (need : Int32) : Int32 := (if 0 ≤ (r_X5_find b need) then (r_X5_find b need) else 0)

def e_X7_insistOnPiece (b : BD) (need : Int32) : String := (if 0 ≤ (r_X5_find b need) then "" else nseN)
set_option maxRecDepth 20000 in
theorem s_X7_insistOnPiece (X : GS) (b : BD) (need : Int32) : Ct 6 1 6 yX7_insistOnPiece (.code yX7_insistOnPiece cX7_insistOnPiece 3 (some (.int))) [.ref 0, .int need] (mkH (uB X 0 b)) (rT (e_X7_insistOnPiece b need) (some (.int (r_X7_insistOnPiece b need)))) (mkH (uB X 0 b)) := by
  refine Ct.of (LL := [some (.ref 0), some (.int need), none]) mkX7_insistOnPiece.1 owX7_insistOnPiece rfl (Nat.le_of_ble_eq_true rfl) rfl (fun Wk C => ?_)
  have K := C.core
  refine K.aload_n (q := 1) dX7_insistOnPiece_0 rfl rfl ?_
  refine K.getf (q := 4) (v := .ref 1) fo_X7_12.r rx0b (lt141 (by decide)) rfl dX7_insistOnPiece_1 rfl ?_
  refine K.getf (q := 7) (v := .ref 2) fo_X7_203 rb1 (lt141 (by decide)) rfl dX7_insistOnPiece_4 rfl ?_
  refine K.iload_n (q := 8) dX7_insistOnPiece_7 rfl rfl ?_
  refine K.callV0 (q := 11) mkX5_find mw_X7_382 (s_X5_find _ _ _) rfl (by decide) rfl (lt141 (by decide)) rb2 (Nat.le_of_ble_eq_true rfl) (Nat.le_of_ble_eq_true rfl) (Nat.le_of_ble_eq_true rfl) dX7_insistOnPiece_8 rfl ?_
  refine K.istore_n (q := 12) (i := 2) dX7_insistOnPiece_11 rfl rfl (by decide) rfl ?_
  refine K.iload_n (q := 13) dX7_insistOnPiece_12 rfl rfl ?_
  refine K.if_ge (q := 16) (tgt := 27) dX7_insistOnPiece_13 rfl (by decide) (fun c_13_1 => ?_) (fun c_13_1 => ?_)
  · refine K.iload_n (q := 28) dX7_insistOnPiece_27 rfl rfl ?_
    exact C.iret rfl rfl (by rw [rT, if_pos (by rw [e_X7_insistOnPiece, if_pos c_13_1]), r_X7_insistOnPiece, if_pos c_13_1]) rfl (Nat.le_of_ble_eq_true rfl) (Nat.le_of_ble_eq_true rfl) dX7_insistOnPiece_28
  · exact (C.cast (by rw [rT, if_neg (by rw [e_X7_insistOnPiece, if_neg c_13_1]; decide), e_X7_insistOnPiece, if_neg c_13_1]) rfl).throwN (is := 385) (ln := 3) (text := "no free piece is large enough") nok (by decide) rfl (by decide) (Nat.le_of_ble_eq_true rfl) (Nat.le_of_ble_eq_true rfl) (Nat.le_of_ble_eq_true rfl) dX7_insistOnPiece_16 dX7_insistOnPiece_19 (by first | exact Or.inl ⟨rfl, dX7_insistOnPiece_20⟩ | exact Or.inr ⟨rfl, dX7_insistOnPiece_20⟩) dX7_insistOnPiece_23 dX7_insistOnPiece_26
