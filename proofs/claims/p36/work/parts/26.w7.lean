def r_X4_has (X : GS) (order : Int32) : Int32 := (if order < 0 then 0 else (if (X.2.1 3) ≤ order then 0 else (if 20 ≤ order then 0 else 1)))
set_option maxRecDepth 20000 in
theorem s_X4_has (X : GS) (b : BD) (order : Int32) : Ct 1 0 0 yX4_has (.code yX4_has cX4_has 2 (some (.boolean))) [.ref 126, .int order] (mkH (uB X 0 b)) (.inl (some (.int (r_X4_has X order)))) (mkH (uB X 0 b)) := by
  refine Ct.of (LL := [some (.ref 126), some (.int order)]) mkX4_has.1 owX4_has rfl (Nat.le_of_ble_eq_true rfl) rfl (fun Wk C => ?_)
  have K := C.core
  refine K.iload_n (q := 1) dX4_has_0 rfl rfl ?_
  refine K.if_lt (q := 4) (tgt := 22) dX4_has_1 rfl (by decide) (fun c_1_1 => ?_) (fun c_1_1 => ?_)
  · refine K.iconst (q := 23) (v := 0) dX4_has_22 rfl (by decide) ?_
    exact C.iret rfl rfl (by rw [r_X4_has, if_pos c_1_1]) rfl (Nat.le_of_ble_eq_true rfl) (Nat.le_of_ble_eq_true rfl) dX4_has_23
  · refine K.iload_n (q := 5) dX4_has_4 rfl rfl ?_
    refine K.aload_n (q := 6) dX4_has_5 rfl rfl ?_
    refine K.getf (q := 9) (v := .int (X.2.1 3)) fo_X4_21.r rx126b (lt141 (by decide)) rfl dX4_has_6 rfl ?_
    refine K.icmp_ge (q := 12) (tgt := 22) dX4_has_9 rfl (by decide) (fun c_9_2 => ?_) (fun c_9_2 => ?_)
    · refine K.iconst (q := 23) (v := 0) dX4_has_22 rfl (by decide) ?_
      exact C.iret rfl rfl (by rw [r_X4_has, if_neg c_1_1, if_pos c_9_2]) rfl (Nat.le_of_ble_eq_true rfl) (Nat.le_of_ble_eq_true rfl) dX4_has_23
    · refine K.iload_n (q := 13) dX4_has_12 rfl rfl ?_
      refine K.bipush (q := 15) (v := 20) dX4_has_13 rfl (by decide) ?_
      refine K.icmp_ge (q := 18) (tgt := 22) dX4_has_15 rfl (by decide) (fun c_15_3 => ?_) (fun c_15_3 => ?_)
      · refine K.iconst (q := 23) (v := 0) dX4_has_22 rfl (by decide) ?_
        exact C.iret rfl rfl (by rw [r_X4_has, if_neg c_1_1, if_neg c_9_2, if_pos c_15_3]) rfl (Nat.le_of_ble_eq_true rfl) (Nat.le_of_ble_eq_true rfl) dX4_has_23
      · refine K.iconst (q := 19) (v := 1) dX4_has_18 rfl (by decide) ?_
        refine K.goto (tgt := 23) dX4_has_19 (by decide) ?_
        exact C.iret rfl rfl (by rw [r_X4_has, if_neg c_1_1, if_neg c_9_2, if_neg c_15_3]) rfl (Nat.le_of_ble_eq_true rfl) (Nat.le_of_ble_eq_true rfl) dX4_has_23

theorem hasO {X : GS} {x : Int32} (h : ¬ r_X4_has X x = 0) : ¬ x < 0 ∧ ¬ (20 : Int32) ≤ x ∧ ¬ (X.2.1 3) ≤ x := by
  unfold r_X4_has at h
  by_cases h1 : x < 0
  · rw [if_pos h1] at h; exact absurd rfl h
  · rw [if_neg h1] at h
    by_cases h2 : (X.2.1 3) ≤ x
    · rw [if_pos h2] at h; exact absurd rfl h
    · rw [if_neg h2] at h
      by_cases h3 : (20 : Int32) ≤ x
      · rw [if_pos h3] at h; exact absurd rfl h
      · exact ⟨h1, h3, h2⟩

def r_X4_kindAt (X : GS) (order : Int32) : Int32 := (if (r_X4_has X order) = 0 then 0 else ((X.2.2.1 1) (order.toNatClampNeg)))
set_option maxRecDepth 20000 in
theorem s_X4_kindAt (X : GS) (b : BD) (order : Int32) : Ct 2 0 0 yX4_kindAt (.code yX4_kindAt cX4_kindAt 2 (some (.int))) [.ref 126, .int order] (mkH (uB X 0 b)) (.inl (some (.int (r_X4_kindAt X order)))) (mkH (uB X 0 b)) := by
  refine Ct.of (LL := [some (.ref 126), some (.int order)]) mkX4_kindAt.1 owX4_kindAt rfl (Nat.le_of_ble_eq_true rfl) rfl (fun Wk C => ?_)
  have K := C.core
  refine K.aload_n (q := 1) dX4_kindAt_0 rfl rfl ?_
  refine K.iload_n (q := 2) dX4_kindAt_1 rfl rfl ?_
  refine K.callV0 (q := 5) mkX4_has mw_X4_38 (s_X4_has _ _ _) rfl (by decide) rfl (lt141 (by decide)) rx126b (Nat.le_of_ble_eq_true rfl) (Nat.le_of_ble_eq_true rfl) (Nat.le_of_ble_eq_true rfl) dX4_kindAt_2 rfl ?_
  refine K.if_eq (q := 8) (tgt := 17) dX4_kindAt_5 rfl (by decide) (fun c_5_1 => ?_) (fun c_5_1 => ?_)
  · refine K.iconst (q := 18) (v := 0) dX4_kindAt_17 rfl (by decide) ?_
    exact C.iret rfl rfl (by rw [r_X4_kindAt, if_pos c_5_1]) rfl (Nat.le_of_ble_eq_true rfl) (Nat.le_of_ble_eq_true rfl) dX4_kindAt_18
  · refine K.aload_n (q := 9) dX4_kindAt_8 rfl rfl ?_
    refine K.getf (q := 12) (v := .ref 127) fo_X4_9.r rx126b (lt141 (by decide)) rfl dX4_kindAt_9 rfl ?_
    refine K.iload_n (q := 13) dX4_kindAt_12 rfl rfl ?_
    refine K.ial (q := 14) (f := (X.2.2.1 1)) (m := (order.toNatClampNeg)) rx127b (lt141 (by decide)) (cl_nI (hasO c_5_1).1) (cl_lt (hasO c_5_1).1 (hasO c_5_1).2.1 (by decide)) (by decide) dX4_kindAt_13 rfl ?_
    refine K.goto (tgt := 18) dX4_kindAt_14 (by decide) ?_
    exact C.iret rfl rfl (by rw [r_X4_kindAt, if_neg c_5_1]) rfl (Nat.le_of_ble_eq_true rfl) (Nat.le_of_ble_eq_true rfl) dX4_kindAt_18

def r_X4_firstAt (X : GS) (order : Int32) : Int32 := (if (r_X4_has X order) = 0 then 0 else ((X.2.2.1 2) (order.toNatClampNeg)))
set_option maxRecDepth 20000 in
theorem s_X4_firstAt (X : GS) (b : BD) (order : Int32) : Ct 2 0 0 yX4_firstAt (.code yX4_firstAt cX4_firstAt 2 (some (.int))) [.ref 126, .int order] (mkH (uB X 0 b)) (.inl (some (.int (r_X4_firstAt X order)))) (mkH (uB X 0 b)) := by
  refine Ct.of (LL := [some (.ref 126), some (.int order)]) mkX4_firstAt.1 owX4_firstAt rfl (Nat.le_of_ble_eq_true rfl) rfl (fun Wk C => ?_)
  have K := C.core
  refine K.aload_n (q := 1) dX4_firstAt_0 rfl rfl ?_
  refine K.iload_n (q := 2) dX4_firstAt_1 rfl rfl ?_
  refine K.callV0 (q := 5) mkX4_has mw_X4_38 (s_X4_has _ _ _) rfl (by decide) rfl (lt141 (by decide)) rx126b (Nat.le_of_ble_eq_true rfl) (Nat.le_of_ble_eq_true rfl) (Nat.le_of_ble_eq_true rfl) dX4_firstAt_2 rfl ?_
  refine K.if_eq (q := 8) (tgt := 17) dX4_firstAt_5 rfl (by decide) (fun c_5_1 => ?_) (fun c_5_1 => ?_)
  · refine K.iconst (q := 18) (v := 0) dX4_firstAt_17 rfl (by decide) ?_
    exact C.iret rfl rfl (by rw [r_X4_firstAt, if_pos c_5_1]) rfl (Nat.le_of_ble_eq_true rfl) (Nat.le_of_ble_eq_true rfl) dX4_firstAt_18
  · refine K.aload_n (q := 9) dX4_firstAt_8 rfl rfl ?_
    refine K.getf (q := 12) (v := .ref 128) fo_X4_15.r rx126b (lt141 (by decide)) rfl dX4_firstAt_9 rfl ?_
    refine K.iload_n (q := 13) dX4_firstAt_12 rfl rfl ?_
    refine K.ial (q := 14) (f := (X.2.2.1 2)) (m := (order.toNatClampNeg)) rx128b (lt141 (by decide)) (cl_nI (hasO c_5_1).1) (cl_lt (hasO c_5_1).1 (hasO c_5_1).2.1 (by decide)) (by decide) dX4_firstAt_13 rfl ?_
    refine K.goto (tgt := 18) dX4_firstAt_14 (by decide) ?_
    exact C.iret rfl rfl (by rw [r_X4_firstAt, if_neg c_5_1]) rfl (Nat.le_of_ble_eq_true rfl) (Nat.le_of_ble_eq_true rfl) dX4_firstAt_18

def r_X4_secondAt (X : GS) (order : Int32) : Int32 := (if (r_X4_has X order) = 0 then 0 else ((X.2.2.1 3) (order.toNatClampNeg)))
set_option maxRecDepth 20000 in
theorem s_X4_secondAt (X : GS) (b : BD) (order : Int32) : Ct 2 0 0 yX4_secondAt (.code yX4_secondAt cX4_secondAt 2 (some (.int))) [.ref 126, .int order] (mkH (uB X 0 b)) (.inl (some (.int (r_X4_secondAt X order)))) (mkH (uB X 0 b)) := by
  refine Ct.of (LL := [some (.ref 126), some (.int order)]) mkX4_secondAt.1 owX4_secondAt rfl (Nat.le_of_ble_eq_true rfl) rfl (fun Wk C => ?_)
  have K := C.core
  refine K.aload_n (q := 1) dX4_secondAt_0 rfl rfl ?_
  refine K.iload_n (q := 2) dX4_secondAt_1 rfl rfl ?_
  refine K.callV0 (q := 5) mkX4_has mw_X4_38 (s_X4_has _ _ _) rfl (by decide) rfl (lt141 (by decide)) rx126b (Nat.le_of_ble_eq_true rfl) (Nat.le_of_ble_eq_true rfl) (Nat.le_of_ble_eq_true rfl) dX4_secondAt_2 rfl ?_
  refine K.if_eq (q := 8) (tgt := 17) dX4_secondAt_5 rfl (by decide) (fun c_5_1 => ?_) (fun c_5_1 => ?_)
  · refine K.iconst (q := 18) (v := 0) dX4_secondAt_17 rfl (by decide) ?_
    exact C.iret rfl rfl (by rw [r_X4_secondAt, if_pos c_5_1]) rfl (Nat.le_of_ble_eq_true rfl) (Nat.le_of_ble_eq_true rfl) dX4_secondAt_18
  · refine K.aload_n (q := 9) dX4_secondAt_8 rfl rfl ?_
    refine K.getf (q := 12) (v := .ref 129) fo_X4_18.r rx126b (lt141 (by decide)) rfl dX4_secondAt_9 rfl ?_
    refine K.iload_n (q := 13) dX4_secondAt_12 rfl rfl ?_
    refine K.ial (q := 14) (f := (X.2.2.1 3)) (m := (order.toNatClampNeg)) rx129b (lt141 (by decide)) (cl_nI (hasO c_5_1).1) (cl_lt (hasO c_5_1).1 (hasO c_5_1).2.1 (by decide)) (by decide) dX4_secondAt_13 rfl ?_
    refine K.goto (tgt := 18) dX4_secondAt_14 (by decide) ?_
    exact C.iret rfl rfl (by rw [r_X4_secondAt, if_neg c_5_1]) rfl (Nat.le_of_ble_eq_true rfl) (Nat.le_of_ble_eq_true rfl) dX4_secondAt_18

def r_X4_isFull (X : GS) : Int32 := (if (X.2.1 4) < 60 then 0 else 1)
set_option maxRecDepth 20000 in
theorem s_X4_isFull (X : GS) (b : BD) : Ct 1 0 0 yX4_isFull (.code yX4_isFull cX4_isFull 1 (some (.boolean))) [.ref 126] (mkH (uB X 0 b)) (.inl (some (.int (r_X4_isFull X)))) (mkH (uB X 0 b)) := by
  refine Ct.of (LL := [some (.ref 126)]) mkX4_isFull.1 owX4_isFull rfl (Nat.le_of_ble_eq_true rfl) rfl (fun Wk C => ?_)
  have K := C.core
  refine K.aload_n (q := 1) dX4_isFull_0 rfl rfl ?_
  refine K.getf (q := 4) (v := .int (X.2.1 4)) fo_X4_29.r rx126b (lt141 (by decide)) rfl dX4_isFull_1 rfl ?_
  refine K.bipush (q := 6) (v := 60) dX4_isFull_4 rfl (by decide) ?_
  refine K.icmp_lt (q := 9) (tgt := 13) dX4_isFull_6 rfl (by decide) (fun c_6_1 => ?_) (fun c_6_1 => ?_)
  · refine K.iconst (q := 14) (v := 0) dX4_isFull_13 rfl (by decide) ?_
    exact C.iret rfl rfl (by rw [r_X4_isFull, if_pos c_6_1]) rfl (Nat.le_of_ble_eq_true rfl) (Nat.le_of_ble_eq_true rfl) dX4_isFull_14
  · refine K.iconst (q := 10) (v := 1) dX4_isFull_9 rfl (by decide) ?_
    refine K.goto (tgt := 14) dX4_isFull_10 (by decide) ?_
    exact C.iret rfl rfl (by rw [r_X4_isFull, if_neg c_6_1]) rfl (Nat.le_of_ble_eq_true rfl) (Nat.le_of_ble_eq_true rfl) dX4_isFull_14

def x_X4_addSign (X : GS) (sign : Int32) : GS := (if (X.2.1 4) < 0 then X else (if 60 ≤ (X.2.1 4) then X else (uS (uA X 4 (up (X.2.2.1 4) ((X.2.1 4).toNatClampNeg) (vp_nar .char sign))) 4 ((X.2.1 4) + 1))))
set_option maxRecDepth 20000 in
theorem s_X4_addSign (X : GS) (b : BD) (sign : Int32) : Ct 1 0 0 yX4_addSign (.code yX4_addSign cX4_addSign 2 none) [.ref 126, .int sign] (mkH (uB X 0 b)) (.inl none) (mkH (uB (x_X4_addSign X sign) 0 b)) := by
  refine Ct.of (LL := [some (.ref 126), some (.int sign)]) mkX4_addSign.1 owX4_addSign rfl (Nat.le_of_ble_eq_true rfl) rfl (fun Wk C => ?_)
  have K := C.core
  refine K.aload_n (q := 1) dX4_addSign_0 rfl rfl ?_
  refine K.getf (q := 4) (v := .int (X.2.1 4)) fo_X4_29.r rx126b (lt141 (by decide)) rfl dX4_addSign_1 rfl ?_
  refine K.if_lt (q := 7) (tgt := 36) dX4_addSign_4 rfl (by decide) (fun c_4_1 => ?_) (fun c_4_1 => ?_)
  · exact C.vret rfl rfl (by rw [x_X4_addSign, if_pos c_4_1]) (Nat.le_of_ble_eq_true rfl) (Nat.le_of_ble_eq_true rfl) dX4_addSign_36
  · refine K.aload_n (q := 8) dX4_addSign_7 rfl rfl ?_
    refine K.getf (q := 11) (v := .int (X.2.1 4)) fo_X4_29.r rx126b (lt141 (by decide)) rfl dX4_addSign_8 rfl ?_
    refine K.bipush (q := 13) (v := 60) dX4_addSign_11 rfl (by decide) ?_
    refine K.icmp_ge (q := 16) (tgt := 36) dX4_addSign_13 rfl (by decide) (fun c_13_2 => ?_) (fun c_13_2 => ?_)
    · exact C.vret rfl rfl (by rw [x_X4_addSign, if_neg c_4_1, if_pos c_13_2]) (Nat.le_of_ble_eq_true rfl) (Nat.le_of_ble_eq_true rfl) dX4_addSign_36
    · refine K.aload_n (q := 17) dX4_addSign_16 rfl rfl ?_
      refine K.getf (q := 20) (v := .ref 130) fo_X4_25.r rx126b (lt141 (by decide)) rfl dX4_addSign_17 rfl ?_
      refine K.aload_n (q := 21) dX4_addSign_20 rfl rfl ?_
      refine K.getf (q := 24) (v := .int (X.2.1 4)) fo_X4_29.r rx126b (lt141 (by decide)) rfl dX4_addSign_21 rfl ?_
      refine K.iload_n (q := 25) dX4_addSign_24 rfl rfl ?_
      refine K.cas (q := 26) (f := (X.2.2.1 4)) (m := ((X.2.1 4).toNatClampNeg)) rx130b (lt141 (by decide)) rfl (cl_nI c_4_1) (cl_lt c_4_1 c_13_2 (by decide)) (by decide) pxa4b dX4_addSign_25 rfl ?_
      refine K.aload_n (q := 27) dX4_addSign_26 rfl rfl ?_
      refine K.dup (q := 28) dX4_addSign_27 rfl rfl ?_
      refine K.getf (q := 31) (v := .int (X.2.1 4)) fo_X4_29.r rx126b (lt141 (by decide)) rfl dX4_addSign_28 rfl ?_
      refine K.iconst (q := 32) (v := 1) dX4_addSign_31 rfl (by decide) ?_
      refine K.iadd (q := 33) dX4_addSign_32 rfl ?_
      refine K.putf (q := 36) fo_X4_29 rx126b (lt141 (by decide)) (Nat.le_of_ble_eq_true rfl) (fun _ => rfl) (fun _ => rfl) pxs4b dX4_addSign_33 rfl ?_
      exact C.vret rfl rfl (by rw [x_X4_addSign, if_neg c_4_1, if_neg c_13_2]) (Nat.le_of_ble_eq_true rfl) (Nat.le_of_ble_eq_true rfl) dX4_addSign_36

def x_X4_clearText (X : GS) : GS := (uS X 4 0)
set_option maxRecDepth 20000 in
theorem s_X4_clearText (X : GS) (b : BD) : Ct 1 0 0 yX4_clearText (.code yX4_clearText cX4_clearText 1 none) [.ref 126] (mkH (uB X 0 b)) (.inl none) (mkH (uB (x_X4_clearText X) 0 b)) := by
  refine Ct.of (LL := [some (.ref 126)]) mkX4_clearText.1 owX4_clearText rfl (Nat.le_of_ble_eq_true rfl) rfl (fun Wk C => ?_)
  have K := C.core
  refine K.aload_n (q := 1) dX4_clearText_0 rfl rfl ?_
  refine K.iconst (q := 2) (v := 0) dX4_clearText_1 rfl (by decide) ?_
  refine K.putf (q := 5) fo_X4_29 rx126b (lt141 (by decide)) (Nat.le_of_ble_eq_true rfl) (fun _ => rfl) (fun _ => rfl) pxs4b dX4_clearText_2 rfl ?_
  exact C.vret rfl rfl (by rw [x_X4_clearText]) (Nat.le_of_ble_eq_true rfl) (Nat.le_of_ble_eq_true rfl) dX4_clearText_5

def x_X4_put (X : GS) (order : Int32) (kind : Int32) (first : Int32) (second : Int32) : GS := (if order < 0 then X else (if 20 ≤ order then X else (uA (uA (uA X 1 (up (X.2.2.1 1) (order.toNatClampNeg) kind)) 2 (up (X.2.2.1 2) (order.toNatClampNeg) first)) 3 (up (X.2.2.1 3) (order.toNatClampNeg) second))))
set_option maxRecDepth 20000 in
theorem s_X4_put (X : GS) (b : BD) (order : Int32) (kind : Int32) (first : Int32) (second : Int32) : Ct 1 0 0 yX4_put (.code yX4_put cX4_put 5 none) [.ref 126, .int order, .int kind, .int first, .int second] (mkH (uB X 0 b)) (.inl none) (mkH (uB (x_X4_put X order kind first second) 0 b)) := by
  refine Ct.of (LL := [some (.ref 126), some (.int order), some (.int kind), some (.int first), some (.int second)]) mkX4_put.1 owX4_put rfl (Nat.le_of_ble_eq_true rfl) rfl (fun Wk C => ?_)
  have K := C.core
  refine K.iload_n (q := 1) dX4_put_0 rfl rfl ?_
  refine K.if_lt (q := 4) (tgt := 32) dX4_put_1 rfl (by decide) (fun c_1_1 => ?_) (fun c_1_1 => ?_)
  · exact C.vret rfl rfl (by rw [x_X4_put, if_pos c_1_1]) (Nat.le_of_ble_eq_true rfl) (Nat.le_of_ble_eq_true rfl) dX4_put_32
  · refine K.iload_n (q := 5) dX4_put_4 rfl rfl ?_
    refine K.bipush (q := 7) (v := 20) dX4_put_5 rfl (by decide) ?_
    refine K.icmp_ge (q := 10) (tgt := 32) dX4_put_7 rfl (by decide) (fun c_7_2 => ?_) (fun c_7_2 => ?_)
    · exact C.vret rfl rfl (by rw [x_X4_put, if_neg c_1_1, if_pos c_7_2]) (Nat.le_of_ble_eq_true rfl) (Nat.le_of_ble_eq_true rfl) dX4_put_32
    · refine K.aload_n (q := 11) dX4_put_10 rfl rfl ?_
      refine K.getf (q := 14) (v := .ref 127) fo_X4_9.r rx126b (lt141 (by decide)) rfl dX4_put_11 rfl ?_
      refine K.iload_n (q := 15) dX4_put_14 rfl rfl ?_
      refine K.iload_n (q := 16) dX4_put_15 rfl rfl ?_
      refine K.ias (q := 17) (f := (X.2.2.1 1)) (m := (order.toNatClampNeg)) rx127b (lt141 (by decide)) (cl_nI c_1_1) (cl_lt c_1_1 c_7_2 (by decide)) (by decide) pxa1b dX4_put_16 rfl ?_
      refine K.aload_n (q := 18) dX4_put_17 rfl rfl ?_
      refine K.getf (q := 21) (v := .ref 128) fo_X4_15.r rx126b (lt141 (by decide)) rfl dX4_put_18 rfl ?_
      refine K.iload_n (q := 22) dX4_put_21 rfl rfl ?_
      refine K.iload_n (q := 23) dX4_put_22 rfl rfl ?_
      refine K.ias (q := 24) (f := (X.2.2.1 2)) (m := (order.toNatClampNeg)) rx128b (lt141 (by decide)) (cl_nI c_1_1) (cl_lt c_1_1 c_7_2 (by decide)) (by decide) pxa2b dX4_put_23 rfl ?_
      refine K.aload_n (q := 25) dX4_put_24 rfl rfl ?_
      refine K.getf (q := 28) (v := .ref 129) fo_X4_18.r rx126b (lt141 (by decide)) rfl dX4_put_25 rfl ?_
      refine K.iload_n (q := 29) dX4_put_28 rfl rfl ?_
      refine K.iload (q := 31) dX4_put_29 rfl rfl ?_
      refine K.ias (q := 32) (f := (X.2.2.1 3)) (m := (order.toNatClampNeg)) rx129b (lt141 (by decide)) (cl_nI c_1_1) (cl_lt c_1_1 c_7_2 (by decide)) (by decide) pxa3b dX4_put_31 rfl ?_
      exact C.vret rfl rfl (by rw [x_X4_put, if_neg c_1_1, if_neg c_7_2]) (Nat.le_of_ble_eq_true rfl) (Nat.le_of_ble_eq_true rfl) dX4_put_32

def r_X4_sign (X : GS) : Int32 := (if (X.2.1 5) < 0 then (-1) else (if (X.2.1 4) ≤ (X.2.1 5) then (-1) else (if 60 ≤ (X.2.1 5) then (-1) else ((X.2.2.1 4) ((X.2.1 5).toNatClampNeg)))))
set_option maxRecDepth 20000 in
theorem s_X4_sign (X : GS) (b : BD) : Ct 1 0 0 yX4_sign (.code yX4_sign cX4_sign 1 (some (.int))) [.ref 126] (mkH (uB X 0 b)) (.inl (some (.int (r_X4_sign X)))) (mkH (uB X 0 b)) := by
  refine Ct.of (LL := [some (.ref 126)]) mkX4_sign.1 owX4_sign rfl (Nat.le_of_ble_eq_true rfl) rfl (fun Wk C => ?_)
  have K := C.core
  refine K.aload_n (q := 1) dX4_sign_0 rfl rfl ?_
  refine K.getf (q := 4) (v := .int (X.2.1 5)) fo_X4_32.r rx126b (lt141 (by decide)) rfl dX4_sign_1 rfl ?_
  refine K.if_lt (q := 7) (tgt := 39) dX4_sign_4 rfl (by decide) (fun c_4_1 => ?_) (fun c_4_1 => ?_)
  · refine K.iconst (q := 40) (v := (-1)) dX4_sign_39 rfl (by decide) ?_
    exact C.iret rfl rfl (by rw [r_X4_sign, if_pos c_4_1]) rfl (Nat.le_of_ble_eq_true rfl) (Nat.le_of_ble_eq_true rfl) dX4_sign_40
  · refine K.aload_n (q := 8) dX4_sign_7 rfl rfl ?_
    refine K.getf (q := 11) (v := .int (X.2.1 5)) fo_X4_32.r rx126b (lt141 (by decide)) rfl dX4_sign_8 rfl ?_
    refine K.aload_n (q := 12) dX4_sign_11 rfl rfl ?_
    refine K.getf (q := 15) (v := .int (X.2.1 4)) fo_X4_29.r rx126b (lt141 (by decide)) rfl dX4_sign_12 rfl ?_
    refine K.icmp_ge (q := 18) (tgt := 39) dX4_sign_15 rfl (by decide) (fun c_15_2 => ?_) (fun c_15_2 => ?_)
    · refine K.iconst (q := 40) (v := (-1)) dX4_sign_39 rfl (by decide) ?_
      exact C.iret rfl rfl (by rw [r_X4_sign, if_neg c_4_1, if_pos c_15_2]) rfl (Nat.le_of_ble_eq_true rfl) (Nat.le_of_ble_eq_true rfl) dX4_sign_40
    · refine K.aload_n (q := 19) dX4_sign_18 rfl rfl ?_
      refine K.getf (q := 22) (v := .int (X.2.1 5)) fo_X4_32.r rx126b (lt141 (by decide)) rfl dX4_sign_19 rfl ?_
      refine K.bipush (q := 24) (v := 60) dX4_sign_22 rfl (by decide) ?_
      refine K.icmp_ge (q := 27) (tgt := 39) dX4_sign_24 rfl (by decide) (fun c_24_3 => ?_) (fun c_24_3 => ?_)
      · refine K.iconst (q := 40) (v := (-1)) dX4_sign_39 rfl (by decide) ?_
        exact C.iret rfl rfl (by rw [r_X4_sign, if_neg c_4_1, if_neg c_15_2, if_pos c_24_3]) rfl (Nat.le_of_ble_eq_true rfl) (Nat.le_of_ble_eq_true rfl) dX4_sign_40
      · refine K.aload_n (q := 28) dX4_sign_27 rfl rfl ?_
        refine K.getf (q := 31) (v := .ref 130) fo_X4_25.r rx126b (lt141 (by decide)) rfl dX4_sign_28 rfl ?_
        refine K.aload_n (q := 32) dX4_sign_31 rfl rfl ?_
        refine K.getf (q := 35) (v := .int (X.2.1 5)) fo_X4_32.r rx126b (lt141 (by decide)) rfl dX4_sign_32 rfl ?_
        refine K.cal (q := 36) (f := (X.2.2.1 4)) (m := ((X.2.1 5).toNatClampNeg)) rx130b (lt141 (by decide)) (cl_nI c_4_1) (cl_lt c_4_1 c_24_3 (by decide)) (by decide) dX4_sign_35 rfl ?_
        refine K.goto (tgt := 40) dX4_sign_36 (by decide) ?_
        exact C.iret rfl rfl (by rw [r_X4_sign, if_neg c_4_1, if_neg c_15_2, if_neg c_24_3]) rfl (Nat.le_of_ble_eq_true rfl) (Nat.le_of_ble_eq_true rfl) dX4_sign_40

def r_X4_hasAmount (kind : Int32) : Int32 := (if kind = 108 then 1 else (if kind = 113 then 1 else (if kind = 114 then 1 else 0)))
set_option maxRecDepth 20000 in
theorem s_X4_hasAmount (H : aH) (kind : Int32) : Ct 1 0 0 yX4_hasAmount (.code yX4_hasAmount cX4_hasAmount 1 (some (.boolean))) [.int kind] (H) (.inl (some (.int (r_X4_hasAmount kind)))) (H) := by
  refine Ct.of (LL := [some (.int kind)]) mkX4_hasAmount.1 owX4_hasAmount rfl (Nat.le_of_ble_eq_true rfl) rfl (fun Wk C => ?_)
  have K := C.core
  refine K.iload_n (q := 1) dX4_hasAmount_0 rfl rfl ?_
  refine K.bipush (q := 3) (v := 108) dX4_hasAmount_1 rfl (by decide) ?_
  refine K.icmp_eq (q := 6) (tgt := 18) dX4_hasAmount_3 rfl (by decide) (fun c_3_1 => ?_) (fun c_3_1 => ?_)
  · refine K.iconst (q := 19) (v := 1) dX4_hasAmount_18 rfl (by decide) ?_
    refine K.goto (tgt := 23) dX4_hasAmount_19 (by decide) ?_
    exact C.iret rfl rfl (by rw [r_X4_hasAmount, if_pos c_3_1]) rfl (Nat.le_of_ble_eq_true rfl) (Nat.le_of_ble_eq_true rfl) dX4_hasAmount_23
  · refine K.iload_n (q := 7) dX4_hasAmount_6 rfl rfl ?_
    refine K.bipush (q := 9) (v := 113) dX4_hasAmount_7 rfl (by decide) ?_
    refine K.icmp_eq (q := 12) (tgt := 18) dX4_hasAmount_9 rfl (by decide) (fun c_9_2 => ?_) (fun c_9_2 => ?_)
    · refine K.iconst (q := 19) (v := 1) dX4_hasAmount_18 rfl (by decide) ?_
      refine K.goto (tgt := 23) dX4_hasAmount_19 (by decide) ?_
      exact C.iret rfl rfl (by rw [r_X4_hasAmount, if_neg c_3_1, if_pos c_9_2]) rfl (Nat.le_of_ble_eq_true rfl) (Nat.le_of_ble_eq_true rfl) dX4_hasAmount_23
    · refine K.iload_n (q := 13) dX4_hasAmount_12 rfl rfl ?_
      refine K.bipush (q := 15) (v := 114) dX4_hasAmount_13 rfl (by decide) ?_
      refine K.icmp_ne (q := 18) (tgt := 22) dX4_hasAmount_15 rfl (by decide) (fun c_15_3 => ?_) (fun c_15_3 => ?_)
      · refine K.iconst (q := 23) (v := 0) dX4_hasAmount_22 rfl (by decide) ?_
        exact C.iret rfl rfl (by rw [r_X4_hasAmount, if_neg c_3_1, if_neg c_9_2, if_neg c_15_3]) rfl (Nat.le_of_ble_eq_true rfl) (Nat.le_of_ble_eq_true rfl) dX4_hasAmount_23
      · refine K.iconst (q := 19) (v := 1) dX4_hasAmount_18 rfl (by decide) ?_
        refine K.goto (tgt := 23) dX4_hasAmount_19 (by decide) ?_
        exact C.iret rfl rfl (by rw [r_X4_hasAmount, if_neg c_3_1, if_neg c_9_2, if_pos c_15_3]) rfl (Nat.le_of_ble_eq_true rfl) (Nat.le_of_ble_eq_true rfl) dX4_hasAmount_23

def r_X4_isKind (kind : Int32) : Int32 := (if (r_X4_hasAmount kind) = 0 then (if kind = 103 then 1 else (if kind = 110 then 1 else (if kind = 119 then 1 else 0))) else 1)
set_option maxRecDepth 20000 in
theorem s_X4_isKind (H : aH) (kind : Int32) : Ct 2 0 0 yX4_isKind (.code yX4_isKind cX4_isKind 1 (some (.boolean))) [.int kind] (H) (.inl (some (.int (r_X4_isKind kind)))) (H) := by
  refine Ct.of (LL := [some (.int kind)]) mkX4_isKind.1 owX4_isKind rfl (Nat.le_of_ble_eq_true rfl) rfl (fun Wk C => ?_)
  have K := C.core
  refine K.iload_n (q := 1) dX4_isKind_0 rfl rfl ?_
  refine K.callS0 (q := 4) mkX4_hasAmount mw_X4_62 (s_X4_hasAmount _ _) rfl (by decide) rfl (Nat.le_of_ble_eq_true rfl) (Nat.le_of_ble_eq_true rfl) (Nat.le_of_ble_eq_true rfl) dX4_isKind_1 rfl ?_
  refine K.if_ne (q := 7) (tgt := 25) dX4_isKind_4 rfl (by decide) (fun c_4_1 => ?_) (fun c_4_1 => ?_)
  · refine K.iconst (q := 26) (v := 1) dX4_isKind_25 rfl (by decide) ?_
    refine K.goto (tgt := 30) dX4_isKind_26 (by decide) ?_
    exact C.iret rfl rfl (by rw [r_X4_isKind, if_neg c_4_1]) rfl (Nat.le_of_ble_eq_true rfl) (Nat.le_of_ble_eq_true rfl) dX4_isKind_30
  · refine K.iload_n (q := 8) dX4_isKind_7 rfl rfl ?_
    refine K.bipush (q := 10) (v := 103) dX4_isKind_8 rfl (by decide) ?_
    refine K.icmp_eq (q := 13) (tgt := 25) dX4_isKind_10 rfl (by decide) (fun c_10_2 => ?_) (fun c_10_2 => ?_)
    · refine K.iconst (q := 26) (v := 1) dX4_isKind_25 rfl (by decide) ?_
      refine K.goto (tgt := 30) dX4_isKind_26 (by decide) ?_
      exact C.iret rfl rfl (by rw [r_X4_isKind, if_pos c_4_1, if_pos c_10_2]) rfl (Nat.le_of_ble_eq_true rfl) (Nat.le_of_ble_eq_true rfl) dX4_isKind_30
    · refine K.iload_n (q := 14) dX4_isKind_13 rfl rfl ?_
      refine K.bipush (q := 16) (v := 110) dX4_isKind_14 rfl (by decide) ?_
      refine K.icmp_eq (q := 19) (tgt := 25) dX4_isKind_16 rfl (by decide) (fun c_16_3 => ?_) (fun c_16_3 => ?_)
      · refine K.iconst (q := 26) (v := 1) dX4_isKind_25 rfl (by decide) ?_
        refine K.goto (tgt := 30) dX4_isKind_26 (by decide) ?_
        exact C.iret rfl rfl (by rw [r_X4_isKind, if_pos c_4_1, if_neg c_10_2, if_pos c_16_3]) rfl (Nat.le_of_ble_eq_true rfl) (Nat.le_of_ble_eq_true rfl) dX4_isKind_30
      · refine K.iload_n (q := 20) dX4_isKind_19 rfl rfl ?_
        refine K.bipush (q := 22) (v := 119) dX4_isKind_20 rfl (by decide) ?_
        refine K.icmp_ne (q := 25) (tgt := 29) dX4_isKind_22 rfl (by decide) (fun c_22_4 => ?_) (fun c_22_4 => ?_)
        · refine K.iconst (q := 30) (v := 0) dX4_isKind_29 rfl (by decide) ?_
          exact C.iret rfl rfl (by rw [r_X4_isKind, if_pos c_4_1, if_neg c_10_2, if_neg c_16_3, if_neg c_22_4]) rfl (Nat.le_of_ble_eq_true rfl) (Nat.le_of_ble_eq_true rfl) dX4_isKind_30
        · refine K.iconst (q := 26) (v := 1) dX4_isKind_25 rfl (by decide) ?_
          refine K.goto (tgt := 30) dX4_isKind_26 (by decide) ?_
          exact C.iret rfl rfl (by rw [r_X4_isKind, if_pos c_4_1, if_neg c_10_2, if_neg c_16_3, if_pos c_22_4]) rfl (Nat.le_of_ble_eq_true rfl) (Nat.le_of_ble_eq_true rfl) dX4_isKind_30

def r_X4_readDigit (X : GS) : Int32 := (if ((r_X4_sign X) - 48) < 0 then 0 else (if ((r_X4_sign X) - 48) ≤ 9 then 1 else 0))

def x_X4_readDigit (X : GS) : GS := (if ((r_X4_sign X) - 48) < 0 then X else (if ((r_X4_sign X) - 48) ≤ 9 then (uS (uS X 6 ((r_X4_sign X) - 48)) 5 ((X.2.1 5) + 1)) else X))
set_option maxRecDepth 20000 in
theorem s_X4_readDigit (X : GS) (b : BD) : Ct 2 0 0 yX4_readDigit (.code yX4_readDigit cX4_readDigit 2 (some (.boolean))) [.ref 126] (mkH (uB X 0 b)) (.inl (some (.int (r_X4_readDigit X)))) (mkH (uB (x_X4_readDigit X) 0 b)) := by
  refine Ct.of (LL := [some (.ref 126), none]) mkX4_readDigit.1 owX4_readDigit rfl (Nat.le_of_ble_eq_true rfl) rfl (fun Wk C => ?_)
  have K := C.core
  refine K.aload_n (q := 1) dX4_readDigit_0 rfl rfl ?_
  refine K.callV0 (q := 4) mkX4_sign mw_X4_48 (s_X4_sign _ _) rfl (by decide) rfl (lt141 (by decide)) rx126b (Nat.le_of_ble_eq_true rfl) (Nat.le_of_ble_eq_true rfl) (Nat.le_of_ble_eq_true rfl) dX4_readDigit_1 rfl ?_
  refine K.bipush (q := 6) (v := 48) dX4_readDigit_4 rfl (by decide) ?_
  refine K.isub (q := 7) dX4_readDigit_6 rfl ?_
  refine K.istore_n (q := 8) (i := 1) dX4_readDigit_7 rfl rfl (by decide) rfl ?_
  refine K.iload_n (q := 9) dX4_readDigit_8 rfl rfl ?_
  refine K.if_lt (q := 12) (tgt := 18) dX4_readDigit_9 rfl (by decide) (fun c_9_1 => ?_) (fun c_9_1 => ?_)
  · refine K.iconst (q := 19) (v := 0) dX4_readDigit_18 rfl (by decide) ?_
    exact C.iret rfl rfl (by rw [r_X4_readDigit, if_pos c_9_1]) (by rw [x_X4_readDigit, if_pos c_9_1]) (Nat.le_of_ble_eq_true rfl) (Nat.le_of_ble_eq_true rfl) dX4_readDigit_19
  · refine K.iload_n (q := 13) dX4_readDigit_12 rfl rfl ?_
    refine K.bipush (q := 15) (v := 9) dX4_readDigit_13 rfl (by decide) ?_
    refine K.icmp_le (q := 18) (tgt := 20) dX4_readDigit_15 rfl (by decide) (fun c_15_2 => ?_) (fun c_15_2 => ?_)
    · refine K.aload_n (q := 21) dX4_readDigit_20 rfl rfl ?_
      refine K.iload_n (q := 22) dX4_readDigit_21 rfl rfl ?_
      refine K.putf (q := 25) fo_X4_35 rx126b (lt141 (by decide)) (Nat.le_of_ble_eq_true rfl) (fun _ => rfl) (fun _ => rfl) pxs6b dX4_readDigit_22 rfl ?_
      refine K.aload_n (q := 26) dX4_readDigit_25 rfl rfl ?_
      refine K.dup (q := 27) dX4_readDigit_26 rfl rfl ?_
      refine K.getf (q := 30) (v := .int (X.2.1 5)) fo_X4_32.r rx126b (lt141 (by decide)) rfl dX4_readDigit_27 rfl ?_
      refine K.iconst (q := 31) (v := 1) dX4_readDigit_30 rfl (by decide) ?_
      refine K.iadd (q := 32) dX4_readDigit_31 rfl ?_
      refine K.putf (q := 35) fo_X4_32 rx126b (lt141 (by decide)) (Nat.le_of_ble_eq_true rfl) (fun _ => rfl) (fun _ => rfl) pxs5b dX4_readDigit_32 rfl ?_
      refine K.iconst (q := 36) (v := 1) dX4_readDigit_35 rfl (by decide) ?_
      exact C.iret rfl rfl (by rw [r_X4_readDigit, if_neg c_9_1, if_pos c_15_2]) (by rw [x_X4_readDigit, if_neg c_9_1, if_pos c_15_2]) (Nat.le_of_ble_eq_true rfl) (Nat.le_of_ble_eq_true rfl) dX4_readDigit_36
    · refine K.iconst (q := 19) (v := 0) dX4_readDigit_18 rfl (by decide) ?_
      exact C.iret rfl rfl (by rw [r_X4_readDigit, if_neg c_9_1, if_neg c_15_2]) (by rw [x_X4_readDigit, if_neg c_9_1, if_neg c_15_2]) (Nat.le_of_ble_eq_true rfl) (Nat.le_of_ble_eq_true rfl) dX4_readDigit_19

def r_X4_readNumber (X : GS) : Int32 := (if (r_X4_readDigit X) = 0 then 0 else (if (r_X4_readDigit (x_X4_readDigit X)) = 0 then 1 else 1))

def x_X4_readNumber (X : GS) : GS := (if (r_X4_readDigit X) = 0 then (x_X4_readDigit X) else (if (r_X4_readDigit (x_X4_readDigit X)) = 0 then (x_X4_readDigit (x_X4_readDigit X)) else (uS (x_X4_readDigit (x_X4_readDigit X)) 6 ((10 * ((x_X4_readDigit X).2.1 6)) + ((x_X4_readDigit (x_X4_readDigit X)).2.1 6)))))
set_option maxRecDepth 20000 in
theorem s_X4_readNumber (X : GS) (b : BD) : Ct 3 0 0 yX4_readNumber (.code yX4_readNumber cX4_readNumber 2 (some (.boolean))) [.ref 126] (mkH (uB X 0 b)) (.inl (some (.int (r_X4_readNumber X)))) (mkH (uB (x_X4_readNumber X) 0 b)) := by
  refine Ct.of (LL := [some (.ref 126), none]) mkX4_readNumber.1 owX4_readNumber rfl (Nat.le_of_ble_eq_true rfl) rfl (fun Wk C => ?_)
  have K := C.core
  refine K.aload_n (q := 1) dX4_readNumber_0 rfl rfl ?_
  refine K.callV0 (q := 4) mkX4_readDigit mw_X4_55 (s_X4_readDigit _ _) rfl (by decide) rfl (lt141 (by decide)) rx126b (Nat.le_of_ble_eq_true rfl) (Nat.le_of_ble_eq_true rfl) (Nat.le_of_ble_eq_true rfl) dX4_readNumber_1 rfl ?_
  refine K.if_ne (q := 7) (tgt := 9) dX4_readNumber_4 rfl (by decide) (fun c_4_1 => ?_) (fun c_4_1 => ?_)
  · refine K.aload_n (q := 10) dX4_readNumber_9 rfl rfl ?_
    refine K.getf (q := 13) (v := .int ((x_X4_readDigit X).2.1 6)) fo_X4_35.r rx126b (lt141 (by decide)) rfl dX4_readNumber_10 rfl ?_
    refine K.istore_n (q := 14) (i := 1) dX4_readNumber_13 rfl rfl (by decide) rfl ?_
    refine K.aload_n (q := 15) dX4_readNumber_14 rfl rfl ?_
    refine K.callV0 (q := 18) mkX4_readDigit mw_X4_55 (s_X4_readDigit _ _) rfl (by decide) rfl (lt141 (by decide)) rx126b (Nat.le_of_ble_eq_true rfl) (Nat.le_of_ble_eq_true rfl) (Nat.le_of_ble_eq_true rfl) dX4_readNumber_15 rfl ?_
    refine K.if_eq (q := 21) (tgt := 34) dX4_readNumber_18 rfl (by decide) (fun c_18_2 => ?_) (fun c_18_2 => ?_)
    · refine K.iconst (q := 35) (v := 1) dX4_readNumber_34 rfl (by decide) ?_
      exact C.iret rfl rfl (by rw [r_X4_readNumber, if_neg c_4_1, if_pos c_18_2]) (by rw [x_X4_readNumber, if_neg c_4_1, if_pos c_18_2]) (Nat.le_of_ble_eq_true rfl) (Nat.le_of_ble_eq_true rfl) dX4_readNumber_35
    · refine K.aload_n (q := 22) dX4_readNumber_21 rfl rfl ?_
      refine K.bipush (q := 24) (v := 10) dX4_readNumber_22 rfl (by decide) ?_
      refine K.iload_n (q := 25) dX4_readNumber_24 rfl rfl ?_
      refine K.imul (q := 26) dX4_readNumber_25 rfl ?_
      refine K.aload_n (q := 27) dX4_readNumber_26 rfl rfl ?_
      refine K.getf (q := 30) (v := .int ((x_X4_readDigit (x_X4_readDigit X)).2.1 6)) fo_X4_35.r rx126b (lt141 (by decide)) rfl dX4_readNumber_27 rfl ?_
      refine K.iadd (q := 31) dX4_readNumber_30 rfl ?_
      refine K.putf (q := 34) fo_X4_35 rx126b (lt141 (by decide)) (Nat.le_of_ble_eq_true rfl) (fun _ => rfl) (fun _ => rfl) pxs6b dX4_readNumber_31 rfl ?_
      refine K.iconst (q := 35) (v := 1) dX4_readNumber_34 rfl (by decide) ?_
      exact C.iret rfl rfl (by rw [r_X4_readNumber, if_neg c_4_1, if_neg c_18_2]) (by rw [x_X4_readNumber, if_neg c_4_1, if_neg c_18_2]) (Nat.le_of_ble_eq_true rfl) (Nat.le_of_ble_eq_true rfl) dX4_readNumber_35
  · refine K.iconst (q := 8) (v := 0) dX4_readNumber_7 rfl (by decide) ?_
    exact C.iret rfl rfl (by rw [r_X4_readNumber, if_pos c_4_1]) (by rw [x_X4_readNumber, if_pos c_4_1]) (Nat.le_of_ble_eq_true rfl) (Nat.le_of_ble_eq_true rfl) dX4_readNumber_8

def r_X4_readSign (X : GS) (due : Int32) : Int32 := (if (r_X4_sign X) = due then 1 else 0)

def x_X4_readSign (X : GS) (due : Int32) : GS := (if (r_X4_sign X) = due then (uS X 5 ((X.2.1 5) + 1)) else X)
set_option maxRecDepth 20000 in
theorem s_X4_readSign (X : GS) (b : BD) (due : Int32) : Ct 2 0 0 yX4_readSign (.code yX4_readSign cX4_readSign 2 (some (.boolean))) [.ref 126, .int due] (mkH (uB X 0 b)) (.inl (some (.int (r_X4_readSign X due)))) (mkH (uB (x_X4_readSign X due) 0 b)) := by
  refine Ct.of (LL := [some (.ref 126), some (.int due)]) mkX4_readSign.1 owX4_readSign rfl (Nat.le_of_ble_eq_true rfl) rfl (fun Wk C => ?_)
  have K := C.core
  refine K.aload_n (q := 1) dX4_readSign_0 rfl rfl ?_
  refine K.callV0 (q := 4) mkX4_sign mw_X4_48 (s_X4_sign _ _) rfl (by decide) rfl (lt141 (by decide)) rx126b (Nat.le_of_ble_eq_true rfl) (Nat.le_of_ble_eq_true rfl) (Nat.le_of_ble_eq_true rfl) dX4_readSign_1 rfl ?_
  refine K.iload_n (q := 5) dX4_readSign_4 rfl rfl ?_
  refine K.icmp_eq (q := 8) (tgt := 10) dX4_readSign_5 rfl (by decide) (fun c_5_1 => ?_) (fun c_5_1 => ?_)
  · refine K.aload_n (q := 11) dX4_readSign_10 rfl rfl ?_
    refine K.dup (q := 12) dX4_readSign_11 rfl rfl ?_
    refine K.getf (q := 15) (v := .int (X.2.1 5)) fo_X4_32.r rx126b (lt141 (by decide)) rfl dX4_readSign_12 rfl ?_
    refine K.iconst (q := 16) (v := 1) dX4_readSign_15 rfl (by decide) ?_
    refine K.iadd (q := 17) dX4_readSign_16 rfl ?_
    refine K.putf (q := 20) fo_X4_32 rx126b (lt141 (by decide)) (Nat.le_of_ble_eq_true rfl) (fun _ => rfl) (fun _ => rfl) pxs5b dX4_readSign_17 rfl ?_
    refine K.iconst (q := 21) (v := 1) dX4_readSign_20 rfl (by decide) ?_
    exact C.iret rfl rfl (by rw [r_X4_readSign, if_pos c_5_1]) (by rw [x_X4_readSign, if_pos c_5_1]) (Nat.le_of_ble_eq_true rfl) (Nat.le_of_ble_eq_true rfl) dX4_readSign_21
  · refine K.iconst (q := 9) (v := 0) dX4_readSign_8 rfl (by decide) ?_
    exact C.iret rfl rfl (by rw [r_X4_readSign, if_neg c_5_1]) (by rw [x_X4_readSign, if_neg c_5_1]) (Nat.le_of_ble_eq_true rfl) (Nat.le_of_ble_eq_true rfl) dX4_readSign_9

def r_X4_readOrder (X : GS) : Int32 := (if (r_X4_isKind (r_X4_sign X)) = 0 then 0 else (if (r_X4_sign X) = 119 then (if (r_X4_readDigit (uS X 5 ((X.2.1 5) + 1))) = 0 then 0 else (if (r_X4_hasAmount (r_X4_sign X)) = 0 then 1 else (if (r_X4_readSign (x_X4_readDigit (uS X 5 ((X.2.1 5) + 1))) 58) = 0 then 0 else (if (r_X4_readNumber (x_X4_readSign (x_X4_readDigit (uS X 5 ((X.2.1 5) + 1))) 58)) = 0 then 0 else 1)))) else (if (r_X4_readNumber (uS X 5 ((X.2.1 5) + 1))) = 0 then 0 else (if (r_X4_hasAmount (r_X4_sign X)) = 0 then 1 else (if (r_X4_readSign (x_X4_readNumber (uS X 5 ((X.2.1 5) + 1))) 58) = 0 then 0 else (if (r_X4_readNumber (x_X4_readSign (x_X4_readNumber (uS X 5 ((X.2.1 5) + 1))) 58)) = 0 then 0 else 1))))))

def x_X4_readOrder (X : GS) (order : Int32) : GS := (if (r_X4_isKind (r_X4_sign X)) = 0 then X else (if (r_X4_sign X) = 119 then (if (r_X4_readDigit (uS X 5 ((X.2.1 5) + 1))) = 0 then (x_X4_readDigit (uS X 5 ((X.2.1 5) + 1))) else (if (r_X4_hasAmount (r_X4_sign X)) = 0 then (x_X4_put (x_X4_readDigit (uS X 5 ((X.2.1 5) + 1))) order (r_X4_sign X) ((x_X4_readDigit (uS X 5 ((X.2.1 5) + 1))).2.1 6) 0) else (if (r_X4_readSign (x_X4_readDigit (uS X 5 ((X.2.1 5) + 1))) 58) = 0 then (x_X4_readSign (x_X4_readDigit (uS X 5 ((X.2.1 5) + 1))) 58) else (if (r_X4_readNumber (x_X4_readSign (x_X4_readDigit (uS X 5 ((X.2.1 5) + 1))) 58)) = 0 then (x_X4_readNumber (x_X4_readSign (x_X4_readDigit (uS X 5 ((X.2.1 5) + 1))) 58)) else (x_X4_put (x_X4_readNumber (x_X4_readSign (x_X4_readDigit (uS X 5 ((X.2.1 5) + 1))) 58)) order (r_X4_sign X) ((x_X4_readDigit (uS X 5 ((X.2.1 5) + 1))).2.1 6) ((x_X4_readNumber (x_X4_readSign (x_X4_readDigit (uS X 5 ((X.2.1 5) + 1))) 58)).2.1 6)))))) else (if (r_X4_readNumber (uS X 5 ((X.2.1 5) + 1))) = 0 then (x_X4_readNumber (uS X 5 ((X.2.1 5) + 1))) else (if (r_X4_hasAmount (r_X4_sign X)) = 0 then (x_X4_put (x_X4_readNumber (uS X 5 ((X.2.1 5) + 1))) order (r_X4_sign X) ((x_X4_readNumber (uS X 5 ((X.2.1 5) + 1))).2.1 6) 0) else (if (r_X4_readSign (x_X4_readNumber (uS X 5 ((X.2.1 5) + 1))) 58) = 0 then (x_X4_readSign (x_X4_readNumber (uS X 5 ((X.2.1 5) + 1))) 58) else (if (r_X4_readNumber (x_X4_readSign (x_X4_readNumber (uS X 5 ((X.2.1 5) + 1))) 58)) = 0 then (x_X4_readNumber (x_X4_readSign (x_X4_readNumber (uS X 5 ((X.2.1 5) + 1))) 58)) else (x_X4_put (x_X4_readNumber (x_X4_readSign (x_X4_readNumber (uS X 5 ((X.2.1 5) + 1))) 58)) order (r_X4_sign X) ((x_X4_readNumber (uS X 5 ((X.2.1 5) + 1))).2.1 6) ((x_X4_readNumber (x_X4_readSign (x_X4_readNumber (uS X 5 ((X.2.1 5) + 1))) 58)).2.1 6))))))))
set_option maxRecDepth 20000 in
theorem s_X4_readOrder (X : GS) (b : BD) (order : Int32) : Ct 4 0 0 yX4_readOrder (.code yX4_readOrder cX4_readOrder 5 (some (.boolean))) [.ref 126, .int order] (mkH (uB X 0 b)) (.inl (some (.int (r_X4_readOrder X)))) (mkH (uB (x_X4_readOrder X order) 0 b)) := by
  refine Ct.of (LL := [some (.ref 126), some (.int order), none, none, none]) mkX4_readOrder.1 owX4_readOrder rfl (Nat.le_of_ble_eq_true rfl) rfl (fun Wk C => ?_)
  have K := C.core
  refine K.aload_n (q := 1) dX4_readOrder_0 rfl rfl ?_
  refine K.callV0 (q := 4) mkX4_sign mw_X4_48 (s_X4_sign _ _) rfl (by decide) rfl (lt141 (by decide)) rx126b (Nat.le_of_ble_eq_true rfl) (Nat.le_of_ble_eq_true rfl) (Nat.le_of_ble_eq_true rfl) dX4_readOrder_1 rfl ?_
  refine K.istore_n (q := 5) (i := 2) dX4_readOrder_4 rfl rfl (by decide) rfl ?_
  refine K.iload_n (q := 6) dX4_readOrder_5 rfl rfl ?_
  refine K.callS0 (q := 9) mkX4_isKind mw_X4_52 (s_X4_isKind _ _) rfl (by decide) rfl (Nat.le_of_ble_eq_true rfl) (Nat.le_of_ble_eq_true rfl) (Nat.le_of_ble_eq_true rfl) dX4_readOrder_6 rfl ?_
  refine K.if_ne (q := 12) (tgt := 14) dX4_readOrder_9 rfl (by decide) (fun c_9_1 => ?_) (fun c_9_1 => ?_)
  · refine K.aload_n (q := 15) dX4_readOrder_14 rfl rfl ?_
    refine K.dup (q := 16) dX4_readOrder_15 rfl rfl ?_
    refine K.getf (q := 19) (v := .int (X.2.1 5)) fo_X4_32.r rx126b (lt141 (by decide)) rfl dX4_readOrder_16 rfl ?_
    refine K.iconst (q := 20) (v := 1) dX4_readOrder_19 rfl (by decide) ?_
    refine K.iadd (q := 21) dX4_readOrder_20 rfl ?_
    refine K.putf (q := 24) fo_X4_32 rx126b (lt141 (by decide)) (Nat.le_of_ble_eq_true rfl) (fun _ => rfl) (fun _ => rfl) pxs5b dX4_readOrder_21 rfl ?_
    refine K.iload_n (q := 25) dX4_readOrder_24 rfl rfl ?_
    refine K.bipush (q := 27) (v := 119) dX4_readOrder_25 rfl (by decide) ?_
    refine K.icmp_ne (q := 30) (tgt := 40) dX4_readOrder_27 rfl (by decide) (fun c_27_2 => ?_) (fun c_27_2 => ?_)
    · refine K.aload_n (q := 41) dX4_readOrder_40 rfl rfl ?_
      refine K.callV0 (q := 44) mkX4_readNumber mw_X4_59 (s_X4_readNumber _ _) rfl (by decide) rfl (lt141 (by decide)) rx126b (Nat.le_of_ble_eq_true rfl) (Nat.le_of_ble_eq_true rfl) (Nat.le_of_ble_eq_true rfl) dX4_readOrder_41 rfl ?_
      refine K.if_ne (q := 47) (tgt := 49) dX4_readOrder_44 rfl (by decide) (fun c_44_3 => ?_) (fun c_44_3 => ?_)
      · refine K.aload_n (q := 50) dX4_readOrder_49 rfl rfl ?_
        refine K.getf (q := 53) (v := .int ((x_X4_readNumber (uS X 5 ((X.2.1 5) + 1))).2.1 6)) fo_X4_35.r rx126b (lt141 (by decide)) rfl dX4_readOrder_50 rfl ?_
        refine K.istore_n (q := 54) (i := 3) dX4_readOrder_53 rfl rfl (by decide) rfl ?_
        refine K.iconst (q := 55) (v := 0) dX4_readOrder_54 rfl (by decide) ?_
        refine K.istore (q := 57) dX4_readOrder_55 rfl (by decide) rfl ?_
        refine K.iload_n (q := 58) dX4_readOrder_57 rfl rfl ?_
        refine K.callS0 (q := 61) mkX4_hasAmount mw_X4_62 (s_X4_hasAmount _ _) rfl (by decide) rfl (Nat.le_of_ble_eq_true rfl) (Nat.le_of_ble_eq_true rfl) (Nat.le_of_ble_eq_true rfl) dX4_readOrder_58 rfl ?_
        refine K.if_eq (q := 64) (tgt := 88) dX4_readOrder_61 rfl (by decide) (fun c_61_4 => ?_) (fun c_61_4 => ?_)
        · refine K.aload_n (q := 89) dX4_readOrder_88 rfl rfl ?_
          refine K.iload_n (q := 90) dX4_readOrder_89 rfl rfl ?_
          refine K.iload_n (q := 91) dX4_readOrder_90 rfl rfl ?_
          refine K.iload_n (q := 92) dX4_readOrder_91 rfl rfl ?_
          refine K.iload (q := 94) dX4_readOrder_92 rfl rfl ?_
          refine K.callVv0 (q := 97) mkX4_put mw_X4_65 (s_X4_put _ _ _ _ _ _) rfl (by decide) rfl (lt141 (by decide)) rx126b (Nat.le_of_ble_eq_true rfl) (Nat.le_of_ble_eq_true rfl) (Nat.le_of_ble_eq_true rfl) dX4_readOrder_94 rfl ?_
          refine K.iconst (q := 98) (v := 1) dX4_readOrder_97 rfl (by decide) ?_
          exact C.iret rfl rfl (by rw [r_X4_readOrder, if_neg c_9_1, if_neg c_27_2, if_neg c_44_3, if_pos c_61_4]) (by rw [x_X4_readOrder, if_neg c_9_1, if_neg c_27_2, if_neg c_44_3, if_pos c_61_4]) (Nat.le_of_ble_eq_true rfl) (Nat.le_of_ble_eq_true rfl) dX4_readOrder_98
        · refine K.aload_n (q := 65) dX4_readOrder_64 rfl rfl ?_
          refine K.bipush (q := 67) (v := 58) dX4_readOrder_65 rfl (by decide) ?_
          refine K.callV0 (q := 70) mkX4_readSign mw_X4_45 (s_X4_readSign _ _ _) rfl (by decide) rfl (lt141 (by decide)) rx126b (Nat.le_of_ble_eq_true rfl) (Nat.le_of_ble_eq_true rfl) (Nat.le_of_ble_eq_true rfl) dX4_readOrder_67 rfl ?_
          refine K.if_eq (q := 73) (tgt := 80) dX4_readOrder_70 rfl (by decide) (fun c_70_5 => ?_) (fun c_70_5 => ?_)
          · refine K.iconst (q := 81) (v := 0) dX4_readOrder_80 rfl (by decide) ?_
            exact C.iret rfl rfl (by rw [r_X4_readOrder, if_neg c_9_1, if_neg c_27_2, if_neg c_44_3, if_neg c_61_4, if_pos c_70_5]) (by rw [x_X4_readOrder, if_neg c_9_1, if_neg c_27_2, if_neg c_44_3, if_neg c_61_4, if_pos c_70_5]) (Nat.le_of_ble_eq_true rfl) (Nat.le_of_ble_eq_true rfl) dX4_readOrder_81
          · refine K.aload_n (q := 74) dX4_readOrder_73 rfl rfl ?_
            refine K.callV0 (q := 77) mkX4_readNumber mw_X4_59 (s_X4_readNumber _ _) rfl (by decide) rfl (lt141 (by decide)) rx126b (Nat.le_of_ble_eq_true rfl) (Nat.le_of_ble_eq_true rfl) (Nat.le_of_ble_eq_true rfl) dX4_readOrder_74 rfl ?_
            refine K.if_ne (q := 80) (tgt := 82) dX4_readOrder_77 rfl (by decide) (fun c_77_6 => ?_) (fun c_77_6 => ?_)
            · refine K.aload_n (q := 83) dX4_readOrder_82 rfl rfl ?_
              refine K.getf (q := 86) (v := .int ((x_X4_readNumber (x_X4_readSign (x_X4_readNumber (uS X 5 ((X.2.1 5) + 1))) 58)).2.1 6)) fo_X4_35.r rx126b (lt141 (by decide)) rfl dX4_readOrder_83 rfl ?_
              refine K.istore (q := 88) dX4_readOrder_86 rfl (by decide) rfl ?_
              refine K.aload_n (q := 89) dX4_readOrder_88 rfl rfl ?_
              refine K.iload_n (q := 90) dX4_readOrder_89 rfl rfl ?_
              refine K.iload_n (q := 91) dX4_readOrder_90 rfl rfl ?_
              refine K.iload_n (q := 92) dX4_readOrder_91 rfl rfl ?_
              refine K.iload (q := 94) dX4_readOrder_92 rfl rfl ?_
              refine K.callVv0 (q := 97) mkX4_put mw_X4_65 (s_X4_put _ _ _ _ _ _) rfl (by decide) rfl (lt141 (by decide)) rx126b (Nat.le_of_ble_eq_true rfl) (Nat.le_of_ble_eq_true rfl) (Nat.le_of_ble_eq_true rfl) dX4_readOrder_94 rfl ?_
              refine K.iconst (q := 98) (v := 1) dX4_readOrder_97 rfl (by decide) ?_
              exact C.iret rfl rfl (by rw [r_X4_readOrder, if_neg c_9_1, if_neg c_27_2, if_neg c_44_3, if_neg c_61_4, if_neg c_70_5, if_neg c_77_6]) (by rw [x_X4_readOrder, if_neg c_9_1, if_neg c_27_2, if_neg c_44_3, if_neg c_61_4, if_neg c_70_5, if_neg c_77_6]) (Nat.le_of_ble_eq_true rfl) (Nat.le_of_ble_eq_true rfl) dX4_readOrder_98
            · refine K.iconst (q := 81) (v := 0) dX4_readOrder_80 rfl (by decide) ?_
              exact C.iret rfl rfl (by rw [r_X4_readOrder, if_neg c_9_1, if_neg c_27_2, if_neg c_44_3, if_neg c_61_4, if_neg c_70_5, if_pos c_77_6]) (by rw [x_X4_readOrder, if_neg c_9_1, if_neg c_27_2, if_neg c_44_3, if_neg c_61_4, if_neg c_70_5, if_pos c_77_6]) (Nat.le_of_ble_eq_true rfl) (Nat.le_of_ble_eq_true rfl) dX4_readOrder_81
      · refine K.iconst (q := 48) (v := 0) dX4_readOrder_47 rfl (by decide) ?_
        exact C.iret rfl rfl (by rw [r_X4_readOrder, if_neg c_9_1, if_neg c_27_2, if_pos c_44_3]) (by rw [x_X4_readOrder, if_neg c_9_1, if_neg c_27_2, if_pos c_44_3]) (Nat.le_of_ble_eq_true rfl) (Nat.le_of_ble_eq_true rfl) dX4_readOrder_48
    · refine K.aload_n (q := 31) dX4_readOrder_30 rfl rfl ?_
      refine K.callV0 (q := 34) mkX4_readDigit mw_X4_55 (s_X4_readDigit _ _) rfl (by decide) rfl (lt141 (by decide)) rx126b (Nat.le_of_ble_eq_true rfl) (Nat.le_of_ble_eq_true rfl) (Nat.le_of_ble_eq_true rfl) dX4_readOrder_31 rfl ?_
      refine K.if_ne (q := 37) (tgt := 49) dX4_readOrder_34 rfl (by decide) (fun c_34_7 => ?_) (fun c_34_7 => ?_)
      · refine K.aload_n (q := 50) dX4_readOrder_49 rfl rfl ?_
        refine K.getf (q := 53) (v := .int ((x_X4_readDigit (uS X 5 ((X.2.1 5) + 1))).2.1 6)) fo_X4_35.r rx126b (lt141 (by decide)) rfl dX4_readOrder_50 rfl ?_
        refine K.istore_n (q := 54) (i := 3) dX4_readOrder_53 rfl rfl (by decide) rfl ?_
        refine K.iconst (q := 55) (v := 0) dX4_readOrder_54 rfl (by decide) ?_
        refine K.istore (q := 57) dX4_readOrder_55 rfl (by decide) rfl ?_
        refine K.iload_n (q := 58) dX4_readOrder_57 rfl rfl ?_
        refine K.callS0 (q := 61) mkX4_hasAmount mw_X4_62 (s_X4_hasAmount _ _) rfl (by decide) rfl (Nat.le_of_ble_eq_true rfl) (Nat.le_of_ble_eq_true rfl) (Nat.le_of_ble_eq_true rfl) dX4_readOrder_58 rfl ?_
        refine K.if_eq (q := 64) (tgt := 88) dX4_readOrder_61 rfl (by decide) (fun c_61_8 => ?_) (fun c_61_8 => ?_)
        · refine K.aload_n (q := 89) dX4_readOrder_88 rfl rfl ?_
          refine K.iload_n (q := 90) dX4_readOrder_89 rfl rfl ?_
          refine K.iload_n (q := 91) dX4_readOrder_90 rfl rfl ?_
          refine K.iload_n (q := 92) dX4_readOrder_91 rfl rfl ?_
          refine K.iload (q := 94) dX4_readOrder_92 rfl rfl ?_
          refine K.callVv0 (q := 97) mkX4_put mw_X4_65 (s_X4_put _ _ _ _ _ _) rfl (by decide) rfl (lt141 (by decide)) rx126b (Nat.le_of_ble_eq_true rfl) (Nat.le_of_ble_eq_true rfl) (Nat.le_of_ble_eq_true rfl) dX4_readOrder_94 rfl ?_
          refine K.iconst (q := 98) (v := 1) dX4_readOrder_97 rfl (by decide) ?_
          exact C.iret rfl rfl (by rw [r_X4_readOrder, if_neg c_9_1, if_pos c_27_2, if_neg c_34_7, if_pos c_61_8]) (by rw [x_X4_readOrder, if_neg c_9_1, if_pos c_27_2, if_neg c_34_7, if_pos c_61_8]) (Nat.le_of_ble_eq_true rfl) (Nat.le_of_ble_eq_true rfl) dX4_readOrder_98
        · refine K.aload_n (q := 65) dX4_readOrder_64 rfl rfl ?_
          refine K.bipush (q := 67) (v := 58) dX4_readOrder_65 rfl (by decide) ?_
          refine K.callV0 (q := 70) mkX4_readSign mw_X4_45 (s_X4_readSign _ _ _) rfl (by decide) rfl (lt141 (by decide)) rx126b (Nat.le_of_ble_eq_true rfl) (Nat.le_of_ble_eq_true rfl) (Nat.le_of_ble_eq_true rfl) dX4_readOrder_67 rfl ?_
          refine K.if_eq (q := 73) (tgt := 80) dX4_readOrder_70 rfl (by decide) (fun c_70_9 => ?_) (fun c_70_9 => ?_)
          · refine K.iconst (q := 81) (v := 0) dX4_readOrder_80 rfl (by decide) ?_
            exact C.iret rfl rfl (by rw [r_X4_readOrder, if_neg c_9_1, if_pos c_27_2, if_neg c_34_7, if_neg c_61_8, if_pos c_70_9]) (by rw [x_X4_readOrder, if_neg c_9_1, if_pos c_27_2, if_neg c_34_7, if_neg c_61_8, if_pos c_70_9]) (Nat.le_of_ble_eq_true rfl) (Nat.le_of_ble_eq_true rfl) dX4_readOrder_81
          · refine K.aload_n (q := 74) dX4_readOrder_73 rfl rfl ?_
            refine K.callV0 (q := 77) mkX4_readNumber mw_X4_59 (s_X4_readNumber _ _) rfl (by decide) rfl (lt141 (by decide)) rx126b (Nat.le_of_ble_eq_true rfl) (Nat.le_of_ble_eq_true rfl) (Nat.le_of_ble_eq_true rfl) dX4_readOrder_74 rfl ?_
            refine K.if_ne (q := 80) (tgt := 82) dX4_readOrder_77 rfl (by decide) (fun c_77_10 => ?_) (fun c_77_10 => ?_)
            · refine K.aload_n (q := 83) dX4_readOrder_82 rfl rfl ?_
              refine K.getf (q := 86) (v := .int ((x_X4_readNumber (x_X4_readSign (x_X4_readDigit (uS X 5 ((X.2.1 5) + 1))) 58)).2.1 6)) fo_X4_35.r rx126b (lt141 (by decide)) rfl dX4_readOrder_83 rfl ?_
              refine K.istore (q := 88) dX4_readOrder_86 rfl (by decide) rfl ?_
              refine K.aload_n (q := 89) dX4_readOrder_88 rfl rfl ?_
              refine K.iload_n (q := 90) dX4_readOrder_89 rfl rfl ?_
              refine K.iload_n (q := 91) dX4_readOrder_90 rfl rfl ?_
              refine K.iload_n (q := 92) dX4_readOrder_91 rfl rfl ?_
              refine K.iload (q := 94) dX4_readOrder_92 rfl rfl ?_
              refine K.callVv0 (q := 97) mkX4_put mw_X4_65 (s_X4_put _ _ _ _ _ _) rfl (by decide) rfl (lt141 (by decide)) rx126b (Nat.le_of_ble_eq_true rfl) (Nat.le_of_ble_eq_true rfl) (Nat.le_of_ble_eq_true rfl) dX4_readOrder_94 rfl ?_
              refine K.iconst (q := 98) (v := 1) dX4_readOrder_97 rfl (by decide) ?_
              exact C.iret rfl rfl (by rw [r_X4_readOrder, if_neg c_9_1, if_pos c_27_2, if_neg c_34_7, if_neg c_61_8, if_neg c_70_9, if_neg c_77_10]) (by rw [x_X4_readOrder, if_neg c_9_1, if_pos c_27_2, if_neg c_34_7, if_neg c_61_8, if_neg c_70_9, if_neg c_77_10]) (Nat.le_of_ble_eq_true rfl) (Nat.le_of_ble_eq_true rfl) dX4_readOrder_98
            · refine K.iconst (q := 81) (v := 0) dX4_readOrder_80 rfl (by decide) ?_
              exact C.iret rfl rfl (by rw [r_X4_readOrder, if_neg c_9_1, if_pos c_27_2, if_neg c_34_7, if_neg c_61_8, if_neg c_70_9, if_pos c_77_10]) (by rw [x_X4_readOrder, if_neg c_9_1, if_pos c_27_2, if_neg c_34_7, if_neg c_61_8, if_neg c_70_9, if_pos c_77_10]) (Nat.le_of_ble_eq_true rfl) (Nat.le_of_ble_eq_true rfl) dX4_readOrder_81
      · refine K.goto (tgt := 47) dX4_readOrder_37 (by decide) ?_
        refine K.iconst (q := 48) (v := 0) dX4_readOrder_47 rfl (by decide) ?_
        exact C.iret rfl rfl (by rw [r_X4_readOrder, if_neg c_9_1, if_pos c_27_2, if_pos c_34_7]) (by rw [x_X4_readOrder, if_neg c_9_1, if_pos c_27_2, if_pos c_34_7]) (Nat.le_of_ble_eq_true rfl) (Nat.le_of_ble_eq_true rfl) dX4_readOrder_48
  · refine K.iconst (q := 13) (v := 0) dX4_readOrder_12 rfl (by decide) ?_
    exact C.iret rfl rfl (by rw [r_X4_readOrder, if_pos c_9_1]) (by rw [x_X4_readOrder, if_pos c_9_1]) (Nat.le_of_ble_eq_true rfl) (Nat.le_of_ble_eq_true rfl) dX4_readOrder_13

def lp_X4_read_12 : Nat → Nat → GS → Option Int32 × GS
  | 0, _, XX => (none, XX)
  | j + 1, i, XX => (if (r_X4_readOrder XX) = 0 then (some ((x_X4_readOrder XX (nI i)).2.1 5), (x_X4_readOrder XX (nI i))) else (if ((x_X4_readOrder XX (nI i)).2.1 5) = ((x_X4_readOrder XX (nI i)).2.1 4) then (some (-1), (uS (x_X4_readOrder XX (nI i)) 3 ((nI i) + 1))) else (if (r_X4_readSign (uS (x_X4_readOrder XX (nI i)) 3 ((nI i) + 1)) 59) = 0 then (some ((x_X4_readSign (uS (x_X4_readOrder XX (nI i)) 3 ((nI i) + 1)) 59).2.1 5), (x_X4_readSign (uS (x_X4_readOrder XX (nI i)) 3 ((nI i) + 1)) 59)) else (lp_X4_read_12 j (i + 1) (x_X4_readSign (uS (x_X4_readOrder XX (nI i)) 3 ((nI i) + 1)) 59)))))

def r_X4_read (X : GS) : Int32 := (if (lp_X4_read_12 20 0 (uS (uS X 5 0) 3 0)).1 = none then (((lp_X4_read_12 20 0 (uS (uS X 5 0) 3 0)).2).2.1 5) else ((lp_X4_read_12 20 0 (uS (uS X 5 0) 3 0)).1.getD 0))

def x_X4_read (X : GS) : GS := (if (lp_X4_read_12 20 0 (uS (uS X 5 0) 3 0)).1 = none then ((lp_X4_read_12 20 0 (uS (uS X 5 0) 3 0)).2) else ((lp_X4_read_12 20 0 (uS (uS X 5 0) 3 0)).2))
set_option maxRecDepth 20000 in
theorem s_X4_read (X : GS) (b : BD) : Ct 5 0 0 yX4_read (.code yX4_read cX4_read 2 (some (.int))) [.ref 126] (mkH (uB X 0 b)) (.inl (some (.int (r_X4_read X)))) (mkH (uB (x_X4_read X) 0 b)) := by
  refine Ct.of (LL := [some (.ref 126), none]) mkX4_read.1 owX4_read rfl (Nat.le_of_ble_eq_true rfl) rfl (fun Wk C => ?_)
  have K := C.core
  refine K.aload_n (q := 1) dX4_read_0 rfl rfl ?_
  refine K.iconst (q := 2) (v := 0) dX4_read_1 rfl (by decide) ?_
  refine K.putf (q := 5) fo_X4_32 rx126b (lt141 (by decide)) (Nat.le_of_ble_eq_true rfl) (fun _ => rfl) (fun _ => rfl) pxs5b dX4_read_2 rfl ?_
  refine K.aload_n (q := 6) dX4_read_5 rfl rfl ?_
  refine K.iconst (q := 7) (v := 0) dX4_read_6 rfl (by decide) ?_
  refine K.putf (q := 10) fo_X4_21 rx126b (lt141 (by decide)) (Nat.le_of_ble_eq_true rfl) (fun _ => rfl) (fun _ => rfl) pxs3b dX4_read_7 rfl ?_
  refine K.iconst (q := 11) (v := 0) dX4_read_10 rfl (by decide) ?_
  refine K.istore_n (q := 12) (i := 1) dX4_read_11 rfl rfl (by decide) rfl ?_
  have L12 : ∀ (j i : Nat) (XX : GS), i + j = 20 → (((lp_X4_read_12 j i XX)).1 = none → Wk 0 0 71 [some (.ref 126), none] [] (mkH (uB ((lp_X4_read_12 j i XX).2) 0 b))) → (∀ v : Int32, (lp_X4_read_12 j i XX).1 = some v → r_X4_read X = v ∧ mkH (uB ((lp_X4_read_12 j i XX).2) 0 b) = mkH (uB (x_X4_read X) 0 b)) → Wk 0 0 12 [some (.ref 126), some (.int (nI i))] [] (mkH (uB XX 0 b)) := by
    intro j
    induction j with
    | zero =>
      intro i XX hij hx hr
      refine K.iload_n (q := 13) dX4_read_12 rfl rfl ?_
      refine K.bipush (q := 15) (v := 20) dX4_read_13 rfl (by decide) ?_
      refine K.icmp_ge (q := 18) (tgt := 71) dX4_read_15 rfl (by decide) (fun _ => ?_) (fun z => absurd z (not_not_intro (nI_le (a := 20) (b := i) (by omega) (by omega))))
      refine K.drop 1 ?_
      exact hx rfl
    | succ j ih =>
      intro i XX hij hx hr
      refine K.iload_n (q := 13) dX4_read_12 rfl rfl ?_
      refine K.bipush (q := 15) (v := 20) dX4_read_13 rfl (by decide) ?_
      refine K.icmp_ge (q := 18) (tgt := 71) dX4_read_15 rfl (by decide) (fun z => absurd z (nI_ge (a := i) (b := 20) (by omega) (by omega))) (fun _ => ?_)
      refine K.aload_n (q := 19) dX4_read_18 rfl rfl ?_
      refine K.iload_n (q := 20) dX4_read_19 rfl rfl ?_
      refine K.callV0 (q := 23) mkX4_readOrder mw_X4_42 (s_X4_readOrder _ _ _) rfl (by decide) rfl (lt141 (by decide)) rx126b (Nat.le_of_ble_eq_true rfl) (Nat.le_of_ble_eq_true rfl) (Nat.le_of_ble_eq_true rfl) dX4_read_20 rfl ?_
      refine K.if_ne (q := 26) (tgt := 31) dX4_read_23 rfl (by decide) (fun c_23_3 => ?_) (fun c_23_3 => ?_)
      · refine K.aload_n (q := 32) dX4_read_31 rfl rfl ?_
        refine K.iload_n (q := 33) dX4_read_32 rfl rfl ?_
        refine K.iconst (q := 34) (v := 1) dX4_read_33 rfl (by decide) ?_
        refine K.iadd (q := 35) dX4_read_34 rfl ?_
        refine K.putf (q := 38) fo_X4_21 rx126b (lt141 (by decide)) (Nat.le_of_ble_eq_true rfl) (fun _ => rfl) (fun _ => rfl) pxs3b dX4_read_35 rfl ?_
        refine K.aload_n (q := 39) dX4_read_38 rfl rfl ?_
        refine K.getf (q := 42) (v := .int ((x_X4_readOrder XX (nI i)).2.1 5)) fo_X4_32.r rx126b (lt141 (by decide)) rfl dX4_read_39 rfl ?_
        refine K.aload_n (q := 43) dX4_read_42 rfl rfl ?_
        refine K.getf (q := 46) (v := .int ((x_X4_readOrder XX (nI i)).2.1 4)) fo_X4_29.r rx126b (lt141 (by decide)) rfl dX4_read_43 rfl ?_
        refine K.icmp_ne (q := 49) (tgt := 51) dX4_read_46 rfl (by decide) (fun c_46_4 => ?_) (fun c_46_4 => ?_)
        · refine K.aload_n (q := 52) dX4_read_51 rfl rfl ?_
          refine K.bipush (q := 54) (v := 59) dX4_read_52 rfl (by decide) ?_
          refine K.callV0 (q := 57) mkX4_readSign mw_X4_45 (s_X4_readSign _ _ _) rfl (by decide) rfl (lt141 (by decide)) rx126b (Nat.le_of_ble_eq_true rfl) (Nat.le_of_ble_eq_true rfl) (Nat.le_of_ble_eq_true rfl) dX4_read_54 rfl ?_
          refine K.if_ne (q := 60) (tgt := 65) dX4_read_57 rfl (by decide) (fun c_57_5 => ?_) (fun c_57_5 => ?_)
          · refine K.iinc (q := 68) (v := (nI (i + 1))) dX4_read_65 rfl rfl (nI_1 _) (by decide) rfl ?_
            refine K.goto (tgt := 12) dX4_read_68 (by decide) ?_
            rw [lp_X4_read_12, if_neg c_23_3, if_neg c_46_4, if_neg c_57_5] at hx hr
            exact ih (i + 1) (x_X4_readSign (uS (x_X4_readOrder XX (nI i)) 3 ((nI i) + 1)) 59) (by omega) hx hr
          · refine K.aload_n (q := 61) dX4_read_60 rfl rfl ?_
            refine K.getf (q := 64) (v := .int ((x_X4_readSign (uS (x_X4_readOrder XX (nI i)) 3 ((nI i) + 1)) 59).2.1 5)) fo_X4_32.r rx126b (lt141 (by decide)) rfl dX4_read_61 rfl ?_
            exact C.iret rfl rfl (by rw [(hr _ (by rw [lp_X4_read_12, if_neg c_23_3, if_neg c_46_4, if_pos c_57_5])).1]) (by have e9 := (hr _ (by rw [lp_X4_read_12, if_neg c_23_3, if_neg c_46_4, if_pos c_57_5])).2; rw [lp_X4_read_12, if_neg c_23_3, if_neg c_46_4, if_pos c_57_5] at e9; (try dsimp only at e9); exact e9) (Nat.le_of_ble_eq_true rfl) (Nat.le_of_ble_eq_true rfl) dX4_read_64
        · refine K.iconst (q := 50) (v := (-1)) dX4_read_49 rfl (by decide) ?_
          exact C.iret rfl rfl (by rw [(hr _ (by rw [lp_X4_read_12, if_neg c_23_3, if_pos c_46_4])).1]) (by have e9 := (hr _ (by rw [lp_X4_read_12, if_neg c_23_3, if_pos c_46_4])).2; rw [lp_X4_read_12, if_neg c_23_3, if_pos c_46_4] at e9; (try dsimp only at e9); exact e9) (Nat.le_of_ble_eq_true rfl) (Nat.le_of_ble_eq_true rfl) dX4_read_50
      · refine K.aload_n (q := 27) dX4_read_26 rfl rfl ?_
        refine K.getf (q := 30) (v := .int ((x_X4_readOrder XX (nI i)).2.1 5)) fo_X4_32.r rx126b (lt141 (by decide)) rfl dX4_read_27 rfl ?_
        exact C.iret rfl rfl (by rw [(hr _ (by rw [lp_X4_read_12, if_pos c_23_3])).1]) (by have e9 := (hr _ (by rw [lp_X4_read_12, if_pos c_23_3])).2; rw [lp_X4_read_12, if_pos c_23_3] at e9; (try dsimp only at e9); exact e9) (Nat.le_of_ble_eq_true rfl) (Nat.le_of_ble_eq_true rfl) dX4_read_30
  refine L12 20 0 (uS (uS X 5 0) 3 0) (by omega) (fun e_12_6 => ?_) (fun v hv => ?_)
  · refine K.aload_n (q := 72) dX4_read_71 rfl rfl ?_
    refine K.getf (q := 75) (v := .int (((lp_X4_read_12 20 0 (uS (uS X 5 0) 3 0)).2).2.1 5)) fo_X4_32.r rx126b (lt141 (by decide)) rfl dX4_read_72 rfl ?_
    exact C.iret rfl rfl (by rw [r_X4_read, if_pos e_12_6]) (by rw [x_X4_read, if_pos e_12_6]) (Nat.le_of_ble_eq_true rfl) (Nat.le_of_ble_eq_true rfl) dX4_read_75
  · exact ⟨by rw [r_X4_read, if_neg (fun h0 => by rw [hv] at h0; cases h0), hv]; rfl, by rw [x_X4_read, if_neg (fun h0 => by rw [hv] at h0; cases h0)]⟩
