def r_X3_has (b : BD) (loan : Int32) : Int32 := (if loan < 0 then 0 else (if (b.1 3) ≤ loan then 0 else (if 16 ≤ loan then 0 else 1)))
set_option maxRecDepth 20000 in
theorem s_X3_has (X : GS) (b : BD) (loan : Int32) : Ct 1 0 0 yX3_has (.code yX3_has cX3_has 2 (some (.boolean))) [.ref 4, .int loan] (mkH (uB X 0 b)) (.inl (some (.int (r_X3_has b loan)))) (mkH (uB X 0 b)) := by
  refine Ct.of (LL := [some (.ref 4), some (.int loan)]) mkX3_has.1 owX3_has rfl (Nat.le_of_ble_eq_true rfl) rfl (fun Wk C => ?_)
  have K := C.core
  refine K.iload_n (q := 1) dX3_has_0 rfl rfl ?_
  refine K.if_lt (q := 4) (tgt := 22) dX3_has_1 rfl (by decide) (fun c_1_1 => ?_) (fun c_1_1 => ?_)
  · refine K.iconst (q := 23) (v := 0) dX3_has_22 rfl (by decide) ?_
    exact C.iret rfl rfl (by rw [r_X3_has, if_pos c_1_1]) rfl (Nat.le_of_ble_eq_true rfl) (Nat.le_of_ble_eq_true rfl) dX3_has_23
  · refine K.iload_n (q := 5) dX3_has_4 rfl rfl ?_
    refine K.aload_n (q := 6) dX3_has_5 rfl rfl ?_
    refine K.getf (q := 9) (v := .int (b.1 3)) fo_X3_24.r rb4 (lt141 (by decide)) rfl dX3_has_6 rfl ?_
    refine K.icmp_ge (q := 12) (tgt := 22) dX3_has_9 rfl (by decide) (fun c_9_2 => ?_) (fun c_9_2 => ?_)
    · refine K.iconst (q := 23) (v := 0) dX3_has_22 rfl (by decide) ?_
      exact C.iret rfl rfl (by rw [r_X3_has, if_neg c_1_1, if_pos c_9_2]) rfl (Nat.le_of_ble_eq_true rfl) (Nat.le_of_ble_eq_true rfl) dX3_has_23
    · refine K.iload_n (q := 13) dX3_has_12 rfl rfl ?_
      refine K.bipush (q := 15) (v := 16) dX3_has_13 rfl (by decide) ?_
      refine K.icmp_ge (q := 18) (tgt := 22) dX3_has_15 rfl (by decide) (fun c_15_3 => ?_) (fun c_15_3 => ?_)
      · refine K.iconst (q := 23) (v := 0) dX3_has_22 rfl (by decide) ?_
        exact C.iret rfl rfl (by rw [r_X3_has, if_neg c_1_1, if_neg c_9_2, if_pos c_15_3]) rfl (Nat.le_of_ble_eq_true rfl) (Nat.le_of_ble_eq_true rfl) dX3_has_23
      · refine K.iconst (q := 19) (v := 1) dX3_has_18 rfl (by decide) ?_
        refine K.goto (tgt := 23) dX3_has_19 (by decide) ?_
        exact C.iret rfl rfl (by rw [r_X3_has, if_neg c_1_1, if_neg c_9_2, if_neg c_15_3]) rfl (Nat.le_of_ble_eq_true rfl) (Nat.le_of_ble_eq_true rfl) dX3_has_23

theorem has3 {b : BD} {x : Int32} (h : ¬ r_X3_has b x = 0) : ¬ x < 0 ∧ ¬ (16 : Int32) ≤ x ∧ ¬ (b.1 3) ≤ x := by
  unfold r_X3_has at h
  by_cases h1 : x < 0
  · rw [if_pos h1] at h; exact absurd rfl h
  · rw [if_neg h1] at h
    by_cases h2 : (b.1 3) ≤ x
    · rw [if_pos h2] at h; exact absurd rfl h
    · rw [if_neg h2] at h
      by_cases h3 : (16 : Int32) ≤ x
      · rw [if_pos h3] at h; exact absurd rfl h
      · exact ⟨h1, h3, h2⟩

def r_X3_nameAt (b : BD) (loan : Int32) : Int32 := (if (r_X3_has b loan) = 0 then (-1) else ((b.2 1) (loan.toNatClampNeg)))
set_option maxRecDepth 20000 in
theorem s_X3_nameAt (X : GS) (b : BD) (loan : Int32) : Ct 2 0 0 yX3_nameAt (.code yX3_nameAt cX3_nameAt 2 (some (.int))) [.ref 4, .int loan] (mkH (uB X 0 b)) (.inl (some (.int (r_X3_nameAt b loan)))) (mkH (uB X 0 b)) := by
  refine Ct.of (LL := [some (.ref 4), some (.int loan)]) mkX3_nameAt.1 owX3_nameAt rfl (Nat.le_of_ble_eq_true rfl) rfl (fun Wk C => ?_)
  have K := C.core
  refine K.aload_n (q := 1) dX3_nameAt_0 rfl rfl ?_
  refine K.iload_n (q := 2) dX3_nameAt_1 rfl rfl ?_
  refine K.callV0 (q := 5) mkX3_has mw_X3_34 (s_X3_has _ _ _) rfl (by decide) rfl (lt141 (by decide)) rb4 (Nat.le_of_ble_eq_true rfl) (Nat.le_of_ble_eq_true rfl) (Nat.le_of_ble_eq_true rfl) dX3_nameAt_2 rfl ?_
  refine K.if_eq (q := 8) (tgt := 17) dX3_nameAt_5 rfl (by decide) (fun c_5_1 => ?_) (fun c_5_1 => ?_)
  · refine K.iconst (q := 18) (v := (-1)) dX3_nameAt_17 rfl (by decide) ?_
    exact C.iret rfl rfl (by rw [r_X3_nameAt, if_pos c_5_1]) rfl (Nat.le_of_ble_eq_true rfl) (Nat.le_of_ble_eq_true rfl) dX3_nameAt_18
  · refine K.aload_n (q := 9) dX3_nameAt_8 rfl rfl ?_
    refine K.getf (q := 12) (v := .ref 5) fo_X3_9.r rb4 (lt141 (by decide)) rfl dX3_nameAt_9 rfl ?_
    refine K.iload_n (q := 13) dX3_nameAt_12 rfl rfl ?_
    refine K.ial (q := 14) (f := (b.2 1)) (m := (loan.toNatClampNeg)) rb5 (lt141 (by decide)) (cl_nI (has3 c_5_1).1) (cl_lt (has3 c_5_1).1 (has3 c_5_1).2.1 (by decide)) (by decide) dX3_nameAt_13 rfl ?_
    refine K.goto (tgt := 18) dX3_nameAt_14 (by decide) ?_
    exact C.iret rfl rfl (by rw [r_X3_nameAt, if_neg c_5_1]) rfl (Nat.le_of_ble_eq_true rfl) (Nat.le_of_ble_eq_true rfl) dX3_nameAt_18

def r_X3_amountAt (b : BD) (loan : Int32) : Int32 := (if (r_X3_has b loan) = 0 then 0 else ((b.2 2) (loan.toNatClampNeg)))
set_option maxRecDepth 20000 in
theorem s_X3_amountAt (X : GS) (b : BD) (loan : Int32) : Ct 2 0 0 yX3_amountAt (.code yX3_amountAt cX3_amountAt 2 (some (.int))) [.ref 4, .int loan] (mkH (uB X 0 b)) (.inl (some (.int (r_X3_amountAt b loan)))) (mkH (uB X 0 b)) := by
  refine Ct.of (LL := [some (.ref 4), some (.int loan)]) mkX3_amountAt.1 owX3_amountAt rfl (Nat.le_of_ble_eq_true rfl) rfl (fun Wk C => ?_)
  have K := C.core
  refine K.aload_n (q := 1) dX3_amountAt_0 rfl rfl ?_
  refine K.iload_n (q := 2) dX3_amountAt_1 rfl rfl ?_
  refine K.callV0 (q := 5) mkX3_has mw_X3_34 (s_X3_has _ _ _) rfl (by decide) rfl (lt141 (by decide)) rb4 (Nat.le_of_ble_eq_true rfl) (Nat.le_of_ble_eq_true rfl) (Nat.le_of_ble_eq_true rfl) dX3_amountAt_2 rfl ?_
  refine K.if_eq (q := 8) (tgt := 17) dX3_amountAt_5 rfl (by decide) (fun c_5_1 => ?_) (fun c_5_1 => ?_)
  · refine K.iconst (q := 18) (v := 0) dX3_amountAt_17 rfl (by decide) ?_
    exact C.iret rfl rfl (by rw [r_X3_amountAt, if_pos c_5_1]) rfl (Nat.le_of_ble_eq_true rfl) (Nat.le_of_ble_eq_true rfl) dX3_amountAt_18
  · refine K.aload_n (q := 9) dX3_amountAt_8 rfl rfl ?_
    refine K.getf (q := 12) (v := .ref 6) fo_X3_15.r rb4 (lt141 (by decide)) rfl dX3_amountAt_9 rfl ?_
    refine K.iload_n (q := 13) dX3_amountAt_12 rfl rfl ?_
    refine K.ial (q := 14) (f := (b.2 2)) (m := (loan.toNatClampNeg)) rb6 (lt141 (by decide)) (cl_nI (has3 c_5_1).1) (cl_lt (has3 c_5_1).1 (has3 c_5_1).2.1 (by decide)) (by decide) dX3_amountAt_13 rfl ?_
    refine K.goto (tgt := 18) dX3_amountAt_14 (by decide) ?_
    exact C.iret rfl rfl (by rw [r_X3_amountAt, if_neg c_5_1]) rfl (Nat.le_of_ble_eq_true rfl) (Nat.le_of_ble_eq_true rfl) dX3_amountAt_18

def r_X3_startAt (b : BD) (loan : Int32) : Int32 := (if (r_X3_has b loan) = 0 then (-1) else ((b.2 3) (loan.toNatClampNeg)))
set_option maxRecDepth 20000 in
theorem s_X3_startAt (X : GS) (b : BD) (loan : Int32) : Ct 2 0 0 yX3_startAt (.code yX3_startAt cX3_startAt 2 (some (.int))) [.ref 4, .int loan] (mkH (uB X 0 b)) (.inl (some (.int (r_X3_startAt b loan)))) (mkH (uB X 0 b)) := by
  refine Ct.of (LL := [some (.ref 4), some (.int loan)]) mkX3_startAt.1 owX3_startAt rfl (Nat.le_of_ble_eq_true rfl) rfl (fun Wk C => ?_)
  have K := C.core
  refine K.aload_n (q := 1) dX3_startAt_0 rfl rfl ?_
  refine K.iload_n (q := 2) dX3_startAt_1 rfl rfl ?_
  refine K.callV0 (q := 5) mkX3_has mw_X3_34 (s_X3_has _ _ _) rfl (by decide) rfl (lt141 (by decide)) rb4 (Nat.le_of_ble_eq_true rfl) (Nat.le_of_ble_eq_true rfl) (Nat.le_of_ble_eq_true rfl) dX3_startAt_2 rfl ?_
  refine K.if_eq (q := 8) (tgt := 17) dX3_startAt_5 rfl (by decide) (fun c_5_1 => ?_) (fun c_5_1 => ?_)
  · refine K.iconst (q := 18) (v := (-1)) dX3_startAt_17 rfl (by decide) ?_
    exact C.iret rfl rfl (by rw [r_X3_startAt, if_pos c_5_1]) rfl (Nat.le_of_ble_eq_true rfl) (Nat.le_of_ble_eq_true rfl) dX3_startAt_18
  · refine K.aload_n (q := 9) dX3_startAt_8 rfl rfl ?_
    refine K.getf (q := 12) (v := .ref 7) fo_X3_18.r rb4 (lt141 (by decide)) rfl dX3_startAt_9 rfl ?_
    refine K.iload_n (q := 13) dX3_startAt_12 rfl rfl ?_
    refine K.ial (q := 14) (f := (b.2 3)) (m := (loan.toNatClampNeg)) rb7 (lt141 (by decide)) (cl_nI (has3 c_5_1).1) (cl_lt (has3 c_5_1).1 (has3 c_5_1).2.1 (by decide)) (by decide) dX3_startAt_13 rfl ?_
    refine K.goto (tgt := 18) dX3_startAt_14 (by decide) ?_
    exact C.iret rfl rfl (by rw [r_X3_startAt, if_neg c_5_1]) rfl (Nat.le_of_ble_eq_true rfl) (Nat.le_of_ble_eq_true rfl) dX3_startAt_18

def r_X3_sizeAt (b : BD) (loan : Int32) : Int32 := (if (r_X3_has b loan) = 0 then 0 else ((b.2 4) (loan.toNatClampNeg)))
set_option maxRecDepth 20000 in
theorem s_X3_sizeAt (X : GS) (b : BD) (loan : Int32) : Ct 2 0 0 yX3_sizeAt (.code yX3_sizeAt cX3_sizeAt 2 (some (.int))) [.ref 4, .int loan] (mkH (uB X 0 b)) (.inl (some (.int (r_X3_sizeAt b loan)))) (mkH (uB X 0 b)) := by
  refine Ct.of (LL := [some (.ref 4), some (.int loan)]) mkX3_sizeAt.1 owX3_sizeAt rfl (Nat.le_of_ble_eq_true rfl) rfl (fun Wk C => ?_)
  have K := C.core
  refine K.aload_n (q := 1) dX3_sizeAt_0 rfl rfl ?_
  refine K.iload_n (q := 2) dX3_sizeAt_1 rfl rfl ?_
  refine K.callV0 (q := 5) mkX3_has mw_X3_34 (s_X3_has _ _ _) rfl (by decide) rfl (lt141 (by decide)) rb4 (Nat.le_of_ble_eq_true rfl) (Nat.le_of_ble_eq_true rfl) (Nat.le_of_ble_eq_true rfl) dX3_sizeAt_2 rfl ?_
  refine K.if_eq (q := 8) (tgt := 17) dX3_sizeAt_5 rfl (by decide) (fun c_5_1 => ?_) (fun c_5_1 => ?_)
  · refine K.iconst (q := 18) (v := 0) dX3_sizeAt_17 rfl (by decide) ?_
    exact C.iret rfl rfl (by rw [r_X3_sizeAt, if_pos c_5_1]) rfl (Nat.le_of_ble_eq_true rfl) (Nat.le_of_ble_eq_true rfl) dX3_sizeAt_18
  · refine K.aload_n (q := 9) dX3_sizeAt_8 rfl rfl ?_
    refine K.getf (q := 12) (v := .ref 8) fo_X3_21.r rb4 (lt141 (by decide)) rfl dX3_sizeAt_9 rfl ?_
    refine K.iload_n (q := 13) dX3_sizeAt_12 rfl rfl ?_
    refine K.ial (q := 14) (f := (b.2 4)) (m := (loan.toNatClampNeg)) rb8 (lt141 (by decide)) (cl_nI (has3 c_5_1).1) (cl_lt (has3 c_5_1).1 (has3 c_5_1).2.1 (by decide)) (by decide) dX3_sizeAt_13 rfl ?_
    refine K.goto (tgt := 18) dX3_sizeAt_14 (by decide) ?_
    exact C.iret rfl rfl (by rw [r_X3_sizeAt, if_neg c_5_1]) rfl (Nat.le_of_ble_eq_true rfl) (Nat.le_of_ble_eq_true rfl) dX3_sizeAt_18

def u_X3_put (b : BD) (loan : Int32) (amount : Int32) (start : Int32) (size : Int32) : BD := (if (r_X3_has b loan) = 0 then b else (bA (bA (bA b 2 (up (b.2 2) (loan.toNatClampNeg) amount)) 3 (up (b.2 3) (loan.toNatClampNeg) start)) 4 (up (b.2 4) (loan.toNatClampNeg) size)))
set_option maxRecDepth 20000 in
theorem s_X3_put (X : GS) (b : BD) (loan : Int32) (amount : Int32) (start : Int32) (size : Int32) : Ct 2 0 0 yX3_put (.code yX3_put cX3_put 5 none) [.ref 4, .int loan, .int amount, .int start, .int size] (mkH (uB X 0 b)) (.inl none) (mkH (uB X 0 (u_X3_put b loan amount start size))) := by
  refine Ct.of (LL := [some (.ref 4), some (.int loan), some (.int amount), some (.int start), some (.int size)]) mkX3_put.1 owX3_put rfl (Nat.le_of_ble_eq_true rfl) rfl (fun Wk C => ?_)
  have K := C.core
  refine K.aload_n (q := 1) dX3_put_0 rfl rfl ?_
  refine K.iload_n (q := 2) dX3_put_1 rfl rfl ?_
  refine K.callV0 (q := 5) mkX3_has mw_X3_34 (s_X3_has _ _ _) rfl (by decide) rfl (lt141 (by decide)) rb4 (Nat.le_of_ble_eq_true rfl) (Nat.le_of_ble_eq_true rfl) (Nat.le_of_ble_eq_true rfl) dX3_put_2 rfl ?_
  refine K.if_eq (q := 8) (tgt := 30) dX3_put_5 rfl (by decide) (fun c_5_1 => ?_) (fun c_5_1 => ?_)
  · exact C.vret rfl rfl (by rw [u_X3_put, if_pos c_5_1]) (Nat.le_of_ble_eq_true rfl) (Nat.le_of_ble_eq_true rfl) dX3_put_30
  · refine K.aload_n (q := 9) dX3_put_8 rfl rfl ?_
    refine K.getf (q := 12) (v := .ref 6) fo_X3_15.r rb4 (lt141 (by decide)) rfl dX3_put_9 rfl ?_
    refine K.iload_n (q := 13) dX3_put_12 rfl rfl ?_
    refine K.iload_n (q := 14) dX3_put_13 rfl rfl ?_
    refine K.ias (q := 15) (f := (b.2 2)) (m := (loan.toNatClampNeg)) rb6 (lt141 (by decide)) (cl_nI (has3 c_5_1).1) (cl_lt (has3 c_5_1).1 (has3 c_5_1).2.1 (by decide)) (by decide) pba2 dX3_put_14 rfl ?_
    refine K.aload_n (q := 16) dX3_put_15 rfl rfl ?_
    refine K.getf (q := 19) (v := .ref 7) fo_X3_18.r rb4 (lt141 (by decide)) rfl dX3_put_16 rfl ?_
    refine K.iload_n (q := 20) dX3_put_19 rfl rfl ?_
    refine K.iload_n (q := 21) dX3_put_20 rfl rfl ?_
    refine K.ias (q := 22) (f := (b.2 3)) (m := (loan.toNatClampNeg)) rb7 (lt141 (by decide)) (cl_nI (has3 c_5_1).1) (cl_lt (has3 c_5_1).1 (has3 c_5_1).2.1 (by decide)) (by decide) pba3 dX3_put_21 rfl ?_
    refine K.aload_n (q := 23) dX3_put_22 rfl rfl ?_
    refine K.getf (q := 26) (v := .ref 8) fo_X3_21.r rb4 (lt141 (by decide)) rfl dX3_put_23 rfl ?_
    refine K.iload_n (q := 27) dX3_put_26 rfl rfl ?_
    refine K.iload (q := 29) dX3_put_27 rfl rfl ?_
    refine K.ias (q := 30) (f := (b.2 4)) (m := (loan.toNatClampNeg)) rb8 (lt141 (by decide)) (cl_nI (has3 c_5_1).1) (cl_lt (has3 c_5_1).1 (has3 c_5_1).2.1 (by decide)) (by decide) pba4 dX3_put_29 rfl ?_
    exact C.vret rfl rfl (by rw [u_X3_put, if_neg c_5_1]) (Nat.le_of_ble_eq_true rfl) (Nat.le_of_ble_eq_true rfl) dX3_put_30

def r_X3_add (b : BD) (name : Int32) (amount : Int32) (start : Int32) (size : Int32) : Int32 := (if start < 0 then (-1) else (if (b.1 3) < 0 then (-1) else (if (b.1 3) < 16 then (((u_X3_put (bS (bA b 1 (up (b.2 1) ((b.1 3).toNatClampNeg) name)) 3 ((b.1 3) + 1)) (((b.1 3) + 1) - 1) amount start size).1 3) - 1) else (-1))))

def u_X3_add (b : BD) (name : Int32) (amount : Int32) (start : Int32) (size : Int32) : BD := (if start < 0 then b else (if (b.1 3) < 0 then b else (if (b.1 3) < 16 then (u_X3_put (bS (bA b 1 (up (b.2 1) ((b.1 3).toNatClampNeg) name)) 3 ((b.1 3) + 1)) (((b.1 3) + 1) - 1) amount start size) else b)))
set_option maxRecDepth 20000 in
theorem s_X3_add (X : GS) (b : BD) (name : Int32) (amount : Int32) (start : Int32) (size : Int32) : Ct 3 0 0 yX3_add (.code yX3_add cX3_add 5 (some (.int))) [.ref 4, .int name, .int amount, .int start, .int size] (mkH (uB X 0 b)) (.inl (some (.int (r_X3_add b name amount start size)))) (mkH (uB X 0 (u_X3_add b name amount start size))) := by
  refine Ct.of (LL := [some (.ref 4), some (.int name), some (.int amount), some (.int start), some (.int size)]) mkX3_add.1 owX3_add rfl (Nat.le_of_ble_eq_true rfl) rfl (fun Wk C => ?_)
  have K := C.core
  refine K.iload_n (q := 1) dX3_add_0 rfl rfl ?_
  refine K.if_lt (q := 4) (tgt := 20) dX3_add_1 rfl (by decide) (fun c_1_1 => ?_) (fun c_1_1 => ?_)
  · refine K.iconst (q := 21) (v := (-1)) dX3_add_20 rfl (by decide) ?_
    exact C.iret rfl rfl (by rw [r_X3_add, if_pos c_1_1]) (by rw [u_X3_add, if_pos c_1_1]) (Nat.le_of_ble_eq_true rfl) (Nat.le_of_ble_eq_true rfl) dX3_add_21
  · refine K.aload_n (q := 5) dX3_add_4 rfl rfl ?_
    refine K.getf (q := 8) (v := .int (b.1 3)) fo_X3_24.r rb4 (lt141 (by decide)) rfl dX3_add_5 rfl ?_
    refine K.if_lt (q := 11) (tgt := 20) dX3_add_8 rfl (by decide) (fun c_8_2 => ?_) (fun c_8_2 => ?_)
    · refine K.iconst (q := 21) (v := (-1)) dX3_add_20 rfl (by decide) ?_
      exact C.iret rfl rfl (by rw [r_X3_add, if_neg c_1_1, if_pos c_8_2]) (by rw [u_X3_add, if_neg c_1_1, if_pos c_8_2]) (Nat.le_of_ble_eq_true rfl) (Nat.le_of_ble_eq_true rfl) dX3_add_21
    · refine K.aload_n (q := 12) dX3_add_11 rfl rfl ?_
      refine K.getf (q := 15) (v := .int (b.1 3)) fo_X3_24.r rb4 (lt141 (by decide)) rfl dX3_add_12 rfl ?_
      refine K.bipush (q := 17) (v := 16) dX3_add_15 rfl (by decide) ?_
      refine K.icmp_lt (q := 20) (tgt := 22) dX3_add_17 rfl (by decide) (fun c_17_3 => ?_) (fun c_17_3 => ?_)
      · refine K.aload_n (q := 23) dX3_add_22 rfl rfl ?_
        refine K.getf (q := 26) (v := .ref 5) fo_X3_9.r rb4 (lt141 (by decide)) rfl dX3_add_23 rfl ?_
        refine K.aload_n (q := 27) dX3_add_26 rfl rfl ?_
        refine K.getf (q := 30) (v := .int (b.1 3)) fo_X3_24.r rb4 (lt141 (by decide)) rfl dX3_add_27 rfl ?_
        refine K.iload_n (q := 31) dX3_add_30 rfl rfl ?_
        refine K.ias (q := 32) (f := (b.2 1)) (m := ((b.1 3).toNatClampNeg)) rb5 (lt141 (by decide)) (cl_nI c_8_2) (cl_lt c_8_2 (Int32.not_le.mpr c_17_3) (by decide)) (by decide) pba1 dX3_add_31 rfl ?_
        refine K.aload_n (q := 33) dX3_add_32 rfl rfl ?_
        refine K.dup (q := 34) dX3_add_33 rfl rfl ?_
        refine K.getf (q := 37) (v := .int (b.1 3)) fo_X3_24.r rb4 (lt141 (by decide)) rfl dX3_add_34 rfl ?_
        refine K.iconst (q := 38) (v := 1) dX3_add_37 rfl (by decide) ?_
        refine K.iadd (q := 39) dX3_add_38 rfl ?_
        refine K.putf (q := 42) fo_X3_24 rb4 (lt141 (by decide)) (Nat.le_of_ble_eq_true rfl) (fun _ => rfl) (fun _ => rfl) pbs3 dX3_add_39 rfl ?_
        refine K.aload_n (q := 43) dX3_add_42 rfl rfl ?_
        refine K.aload_n (q := 44) dX3_add_43 rfl rfl ?_
        refine K.getf (q := 47) (v := .int ((b.1 3) + 1)) fo_X3_24.r rb4 (lt141 (by decide)) rfl dX3_add_44 rfl ?_
        refine K.iconst (q := 48) (v := 1) dX3_add_47 rfl (by decide) ?_
        refine K.isub (q := 49) dX3_add_48 rfl ?_
        refine K.iload_n (q := 50) dX3_add_49 rfl rfl ?_
        refine K.iload_n (q := 51) dX3_add_50 rfl rfl ?_
        refine K.iload (q := 53) dX3_add_51 rfl rfl ?_
        refine K.callVv0 (q := 56) mkX3_put mw_X3_38 (s_X3_put _ _ _ _ _ _) rfl (by decide) rfl (lt141 (by decide)) rb4 (Nat.le_of_ble_eq_true rfl) (Nat.le_of_ble_eq_true rfl) (Nat.le_of_ble_eq_true rfl) dX3_add_53 rfl ?_
        refine K.aload_n (q := 57) dX3_add_56 rfl rfl ?_
        refine K.getf (q := 60) (v := .int ((u_X3_put (bS (bA b 1 (up (b.2 1) ((b.1 3).toNatClampNeg) name)) 3 ((b.1 3) + 1)) (((b.1 3) + 1) - 1) amount start size).1 3)) fo_X3_24.r rb4 (lt141 (by decide)) rfl dX3_add_57 rfl ?_
        refine K.iconst (q := 61) (v := 1) dX3_add_60 rfl (by decide) ?_
        refine K.isub (q := 62) dX3_add_61 rfl ?_
        exact C.iret rfl rfl (by rw [r_X3_add, if_neg c_1_1, if_neg c_8_2, if_pos c_17_3]) (by rw [u_X3_add, if_neg c_1_1, if_neg c_8_2, if_pos c_17_3]) (Nat.le_of_ble_eq_true rfl) (Nat.le_of_ble_eq_true rfl) dX3_add_62
      · refine K.iconst (q := 21) (v := (-1)) dX3_add_20 rfl (by decide) ?_
        exact C.iret rfl rfl (by rw [r_X3_add, if_neg c_1_1, if_neg c_8_2, if_neg c_17_3]) (by rw [u_X3_add, if_neg c_1_1, if_neg c_8_2, if_neg c_17_3]) (Nat.le_of_ble_eq_true rfl) (Nat.le_of_ble_eq_true rfl) dX3_add_21

def lp_X3_countOf_4 (b : BD) (name : Int32) : Nat → Nat → Int32 → Int32
  | 0, _, a2 => a2
  | j + 1, i, a2 => (if (r_X3_nameAt b (nI i)) = name then (lp_X3_countOf_4 b name j (i + 1) (a2 + 1)) else (lp_X3_countOf_4 b name j (i + 1) a2))

def r_X3_countOf (b : BD) (name : Int32) : Int32 := (lp_X3_countOf_4 b name (((b.1 3)).toNatClampNeg) 0 0)
set_option maxRecDepth 20000 in
theorem s_X3_countOf (X : GS) (b : BD) (name : Int32) : Ct 3 0 0 yX3_countOf (.code yX3_countOf cX3_countOf 4 (some (.int))) [.ref 4, .int name] (mkH (uB X 0 b)) (.inl (some (.int (r_X3_countOf b name)))) (mkH (uB X 0 b)) := by
  refine Ct.of (LL := [some (.ref 4), some (.int name), none, none]) mkX3_countOf.1 owX3_countOf rfl (Nat.le_of_ble_eq_true rfl) rfl (fun Wk C => ?_)
  have K := C.core
  refine K.iconst (q := 1) (v := 0) dX3_countOf_0 rfl (by decide) ?_
  refine K.istore_n (q := 2) (i := 2) dX3_countOf_1 rfl rfl (by decide) rfl ?_
  refine K.iconst (q := 3) (v := 0) dX3_countOf_2 rfl (by decide) ?_
  refine K.istore_n (q := 4) (i := 3) dX3_countOf_3 rfl rfl (by decide) rfl ?_
  have L4 : ∀ (j i : Nat) (a2 : Int32), i + j = (((b.1 3)).toNatClampNeg) → (Wk 0 0 30 [some (.ref 4), some (.int name), some (.int (lp_X3_countOf_4 b name j i a2)), none] [] (mkH (uB X 0 b))) → Wk 0 0 4 [some (.ref 4), some (.int name), some (.int a2), some (.int (nI i))] [] (mkH (uB X 0 b)) := by
    intro j
    induction j with
    | zero =>
      intro i a2 hij hx
      refine K.iload_n (q := 5) dX3_countOf_4 rfl rfl ?_
      refine K.aload_n (q := 6) dX3_countOf_5 rfl rfl ?_
      refine K.getf (q := 9) (v := .int (b.1 3)) fo_X3_24.r rb4 (lt141 (by decide)) rfl dX3_countOf_6 rfl ?_
      refine K.icmp_ge (q := 12) (tgt := 30) dX3_countOf_9 rfl (by decide) (fun _ => ?_) (fun z => absurd z (not_not_intro (cl_ge (B := (b.1 3)) (by omega))))
      refine K.drop 3 ?_
      exact hx
    | succ j ih =>
      intro i a2 hij hx
      refine K.iload_n (q := 5) dX3_countOf_4 rfl rfl ?_
      refine K.aload_n (q := 6) dX3_countOf_5 rfl rfl ?_
      refine K.getf (q := 9) (v := .int (b.1 3)) fo_X3_24.r rb4 (lt141 (by decide)) rfl dX3_countOf_6 rfl ?_
      refine K.icmp_ge (q := 12) (tgt := 30) dX3_countOf_9 rfl (by decide) (fun z => absurd z (cl_nge (B := (b.1 3)) (by omega))) (fun _ => ?_)
      refine K.aload_n (q := 13) dX3_countOf_12 rfl rfl ?_
      refine K.iload_n (q := 14) dX3_countOf_13 rfl rfl ?_
      refine K.callV0 (q := 17) mkX3_nameAt mw_X3_42 (s_X3_nameAt _ _ _) rfl (by decide) rfl (lt141 (by decide)) rb4 (Nat.le_of_ble_eq_true rfl) (Nat.le_of_ble_eq_true rfl) (Nat.le_of_ble_eq_true rfl) dX3_countOf_14 rfl ?_
      refine K.iload_n (q := 18) dX3_countOf_17 rfl rfl ?_
      refine K.icmp_ne (q := 21) (tgt := 24) dX3_countOf_18 rfl (by decide) (fun c_18_3 => ?_) (fun c_18_3 => ?_)
      · refine K.iinc (q := 27) (v := (nI (i + 1))) dX3_countOf_24 rfl rfl (nI_1 _) (by decide) rfl ?_
        refine K.goto (tgt := 4) dX3_countOf_27 (by decide) ?_
        rw [lp_X3_countOf_4, if_neg c_18_3] at hx
        exact ih (i + 1) a2 (by omega) hx
      · refine K.iinc (q := 24) (v := (a2 + 1)) dX3_countOf_21 rfl rfl rfl (by decide) rfl ?_
        refine K.iinc (q := 27) (v := (nI (i + 1))) dX3_countOf_24 rfl rfl (nI_1 _) (by decide) rfl ?_
        refine K.goto (tgt := 4) dX3_countOf_27 (by decide) ?_
        rw [lp_X3_countOf_4, if_pos c_18_3] at hx
        exact ih (i + 1) (a2 + 1) (by omega) hx
  refine L4 (((b.1 3)).toNatClampNeg) 0 0 (by omega) ?_
  refine K.iload_n (q := 31) dX3_countOf_30 rfl rfl ?_
  exact C.iret rfl rfl (by rw [r_X3_countOf]) rfl (Nat.le_of_ble_eq_true rfl) (Nat.le_of_ble_eq_true rfl) dX3_countOf_31

def lp_X3_amountsOf_4 (b : BD) (name : Int32) : Nat → Nat → Int32 → Int32
  | 0, _, a2 => a2
  | j + 1, i, a2 => (if (r_X3_nameAt b (nI i)) = name then (lp_X3_amountsOf_4 b name j (i + 1) (a2 + (r_X3_amountAt b (nI i)))) else (lp_X3_amountsOf_4 b name j (i + 1) a2))

def r_X3_amountsOf (b : BD) (name : Int32) : Int32 := (lp_X3_amountsOf_4 b name (((b.1 3)).toNatClampNeg) 0 0)
def lp_X3_sizesOf_4 (b : BD) (name : Int32) : Nat → Nat → Int32 → Int32
  | 0, _, a2 => a2
  | j + 1, i, a2 => (if (r_X3_nameAt b (nI i)) = name then (lp_X3_sizesOf_4 b name j (i + 1) (a2 + (r_X3_sizeAt b (nI i)))) else (lp_X3_sizesOf_4 b name j (i + 1) a2))

def r_X3_sizesOf (b : BD) (name : Int32) : Int32 := (lp_X3_sizesOf_4 b name (((b.1 3)).toNatClampNeg) 0 0)
set_option maxRecDepth 20000 in
theorem s_X3_sizesOf (X : GS) (b : BD) (name : Int32) : Ct 3 0 0 yX3_sizesOf (.code yX3_sizesOf cX3_sizesOf 4 (some (.int))) [.ref 4, .int name] (mkH (uB X 0 b)) (.inl (some (.int (r_X3_sizesOf b name)))) (mkH (uB X 0 b)) := by
  refine Ct.of (LL := [some (.ref 4), some (.int name), none, none]) mkX3_sizesOf.1 owX3_sizesOf rfl (Nat.le_of_ble_eq_true rfl) rfl (fun Wk C => ?_)
  have K := C.core
  refine K.iconst (q := 1) (v := 0) dX3_sizesOf_0 rfl (by decide) ?_
  refine K.istore_n (q := 2) (i := 2) dX3_sizesOf_1 rfl rfl (by decide) rfl ?_
  refine K.iconst (q := 3) (v := 0) dX3_sizesOf_2 rfl (by decide) ?_
  refine K.istore_n (q := 4) (i := 3) dX3_sizesOf_3 rfl rfl (by decide) rfl ?_
  have L4 : ∀ (j i : Nat) (a2 : Int32), i + j = (((b.1 3)).toNatClampNeg) → (Wk 0 0 35 [some (.ref 4), some (.int name), some (.int (lp_X3_sizesOf_4 b name j i a2)), none] [] (mkH (uB X 0 b))) → Wk 0 0 4 [some (.ref 4), some (.int name), some (.int a2), some (.int (nI i))] [] (mkH (uB X 0 b)) := by
    intro j
    induction j with
    | zero =>
      intro i a2 hij hx
      refine K.iload_n (q := 5) dX3_sizesOf_4 rfl rfl ?_
      refine K.aload_n (q := 6) dX3_sizesOf_5 rfl rfl ?_
      refine K.getf (q := 9) (v := .int (b.1 3)) fo_X3_24.r rb4 (lt141 (by decide)) rfl dX3_sizesOf_6 rfl ?_
      refine K.icmp_ge (q := 12) (tgt := 35) dX3_sizesOf_9 rfl (by decide) (fun _ => ?_) (fun z => absurd z (not_not_intro (cl_ge (B := (b.1 3)) (by omega))))
      refine K.drop 3 ?_
      exact hx
    | succ j ih =>
      intro i a2 hij hx
      refine K.iload_n (q := 5) dX3_sizesOf_4 rfl rfl ?_
      refine K.aload_n (q := 6) dX3_sizesOf_5 rfl rfl ?_
      refine K.getf (q := 9) (v := .int (b.1 3)) fo_X3_24.r rb4 (lt141 (by decide)) rfl dX3_sizesOf_6 rfl ?_
      refine K.icmp_ge (q := 12) (tgt := 35) dX3_sizesOf_9 rfl (by decide) (fun z => absurd z (cl_nge (B := (b.1 3)) (by omega))) (fun _ => ?_)
      refine K.aload_n (q := 13) dX3_sizesOf_12 rfl rfl ?_
      refine K.iload_n (q := 14) dX3_sizesOf_13 rfl rfl ?_
      refine K.callV0 (q := 17) mkX3_nameAt mw_X3_42 (s_X3_nameAt _ _ _) rfl (by decide) rfl (lt141 (by decide)) rb4 (Nat.le_of_ble_eq_true rfl) (Nat.le_of_ble_eq_true rfl) (Nat.le_of_ble_eq_true rfl) dX3_sizesOf_14 rfl ?_
      refine K.iload_n (q := 18) dX3_sizesOf_17 rfl rfl ?_
      refine K.icmp_ne (q := 21) (tgt := 29) dX3_sizesOf_18 rfl (by decide) (fun c_18_3 => ?_) (fun c_18_3 => ?_)
      · refine K.iinc (q := 32) (v := (nI (i + 1))) dX3_sizesOf_29 rfl rfl (nI_1 _) (by decide) rfl ?_
        refine K.goto (tgt := 4) dX3_sizesOf_32 (by decide) ?_
        rw [lp_X3_sizesOf_4, if_neg c_18_3] at hx
        exact ih (i + 1) a2 (by omega) hx
      · refine K.iload_n (q := 22) dX3_sizesOf_21 rfl rfl ?_
        refine K.aload_n (q := 23) dX3_sizesOf_22 rfl rfl ?_
        refine K.iload_n (q := 24) dX3_sizesOf_23 rfl rfl ?_
        refine K.callV0 (q := 27) mkX3_sizeAt mw_X3_49 (s_X3_sizeAt _ _ _) rfl (by decide) rfl (lt141 (by decide)) rb4 (Nat.le_of_ble_eq_true rfl) (Nat.le_of_ble_eq_true rfl) (Nat.le_of_ble_eq_true rfl) dX3_sizesOf_24 rfl ?_
        refine K.iadd (q := 28) dX3_sizesOf_27 rfl ?_
        refine K.istore_n (q := 29) (i := 2) dX3_sizesOf_28 rfl rfl (by decide) rfl ?_
        refine K.iinc (q := 32) (v := (nI (i + 1))) dX3_sizesOf_29 rfl rfl (nI_1 _) (by decide) rfl ?_
        refine K.goto (tgt := 4) dX3_sizesOf_32 (by decide) ?_
        rw [lp_X3_sizesOf_4, if_pos c_18_3] at hx
        exact ih (i + 1) (a2 + (r_X3_sizeAt b (nI i))) (by omega) hx
  refine L4 (((b.1 3)).toNatClampNeg) 0 0 (by omega) ?_
  refine K.iload_n (q := 36) dX3_sizesOf_35 rfl rfl ?_
  exact C.iret rfl rfl (by rw [r_X3_sizesOf]) rfl (Nat.le_of_ble_eq_true rfl) (Nat.le_of_ble_eq_true rfl) dX3_sizesOf_36

def lp_X3_allAmounts_4 (b : BD) : Nat → Nat → Int32 → Int32
  | 0, _, a1 => a1
  | j + 1, i, a1 => (lp_X3_allAmounts_4 b j (i + 1) (a1 + (r_X3_amountAt b (nI i))))

def r_X3_allAmounts (b : BD) : Int32 := (lp_X3_allAmounts_4 b (((b.1 3)).toNatClampNeg) 0 0)
set_option maxRecDepth 20000 in
theorem s_X3_allAmounts (X : GS) (b : BD) : Ct 3 0 0 yX3_allAmounts (.code yX3_allAmounts cX3_allAmounts 3 (some (.int))) [.ref 4] (mkH (uB X 0 b)) (.inl (some (.int (r_X3_allAmounts b)))) (mkH (uB X 0 b)) := by
  refine Ct.of (LL := [some (.ref 4), none, none]) mkX3_allAmounts.1 owX3_allAmounts rfl (Nat.le_of_ble_eq_true rfl) rfl (fun Wk C => ?_)
  have K := C.core
  refine K.iconst (q := 1) (v := 0) dX3_allAmounts_0 rfl (by decide) ?_
  refine K.istore_n (q := 2) (i := 1) dX3_allAmounts_1 rfl rfl (by decide) rfl ?_
  refine K.iconst (q := 3) (v := 0) dX3_allAmounts_2 rfl (by decide) ?_
  refine K.istore_n (q := 4) (i := 2) dX3_allAmounts_3 rfl rfl (by decide) rfl ?_
  have L4 : ∀ (j i : Nat) (a1 : Int32), i + j = (((b.1 3)).toNatClampNeg) → (Wk 0 0 26 [some (.ref 4), some (.int (lp_X3_allAmounts_4 b j i a1)), none] [] (mkH (uB X 0 b))) → Wk 0 0 4 [some (.ref 4), some (.int a1), some (.int (nI i))] [] (mkH (uB X 0 b)) := by
    intro j
    induction j with
    | zero =>
      intro i a1 hij hx
      refine K.iload_n (q := 5) dX3_allAmounts_4 rfl rfl ?_
      refine K.aload_n (q := 6) dX3_allAmounts_5 rfl rfl ?_
      refine K.getf (q := 9) (v := .int (b.1 3)) fo_X3_24.r rb4 (lt141 (by decide)) rfl dX3_allAmounts_6 rfl ?_
      refine K.icmp_ge (q := 12) (tgt := 26) dX3_allAmounts_9 rfl (by decide) (fun _ => ?_) (fun z => absurd z (not_not_intro (cl_ge (B := (b.1 3)) (by omega))))
      refine K.drop 2 ?_
      exact hx
    | succ j ih =>
      intro i a1 hij hx
      refine K.iload_n (q := 5) dX3_allAmounts_4 rfl rfl ?_
      refine K.aload_n (q := 6) dX3_allAmounts_5 rfl rfl ?_
      refine K.getf (q := 9) (v := .int (b.1 3)) fo_X3_24.r rb4 (lt141 (by decide)) rfl dX3_allAmounts_6 rfl ?_
      refine K.icmp_ge (q := 12) (tgt := 26) dX3_allAmounts_9 rfl (by decide) (fun z => absurd z (cl_nge (B := (b.1 3)) (by omega))) (fun _ => ?_)
      refine K.iload_n (q := 13) dX3_allAmounts_12 rfl rfl ?_
      refine K.aload_n (q := 14) dX3_allAmounts_13 rfl rfl ?_
      refine K.iload_n (q := 15) dX3_allAmounts_14 rfl rfl ?_
      refine K.callV0 (q := 18) mkX3_amountAt mw_X3_46 (s_X3_amountAt _ _ _) rfl (by decide) rfl (lt141 (by decide)) rb4 (Nat.le_of_ble_eq_true rfl) (Nat.le_of_ble_eq_true rfl) (Nat.le_of_ble_eq_true rfl) dX3_allAmounts_15 rfl ?_
      refine K.iadd (q := 19) dX3_allAmounts_18 rfl ?_
      refine K.istore_n (q := 20) (i := 1) dX3_allAmounts_19 rfl rfl (by decide) rfl ?_
      refine K.iinc (q := 23) (v := (nI (i + 1))) dX3_allAmounts_20 rfl rfl (nI_1 _) (by decide) rfl ?_
      refine K.goto (tgt := 4) dX3_allAmounts_23 (by decide) ?_
      rw [lp_X3_allAmounts_4] at hx
      exact ih (i + 1) (a1 + (r_X3_amountAt b (nI i))) (by omega) hx
  refine L4 (((b.1 3)).toNatClampNeg) 0 0 (by omega) ?_
  refine K.iload_n (q := 27) dX3_allAmounts_26 rfl rfl ?_
  exact C.iret rfl rfl (by rw [r_X3_allAmounts]) rfl (Nat.le_of_ble_eq_true rfl) (Nat.le_of_ble_eq_true rfl) dX3_allAmounts_27

def lp_X3_allSizes_4 (b : BD) : Nat → Nat → Int32 → Int32
  | 0, _, a1 => a1
  | j + 1, i, a1 => (lp_X3_allSizes_4 b j (i + 1) (a1 + (r_X3_sizeAt b (nI i))))

def r_X3_allSizes (b : BD) : Int32 := (lp_X3_allSizes_4 b (((b.1 3)).toNatClampNeg) 0 0)
set_option maxRecDepth 20000 in
theorem s_X3_allSizes (X : GS) (b : BD) : Ct 3 0 0 yX3_allSizes (.code yX3_allSizes cX3_allSizes 3 (some (.int))) [.ref 4] (mkH (uB X 0 b)) (.inl (some (.int (r_X3_allSizes b)))) (mkH (uB X 0 b)) := by
  refine Ct.of (LL := [some (.ref 4), none, none]) mkX3_allSizes.1 owX3_allSizes rfl (Nat.le_of_ble_eq_true rfl) rfl (fun Wk C => ?_)
  have K := C.core
  refine K.iconst (q := 1) (v := 0) dX3_allSizes_0 rfl (by decide) ?_
  refine K.istore_n (q := 2) (i := 1) dX3_allSizes_1 rfl rfl (by decide) rfl ?_
  refine K.iconst (q := 3) (v := 0) dX3_allSizes_2 rfl (by decide) ?_
  refine K.istore_n (q := 4) (i := 2) dX3_allSizes_3 rfl rfl (by decide) rfl ?_
  have L4 : ∀ (j i : Nat) (a1 : Int32), i + j = (((b.1 3)).toNatClampNeg) → (Wk 0 0 26 [some (.ref 4), some (.int (lp_X3_allSizes_4 b j i a1)), none] [] (mkH (uB X 0 b))) → Wk 0 0 4 [some (.ref 4), some (.int a1), some (.int (nI i))] [] (mkH (uB X 0 b)) := by
    intro j
    induction j with
    | zero =>
      intro i a1 hij hx
      refine K.iload_n (q := 5) dX3_allSizes_4 rfl rfl ?_
      refine K.aload_n (q := 6) dX3_allSizes_5 rfl rfl ?_
      refine K.getf (q := 9) (v := .int (b.1 3)) fo_X3_24.r rb4 (lt141 (by decide)) rfl dX3_allSizes_6 rfl ?_
      refine K.icmp_ge (q := 12) (tgt := 26) dX3_allSizes_9 rfl (by decide) (fun _ => ?_) (fun z => absurd z (not_not_intro (cl_ge (B := (b.1 3)) (by omega))))
      refine K.drop 2 ?_
      exact hx
    | succ j ih =>
      intro i a1 hij hx
      refine K.iload_n (q := 5) dX3_allSizes_4 rfl rfl ?_
      refine K.aload_n (q := 6) dX3_allSizes_5 rfl rfl ?_
      refine K.getf (q := 9) (v := .int (b.1 3)) fo_X3_24.r rb4 (lt141 (by decide)) rfl dX3_allSizes_6 rfl ?_
      refine K.icmp_ge (q := 12) (tgt := 26) dX3_allSizes_9 rfl (by decide) (fun z => absurd z (cl_nge (B := (b.1 3)) (by omega))) (fun _ => ?_)
      refine K.iload_n (q := 13) dX3_allSizes_12 rfl rfl ?_
      refine K.aload_n (q := 14) dX3_allSizes_13 rfl rfl ?_
      refine K.iload_n (q := 15) dX3_allSizes_14 rfl rfl ?_
      refine K.callV0 (q := 18) mkX3_sizeAt mw_X3_49 (s_X3_sizeAt _ _ _) rfl (by decide) rfl (lt141 (by decide)) rb4 (Nat.le_of_ble_eq_true rfl) (Nat.le_of_ble_eq_true rfl) (Nat.le_of_ble_eq_true rfl) dX3_allSizes_15 rfl ?_
      refine K.iadd (q := 19) dX3_allSizes_18 rfl ?_
      refine K.istore_n (q := 20) (i := 1) dX3_allSizes_19 rfl rfl (by decide) rfl ?_
      refine K.iinc (q := 23) (v := (nI (i + 1))) dX3_allSizes_20 rfl rfl (nI_1 _) (by decide) rfl ?_
      refine K.goto (tgt := 4) dX3_allSizes_23 (by decide) ?_
      rw [lp_X3_allSizes_4] at hx
      exact ih (i + 1) (a1 + (r_X3_sizeAt b (nI i))) (by omega) hx
  refine L4 (((b.1 3)).toNatClampNeg) 0 0 (by omega) ?_
  refine K.iload_n (q := 27) dX3_allSizes_26 rfl rfl ?_
  exact C.iret rfl rfl (by rw [r_X3_allSizes]) rfl (Nat.le_of_ble_eq_true rfl) (Nat.le_of_ble_eq_true rfl) dX3_allSizes_27

def r_X3_isIn (b : BD) (loan : Int32) (start : Int32) (size : Int32) : Int32 := (if (r_X3_has b loan) = 0 then 0 else (if (start + size) ≤ ((b.2 3) (loan.toNatClampNeg)) then 0 else (if (((b.2 3) (loan.toNatClampNeg)) + ((b.2 4) (loan.toNatClampNeg))) ≤ start then 0 else 1)))
set_option maxRecDepth 20000 in
theorem s_X3_isIn (X : GS) (b : BD) (loan : Int32) (start : Int32) (size : Int32) : Ct 2 0 0 yX3_isIn (.code yX3_isIn cX3_isIn 4 (some (.boolean))) [.ref 4, .int loan, .int start, .int size] (mkH (uB X 0 b)) (.inl (some (.int (r_X3_isIn b loan start size)))) (mkH (uB X 0 b)) := by
  refine Ct.of (LL := [some (.ref 4), some (.int loan), some (.int start), some (.int size)]) mkX3_isIn.1 owX3_isIn rfl (Nat.le_of_ble_eq_true rfl) rfl (fun Wk C => ?_)
  have K := C.core
  refine K.aload_n (q := 1) dX3_isIn_0 rfl rfl ?_
  refine K.iload_n (q := 2) dX3_isIn_1 rfl rfl ?_
  refine K.callV0 (q := 5) mkX3_has mw_X3_34 (s_X3_has _ _ _) rfl (by decide) rfl (lt141 (by decide)) rb4 (Nat.le_of_ble_eq_true rfl) (Nat.le_of_ble_eq_true rfl) (Nat.le_of_ble_eq_true rfl) dX3_isIn_2 rfl ?_
  refine K.if_eq (q := 8) (tgt := 41) dX3_isIn_5 rfl (by decide) (fun c_5_1 => ?_) (fun c_5_1 => ?_)
  · refine K.iconst (q := 42) (v := 0) dX3_isIn_41 rfl (by decide) ?_
    exact C.iret rfl rfl (by rw [r_X3_isIn, if_pos c_5_1]) rfl (Nat.le_of_ble_eq_true rfl) (Nat.le_of_ble_eq_true rfl) dX3_isIn_42
  · refine K.aload_n (q := 9) dX3_isIn_8 rfl rfl ?_
    refine K.getf (q := 12) (v := .ref 7) fo_X3_18.r rb4 (lt141 (by decide)) rfl dX3_isIn_9 rfl ?_
    refine K.iload_n (q := 13) dX3_isIn_12 rfl rfl ?_
    refine K.ial (q := 14) (f := (b.2 3)) (m := (loan.toNatClampNeg)) rb7 (lt141 (by decide)) (cl_nI (has3 c_5_1).1) (cl_lt (has3 c_5_1).1 (has3 c_5_1).2.1 (by decide)) (by decide) dX3_isIn_13 rfl ?_
    refine K.iload_n (q := 15) dX3_isIn_14 rfl rfl ?_
    refine K.iload_n (q := 16) dX3_isIn_15 rfl rfl ?_
    refine K.iadd (q := 17) dX3_isIn_16 rfl ?_
    refine K.icmp_ge (q := 20) (tgt := 41) dX3_isIn_17 rfl (by decide) (fun c_17_2 => ?_) (fun c_17_2 => ?_)
    · refine K.iconst (q := 42) (v := 0) dX3_isIn_41 rfl (by decide) ?_
      exact C.iret rfl rfl (by rw [r_X3_isIn, if_neg c_5_1, if_pos c_17_2]) rfl (Nat.le_of_ble_eq_true rfl) (Nat.le_of_ble_eq_true rfl) dX3_isIn_42
    · refine K.iload_n (q := 21) dX3_isIn_20 rfl rfl ?_
      refine K.aload_n (q := 22) dX3_isIn_21 rfl rfl ?_
      refine K.getf (q := 25) (v := .ref 7) fo_X3_18.r rb4 (lt141 (by decide)) rfl dX3_isIn_22 rfl ?_
      refine K.iload_n (q := 26) dX3_isIn_25 rfl rfl ?_
      refine K.ial (q := 27) (f := (b.2 3)) (m := (loan.toNatClampNeg)) rb7 (lt141 (by decide)) (cl_nI (has3 c_5_1).1) (cl_lt (has3 c_5_1).1 (has3 c_5_1).2.1 (by decide)) (by decide) dX3_isIn_26 rfl ?_
      refine K.aload_n (q := 28) dX3_isIn_27 rfl rfl ?_
      refine K.getf (q := 31) (v := .ref 8) fo_X3_21.r rb4 (lt141 (by decide)) rfl dX3_isIn_28 rfl ?_
      refine K.iload_n (q := 32) dX3_isIn_31 rfl rfl ?_
      refine K.ial (q := 33) (f := (b.2 4)) (m := (loan.toNatClampNeg)) rb8 (lt141 (by decide)) (cl_nI (has3 c_5_1).1) (cl_lt (has3 c_5_1).1 (has3 c_5_1).2.1 (by decide)) (by decide) dX3_isIn_32 rfl ?_
      refine K.iadd (q := 34) dX3_isIn_33 rfl ?_
      refine K.icmp_ge (q := 37) (tgt := 41) dX3_isIn_34 rfl (by decide) (fun c_34_3 => ?_) (fun c_34_3 => ?_)
      · refine K.iconst (q := 42) (v := 0) dX3_isIn_41 rfl (by decide) ?_
        exact C.iret rfl rfl (by rw [r_X3_isIn, if_neg c_5_1, if_neg c_17_2, if_pos c_34_3]) rfl (Nat.le_of_ble_eq_true rfl) (Nat.le_of_ble_eq_true rfl) dX3_isIn_42
      · refine K.iconst (q := 38) (v := 1) dX3_isIn_37 rfl (by decide) ?_
        refine K.goto (tgt := 42) dX3_isIn_38 (by decide) ?_
        exact C.iret rfl rfl (by rw [r_X3_isIn, if_neg c_5_1, if_neg c_17_2, if_neg c_34_3]) rfl (Nat.le_of_ble_eq_true rfl) (Nat.le_of_ble_eq_true rfl) dX3_isIn_42

def lp_X3_holderOf_2 (b : BD) (unit : Int32) : Nat → Nat → Option Int32
  | 0, _ => none
  | j + 1, i => (if (r_X3_isIn b (nI i) unit 1) = 0 then (lp_X3_holderOf_2 b unit j (i + 1) ) else some (nI i))

def r_X3_holderOf (b : BD) (unit : Int32) : Int32 := (if (lp_X3_holderOf_2 b unit (((b.1 3)).toNatClampNeg) 0) = none then (-1) else ((lp_X3_holderOf_2 b unit (((b.1 3)).toNatClampNeg) 0).getD 0))
set_option maxRecDepth 20000 in
theorem s_X3_holderOf (X : GS) (b : BD) (unit : Int32) : Ct 3 0 0 yX3_holderOf (.code yX3_holderOf cX3_holderOf 3 (some (.int))) [.ref 4, .int unit] (mkH (uB X 0 b)) (.inl (some (.int (r_X3_holderOf b unit)))) (mkH (uB X 0 b)) := by
  refine Ct.of (LL := [some (.ref 4), some (.int unit), none]) mkX3_holderOf.1 owX3_holderOf rfl (Nat.le_of_ble_eq_true rfl) rfl (fun Wk C => ?_)
  have K := C.core
  refine K.iconst (q := 1) (v := 0) dX3_holderOf_0 rfl (by decide) ?_
  refine K.istore_n (q := 2) (i := 2) dX3_holderOf_1 rfl rfl (by decide) rfl ?_
  have L2 : ∀ (j i : Nat), i + j = (((b.1 3)).toNatClampNeg) → (((lp_X3_holderOf_2 b unit j i)) = none → Wk 0 0 28 [some (.ref 4), some (.int unit), none] [] (mkH (uB X 0 b))) → (∀ v : Int32, (lp_X3_holderOf_2 b unit j i) = some v → r_X3_holderOf b unit = v) → Wk 0 0 2 [some (.ref 4), some (.int unit), some (.int (nI i))] [] (mkH (uB X 0 b)) := by
    intro j
    induction j with
    | zero =>
      intro i  hij hx hr
      refine K.iload_n (q := 3) dX3_holderOf_2 rfl rfl ?_
      refine K.aload_n (q := 4) dX3_holderOf_3 rfl rfl ?_
      refine K.getf (q := 7) (v := .int (b.1 3)) fo_X3_24.r rb4 (lt141 (by decide)) rfl dX3_holderOf_4 rfl ?_
      refine K.icmp_ge (q := 10) (tgt := 28) dX3_holderOf_7 rfl (by decide) (fun _ => ?_) (fun z => absurd z (not_not_intro (cl_ge (B := (b.1 3)) (by omega))))
      refine K.drop 2 ?_
      exact hx rfl
    | succ j ih =>
      intro i  hij hx hr
      refine K.iload_n (q := 3) dX3_holderOf_2 rfl rfl ?_
      refine K.aload_n (q := 4) dX3_holderOf_3 rfl rfl ?_
      refine K.getf (q := 7) (v := .int (b.1 3)) fo_X3_24.r rb4 (lt141 (by decide)) rfl dX3_holderOf_4 rfl ?_
      refine K.icmp_ge (q := 10) (tgt := 28) dX3_holderOf_7 rfl (by decide) (fun z => absurd z (cl_nge (B := (b.1 3)) (by omega))) (fun _ => ?_)
      refine K.aload_n (q := 11) dX3_holderOf_10 rfl rfl ?_
      refine K.iload_n (q := 12) dX3_holderOf_11 rfl rfl ?_
      refine K.iload_n (q := 13) dX3_holderOf_12 rfl rfl ?_
      refine K.iconst (q := 14) (v := 1) dX3_holderOf_13 rfl (by decide) ?_
      refine K.callV0 (q := 17) mkX3_isIn mw_X3_52 (s_X3_isIn _ _ _ _ _) rfl (by decide) rfl (lt141 (by decide)) rb4 (Nat.le_of_ble_eq_true rfl) (Nat.le_of_ble_eq_true rfl) (Nat.le_of_ble_eq_true rfl) dX3_holderOf_14 rfl ?_
      refine K.if_eq (q := 20) (tgt := 22) dX3_holderOf_17 rfl (by decide) (fun c_17_3 => ?_) (fun c_17_3 => ?_)
      · refine K.iinc (q := 25) (v := (nI (i + 1))) dX3_holderOf_22 rfl rfl (nI_1 _) (by decide) rfl ?_
        refine K.goto (tgt := 2) dX3_holderOf_25 (by decide) ?_
        rw [lp_X3_holderOf_2, if_pos c_17_3] at hx hr
        exact ih (i + 1)  (by omega) hx hr
      · refine K.iload_n (q := 21) dX3_holderOf_20 rfl rfl ?_
        exact C.iret rfl rfl (by rw [hr _ (by rw [lp_X3_holderOf_2, if_neg c_17_3])]) rfl (Nat.le_of_ble_eq_true rfl) (Nat.le_of_ble_eq_true rfl) dX3_holderOf_21
  refine L2 (((b.1 3)).toNatClampNeg) 0  (by omega) (fun e_2_4 => ?_) (fun v hv => ?_)
  · refine K.iconst (q := 29) (v := (-1)) dX3_holderOf_28 rfl (by decide) ?_
    exact C.iret rfl rfl (by rw [r_X3_holderOf, if_pos e_2_4]) rfl (Nat.le_of_ble_eq_true rfl) (Nat.le_of_ble_eq_true rfl) dX3_holderOf_29
  · rw [r_X3_holderOf, if_neg (fun h0 => by rw [hv] at h0; cases h0), hv]; rfl

def lp_X3_countIn_5 (b : BD) (start : Int32) (size : Int32) : Nat → Nat → Int32 → Int32
  | 0, _, a3 => a3
  | j + 1, i, a3 => (if (r_X3_isIn b (nI i) start size) = 0 then (lp_X3_countIn_5 b start size j (i + 1) a3) else (lp_X3_countIn_5 b start size j (i + 1) (a3 + 1)))

def r_X3_countIn (b : BD) (start : Int32) (size : Int32) : Int32 := (lp_X3_countIn_5 b start size (((b.1 3)).toNatClampNeg) 0 0)
set_option maxRecDepth 20000 in
theorem s_X3_countIn (X : GS) (b : BD) (start : Int32) (size : Int32) : Ct 3 0 0 yX3_countIn (.code yX3_countIn cX3_countIn 5 (some (.int))) [.ref 4, .int start, .int size] (mkH (uB X 0 b)) (.inl (some (.int (r_X3_countIn b start size)))) (mkH (uB X 0 b)) := by
  refine Ct.of (LL := [some (.ref 4), some (.int start), some (.int size), none, none]) mkX3_countIn.1 owX3_countIn rfl (Nat.le_of_ble_eq_true rfl) rfl (fun Wk C => ?_)
  have K := C.core
  refine K.iconst (q := 1) (v := 0) dX3_countIn_0 rfl (by decide) ?_
  refine K.istore_n (q := 2) (i := 3) dX3_countIn_1 rfl rfl (by decide) rfl ?_
  refine K.iconst (q := 3) (v := 0) dX3_countIn_2 rfl (by decide) ?_
  refine K.istore (q := 5) dX3_countIn_3 rfl (by decide) rfl ?_
  have L5 : ∀ (j i : Nat) (a3 : Int32), i + j = (((b.1 3)).toNatClampNeg) → (Wk 0 0 34 [some (.ref 4), some (.int start), some (.int size), some (.int (lp_X3_countIn_5 b start size j i a3)), none] [] (mkH (uB X 0 b))) → Wk 0 0 5 [some (.ref 4), some (.int start), some (.int size), some (.int a3), some (.int (nI i))] [] (mkH (uB X 0 b)) := by
    intro j
    induction j with
    | zero =>
      intro i a3 hij hx
      refine K.iload (q := 7) dX3_countIn_5 rfl rfl ?_
      refine K.aload_n (q := 8) dX3_countIn_7 rfl rfl ?_
      refine K.getf (q := 11) (v := .int (b.1 3)) fo_X3_24.r rb4 (lt141 (by decide)) rfl dX3_countIn_8 rfl ?_
      refine K.icmp_ge (q := 14) (tgt := 34) dX3_countIn_11 rfl (by decide) (fun _ => ?_) (fun z => absurd z (not_not_intro (cl_ge (B := (b.1 3)) (by omega))))
      refine K.drop 4 ?_
      exact hx
    | succ j ih =>
      intro i a3 hij hx
      refine K.iload (q := 7) dX3_countIn_5 rfl rfl ?_
      refine K.aload_n (q := 8) dX3_countIn_7 rfl rfl ?_
      refine K.getf (q := 11) (v := .int (b.1 3)) fo_X3_24.r rb4 (lt141 (by decide)) rfl dX3_countIn_8 rfl ?_
      refine K.icmp_ge (q := 14) (tgt := 34) dX3_countIn_11 rfl (by decide) (fun z => absurd z (cl_nge (B := (b.1 3)) (by omega))) (fun _ => ?_)
      refine K.aload_n (q := 15) dX3_countIn_14 rfl rfl ?_
      refine K.iload (q := 17) dX3_countIn_15 rfl rfl ?_
      refine K.iload_n (q := 18) dX3_countIn_17 rfl rfl ?_
      refine K.iload_n (q := 19) dX3_countIn_18 rfl rfl ?_
      refine K.callV0 (q := 22) mkX3_isIn mw_X3_52 (s_X3_isIn _ _ _ _ _) rfl (by decide) rfl (lt141 (by decide)) rb4 (Nat.le_of_ble_eq_true rfl) (Nat.le_of_ble_eq_true rfl) (Nat.le_of_ble_eq_true rfl) dX3_countIn_19 rfl ?_
      refine K.if_eq (q := 25) (tgt := 28) dX3_countIn_22 rfl (by decide) (fun c_22_3 => ?_) (fun c_22_3 => ?_)
      · refine K.iinc (q := 31) (v := (nI (i + 1))) dX3_countIn_28 rfl rfl (nI_1 _) (by decide) rfl ?_
        refine K.goto (tgt := 5) dX3_countIn_31 (by decide) ?_
        rw [lp_X3_countIn_5, if_pos c_22_3] at hx
        exact ih (i + 1) a3 (by omega) hx
      · refine K.iinc (q := 28) (v := (a3 + 1)) dX3_countIn_25 rfl rfl rfl (by decide) rfl ?_
        refine K.iinc (q := 31) (v := (nI (i + 1))) dX3_countIn_28 rfl rfl (nI_1 _) (by decide) rfl ?_
        refine K.goto (tgt := 5) dX3_countIn_31 (by decide) ?_
        rw [lp_X3_countIn_5, if_neg c_22_3] at hx
        exact ih (i + 1) (a3 + 1) (by omega) hx
  refine L5 (((b.1 3)).toNatClampNeg) 0 0 (by omega) ?_
  refine K.iload_n (q := 35) dX3_countIn_34 rfl rfl ?_
  exact C.iret rfl rfl (by rw [r_X3_countIn]) rfl (Nat.le_of_ble_eq_true rfl) (Nat.le_of_ble_eq_true rfl) dX3_countIn_35

def lp_X3_isFirstOfName_2 (b : BD) (loan : Int32) : Nat → Nat → Option Int32
  | 0, _ => none
  | j + 1, i => (if (r_X3_nameAt b (nI i)) = (r_X3_nameAt b loan) then some 0 else (lp_X3_isFirstOfName_2 b loan j (i + 1) ))

def r_X3_isFirstOfName (b : BD) (loan : Int32) : Int32 := (if (lp_X3_isFirstOfName_2 b loan ((loan).toNatClampNeg) 0) = none then 1 else ((lp_X3_isFirstOfName_2 b loan ((loan).toNatClampNeg) 0).getD 0))
set_option maxRecDepth 20000 in
theorem s_X3_isFirstOfName (X : GS) (b : BD) (loan : Int32) : Ct 3 0 0 yX3_isFirstOfName (.code yX3_isFirstOfName cX3_isFirstOfName 3 (some (.boolean))) [.ref 4, .int loan] (mkH (uB X 0 b)) (.inl (some (.int (r_X3_isFirstOfName b loan)))) (mkH (uB X 0 b)) := by
  refine Ct.of (LL := [some (.ref 4), some (.int loan), none]) mkX3_isFirstOfName.1 owX3_isFirstOfName rfl (Nat.le_of_ble_eq_true rfl) rfl (fun Wk C => ?_)
  have K := C.core
  refine K.iconst (q := 1) (v := 0) dX3_isFirstOfName_0 rfl (by decide) ?_
  refine K.istore_n (q := 2) (i := 2) dX3_isFirstOfName_1 rfl rfl (by decide) rfl ?_
  have L2 : ∀ (j i : Nat), i + j = ((loan).toNatClampNeg) → (((lp_X3_isFirstOfName_2 b loan j i)) = none → Wk 0 0 28 [some (.ref 4), some (.int loan), none] [] (mkH (uB X 0 b))) → (∀ v : Int32, (lp_X3_isFirstOfName_2 b loan j i) = some v → r_X3_isFirstOfName b loan = v) → Wk 0 0 2 [some (.ref 4), some (.int loan), some (.int (nI i))] [] (mkH (uB X 0 b)) := by
    intro j
    induction j with
    | zero =>
      intro i  hij hx hr
      refine K.iload_n (q := 3) dX3_isFirstOfName_2 rfl rfl ?_
      refine K.iload_n (q := 4) dX3_isFirstOfName_3 rfl rfl ?_
      refine K.icmp_ge (q := 7) (tgt := 28) dX3_isFirstOfName_4 rfl (by decide) (fun _ => ?_) (fun z => absurd z (not_not_intro (cl_ge (B := loan) (by omega))))
      refine K.drop 2 ?_
      exact hx rfl
    | succ j ih =>
      intro i  hij hx hr
      refine K.iload_n (q := 3) dX3_isFirstOfName_2 rfl rfl ?_
      refine K.iload_n (q := 4) dX3_isFirstOfName_3 rfl rfl ?_
      refine K.icmp_ge (q := 7) (tgt := 28) dX3_isFirstOfName_4 rfl (by decide) (fun z => absurd z (cl_nge (B := loan) (by omega))) (fun _ => ?_)
      refine K.aload_n (q := 8) dX3_isFirstOfName_7 rfl rfl ?_
      refine K.iload_n (q := 9) dX3_isFirstOfName_8 rfl rfl ?_
      refine K.callV0 (q := 12) mkX3_nameAt mw_X3_42 (s_X3_nameAt _ _ _) rfl (by decide) rfl (lt141 (by decide)) rb4 (Nat.le_of_ble_eq_true rfl) (Nat.le_of_ble_eq_true rfl) (Nat.le_of_ble_eq_true rfl) dX3_isFirstOfName_9 rfl ?_
      refine K.aload_n (q := 13) dX3_isFirstOfName_12 rfl rfl ?_
      refine K.iload_n (q := 14) dX3_isFirstOfName_13 rfl rfl ?_
      refine K.callV0 (q := 17) mkX3_nameAt mw_X3_42 (s_X3_nameAt _ _ _) rfl (by decide) rfl (lt141 (by decide)) rb4 (Nat.le_of_ble_eq_true rfl) (Nat.le_of_ble_eq_true rfl) (Nat.le_of_ble_eq_true rfl) dX3_isFirstOfName_14 rfl ?_
      refine K.icmp_ne (q := 20) (tgt := 22) dX3_isFirstOfName_17 rfl (by decide) (fun c_17_3 => ?_) (fun c_17_3 => ?_)
      · refine K.iinc (q := 25) (v := (nI (i + 1))) dX3_isFirstOfName_22 rfl rfl (nI_1 _) (by decide) rfl ?_
        refine K.goto (tgt := 2) dX3_isFirstOfName_25 (by decide) ?_
        rw [lp_X3_isFirstOfName_2, if_neg c_17_3] at hx hr
        exact ih (i + 1)  (by omega) hx hr
      · refine K.iconst (q := 21) (v := 0) dX3_isFirstOfName_20 rfl (by decide) ?_
        exact C.iret rfl rfl (by rw [hr _ (by rw [lp_X3_isFirstOfName_2, if_pos c_17_3])]) rfl (Nat.le_of_ble_eq_true rfl) (Nat.le_of_ble_eq_true rfl) dX3_isFirstOfName_21
  refine L2 ((loan).toNatClampNeg) 0  (by omega) (fun e_2_4 => ?_) (fun v hv => ?_)
  · refine K.iconst (q := 29) (v := 1) dX3_isFirstOfName_28 rfl (by decide) ?_
    exact C.iret rfl rfl (by rw [r_X3_isFirstOfName, if_pos e_2_4]) rfl (Nat.le_of_ble_eq_true rfl) (Nat.le_of_ble_eq_true rfl) dX3_isFirstOfName_29
  · rw [r_X3_isFirstOfName, if_neg (fun h0 => by rw [hv] at h0; cases h0), hv]; rfl

def lp_X3_countAhead_11 (b : BD) (name : Int32) : Nat → Nat → Int32 → Int32
  | 0, _, a3 => a3
  | j + 1, i, a3 => (if (r_X3_isFirstOfName b (nI i)) = 0 then (lp_X3_countAhead_11 b name j (i + 1) a3) else (if (r_X3_sizesOf b name) < (r_X3_sizesOf b (r_X3_nameAt b (nI i))) then (lp_X3_countAhead_11 b name j (i + 1) (a3 + 1)) else (if (r_X3_sizesOf b (r_X3_nameAt b (nI i))) = (r_X3_sizesOf b name) then (if name ≤ (r_X3_nameAt b (nI i)) then (lp_X3_countAhead_11 b name j (i + 1) a3) else (lp_X3_countAhead_11 b name j (i + 1) (a3 + 1))) else (lp_X3_countAhead_11 b name j (i + 1) a3))))

def r_X3_countAhead (b : BD) (name : Int32) : Int32 := (lp_X3_countAhead_11 b name (((b.1 3)).toNatClampNeg) 0 0)
set_option maxRecDepth 20000 in
theorem s_X3_countAhead (X : GS) (b : BD) (name : Int32) : Ct 4 0 0 yX3_countAhead (.code yX3_countAhead cX3_countAhead 7 (some (.int))) [.ref 4, .int name] (mkH (uB X 0 b)) (.inl (some (.int (r_X3_countAhead b name)))) (mkH (uB X 0 b)) := by
  refine Ct.of (LL := [some (.ref 4), some (.int name), none, none, none, none, none]) mkX3_countAhead.1 owX3_countAhead rfl (Nat.le_of_ble_eq_true rfl) rfl (fun Wk C => ?_)
  have K := C.core
  refine K.aload_n (q := 1) dX3_countAhead_0 rfl rfl ?_
  refine K.iload_n (q := 2) dX3_countAhead_1 rfl rfl ?_
  refine K.callV0 (q := 5) mkX3_sizesOf mw_X3_68 (s_X3_sizesOf _ _ _) rfl (by decide) rfl (lt141 (by decide)) rb4 (Nat.le_of_ble_eq_true rfl) (Nat.le_of_ble_eq_true rfl) (Nat.le_of_ble_eq_true rfl) dX3_countAhead_2 rfl ?_
  refine K.istore_n (q := 6) (i := 2) dX3_countAhead_5 rfl rfl (by decide) rfl ?_
  refine K.iconst (q := 7) (v := 0) dX3_countAhead_6 rfl (by decide) ?_
  refine K.istore_n (q := 8) (i := 3) dX3_countAhead_7 rfl rfl (by decide) rfl ?_
  refine K.iconst (q := 9) (v := 0) dX3_countAhead_8 rfl (by decide) ?_
  refine K.istore (q := 11) dX3_countAhead_9 rfl (by decide) rfl ?_
  have L11 : ∀ (j i : Nat) (a3 : Int32), i + j = (((b.1 3)).toNatClampNeg) → (Wk 0 0 72 [some (.ref 4), some (.int name), some (.int (r_X3_sizesOf b name)), some (.int (lp_X3_countAhead_11 b name j i a3)), none, none, none] [] (mkH (uB X 0 b))) → Wk 0 0 11 [some (.ref 4), some (.int name), some (.int (r_X3_sizesOf b name)), some (.int a3), some (.int (nI i)), none, none] [] (mkH (uB X 0 b)) := by
    intro j
    induction j with
    | zero =>
      intro i a3 hij hx
      refine K.iload (q := 13) dX3_countAhead_11 rfl rfl ?_
      refine K.aload_n (q := 14) dX3_countAhead_13 rfl rfl ?_
      refine K.getf (q := 17) (v := .int (b.1 3)) fo_X3_24.r rb4 (lt141 (by decide)) rfl dX3_countAhead_14 rfl ?_
      refine K.icmp_ge (q := 20) (tgt := 72) dX3_countAhead_17 rfl (by decide) (fun _ => ?_) (fun z => absurd z (not_not_intro (cl_ge (B := (b.1 3)) (by omega))))
      refine K.drop 4 ?_
      exact hx
    | succ j ih =>
      intro i a3 hij hx
      refine K.iload (q := 13) dX3_countAhead_11 rfl rfl ?_
      refine K.aload_n (q := 14) dX3_countAhead_13 rfl rfl ?_
      refine K.getf (q := 17) (v := .int (b.1 3)) fo_X3_24.r rb4 (lt141 (by decide)) rfl dX3_countAhead_14 rfl ?_
      refine K.icmp_ge (q := 20) (tgt := 72) dX3_countAhead_17 rfl (by decide) (fun z => absurd z (cl_nge (B := (b.1 3)) (by omega))) (fun _ => ?_)
      refine K.aload_n (q := 21) dX3_countAhead_20 rfl rfl ?_
      refine K.iload (q := 23) dX3_countAhead_21 rfl rfl ?_
      refine K.callV0 (q := 26) mkX3_nameAt mw_X3_42 (s_X3_nameAt _ _ _) rfl (by decide) rfl (lt141 (by decide)) rb4 (Nat.le_of_ble_eq_true rfl) (Nat.le_of_ble_eq_true rfl) (Nat.le_of_ble_eq_true rfl) dX3_countAhead_23 rfl ?_
      refine K.istore (q := 28) dX3_countAhead_26 rfl (by decide) rfl ?_
      refine K.aload_n (q := 29) dX3_countAhead_28 rfl rfl ?_
      refine K.iload (q := 31) dX3_countAhead_29 rfl rfl ?_
      refine K.callV0 (q := 34) mkX3_sizesOf mw_X3_68 (s_X3_sizesOf _ _ _) rfl (by decide) rfl (lt141 (by decide)) rb4 (Nat.le_of_ble_eq_true rfl) (Nat.le_of_ble_eq_true rfl) (Nat.le_of_ble_eq_true rfl) dX3_countAhead_31 rfl ?_
      refine K.istore (q := 36) dX3_countAhead_34 rfl (by decide) rfl ?_
      refine K.aload_n (q := 37) dX3_countAhead_36 rfl rfl ?_
      refine K.iload (q := 39) dX3_countAhead_37 rfl rfl ?_
      refine K.callV0 (q := 42) mkX3_isFirstOfName mw_X3_71 (s_X3_isFirstOfName _ _ _) rfl (by decide) rfl (lt141 (by decide)) rb4 (Nat.le_of_ble_eq_true rfl) (Nat.le_of_ble_eq_true rfl) (Nat.le_of_ble_eq_true rfl) dX3_countAhead_39 rfl ?_
      refine K.if_eq (q := 45) (tgt := 66) dX3_countAhead_42 rfl (by decide) (fun c_42_3 => ?_) (fun c_42_3 => ?_)
      · refine K.iinc (q := 69) (v := (nI (i + 1))) dX3_countAhead_66 rfl rfl (nI_1 _) (by decide) rfl ?_
        refine K.goto (tgt := 11) dX3_countAhead_69 (by decide) ?_
        refine K.drop 5 ?_
        refine K.drop 6 ?_
        rw [lp_X3_countAhead_11, if_pos c_42_3] at hx
        exact ih (i + 1) a3 (by omega) hx
      · refine K.iload (q := 47) dX3_countAhead_45 rfl rfl ?_
        refine K.iload_n (q := 48) dX3_countAhead_47 rfl rfl ?_
        refine K.icmp_gt (q := 51) (tgt := 63) dX3_countAhead_48 rfl (by decide) (fun c_48_4 => ?_) (fun c_48_4 => ?_)
        · refine K.iinc (q := 66) (v := (a3 + 1)) dX3_countAhead_63 rfl rfl rfl (by decide) rfl ?_
          refine K.iinc (q := 69) (v := (nI (i + 1))) dX3_countAhead_66 rfl rfl (nI_1 _) (by decide) rfl ?_
          refine K.goto (tgt := 11) dX3_countAhead_69 (by decide) ?_
          refine K.drop 5 ?_
          refine K.drop 6 ?_
          rw [lp_X3_countAhead_11, if_neg c_42_3, if_pos c_48_4] at hx
          exact ih (i + 1) (a3 + 1) (by omega) hx
        · refine K.iload (q := 53) dX3_countAhead_51 rfl rfl ?_
          refine K.iload_n (q := 54) dX3_countAhead_53 rfl rfl ?_
          refine K.icmp_ne (q := 57) (tgt := 66) dX3_countAhead_54 rfl (by decide) (fun c_54_5 => ?_) (fun c_54_5 => ?_)
          · refine K.iinc (q := 69) (v := (nI (i + 1))) dX3_countAhead_66 rfl rfl (nI_1 _) (by decide) rfl ?_
            refine K.goto (tgt := 11) dX3_countAhead_69 (by decide) ?_
            refine K.drop 5 ?_
            refine K.drop 6 ?_
            rw [lp_X3_countAhead_11, if_neg c_42_3, if_neg c_48_4, if_neg c_54_5] at hx
            exact ih (i + 1) a3 (by omega) hx
          · refine K.iload (q := 59) dX3_countAhead_57 rfl rfl ?_
            refine K.iload_n (q := 60) dX3_countAhead_59 rfl rfl ?_
            refine K.icmp_ge (q := 63) (tgt := 66) dX3_countAhead_60 rfl (by decide) (fun c_60_6 => ?_) (fun c_60_6 => ?_)
            · refine K.iinc (q := 69) (v := (nI (i + 1))) dX3_countAhead_66 rfl rfl (nI_1 _) (by decide) rfl ?_
              refine K.goto (tgt := 11) dX3_countAhead_69 (by decide) ?_
              refine K.drop 5 ?_
              refine K.drop 6 ?_
              rw [lp_X3_countAhead_11, if_neg c_42_3, if_neg c_48_4, if_pos c_54_5, if_pos c_60_6] at hx
              exact ih (i + 1) a3 (by omega) hx
            · refine K.iinc (q := 66) (v := (a3 + 1)) dX3_countAhead_63 rfl rfl rfl (by decide) rfl ?_
              refine K.iinc (q := 69) (v := (nI (i + 1))) dX3_countAhead_66 rfl rfl (nI_1 _) (by decide) rfl ?_
              refine K.goto (tgt := 11) dX3_countAhead_69 (by decide) ?_
              refine K.drop 5 ?_
              refine K.drop 6 ?_
              rw [lp_X3_countAhead_11, if_neg c_42_3, if_neg c_48_4, if_pos c_54_5, if_neg c_60_6] at hx
              exact ih (i + 1) (a3 + 1) (by omega) hx
  refine L11 (((b.1 3)).toNatClampNeg) 0 0 (by omega) ?_
  refine K.iload_n (q := 73) dX3_countAhead_72 rfl rfl ?_
  exact C.iret rfl rfl (by rw [r_X3_countAhead]) rfl (Nat.le_of_ble_eq_true rfl) (Nat.le_of_ble_eq_true rfl) dX3_countAhead_73

def lp_X3_nameOfRank_2 (b : BD) (place : Int32) : Nat → Nat → Option Int32
  | 0, _ => none
  | j + 1, i => (if (r_X3_countAhead b (r_X3_nameAt b (nI i))) = place then some (r_X3_nameAt b (nI i)) else (lp_X3_nameOfRank_2 b place j (i + 1) ))

def r_X3_nameOfRank (b : BD) (place : Int32) : Int32 := (if (lp_X3_nameOfRank_2 b place (((b.1 3)).toNatClampNeg) 0) = none then (-1) else ((lp_X3_nameOfRank_2 b place (((b.1 3)).toNatClampNeg) 0).getD 0))
set_option maxRecDepth 20000 in
theorem s_X3_nameOfRank (X : GS) (b : BD) (place : Int32) : Ct 5 0 0 yX3_nameOfRank (.code yX3_nameOfRank cX3_nameOfRank 3 (some (.int))) [.ref 4, .int place] (mkH (uB X 0 b)) (.inl (some (.int (r_X3_nameOfRank b place)))) (mkH (uB X 0 b)) := by
  refine Ct.of (LL := [some (.ref 4), some (.int place), none]) mkX3_nameOfRank.1 owX3_nameOfRank rfl (Nat.le_of_ble_eq_true rfl) rfl (fun Wk C => ?_)
  have K := C.core
  refine K.iconst (q := 1) (v := 0) dX3_nameOfRank_0 rfl (by decide) ?_
  refine K.istore_n (q := 2) (i := 2) dX3_nameOfRank_1 rfl rfl (by decide) rfl ?_
  have L2 : ∀ (j i : Nat), i + j = (((b.1 3)).toNatClampNeg) → (((lp_X3_nameOfRank_2 b place j i)) = none → Wk 0 0 35 [some (.ref 4), some (.int place), none] [] (mkH (uB X 0 b))) → (∀ v : Int32, (lp_X3_nameOfRank_2 b place j i) = some v → r_X3_nameOfRank b place = v) → Wk 0 0 2 [some (.ref 4), some (.int place), some (.int (nI i))] [] (mkH (uB X 0 b)) := by
    intro j
    induction j with
    | zero =>
      intro i  hij hx hr
      refine K.iload_n (q := 3) dX3_nameOfRank_2 rfl rfl ?_
      refine K.aload_n (q := 4) dX3_nameOfRank_3 rfl rfl ?_
      refine K.getf (q := 7) (v := .int (b.1 3)) fo_X3_24.r rb4 (lt141 (by decide)) rfl dX3_nameOfRank_4 rfl ?_
      refine K.icmp_ge (q := 10) (tgt := 35) dX3_nameOfRank_7 rfl (by decide) (fun _ => ?_) (fun z => absurd z (not_not_intro (cl_ge (B := (b.1 3)) (by omega))))
      refine K.drop 2 ?_
      exact hx rfl
    | succ j ih =>
      intro i  hij hx hr
      refine K.iload_n (q := 3) dX3_nameOfRank_2 rfl rfl ?_
      refine K.aload_n (q := 4) dX3_nameOfRank_3 rfl rfl ?_
      refine K.getf (q := 7) (v := .int (b.1 3)) fo_X3_24.r rb4 (lt141 (by decide)) rfl dX3_nameOfRank_4 rfl ?_
      refine K.icmp_ge (q := 10) (tgt := 35) dX3_nameOfRank_7 rfl (by decide) (fun z => absurd z (cl_nge (B := (b.1 3)) (by omega))) (fun _ => ?_)
      refine K.aload_n (q := 11) dX3_nameOfRank_10 rfl rfl ?_
      refine K.aload_n (q := 12) dX3_nameOfRank_11 rfl rfl ?_
      refine K.iload_n (q := 13) dX3_nameOfRank_12 rfl rfl ?_
      refine K.callV0 (q := 16) mkX3_nameAt mw_X3_42 (s_X3_nameAt _ _ _) rfl (by decide) rfl (lt141 (by decide)) rb4 (Nat.le_of_ble_eq_true rfl) (Nat.le_of_ble_eq_true rfl) (Nat.le_of_ble_eq_true rfl) dX3_nameOfRank_13 rfl ?_
      refine K.callV0 (q := 19) mkX3_countAhead mw_X3_65 (s_X3_countAhead _ _ _) rfl (by decide) rfl (lt141 (by decide)) rb4 (Nat.le_of_ble_eq_true rfl) (Nat.le_of_ble_eq_true rfl) (Nat.le_of_ble_eq_true rfl) dX3_nameOfRank_16 rfl ?_
      refine K.iload_n (q := 20) dX3_nameOfRank_19 rfl rfl ?_
      refine K.icmp_ne (q := 23) (tgt := 29) dX3_nameOfRank_20 rfl (by decide) (fun c_20_3 => ?_) (fun c_20_3 => ?_)
      · refine K.iinc (q := 32) (v := (nI (i + 1))) dX3_nameOfRank_29 rfl rfl (nI_1 _) (by decide) rfl ?_
        refine K.goto (tgt := 2) dX3_nameOfRank_32 (by decide) ?_
        rw [lp_X3_nameOfRank_2, if_neg c_20_3] at hx hr
        exact ih (i + 1)  (by omega) hx hr
      · refine K.aload_n (q := 24) dX3_nameOfRank_23 rfl rfl ?_
        refine K.iload_n (q := 25) dX3_nameOfRank_24 rfl rfl ?_
        refine K.callV0 (q := 28) mkX3_nameAt mw_X3_42 (s_X3_nameAt _ _ _) rfl (by decide) rfl (lt141 (by decide)) rb4 (Nat.le_of_ble_eq_true rfl) (Nat.le_of_ble_eq_true rfl) (Nat.le_of_ble_eq_true rfl) dX3_nameOfRank_25 rfl ?_
        exact C.iret rfl rfl (by rw [hr _ (by rw [lp_X3_nameOfRank_2, if_pos c_20_3])]) rfl (Nat.le_of_ble_eq_true rfl) (Nat.le_of_ble_eq_true rfl) dX3_nameOfRank_28
  refine L2 (((b.1 3)).toNatClampNeg) 0  (by omega) (fun e_2_4 => ?_) (fun v hv => ?_)
  · refine K.iconst (q := 36) (v := (-1)) dX3_nameOfRank_35 rfl (by decide) ?_
    exact C.iret rfl rfl (by rw [r_X3_nameOfRank, if_pos e_2_4]) rfl (Nat.le_of_ble_eq_true rfl) (Nat.le_of_ble_eq_true rfl) dX3_nameOfRank_36
  · rw [r_X3_nameOfRank, if_neg (fun h0 => by rw [hv] at h0; cases h0), hv]; rfl

def lp_X3_isEachNeedMet_2 (b : BD) : Nat → Nat → Option Int32
  | 0, _ => none
  | j + 1, i => (if (r_X3_sizeAt b (nI i)) < (r_X3_amountAt b (nI i)) then some 0 else (if ((r_X3_sizeAt b (nI i)) / 2) < (r_X3_amountAt b (nI i)) then (lp_X3_isEachNeedMet_2 b j (i + 1) ) else some 0))

def r_X3_isEachNeedMet (b : BD) : Int32 := (if (lp_X3_isEachNeedMet_2 b (((b.1 3)).toNatClampNeg) 0) = none then 1 else ((lp_X3_isEachNeedMet_2 b (((b.1 3)).toNatClampNeg) 0).getD 0))
set_option maxRecDepth 20000 in
theorem s_X3_isEachNeedMet (X : GS) (b : BD) : Ct 3 0 0 yX3_isEachNeedMet (.code yX3_isEachNeedMet cX3_isEachNeedMet 2 (some (.boolean))) [.ref 4] (mkH (uB X 0 b)) (.inl (some (.int (r_X3_isEachNeedMet b)))) (mkH (uB X 0 b)) := by
  refine Ct.of (LL := [some (.ref 4), none]) mkX3_isEachNeedMet.1 owX3_isEachNeedMet rfl (Nat.le_of_ble_eq_true rfl) rfl (fun Wk C => ?_)
  have K := C.core
  refine K.iconst (q := 1) (v := 0) dX3_isEachNeedMet_0 rfl (by decide) ?_
  refine K.istore_n (q := 2) (i := 1) dX3_isEachNeedMet_1 rfl rfl (by decide) rfl ?_
  have L2 : ∀ (j i : Nat), i + j = (((b.1 3)).toNatClampNeg) → (((lp_X3_isEachNeedMet_2 b j i)) = none → Wk 0 0 46 [some (.ref 4), none] [] (mkH (uB X 0 b))) → (∀ v : Int32, (lp_X3_isEachNeedMet_2 b j i) = some v → r_X3_isEachNeedMet b = v) → Wk 0 0 2 [some (.ref 4), some (.int (nI i))] [] (mkH (uB X 0 b)) := by
    intro j
    induction j with
    | zero =>
      intro i  hij hx hr
      refine K.iload_n (q := 3) dX3_isEachNeedMet_2 rfl rfl ?_
      refine K.aload_n (q := 4) dX3_isEachNeedMet_3 rfl rfl ?_
      refine K.getf (q := 7) (v := .int (b.1 3)) fo_X3_24.r rb4 (lt141 (by decide)) rfl dX3_isEachNeedMet_4 rfl ?_
      refine K.icmp_ge (q := 10) (tgt := 46) dX3_isEachNeedMet_7 rfl (by decide) (fun _ => ?_) (fun z => absurd z (not_not_intro (cl_ge (B := (b.1 3)) (by omega))))
      refine K.drop 1 ?_
      exact hx rfl
    | succ j ih =>
      intro i  hij hx hr
      refine K.iload_n (q := 3) dX3_isEachNeedMet_2 rfl rfl ?_
      refine K.aload_n (q := 4) dX3_isEachNeedMet_3 rfl rfl ?_
      refine K.getf (q := 7) (v := .int (b.1 3)) fo_X3_24.r rb4 (lt141 (by decide)) rfl dX3_isEachNeedMet_4 rfl ?_
      refine K.icmp_ge (q := 10) (tgt := 46) dX3_isEachNeedMet_7 rfl (by decide) (fun z => absurd z (cl_nge (B := (b.1 3)) (by omega))) (fun _ => ?_)
      refine K.aload_n (q := 11) dX3_isEachNeedMet_10 rfl rfl ?_
      refine K.iload_n (q := 12) dX3_isEachNeedMet_11 rfl rfl ?_
      refine K.callV0 (q := 15) mkX3_sizeAt mw_X3_49 (s_X3_sizeAt _ _ _) rfl (by decide) rfl (lt141 (by decide)) rb4 (Nat.le_of_ble_eq_true rfl) (Nat.le_of_ble_eq_true rfl) (Nat.le_of_ble_eq_true rfl) dX3_isEachNeedMet_12 rfl ?_
      refine K.aload_n (q := 16) dX3_isEachNeedMet_15 rfl rfl ?_
      refine K.iload_n (q := 17) dX3_isEachNeedMet_16 rfl rfl ?_
      refine K.callV0 (q := 20) mkX3_amountAt mw_X3_46 (s_X3_amountAt _ _ _) rfl (by decide) rfl (lt141 (by decide)) rb4 (Nat.le_of_ble_eq_true rfl) (Nat.le_of_ble_eq_true rfl) (Nat.le_of_ble_eq_true rfl) dX3_isEachNeedMet_17 rfl ?_
      refine K.icmp_lt (q := 23) (tgt := 38) dX3_isEachNeedMet_20 rfl (by decide) (fun c_20_3 => ?_) (fun c_20_3 => ?_)
      · refine K.iconst (q := 39) (v := 0) dX3_isEachNeedMet_38 rfl (by decide) ?_
        exact C.iret rfl rfl (by rw [hr _ (by rw [lp_X3_isEachNeedMet_2, if_pos c_20_3])]) rfl (Nat.le_of_ble_eq_true rfl) (Nat.le_of_ble_eq_true rfl) dX3_isEachNeedMet_39
      · refine K.aload_n (q := 24) dX3_isEachNeedMet_23 rfl rfl ?_
        refine K.iload_n (q := 25) dX3_isEachNeedMet_24 rfl rfl ?_
        refine K.callV0 (q := 28) mkX3_sizeAt mw_X3_49 (s_X3_sizeAt _ _ _) rfl (by decide) rfl (lt141 (by decide)) rb4 (Nat.le_of_ble_eq_true rfl) (Nat.le_of_ble_eq_true rfl) (Nat.le_of_ble_eq_true rfl) dX3_isEachNeedMet_25 rfl ?_
        refine K.iconst (q := 29) (v := 2) dX3_isEachNeedMet_28 rfl (by decide) ?_
        refine K.idiv (q := 30) dX3_isEachNeedMet_29 rfl (by decide) ?_
        refine K.aload_n (q := 31) dX3_isEachNeedMet_30 rfl rfl ?_
        refine K.iload_n (q := 32) dX3_isEachNeedMet_31 rfl rfl ?_
        refine K.callV0 (q := 35) mkX3_amountAt mw_X3_46 (s_X3_amountAt _ _ _) rfl (by decide) rfl (lt141 (by decide)) rb4 (Nat.le_of_ble_eq_true rfl) (Nat.le_of_ble_eq_true rfl) (Nat.le_of_ble_eq_true rfl) dX3_isEachNeedMet_32 rfl ?_
        refine K.icmp_lt (q := 38) (tgt := 40) dX3_isEachNeedMet_35 rfl (by decide) (fun c_35_4 => ?_) (fun c_35_4 => ?_)
        · refine K.iinc (q := 43) (v := (nI (i + 1))) dX3_isEachNeedMet_40 rfl rfl (nI_1 _) (by decide) rfl ?_
          refine K.goto (tgt := 2) dX3_isEachNeedMet_43 (by decide) ?_
          rw [lp_X3_isEachNeedMet_2, if_neg c_20_3, if_pos c_35_4] at hx hr
          exact ih (i + 1)  (by omega) hx hr
        · refine K.iconst (q := 39) (v := 0) dX3_isEachNeedMet_38 rfl (by decide) ?_
          exact C.iret rfl rfl (by rw [hr _ (by rw [lp_X3_isEachNeedMet_2, if_neg c_20_3, if_neg c_35_4])]) rfl (Nat.le_of_ble_eq_true rfl) (Nat.le_of_ble_eq_true rfl) dX3_isEachNeedMet_39
  refine L2 (((b.1 3)).toNatClampNeg) 0  (by omega) (fun e_2_5 => ?_) (fun v hv => ?_)
  · refine K.iconst (q := 47) (v := 1) dX3_isEachNeedMet_46 rfl (by decide) ?_
    exact C.iret rfl rfl (by rw [r_X3_isEachNeedMet, if_pos e_2_5]) rfl (Nat.le_of_ble_eq_true rfl) (Nat.le_of_ble_eq_true rfl) dX3_isEachNeedMet_47
  · rw [r_X3_isEachNeedMet, if_neg (fun h0 => by rw [hv] at h0; cases h0), hv]; rfl
