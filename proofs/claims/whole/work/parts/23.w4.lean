def r_X6_has (b : BD) (place : Int32) : Int32 := (if place < 0 then 0 else (if (b.1 4) ≤ place then 0 else (if 6 ≤ place then 0 else 1)))
set_option maxRecDepth 20000 in
theorem s_X6_has (X : GS) (b : BD) (place : Int32) : Ct 1 0 0 yX6_has (.code yX6_has cX6_has 2 (some (.boolean))) [.ref 9, .int place] (mkH (uB X 0 b)) (.inl (some (.int (r_X6_has b place)))) (mkH (uB X 0 b)) := by
  refine Ct.of (LL := [some (.ref 9), some (.int place)]) mkX6_has.1 owX6_has rfl (Nat.le_of_ble_eq_true rfl) rfl (fun Wk C => ?_)
  have K := C.core
  refine K.iload_n (q := 1) dX6_has_0 rfl rfl ?_
  refine K.if_lt (q := 4) (tgt := 22) dX6_has_1 rfl (by decide) (fun c_1_1 => ?_) (fun c_1_1 => ?_)
  · refine K.iconst (q := 23) (v := 0) dX6_has_22 rfl (by decide) ?_
    exact C.iret rfl rfl (by rw [r_X6_has, if_pos c_1_1]) rfl (Nat.le_of_ble_eq_true rfl) (Nat.le_of_ble_eq_true rfl) dX6_has_23
  · refine K.iload_n (q := 5) dX6_has_4 rfl rfl ?_
    refine K.aload_n (q := 6) dX6_has_5 rfl rfl ?_
    refine K.getf (q := 9) (v := .int (b.1 4)) fo_X6_18.r rb9 (lt141 (by decide)) rfl dX6_has_6 rfl ?_
    refine K.icmp_ge (q := 12) (tgt := 22) dX6_has_9 rfl (by decide) (fun c_9_2 => ?_) (fun c_9_2 => ?_)
    · refine K.iconst (q := 23) (v := 0) dX6_has_22 rfl (by decide) ?_
      exact C.iret rfl rfl (by rw [r_X6_has, if_neg c_1_1, if_pos c_9_2]) rfl (Nat.le_of_ble_eq_true rfl) (Nat.le_of_ble_eq_true rfl) dX6_has_23
    · refine K.iload_n (q := 13) dX6_has_12 rfl rfl ?_
      refine K.bipush (q := 15) (v := 6) dX6_has_13 rfl (by decide) ?_
      refine K.icmp_ge (q := 18) (tgt := 22) dX6_has_15 rfl (by decide) (fun c_15_3 => ?_) (fun c_15_3 => ?_)
      · refine K.iconst (q := 23) (v := 0) dX6_has_22 rfl (by decide) ?_
        exact C.iret rfl rfl (by rw [r_X6_has, if_neg c_1_1, if_neg c_9_2, if_pos c_15_3]) rfl (Nat.le_of_ble_eq_true rfl) (Nat.le_of_ble_eq_true rfl) dX6_has_23
      · refine K.iconst (q := 19) (v := 1) dX6_has_18 rfl (by decide) ?_
        refine K.goto (tgt := 23) dX6_has_19 (by decide) ?_
        exact C.iret rfl rfl (by rw [r_X6_has, if_neg c_1_1, if_neg c_9_2, if_neg c_15_3]) rfl (Nat.le_of_ble_eq_true rfl) (Nat.le_of_ble_eq_true rfl) dX6_has_23

theorem has6 {b : BD} {x : Int32} (h : ¬ r_X6_has b x = 0) : ¬ x < 0 ∧ ¬ (6 : Int32) ≤ x ∧ ¬ (b.1 4) ≤ x := by
  unfold r_X6_has at h
  by_cases h1 : x < 0
  · rw [if_pos h1] at h; exact absurd rfl h
  · rw [if_neg h1] at h
    by_cases h2 : (b.1 4) ≤ x
    · rw [if_pos h2] at h; exact absurd rfl h
    · rw [if_neg h2] at h
      by_cases h3 : (6 : Int32) ≤ x
      · rw [if_pos h3] at h; exact absurd rfl h
      · exact ⟨h1, h3, h2⟩

def r_X6_nameAt (b : BD) (place : Int32) : Int32 := (if (r_X6_has b place) = 0 then (-1) else ((b.2 5) (place.toNatClampNeg)))
set_option maxRecDepth 20000 in
theorem s_X6_nameAt (X : GS) (b : BD) (place : Int32) : Ct 2 0 0 yX6_nameAt (.code yX6_nameAt cX6_nameAt 2 (some (.int))) [.ref 9, .int place] (mkH (uB X 0 b)) (.inl (some (.int (r_X6_nameAt b place)))) (mkH (uB X 0 b)) := by
  refine Ct.of (LL := [some (.ref 9), some (.int place)]) mkX6_nameAt.1 owX6_nameAt rfl (Nat.le_of_ble_eq_true rfl) rfl (fun Wk C => ?_)
  have K := C.core
  refine K.aload_n (q := 1) dX6_nameAt_0 rfl rfl ?_
  refine K.iload_n (q := 2) dX6_nameAt_1 rfl rfl ?_
  refine K.callV0 (q := 5) mkX6_has mw_X6_28 (s_X6_has _ _ _) rfl (by decide) rfl (lt141 (by decide)) rb9 (Nat.le_of_ble_eq_true rfl) (Nat.le_of_ble_eq_true rfl) (Nat.le_of_ble_eq_true rfl) dX6_nameAt_2 rfl ?_
  refine K.if_eq (q := 8) (tgt := 17) dX6_nameAt_5 rfl (by decide) (fun c_5_1 => ?_) (fun c_5_1 => ?_)
  · refine K.iconst (q := 18) (v := (-1)) dX6_nameAt_17 rfl (by decide) ?_
    exact C.iret rfl rfl (by rw [r_X6_nameAt, if_pos c_5_1]) rfl (Nat.le_of_ble_eq_true rfl) (Nat.le_of_ble_eq_true rfl) dX6_nameAt_18
  · refine K.aload_n (q := 9) dX6_nameAt_8 rfl rfl ?_
    refine K.getf (q := 12) (v := .ref 10) fo_X6_9.r rb9 (lt141 (by decide)) rfl dX6_nameAt_9 rfl ?_
    refine K.iload_n (q := 13) dX6_nameAt_12 rfl rfl ?_
    refine K.ial (q := 14) (f := (b.2 5)) (m := (place.toNatClampNeg)) rb10 (lt141 (by decide)) (cl_nI (has6 c_5_1).1) (cl_lt (has6 c_5_1).1 (has6 c_5_1).2.1 (by decide)) (by decide) dX6_nameAt_13 rfl ?_
    refine K.goto (tgt := 18) dX6_nameAt_14 (by decide) ?_
    exact C.iret rfl rfl (by rw [r_X6_nameAt, if_neg c_5_1]) rfl (Nat.le_of_ble_eq_true rfl) (Nat.le_of_ble_eq_true rfl) dX6_nameAt_18

def r_X6_amountAt (b : BD) (place : Int32) : Int32 := (if (r_X6_has b place) = 0 then 0 else ((b.2 6) (place.toNatClampNeg)))
set_option maxRecDepth 20000 in
theorem s_X6_amountAt (X : GS) (b : BD) (place : Int32) : Ct 2 0 0 yX6_amountAt (.code yX6_amountAt cX6_amountAt 2 (some (.int))) [.ref 9, .int place] (mkH (uB X 0 b)) (.inl (some (.int (r_X6_amountAt b place)))) (mkH (uB X 0 b)) := by
  refine Ct.of (LL := [some (.ref 9), some (.int place)]) mkX6_amountAt.1 owX6_amountAt rfl (Nat.le_of_ble_eq_true rfl) rfl (fun Wk C => ?_)
  have K := C.core
  refine K.aload_n (q := 1) dX6_amountAt_0 rfl rfl ?_
  refine K.iload_n (q := 2) dX6_amountAt_1 rfl rfl ?_
  refine K.callV0 (q := 5) mkX6_has mw_X6_28 (s_X6_has _ _ _) rfl (by decide) rfl (lt141 (by decide)) rb9 (Nat.le_of_ble_eq_true rfl) (Nat.le_of_ble_eq_true rfl) (Nat.le_of_ble_eq_true rfl) dX6_amountAt_2 rfl ?_
  refine K.if_eq (q := 8) (tgt := 17) dX6_amountAt_5 rfl (by decide) (fun c_5_1 => ?_) (fun c_5_1 => ?_)
  · refine K.iconst (q := 18) (v := 0) dX6_amountAt_17 rfl (by decide) ?_
    exact C.iret rfl rfl (by rw [r_X6_amountAt, if_pos c_5_1]) rfl (Nat.le_of_ble_eq_true rfl) (Nat.le_of_ble_eq_true rfl) dX6_amountAt_18
  · refine K.aload_n (q := 9) dX6_amountAt_8 rfl rfl ?_
    refine K.getf (q := 12) (v := .ref 11) fo_X6_15.r rb9 (lt141 (by decide)) rfl dX6_amountAt_9 rfl ?_
    refine K.iload_n (q := 13) dX6_amountAt_12 rfl rfl ?_
    refine K.ial (q := 14) (f := (b.2 6)) (m := (place.toNatClampNeg)) rb11 (lt141 (by decide)) (cl_nI (has6 c_5_1).1) (cl_lt (has6 c_5_1).1 (has6 c_5_1).2.1 (by decide)) (by decide) dX6_amountAt_13 rfl ?_
    refine K.goto (tgt := 18) dX6_amountAt_14 (by decide) ?_
    exact C.iret rfl rfl (by rw [r_X6_amountAt, if_neg c_5_1]) rfl (Nat.le_of_ble_eq_true rfl) (Nat.le_of_ble_eq_true rfl) dX6_amountAt_18

def u_X6_add (b : BD) (name : Int32) (amount : Int32) : BD := (if (b.1 4) < 0 then b else (if 6 ≤ (b.1 4) then b else (bS (bA (bA b 5 (up (b.2 5) ((b.1 4).toNatClampNeg) name)) 6 (up (b.2 6) ((b.1 4).toNatClampNeg) amount)) 4 ((b.1 4) + 1))))
set_option maxRecDepth 20000 in
theorem s_X6_add (X : GS) (b : BD) (name : Int32) (amount : Int32) : Ct 1 0 0 yX6_add (.code yX6_add cX6_add 3 none) [.ref 9, .int name, .int amount] (mkH (uB X 0 b)) (.inl none) (mkH (uB X 0 (u_X6_add b name amount))) := by
  refine Ct.of (LL := [some (.ref 9), some (.int name), some (.int amount)]) mkX6_add.1 owX6_add rfl (Nat.le_of_ble_eq_true rfl) rfl (fun Wk C => ?_)
  have K := C.core
  refine K.aload_n (q := 1) dX6_add_0 rfl rfl ?_
  refine K.getf (q := 4) (v := .int (b.1 4)) fo_X6_18.r rb9 (lt141 (by decide)) rfl dX6_add_1 rfl ?_
  refine K.if_lt (q := 7) (tgt := 46) dX6_add_4 rfl (by decide) (fun c_4_1 => ?_) (fun c_4_1 => ?_)
  · exact C.vret rfl rfl (by rw [u_X6_add, if_pos c_4_1]) (Nat.le_of_ble_eq_true rfl) (Nat.le_of_ble_eq_true rfl) dX6_add_46
  · refine K.aload_n (q := 8) dX6_add_7 rfl rfl ?_
    refine K.getf (q := 11) (v := .int (b.1 4)) fo_X6_18.r rb9 (lt141 (by decide)) rfl dX6_add_8 rfl ?_
    refine K.bipush (q := 13) (v := 6) dX6_add_11 rfl (by decide) ?_
    refine K.icmp_ge (q := 16) (tgt := 46) dX6_add_13 rfl (by decide) (fun c_13_2 => ?_) (fun c_13_2 => ?_)
    · exact C.vret rfl rfl (by rw [u_X6_add, if_neg c_4_1, if_pos c_13_2]) (Nat.le_of_ble_eq_true rfl) (Nat.le_of_ble_eq_true rfl) dX6_add_46
    · refine K.aload_n (q := 17) dX6_add_16 rfl rfl ?_
      refine K.getf (q := 20) (v := .ref 10) fo_X6_9.r rb9 (lt141 (by decide)) rfl dX6_add_17 rfl ?_
      refine K.aload_n (q := 21) dX6_add_20 rfl rfl ?_
      refine K.getf (q := 24) (v := .int (b.1 4)) fo_X6_18.r rb9 (lt141 (by decide)) rfl dX6_add_21 rfl ?_
      refine K.iload_n (q := 25) dX6_add_24 rfl rfl ?_
      refine K.ias (q := 26) (f := (b.2 5)) (m := ((b.1 4).toNatClampNeg)) rb10 (lt141 (by decide)) (cl_nI c_4_1) (cl_lt c_4_1 c_13_2 (by decide)) (by decide) pba5 dX6_add_25 rfl ?_
      refine K.aload_n (q := 27) dX6_add_26 rfl rfl ?_
      refine K.getf (q := 30) (v := .ref 11) fo_X6_15.r rb9 (lt141 (by decide)) rfl dX6_add_27 rfl ?_
      refine K.aload_n (q := 31) dX6_add_30 rfl rfl ?_
      refine K.getf (q := 34) (v := .int (b.1 4)) fo_X6_18.r rb9 (lt141 (by decide)) rfl dX6_add_31 rfl ?_
      refine K.iload_n (q := 35) dX6_add_34 rfl rfl ?_
      refine K.ias (q := 36) (f := (b.2 6)) (m := ((b.1 4).toNatClampNeg)) rb11 (lt141 (by decide)) (cl_nI c_4_1) (cl_lt c_4_1 c_13_2 (by decide)) (by decide) pba6 dX6_add_35 rfl ?_
      refine K.aload_n (q := 37) dX6_add_36 rfl rfl ?_
      refine K.dup (q := 38) dX6_add_37 rfl rfl ?_
      refine K.getf (q := 41) (v := .int (b.1 4)) fo_X6_18.r rb9 (lt141 (by decide)) rfl dX6_add_38 rfl ?_
      refine K.iconst (q := 42) (v := 1) dX6_add_41 rfl (by decide) ?_
      refine K.iadd (q := 43) dX6_add_42 rfl ?_
      refine K.putf (q := 46) fo_X6_18 rb9 (lt141 (by decide)) (Nat.le_of_ble_eq_true rfl) (fun _ => rfl) (fun _ => rfl) pbs4 dX6_add_43 rfl ?_
      exact C.vret rfl rfl (by rw [u_X6_add, if_neg c_4_1, if_neg c_13_2]) (Nat.le_of_ble_eq_true rfl) (Nat.le_of_ble_eq_true rfl) dX6_add_46

def lp_X6_countOf_4 (b : BD) (name : Int32) : Nat → Nat → Int32 → Int32
  | 0, _, a2 => a2
  | j + 1, i, a2 => (if (r_X6_nameAt b (nI i)) = name then (lp_X6_countOf_4 b name j (i + 1) (a2 + 1)) else (lp_X6_countOf_4 b name j (i + 1) a2))

def r_X6_countOf (b : BD) (name : Int32) : Int32 := (lp_X6_countOf_4 b name (((b.1 4)).toNatClampNeg) 0 0)
set_option maxRecDepth 20000 in
theorem s_X6_countOf (X : GS) (b : BD) (name : Int32) : Ct 3 0 0 yX6_countOf (.code yX6_countOf cX6_countOf 4 (some (.int))) [.ref 9, .int name] (mkH (uB X 0 b)) (.inl (some (.int (r_X6_countOf b name)))) (mkH (uB X 0 b)) := by
  refine Ct.of (LL := [some (.ref 9), some (.int name), none, none]) mkX6_countOf.1 owX6_countOf rfl (Nat.le_of_ble_eq_true rfl) rfl (fun Wk C => ?_)
  have K := C.core
  refine K.iconst (q := 1) (v := 0) dX6_countOf_0 rfl (by decide) ?_
  refine K.istore_n (q := 2) (i := 2) dX6_countOf_1 rfl rfl (by decide) rfl ?_
  refine K.iconst (q := 3) (v := 0) dX6_countOf_2 rfl (by decide) ?_
  refine K.istore_n (q := 4) (i := 3) dX6_countOf_3 rfl rfl (by decide) rfl ?_
  have L4 : ∀ (j i : Nat) (a2 : Int32), i + j = (((b.1 4)).toNatClampNeg) → (Wk 0 0 30 [some (.ref 9), some (.int name), some (.int (lp_X6_countOf_4 b name j i a2)), none] [] (mkH (uB X 0 b))) → Wk 0 0 4 [some (.ref 9), some (.int name), some (.int a2), some (.int (nI i))] [] (mkH (uB X 0 b)) := by
    intro j
    induction j with
    | zero =>
      intro i a2 hij hx
      refine K.iload_n (q := 5) dX6_countOf_4 rfl rfl ?_
      refine K.aload_n (q := 6) dX6_countOf_5 rfl rfl ?_
      refine K.getf (q := 9) (v := .int (b.1 4)) fo_X6_18.r rb9 (lt141 (by decide)) rfl dX6_countOf_6 rfl ?_
      refine K.icmp_ge (q := 12) (tgt := 30) dX6_countOf_9 rfl (by decide) (fun _ => ?_) (fun z => absurd z (not_not_intro (cl_ge (B := (b.1 4)) (by omega))))
      refine K.drop 3 ?_
      exact hx
    | succ j ih =>
      intro i a2 hij hx
      refine K.iload_n (q := 5) dX6_countOf_4 rfl rfl ?_
      refine K.aload_n (q := 6) dX6_countOf_5 rfl rfl ?_
      refine K.getf (q := 9) (v := .int (b.1 4)) fo_X6_18.r rb9 (lt141 (by decide)) rfl dX6_countOf_6 rfl ?_
      refine K.icmp_ge (q := 12) (tgt := 30) dX6_countOf_9 rfl (by decide) (fun z => absurd z (cl_nge (B := (b.1 4)) (by omega))) (fun _ => ?_)
      refine K.aload_n (q := 13) dX6_countOf_12 rfl rfl ?_
      refine K.iload_n (q := 14) dX6_countOf_13 rfl rfl ?_
      refine K.callV0 (q := 17) mkX6_nameAt mw_X6_32 (s_X6_nameAt _ _ _) rfl (by decide) rfl (lt141 (by decide)) rb9 (Nat.le_of_ble_eq_true rfl) (Nat.le_of_ble_eq_true rfl) (Nat.le_of_ble_eq_true rfl) dX6_countOf_14 rfl ?_
      refine K.iload_n (q := 18) dX6_countOf_17 rfl rfl ?_
      refine K.icmp_ne (q := 21) (tgt := 24) dX6_countOf_18 rfl (by decide) (fun c_18_3 => ?_) (fun c_18_3 => ?_)
      · refine K.iinc (q := 27) (v := (nI (i + 1))) dX6_countOf_24 rfl rfl (nI_1 _) (by decide) rfl ?_
        refine K.goto (tgt := 4) dX6_countOf_27 (by decide) ?_
        rw [lp_X6_countOf_4, if_neg c_18_3] at hx
        exact ih (i + 1) a2 (by omega) hx
      · refine K.iinc (q := 24) (v := (a2 + 1)) dX6_countOf_21 rfl rfl rfl (by decide) rfl ?_
        refine K.iinc (q := 27) (v := (nI (i + 1))) dX6_countOf_24 rfl rfl (nI_1 _) (by decide) rfl ?_
        refine K.goto (tgt := 4) dX6_countOf_27 (by decide) ?_
        rw [lp_X6_countOf_4, if_pos c_18_3] at hx
        exact ih (i + 1) (a2 + 1) (by omega) hx
  refine L4 (((b.1 4)).toNatClampNeg) 0 0 (by omega) ?_
  refine K.iload_n (q := 31) dX6_countOf_30 rfl rfl ?_
  exact C.iret rfl rfl (by rw [r_X6_countOf]) rfl (Nat.le_of_ble_eq_true rfl) (Nat.le_of_ble_eq_true rfl) dX6_countOf_31
