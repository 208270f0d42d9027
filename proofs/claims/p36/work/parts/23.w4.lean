def r_X6_has (b : BD) (place : Int32) : Int32 := (if place < 0 then 0 else (if (b.1 4) ≤ place then 0 else (if 6 ≤ place then 0 else 1)))
set_option maxRecDepth 20000 in
theorem s_X6_has (X : GS) (b : BD) (place : Int32) : Ct 1 0 0 yX6_has (.code yX6_has cX6_has 2 (some (.boolean))) [.ref 9, .int place] (mkH (uB X 0 b)) (.inl (some (.int (r_X6_has b place)))) (mkH (uB X 0 b)) := by
  refine Ct.of (LL := [some (.ref 9), some (.int place)]) mkX6_has.1 owX6_has rfl (Nat.le_of_ble_eq_true rfl) rfl (fun Wk C => ?_)
  have K := C.core
  refine K.iload_n (q := 1) dX6_has_0 rfl rfl ?_
  refine K.if_lt (q := 4) (tgt := 22) dX6_has_1 rfl (by decide) (fun c_1_1 => ?_) (fun c_1_1 => ?_)
  · refine K.iconst (q := 23) (v := 0) dX6_has_22 rfl (by decide) ?_
    exact C.iret rfl rfl (by rw [r_X6_has, if_pos c_1_1]) rfl (Nat.le_of_ble_eq_true rfl) (Nat.le_of_ble_eq_true rfl) dX6_has_23
  · refine K.iload_n (q := 5) dX6_has_4 rfl rfl ?_
    refine K.aload_n (q := 6) dX6_has_5 rfl rfl ?_
    refine K.getf (q := 9) (v := .int (b.1 4)) fo_X6_18.r rb9 (lt141 (by decide)) rfl dX6_has_6 rfl ?_
    refine K.icmp_ge (q := 12) (tgt := 22) dX6_has_9 rfl (by decide) (fun c_9_2 => ?_) (fun c_9_2 => ?_)
    · refine K.iconst (q := 23) (v := 0) dX6_has_22 rfl (by decide) ?_
      exact C.iret rfl rfl (by rw [r_X6_has, if_neg c_1_1, if_pos c_9_2]) rfl (Nat.le_of_ble_eq_true rfl) (Nat.le_of_ble_eq_true rfl) dX6_has_23
    · refine K.iload_n (q := 13) dX6_has_12 rfl rfl ?_
      refine K.bipush (q := 15) (v := 6) dX6_has_13 rfl (by decide) ?_
      refine K.icmp_ge (q := 18) (tgt := 22) dX6_has_15 rfl (by decide) (fun c_15_3 => ?_) (fun c_15_3 => ?_)
      · refine K.iconst (q := 23) (v := 0) dX6_has_22 rfl (by decide) ?_
        exact C.iret rfl rfl (by rw [r_X6_has, if_neg c_1_1, if_neg c_9_2, if_pos c_15_3]) rfl (Nat.le_of_ble_eq_true rfl) (Nat.le_of_ble_eq_true rfl) dX6_has_23
      · refine K.iconst (q := 19) (v := 1) dX6_has_18 rfl (by decide) ?_
        refine K.goto (tgt := 23) dX6_has_19 (by decide) ?_
        exact C.iret rfl rfl (by rw [r_X6_has, if_neg c_1_1, if_neg c_9_2, if_neg c_15_3]) rfl (Nat.le_of_ble_eq_true rfl) (Nat.le_of_ble_eq_true rfl) dX6_has_23

theorem has6 {b : BD} {x : Int32} (h : ¬ r_X6_has b x = 0) : ¬ x < 0 ∧ ¬ (6 : Int32) ≤ x ∧ ¬ (b.1 4) ≤ x := by
  unfold r_X6_has at h
  by_cases h1 : x < 0
  · rw [if_pos h1] at h; exact absurd rfl h
  · rw [if_neg h1] at h
    by_cases h2 : (b.1 4) ≤ x
    · rw [if_pos h2] at h; exact absurd rfl h
    · rw [if_neg h2] at h
      by_cases h3 : (6 : Int32) ≤ x
      · rw [if_pos h3] at h; exact absurd rfl h
      · exact ⟨h1, h3, h2⟩

def r_X6_nameAt (b : BD) (place : Int32) : Int32 := (if (r_X6_has b place) = 0 then (-1) else ((b.2 5) (place.toNatClampNeg)))
set_option maxRecDepth 20000 in
theorem s_X6_nameAt (X : GS) (b : BD) (place : Int32) : Ct 2 0 0 yX6_nameAt (.code yX6_nameAt cX6_nameAt 2 (some (.int))) [.ref 9, .int place] (mkH (uB X 0 b)) (.inl (some (.int (r_X6_nameAt b place)))) (mkH (uB X 0 b)) := by
  refine Ct.of (LL := [some (.ref 9), some (.int place)]) mkX6_nameAt.1 owX6_nameAt rfl (Nat.le_of_ble_eq_true rfl) rfl (fun Wk C => ?_)
  have K := C.core
  refine K.aload_n (q := 1) dX6_nameAt_0 rfl rfl ?_
  refine K.iload_n (q := 2) dX6_nameAt_1 rfl rfl ?_
  refine K.callV0 (q := 5) mkX6_has mw_X6_28 (s_X6_has _ _ _) rfl (by decide) rfl (lt141 (by decide)) rb9 (Nat.le_of_ble_eq_true rfl) (Nat.le_of_ble_eq_true rfl) (Nat.le_of_ble_eq_true rfl) dX6_nameAt_2 rfl ?_
  refine K.if_eq (q := 8) (tgt := 17) dX6_nameAt_5 rfl (by decide) (fun c_5_1 => ?_) (fun c_5_1 => ?_)
  · refine K.iconst (q := 18) (v := (-1)) dX6_nameAt_17 rfl (by decide) ?_
    exact C.iret rfl rfl (by rw [r_X6_nameAt, if_pos c_5_1]) rfl (Nat.le_of_ble_eq_true rfl) (Nat.le_of_ble_eq_true rfl) dX6_nameAt_18
  · refine K.aload_n (q := 9) dX6_nameAt_8 rfl rfl ?_
    refine K.getf (q := 12) (v := .ref 10) fo_X6_9.r rb9 (lt141 (by decide)) rfl dX6_nameAt_9 rfl ?_
    refine K.iload_n (q := 13) dX6_nameAt_12 rfl rfl ?_
    refine K.ial (q := 14) (f := (b.2 5)) (m := (place.toNatClampNeg)) rb10 (lt141 (by decide)) (cl_nI (has6 c_5_1).1) (cl_lt (has6 c_5_1).1 (has6 c_5_1).2.1 (by decide)) (by decide) dX6_nameAt_13 rfl ?_
    refine K.goto (tgt := 18) dX6_nameAt_14 (by decide) ?_
    exact C.iret rfl rfl (by rw [r_X6_nameAt, if_neg c_5_1]) rfl (Nat.le_of_ble_eq_true rfl) (Nat.le_of_ble_eq_true rfl) dX6_nameAt_18

def r_X6_amountAt (b : BD) (place : Int32) : Int32 := (if (r_X6_has b place) = 0 then 0 else ((b.2 6) (place.toNatClampNeg)))
set_option maxRecDepth 20000 in
theorem s_X6_amountAt (X : GS) (b : BD) (place : Int32) : Ct 2 0 0 yX6_amountAt (.code yX6_amountAt cX6_amountAt 2 (some (.int))) [.ref 9, .int place] (mkH (uB X 0 b)) (.inl (some (.int (r_X6_amountAt b place)))) (mkH (uB X 0 b)) := by
  refine Ct.of (LL := [some (.ref 9), some (.int place)]) mkX6_amountAt.1 owX6_amountAt rfl (Nat.le_of_ble_eq_true rfl) rfl (fun Wk C => ?_)
  have K := C.core
  refine K.aload_n (q := 1) dX6_amountAt_0 rfl rfl ?_
  refine K.iload_n (q := 2) dX6_amountAt_1 rfl rfl ?_
  refine K.callV0 (q := 5) mkX6_has mw_X6_28 (s_X6_has _ _ _) rfl (by decide) rfl (lt141 (by decide)) rb9 (Nat.le_of_ble_eq_true rfl) (Nat.le_of_ble_eq_true rfl) (Nat.le_of_ble_eq_true rfl) dX6_amountAt_2 rfl ?_
  refine K.if_eq (q := 8) (tgt := 17) dX6_amountAt_5 rfl (by decide) (fun c_5_1 => ?_) (fun c_5_1 => ?_)
  · refine K.iconst (q := 18) (v := 0) dX6_amountAt_17 rfl (by decide) ?_
    exact C.iret rfl rfl (by rw [r_X6_amountAt, if_pos c_5_1]) rfl (Nat.le_of_ble_eq_true rfl) (Nat.le_of_ble_eq_true rfl) dX6_amountAt_18
  · refine K.aload_n (q := 9) dX6_amountAt_8 rfl rfl ?_
    refine K.getf (q := 12) (v := .ref 11) fo_X6_15.r rb9 (lt141 (by decide)) rfl dX6_amountAt_9 rfl ?_
    refine K.iload_n (q := 13) dX6_amountAt_12 rfl rfl ?_
    refine K.ial (q := 14) (f := (b.2 6)) (m := (place.toNatClampNeg)) rb11 (lt141 (by decide)) (cl_nI (has6 c_5_1).1) (cl_lt (has6 c_5_1).1 (has6 c_5_1).2.1 (by decide)) (by decide) dX6_amountAt_13 rfl ?_
    refine K.goto (tgt := 18) dX6_amountAt_14 (by decide) ?_
    exact C.iret rfl rfl (by rw [r_X6_amountAt, if_neg c_5_1]) rfl (Nat.le_of_ble_eq_true rfl) (Nat.le_of_ble_eq_true rfl) dX6_amountAt_18

def u_X6_add (b : BD) (name : Int32) (amount : Int32) : BD := (if (b.1 4) < 0 then b else (if 6 ≤ (b.1 4) then b else (bS (bA (bA b 5 (up (b.2 5) ((b.1 4).toNatClampNeg) name)) 6 (up (b.2 6) ((b.1 4).toNatClampNeg) amount)) 4 ((b.1 4) + 1))))
set_option maxRecDepth 20000 in
theorem s_X6_add (X : GS) (b : BD) (name : Int32) (amount : Int32) : Ct 1 0 0 yX6_add (.code yX6_add cX6_add 3 none) [.ref 9, .int name, .int amount] (mkH (uB X 0 b)) (.inl none) (mkH (uB X 0 (u_X6_add b name amount))) := by
  refine Ct.of (LL := [some (.ref 9), some (.int name), some (.int amount)]) mkX6_add.1 owX6_add rfl (Nat.le_of_ble_eq_true rfl) rfl (fun Wk C => ?_)
  have K := C.core
  refine K.aload_n (q := 1) dX6_add_0 rfl rfl ?_
  refine K.getf (q := 4) (v := .int (b.1 4)) fo_X6_18.r rb9 (lt141 (by decide)) rfl dX6_add_1 rfl ?_
  refine K.if_lt (q := 7) (tgt := 46) dX6_add_4 rfl (by decide) (fun c_4_1 => ?_) (fun c_4_1 => ?_)
  · exact C.vret rfl rfl (by rw [u_X6_add, if_pos c_4_1]) (Nat.le_of_ble_eq_true rfl) (Nat.le_of_ble_eq_true rfl) dX6_add_46
  · refine K.aload_n (q := 8) dX6_add_7 rfl rfl ?_
    refine K.getf (q := 11) (v := .int (b.1 4)) fo_X6_18.r rb9 (lt141 (by decide)) rfl dX6_add_8 rfl ?_
    refine K.bipush (q := 13) (v := 6) dX6_add_11 rfl (by decide) ?_
    refine K.icmp_ge (q := 16) (tgt := 46) dX6_add_13 rfl (by decide) (fun c_13_2 => ?_) (fun c_13_2 => ?_)
    · exact C.vret rfl rfl (by rw [u_X6_add, if_neg c_4_1, if_pos c_13_2]) (Nat.le_of_ble_eq_true rfl) (Nat.le_of_ble_eq_true rfl) dX6_add_46
    · refine K.aload_n (q := 17) dX6_add_16 rfl rfl ?_
      refine K.getf (q := 20) (v := .ref 10) fo_X6_9.r rb9 (lt141 (by decide)) rfl dX6_add_17 rfl ?_
      refine K.aload_n (q := 21) dX6_add_20 rfl rfl ?_
      refine K.getf (q := 24) (v := .int (b.1 4)) fo_X6_18.r rb9 (lt141 (by decide)) rfl dX6_add_21 rfl ?_
      refine K.iload_n (q := 25) dX6_add_24 rfl rfl ?_
      refine K.ias (q := 26) (f := (b.2 5)) (m := ((b.1 4).toNatClampNeg)) rb10 (lt141 (by decide)) (cl_nI c_4_1) (cl_lt c_4_1 c_13_2 (by decide)) (by decide) pba5 dX6_add_25 rfl ?_
      refine K.aload_n (q := 27) dX6_add_26 rfl rfl ?_
      refine K.getf (q := 30) (v := .ref 11) fo_X6_15.r rb9 (lt141 (by decide)) rfl dX6_add_27 rfl ?_
      refine K.aload_n (q := 31) dX6_add_30 rfl rfl ?_
      refine K.getf (q := 34) (v := .int (b.1 4)) fo_X6_18.r rb9 (lt141 (by decide)) rfl dX6_add_31 rfl ?_
      refine K.iload_n (q := 35) dX6_add_34 rfl rfl ?_
      refine K.ias (q := 36) (f := (b.2 6)) (m := ((b.1 4).toNatClampNeg)) rb11 (lt141 (by decide)) (cl_nI c_4_1) (cl_lt c_4_1 c_13_2 (by decide)) (by decide) pba6 dX6_add_35 rfl ?_
      refine K.aload_n (q := 37) dX6_add_36 rfl rfl ?_
      refine K.dup (q := 38) dX6_add_37 rfl rfl ?_
      refine K.getf (q := 41) (v := .int (b.1 4)) fo_X6_18.r rb9 (lt141 (by decide)) rfl dX6_add_38 rfl ?_
      refine K.iconst (q := 42) (v := 1) dX6_add_41 rfl (by decide) ?_
      refine K.iadd (q := 43) dX6_add_42 rfl ?_
      refine K.putf (q := 46) fo_X6_18 rb9 (lt141 (by decide)) (Nat.le_of_ble_eq_true rfl) (fun _ => rfl) (fun _ => rfl) pbs4 dX6_add_43 rfl ?_
      exact C.vret rfl rfl (by rw [u_X6_add, if_neg c_4_1, if_neg c_13_2]) (Nat.le_of_ble_eq_true rfl) (Nat.le_of_ble_eq_true rfl) dX6_add_46

def lp_X6_countOf_4 (b : BD) (name : Int32) : Nat → Nat → Int32 → Int32
  | 0, _, a2 => a2
  | j + 1, i, a2 => (if (r_X6_nameAt b (nI i)) = name then (lp_X6_countOf_4 b name j (i + 1) (a2 + 1)) else (lp_X6_countOf_4 b name j (i + 1) a2))

def r_X6_countOf (b : BD) (name : Int32) : Int32 := (lp_X6_countOf_4 b name (((b.1 4)).toNatClampNeg) 0 0)
set_option maxRecDepth 20000 in
theorem s_X6_countOf (X : GS) (b : BD) (name : Int32) : Ct 3 0 0 yX6_countOf (.code yX6_countOf cX6_countOf 4 (some (.int))) [.ref 9, .int name] (mkH (uB X 0 b)) (.inl (some (.int (r_X6_countOf b name)))) (mkH (uB X 0 b)) := by
  refine Ct.of (LL := [some (.ref 9), some (.int name), none, none]) mkX6_countOf.1 owX6_countOf rfl (Nat.le_of_ble_eq_true rfl) rfl (fun Wk C => ?_)
  have K := C.core
  refine K.iconst (q := 1) (v := 0) dX6_countOf_0 rfl (by decide) ?_
  refine K.istore_n (q := 2) (i := 2) dX6_countOf_1 rfl rfl (by decide) rfl ?_
  refine K.iconst (q := 3) (v := 0) dX6_countOf_2 rfl (by decide) ?_
  refine K.istore_n (q := 4) (i := 3) dX6_countOf_3 rfl rfl (by decide) rfl ?_
  have L4 : ∀ (j i : Nat) (a2 : Int32), i + j = (((b.1 4)).toNatClampNeg) → (Wk 0 0 30 [some (.ref 9), some (.int name), some (.int (lp_X6_countOf_4 b name j i a2)), none] [] (mkH (uB X 0 b))) → Wk 0 0 4 [some (.ref 9), some (.int name), some (.int a2), some (.int (nI i))] [] (mkH (uB X 0 b)) := by
    intro j
    induction j with
    | zero =>
      intro i a2 hij hx
      refine K.iload_n (q := 5) dX6_countOf_4 rfl rfl ?_
      refine K.aload_n (q := 6) dX6_countOf_5 rfl rfl ?_
      refine K.getf (q := 9) (v := .int (b.1 4)) fo_X6_18.r rb9 (lt141 (by decide)) rfl dX6_countOf_6 rfl ?_
      refine K.icmp_ge (q := 12) (tgt := 30) dX6_countOf_9 rfl (by decide) (fun _ => ?_) (fun z => absurd z (not_not_intro (cl_ge (B := (b.1 4)) (by omega))))
      refine K.drop 3 ?_
      exact hx
    | succ j ih =>
      intro i a2 hij hx
      refine K.iload_n (q := 5) dX6_countOf_4 rfl rfl ?_
      refine K.aload_n (q := 6) dX6_countOf_5 rfl rfl ?_
      refine K.getf (q := 9) (v := .int (b.1 4)) fo_X6_18.r rb9 (lt141 (by decide)) rfl dX6_countOf_6 rfl ?_
      refine K.icmp_ge (q := 12) (tgt := 30) dX6_countOf_9 rfl (by decide) (fun z => absurd z (cl_nge (B := (b.1 4)) (by omega))) (fun _ => ?_)
      refine K.aload_n (q := 13) dX6_countOf_12 rfl rfl ?_
      refine K.iload_n (q := 14) dX6_countOf_13 rfl rfl ?_
      refine K.callV0 (q := 17) mkX6_nameAt mw_X6_32 (s_X6_nameAt _ _ _) rfl (by decide) rfl (lt141 (by decide)) rb9 (Nat.le_of_ble_eq_true rfl) (Nat.le_of_ble_eq_true rfl) (Nat.le_of_ble_eq_true rfl) dX6_countOf_14 rfl ?_
      refine K.iload_n (q := 18) dX6_countOf_17 rfl rfl ?_
      refine K.icmp_ne (q := 21) (tgt := 24) dX6_countOf_18 rfl (by decide) (fun c_18_3 => ?_) (fun c_18_3 => ?_)
      · refine K.iinc (q := 27) (v := (nI (i + 1))) dX6_countOf_24 rfl rfl (nI_1 _) (by decide) rfl ?_
        refine K.goto (tgt := 4) dX6_countOf_27 (by decide) ?_
        rw [lp_X6_countOf_4, if_neg c_18_3] at hx
        exact ih (i + 1) a2 (by omega) hx
      · refine K.iinc (q := 24) (v := (a2 + 1)) dX6_countOf_21 rfl rfl rfl (by decide) rfl ?_
        refine K.iinc (q := 27) (v := (nI (i + 1))) dX6_countOf_24 rfl rfl (nI_1 _) (by decide) rfl ?_
        refine K.goto (tgt := 4) dX6_countOf_27 (by decide) ?_
        rw [lp_X6_countOf_4, if_pos c_18_3] at hx
        exact ih (i + 1) (a2 + 1) (by omega) hx
  refine L4 (((b.1 4)).toNatClampNeg) 0 0 (by omega) ?_
  refine K.iload_n (q := 31) dX6_countOf_30 rfl rfl ?_
  exact C.iret rfl rfl (by rw [r_X6_countOf]) rfl (Nat.le_of_ble_eq_true rfl) (Nat.le_of_ble_eq_true rfl) dX6_countOf_31

def lp_X6_remove_11 : Nat → Nat → BD → BD
  | 0, _, bb => bb
  | j + 1, i, bb => (if ((bb.1 4) - 1) ≤ (nI i) then bb else (lp_X6_remove_11 j (i + 1) (bA (bA bb 5 (up (bb.2 5) i ((bb.2 5) (i + 1)))) 6 (up (bb.2 6) i ((bb.2 6) (i + 1))))))

def u_X6_remove (b : BD) (place : Int32) : BD := (if (r_X6_has b place) = 0 then b else (bS (lp_X6_remove_11 (5 - place.toNatClampNeg) place.toNatClampNeg b) 4 (((lp_X6_remove_11 (5 - place.toNatClampNeg) place.toNatClampNeg b).1 4) - 1)))
set_option maxRecDepth 20000 in
theorem s_X6_remove (X : GS) (b : BD) (place : Int32) : Ct 2 0 0 yX6_remove (.code yX6_remove cX6_remove 3 none) [.ref 9, .int place] (mkH (uB X 0 b)) (.inl none) (mkH (uB X 0 (u_X6_remove b place))) := by
  refine Ct.of (LL := [some (.ref 9), some (.int place), none]) mkX6_remove.1 owX6_remove rfl (Nat.le_of_ble_eq_true rfl) rfl (fun Wk C => ?_)
  have K := C.core
  refine K.aload_n (q := 1) dX6_remove_0 rfl rfl ?_
  refine K.iload_n (q := 2) dX6_remove_1 rfl rfl ?_
  refine K.callV0 (q := 5) mkX6_has mw_X6_28 (s_X6_has _ _ _) rfl (by decide) rfl (lt141 (by decide)) rb9 (Nat.le_of_ble_eq_true rfl) (Nat.le_of_ble_eq_true rfl) (Nat.le_of_ble_eq_true rfl) dX6_remove_2 rfl ?_
  refine K.if_ne (q := 8) (tgt := 9) dX6_remove_5 rfl (by decide) (fun c_5_1 => ?_) (fun c_5_1 => ?_)
  · refine K.iload_n (q := 10) dX6_remove_9 rfl rfl ?_
    refine K.istore_n (q := 11) (i := 2) dX6_remove_10 rfl rfl (by decide) rfl ?_
    have L11 : ∀ (j i : Nat) (bb : BD), i + j = 5 → (Wk 0 0 60 [some (.ref 9), some (.int place), none] [] (mkH (uB X 0 (lp_X6_remove_11 j i bb)))) → Wk 0 0 11 [some (.ref 9), some (.int place), some (.int (nI i))] [] (mkH (uB X 0 bb)) := by
      intro j
      induction j with
      | zero =>
        intro i bb hij hx
        refine K.iload_n (q := 12) dX6_remove_11 rfl rfl ?_
        refine K.aload_n (q := 13) dX6_remove_12 rfl rfl ?_
        refine K.getf (q := 16) (v := .int (bb.1 4)) fo_X6_18.r rb9 (lt141 (by decide)) rfl dX6_remove_13 rfl ?_
        refine K.iconst (q := 17) (v := 1) dX6_remove_16 rfl (by decide) ?_
        refine K.isub (q := 18) dX6_remove_17 rfl ?_
        refine K.icmp_ge (q := 21) (tgt := 60) dX6_remove_18 rfl (by decide) (fun c_18_2 => ?_) (fun c_18_2 => ?_)
        · refine K.drop 2 ?_
          exact hx
        · refine K.iload_n (q := 22) dX6_remove_21 rfl rfl ?_
          refine K.iconst (q := 23) (v := 5) dX6_remove_22 rfl (by decide) ?_
          refine K.icmp_ge (q := 26) (tgt := 60) dX6_remove_23 rfl (by decide) (fun _ => ?_) (fun z => absurd z (not_not_intro (nI_le (a := 5) (b := i) (by omega) (by omega))))
          refine K.drop 2 ?_
          exact hx
      | succ j ih =>
        intro i bb hij hx
        refine K.iload_n (q := 12) dX6_remove_11 rfl rfl ?_
        refine K.aload_n (q := 13) dX6_remove_12 rfl rfl ?_
        refine K.getf (q := 16) (v := .int (bb.1 4)) fo_X6_18.r rb9 (lt141 (by decide)) rfl dX6_remove_13 rfl ?_
        refine K.iconst (q := 17) (v := 1) dX6_remove_16 rfl (by decide) ?_
        refine K.isub (q := 18) dX6_remove_17 rfl ?_
        refine K.icmp_ge (q := 21) (tgt := 60) dX6_remove_18 rfl (by decide) (fun c_18_4 => ?_) (fun c_18_4 => ?_)
        · refine K.drop 2 ?_
          rw [lp_X6_remove_11, if_pos c_18_4] at hx
          exact hx
        · refine K.iload_n (q := 22) dX6_remove_21 rfl rfl ?_
          refine K.iconst (q := 23) (v := 5) dX6_remove_22 rfl (by decide) ?_
          refine K.icmp_ge (q := 26) (tgt := 60) dX6_remove_23 rfl (by decide) (fun z => absurd z (nI_ge (a := i) (b := 5) (by omega) (by omega))) (fun _ => ?_)
          refine K.aload_n (q := 27) dX6_remove_26 rfl rfl ?_
          refine K.getf (q := 30) (v := .ref 10) fo_X6_9.r rb9 (lt141 (by decide)) rfl dX6_remove_27 rfl ?_
          refine K.iload_n (q := 31) dX6_remove_30 rfl rfl ?_
          refine K.aload_n (q := 32) dX6_remove_31 rfl rfl ?_
          refine K.getf (q := 35) (v := .ref 10) fo_X6_9.r rb9 (lt141 (by decide)) rfl dX6_remove_32 rfl ?_
          refine K.iload_n (q := 36) dX6_remove_35 rfl rfl ?_
          refine K.iconst (q := 37) (v := 1) dX6_remove_36 rfl (by decide) ?_
          refine K.iadd (q := 38) dX6_remove_37 rfl ?_
          refine K.ial (q := 39) (f := (bb.2 5)) (m := (i + 1)) rb10 (lt141 (by decide)) (nI_1 _) (by omega) (by decide) dX6_remove_38 rfl ?_
          refine K.ias (q := 40) (f := (bb.2 5)) (m := i) rb10 (lt141 (by decide)) rfl (by omega) (by decide) pba5 dX6_remove_39 rfl ?_
          refine K.aload_n (q := 41) dX6_remove_40 rfl rfl ?_
          refine K.getf (q := 44) (v := .ref 11) fo_X6_15.r rb9 (lt141 (by decide)) rfl dX6_remove_41 rfl ?_
          refine K.iload_n (q := 45) dX6_remove_44 rfl rfl ?_
          refine K.aload_n (q := 46) dX6_remove_45 rfl rfl ?_
          refine K.getf (q := 49) (v := .ref 11) fo_X6_15.r rb9 (lt141 (by decide)) rfl dX6_remove_46 rfl ?_
          refine K.iload_n (q := 50) dX6_remove_49 rfl rfl ?_
          refine K.iconst (q := 51) (v := 1) dX6_remove_50 rfl (by decide) ?_
          refine K.iadd (q := 52) dX6_remove_51 rfl ?_
          refine K.ial (q := 53) (f := (bb.2 6)) (m := (i + 1)) rb11 (lt141 (by decide)) (nI_1 _) (by omega) (by decide) dX6_remove_52 rfl ?_
          refine K.ias (q := 54) (f := (bb.2 6)) (m := i) rb11 (lt141 (by decide)) rfl (by omega) (by decide) pba6 dX6_remove_53 rfl ?_
          refine K.iinc (q := 57) (v := (nI (i + 1))) dX6_remove_54 rfl rfl (nI_1 _) (by decide) rfl ?_
          refine K.goto (tgt := 11) dX6_remove_57 (by decide) ?_
          rw [lp_X6_remove_11, if_neg c_18_4] at hx
          exact ih (i + 1) (bA (bA bb 5 (up (bb.2 5) i ((bb.2 5) (i + 1)))) 6 (up (bb.2 6) i ((bb.2 6) (i + 1)))) (by omega) hx
    have hst_11 := cl_lt (n := 6) (has6 c_5_1).1 (has6 c_5_1).2.1 (by decide)
    refine K.loc 2 rfl (cl_nI (has6 c_5_1).1) ?_
    refine L11 (5 - place.toNatClampNeg) place.toNatClampNeg b (by omega) ?_
    refine K.aload_n (q := 61) dX6_remove_60 rfl rfl ?_
    refine K.dup (q := 62) dX6_remove_61 rfl rfl ?_
    refine K.getf (q := 65) (v := .int ((lp_X6_remove_11 (5 - place.toNatClampNeg) place.toNatClampNeg b).1 4)) fo_X6_18.r rb9 (lt141 (by decide)) rfl dX6_remove_62 rfl ?_
    refine K.iconst (q := 66) (v := 1) dX6_remove_65 rfl (by decide) ?_
    refine K.isub (q := 67) dX6_remove_66 rfl ?_
    refine K.putf (q := 70) fo_X6_18 rb9 (lt141 (by decide)) (Nat.le_of_ble_eq_true rfl) (fun _ => rfl) (fun _ => rfl) pbs4 dX6_remove_67 rfl ?_
    exact C.vret rfl rfl (by rw [u_X6_remove, if_neg c_5_1]) (Nat.le_of_ble_eq_true rfl) (Nat.le_of_ble_eq_true rfl) dX6_remove_70
  · exact C.vret rfl rfl (by rw [u_X6_remove, if_pos c_5_1]) (Nat.le_of_ble_eq_true rfl) (Nat.le_of_ble_eq_true rfl) dX6_remove_8

def lp_X3_remove_11 : Nat → Nat → BD → BD
  | 0, _, bb => bb
  | j + 1, i, bb => (if ((bb.1 3) - 1) ≤ (nI i) then bb else (lp_X3_remove_11 j (i + 1) (bA (bA (bA (bA bb 1 (up (bb.2 1) i ((bb.2 1) (i + 1)))) 2 (up (bb.2 2) i ((bb.2 2) (i + 1)))) 3 (up (bb.2 3) i ((bb.2 3) (i + 1)))) 4 (up (bb.2 4) i ((bb.2 4) (i + 1))))))

def u_X3_remove (b : BD) (loan : Int32) : BD := (if (r_X3_has b loan) = 0 then b else (bS (lp_X3_remove_11 (15 - loan.toNatClampNeg) loan.toNatClampNeg b) 3 (((lp_X3_remove_11 (15 - loan.toNatClampNeg) loan.toNatClampNeg b).1 3) - 1)))
set_option maxRecDepth 20000 in
theorem s_X3_remove (X : GS) (b : BD) (loan : Int32) : Ct 2 0 0 yX3_remove (.code yX3_remove cX3_remove 3 none) [.ref 4, .int loan] (mkH (uB X 0 b)) (.inl none) (mkH (uB X 0 (u_X3_remove b loan))) := by
  refine Ct.of (LL := [some (.ref 4), some (.int loan), none]) mkX3_remove.1 owX3_remove rfl (Nat.le_of_ble_eq_true rfl) rfl (fun Wk C => ?_)
  have K := C.core
  refine K.aload_n (q := 1) dX3_remove_0 rfl rfl ?_
  refine K.iload_n (q := 2) dX3_remove_1 rfl rfl ?_
  refine K.callV0 (q := 5) mkX3_has mw_X3_34 (s_X3_has _ _ _) rfl (by decide) rfl (lt141 (by decide)) rb4 (Nat.le_of_ble_eq_true rfl) (Nat.le_of_ble_eq_true rfl) (Nat.le_of_ble_eq_true rfl) dX3_remove_2 rfl ?_
  refine K.if_ne (q := 8) (tgt := 9) dX3_remove_5 rfl (by decide) (fun c_5_1 => ?_) (fun c_5_1 => ?_)
  · refine K.iload_n (q := 10) dX3_remove_9 rfl rfl ?_
    refine K.istore_n (q := 11) (i := 2) dX3_remove_10 rfl rfl (by decide) rfl ?_
    have L11 : ∀ (j i : Nat) (bb : BD), i + j = 15 → (Wk 0 0 89 [some (.ref 4), some (.int loan), none] [] (mkH (uB X 0 (lp_X3_remove_11 j i bb)))) → Wk 0 0 11 [some (.ref 4), some (.int loan), some (.int (nI i))] [] (mkH (uB X 0 bb)) := by
      intro j
      induction j with
      | zero =>
        intro i bb hij hx
        refine K.iload_n (q := 12) dX3_remove_11 rfl rfl ?_
        refine K.aload_n (q := 13) dX3_remove_12 rfl rfl ?_
        refine K.getf (q := 16) (v := .int (bb.1 3)) fo_X3_24.r rb4 (lt141 (by decide)) rfl dX3_remove_13 rfl ?_
        refine K.iconst (q := 17) (v := 1) dX3_remove_16 rfl (by decide) ?_
        refine K.isub (q := 18) dX3_remove_17 rfl ?_
        refine K.icmp_ge (q := 21) (tgt := 89) dX3_remove_18 rfl (by decide) (fun c_18_2 => ?_) (fun c_18_2 => ?_)
        · refine K.drop 2 ?_
          exact hx
        · refine K.iload_n (q := 22) dX3_remove_21 rfl rfl ?_
          refine K.bipush (q := 24) (v := 15) dX3_remove_22 rfl (by decide) ?_
          refine K.icmp_ge (q := 27) (tgt := 89) dX3_remove_24 rfl (by decide) (fun _ => ?_) (fun z => absurd z (not_not_intro (nI_le (a := 15) (b := i) (by omega) (by omega))))
          refine K.drop 2 ?_
          exact hx
      | succ j ih =>
        intro i bb hij hx
        refine K.iload_n (q := 12) dX3_remove_11 rfl rfl ?_
        refine K.aload_n (q := 13) dX3_remove_12 rfl rfl ?_
        refine K.getf (q := 16) (v := .int (bb.1 3)) fo_X3_24.r rb4 (lt141 (by decide)) rfl dX3_remove_13 rfl ?_
        refine K.iconst (q := 17) (v := 1) dX3_remove_16 rfl (by decide) ?_
        refine K.isub (q := 18) dX3_remove_17 rfl ?_
        refine K.icmp_ge (q := 21) (tgt := 89) dX3_remove_18 rfl (by decide) (fun c_18_4 => ?_) (fun c_18_4 => ?_)
        · refine K.drop 2 ?_
          rw [lp_X3_remove_11, if_pos c_18_4] at hx
          exact hx
        · refine K.iload_n (q := 22) dX3_remove_21 rfl rfl ?_
          refine K.bipush (q := 24) (v := 15) dX3_remove_22 rfl (by decide) ?_
          refine K.icmp_ge (q := 27) (tgt := 89) dX3_remove_24 rfl (by decide) (fun z => absurd z (nI_ge (a := i) (b := 15) (by omega) (by omega))) (fun _ => ?_)
          refine K.aload_n (q := 28) dX3_remove_27 rfl rfl ?_
          refine K.getf (q := 31) (v := .ref 5) fo_X3_9.r rb4 (lt141 (by decide)) rfl dX3_remove_28 rfl ?_
          refine K.iload_n (q := 32) dX3_remove_31 rfl rfl ?_
          refine K.aload_n (q := 33) dX3_remove_32 rfl rfl ?_
          refine K.getf (q := 36) (v := .ref 5) fo_X3_9.r rb4 (lt141 (by decide)) rfl dX3_remove_33 rfl ?_
          refine K.iload_n (q := 37) dX3_remove_36 rfl rfl ?_
          refine K.iconst (q := 38) (v := 1) dX3_remove_37 rfl (by decide) ?_
          refine K.iadd (q := 39) dX3_remove_38 rfl ?_
          refine K.ial (q := 40) (f := (bb.2 1)) (m := (i + 1)) rb5 (lt141 (by decide)) (nI_1 _) (by omega) (by decide) dX3_remove_39 rfl ?_
          refine K.ias (q := 41) (f := (bb.2 1)) (m := i) rb5 (lt141 (by decide)) rfl (by omega) (by decide) pba1 dX3_remove_40 rfl ?_
          refine K.aload_n (q := 42) dX3_remove_41 rfl rfl ?_
          refine K.getf (q := 45) (v := .ref 6) fo_X3_15.r rb4 (lt141 (by decide)) rfl dX3_remove_42 rfl ?_
          refine K.iload_n (q := 46) dX3_remove_45 rfl rfl ?_
          refine K.aload_n (q := 47) dX3_remove_46 rfl rfl ?_
          refine K.getf (q := 50) (v := .ref 6) fo_X3_15.r rb4 (lt141 (by decide)) rfl dX3_remove_47 rfl ?_
          refine K.iload_n (q := 51) dX3_remove_50 rfl rfl ?_
          refine K.iconst (q := 52) (v := 1) dX3_remove_51 rfl (by decide) ?_
          refine K.iadd (q := 53) dX3_remove_52 rfl ?_
          refine K.ial (q := 54) (f := (bb.2 2)) (m := (i + 1)) rb6 (lt141 (by decide)) (nI_1 _) (by omega) (by decide) dX3_remove_53 rfl ?_
          refine K.ias (q := 55) (f := (bb.2 2)) (m := i) rb6 (lt141 (by decide)) rfl (by omega) (by decide) pba2 dX3_remove_54 rfl ?_
          refine K.aload_n (q := 56) dX3_remove_55 rfl rfl ?_
          refine K.getf (q := 59) (v := .ref 7) fo_X3_18.r rb4 (lt141 (by decide)) rfl dX3_remove_56 rfl ?_
          refine K.iload_n (q := 60) dX3_remove_59 rfl rfl ?_
          refine K.aload_n (q := 61) dX3_remove_60 rfl rfl ?_
          refine K.getf (q := 64) (v := .ref 7) fo_X3_18.r rb4 (lt141 (by decide)) rfl dX3_remove_61 rfl ?_
          refine K.iload_n (q := 65) dX3_remove_64 rfl rfl ?_
          refine K.iconst (q := 66) (v := 1) dX3_remove_65 rfl (by decide) ?_
          refine K.iadd (q := 67) dX3_remove_66 rfl ?_
          refine K.ial (q := 68) (f := (bb.2 3)) (m := (i + 1)) rb7 (lt141 (by decide)) (nI_1 _) (by omega) (by decide) dX3_remove_67 rfl ?_
          refine K.ias (q := 69) (f := (bb.2 3)) (m := i) rb7 (lt141 (by decide)) rfl (by omega) (by decide) pba3 dX3_remove_68 rfl ?_
          refine K.aload_n (q := 70) dX3_remove_69 rfl rfl ?_
          refine K.getf (q := 73) (v := .ref 8) fo_X3_21.r rb4 (lt141 (by decide)) rfl dX3_remove_70 rfl ?_
          refine K.iload_n (q := 74) dX3_remove_73 rfl rfl ?_
          refine K.aload_n (q := 75) dX3_remove_74 rfl rfl ?_
          refine K.getf (q := 78) (v := .ref 8) fo_X3_21.r rb4 (lt141 (by decide)) rfl dX3_remove_75 rfl ?_
          refine K.iload_n (q := 79) dX3_remove_78 rfl rfl ?_
          refine K.iconst (q := 80) (v := 1) dX3_remove_79 rfl (by decide) ?_
          refine K.iadd (q := 81) dX3_remove_80 rfl ?_
          refine K.ial (q := 82) (f := (bb.2 4)) (m := (i + 1)) rb8 (lt141 (by decide)) (nI_1 _) (by omega) (by decide) dX3_remove_81 rfl ?_
          refine K.ias (q := 83) (f := (bb.2 4)) (m := i) rb8 (lt141 (by decide)) rfl (by omega) (by decide) pba4 dX3_remove_82 rfl ?_
          refine K.iinc (q := 86) (v := (nI (i + 1))) dX3_remove_83 rfl rfl (nI_1 _) (by decide) rfl ?_
          refine K.goto (tgt := 11) dX3_remove_86 (by decide) ?_
          rw [lp_X3_remove_11, if_neg c_18_4] at hx
          exact ih (i + 1) (bA (bA (bA (bA bb 1 (up (bb.2 1) i ((bb.2 1) (i + 1)))) 2 (up (bb.2 2) i ((bb.2 2) (i + 1)))) 3 (up (bb.2 3) i ((bb.2 3) (i + 1)))) 4 (up (bb.2 4) i ((bb.2 4) (i + 1)))) (by omega) hx
    have hst_11 := cl_lt (n := 16) (has3 c_5_1).1 (has3 c_5_1).2.1 (by decide)
    refine K.loc 2 rfl (cl_nI (has3 c_5_1).1) ?_
    refine L11 (15 - loan.toNatClampNeg) loan.toNatClampNeg b (by omega) ?_
    refine K.aload_n (q := 90) dX3_remove_89 rfl rfl ?_
    refine K.dup (q := 91) dX3_remove_90 rfl rfl ?_
    refine K.getf (q := 94) (v := .int ((lp_X3_remove_11 (15 - loan.toNatClampNeg) loan.toNatClampNeg b).1 3)) fo_X3_24.r rb4 (lt141 (by decide)) rfl dX3_remove_91 rfl ?_
    refine K.iconst (q := 95) (v := 1) dX3_remove_94 rfl (by decide) ?_
    refine K.isub (q := 96) dX3_remove_95 rfl ?_
    refine K.putf (q := 99) fo_X3_24 rb4 (lt141 (by decide)) (Nat.le_of_ble_eq_true rfl) (fun _ => rfl) (fun _ => rfl) pbs3 dX3_remove_96 rfl ?_
    exact C.vret rfl rfl (by rw [u_X3_remove, if_neg c_5_1]) (Nat.le_of_ble_eq_true rfl) (Nat.le_of_ble_eq_true rfl) dX3_remove_99
  · exact C.vret rfl rfl (by rw [u_X3_remove, if_pos c_5_1]) (Nat.le_of_ble_eq_true rfl) (Nat.le_of_ble_eq_true rfl) dX3_remove_8

def lp_X3_fewestInPart_7 (b : BD) (size : Int32) : Nat → Int32 → Int32 → Option (Int32 × Int32)
  | 0, _, _ => none
  | j + 1, a2, a3 => (if size < 1 then (some (a2, a3)) else (if 64 ≤ a3 then (some (a2, a3)) else (lp_X3_fewestInPart_7 b size j (if (r_X3_countIn b a3 size) < a2 then (r_X3_countIn b a3 size) else a2) (a3 + size))))

def r_X3_fewestInPart (b : BD) (size : Int32) : Int32 := (((lp_X3_fewestInPart_7 b size 100 (b.1 3) 0).getD ((0 : Int32), (0 : Int32))).1)
set_option maxRecDepth 20000 in
theorem s_X3_fewestInPart (X : GS) (b : BD) (size : Int32) (hf_7 : (lp_X3_fewestInPart_7 b size 100 (b.1 3) 0) ≠ none) : Ct 4 0 0 yX3_fewestInPart (.code yX3_fewestInPart cX3_fewestInPart 4 (some (.int))) [.ref 4, .int size] (mkH (uB X 0 b)) (.inl (some (.int (r_X3_fewestInPart b size)))) (mkH (uB X 0 b)) := by
  refine Ct.of (LL := [some (.ref 4), some (.int size), none, none]) mkX3_fewestInPart.1 owX3_fewestInPart rfl (Nat.le_of_ble_eq_true rfl) rfl (fun Wk C => ?_)
  have K := C.core
  refine K.aload_n (q := 1) dX3_fewestInPart_0 rfl rfl ?_
  refine K.getf (q := 4) (v := .int (b.1 3)) fo_X3_24.r rb4 (lt141 (by decide)) rfl dX3_fewestInPart_1 rfl ?_
  refine K.istore_n (q := 5) (i := 2) dX3_fewestInPart_4 rfl rfl (by decide) rfl ?_
  refine K.iconst (q := 6) (v := 0) dX3_fewestInPart_5 rfl (by decide) ?_
  refine K.istore_n (q := 7) (i := 3) dX3_fewestInPart_6 rfl rfl (by decide) rfl ?_
  have L7 : ∀ (j : Nat) (a2 : Int32) (a3 : Int32) (rr : Int32 × Int32), lp_X3_fewestInPart_7 b size j a2 a3 = some rr → (Wk 0 0 36 [some (.ref 4), some (.int size), some (.int (rr.1)), some (.int (rr.2))] [] (mkH (uB X 0 b))) → Wk 0 0 7 [some (.ref 4), some (.int size), some (.int a2), some (.int a3)] [] (mkH (uB X 0 b)) := by
    intro j
    induction j with
    | zero =>
      intro a2 a3 rr hrr hx
      exact absurd hrr (by rw [lp_X3_fewestInPart_7]; exact fun h => nomatch h)
    | succ j ih =>
      intro a2 a3 rr hrr hx
      refine K.iload_n (q := 8) dX3_fewestInPart_7 rfl rfl ?_
      refine K.iconst (q := 9) (v := 1) dX3_fewestInPart_8 rfl (by decide) ?_
      refine K.icmp_lt (q := 12) (tgt := 36) dX3_fewestInPart_9 rfl (by decide) (fun c_9_1 => ?_) (fun c_9_1 => ?_)
      · rw [lp_X3_fewestInPart_7, if_pos c_9_1] at hrr
        obtain rfl := Option.some.inj hrr
        exact hx
      · refine K.iload_n (q := 13) dX3_fewestInPart_12 rfl rfl ?_
        refine K.bipush (q := 15) (v := 64) dX3_fewestInPart_13 rfl (by decide) ?_
        refine K.icmp_ge (q := 18) (tgt := 36) dX3_fewestInPart_15 rfl (by decide) (fun c_15_2 => ?_) (fun c_15_2 => ?_)
        · rw [lp_X3_fewestInPart_7, if_neg c_9_1, if_pos c_15_2] at hrr
          obtain rfl := Option.some.inj hrr
          exact hx
        · refine K.iload_n (q := 19) dX3_fewestInPart_18 rfl rfl ?_
          refine K.aload_n (q := 20) dX3_fewestInPart_19 rfl rfl ?_
          refine K.iload_n (q := 21) dX3_fewestInPart_20 rfl rfl ?_
          refine K.iload_n (q := 22) dX3_fewestInPart_21 rfl rfl ?_
          refine K.callV0 (q := 25) mkX3_countIn mw_X3_56 (s_X3_countIn _ _ _ _) rfl (by decide) rfl (lt141 (by decide)) rb4 (Nat.le_of_ble_eq_true rfl) (Nat.le_of_ble_eq_true rfl) (Nat.le_of_ble_eq_true rfl) dX3_fewestInPart_22 rfl ?_
          refine K.mmin (q := 28) mw_X3_60 (by decide) (Nat.le_of_ble_eq_true rfl) dX3_fewestInPart_25 rfl (Nat.le_of_ble_eq_true rfl) (Nat.le_of_ble_eq_true rfl) ?_
          refine K.istore_n (q := 29) (i := 2) dX3_fewestInPart_28 rfl rfl (by decide) rfl ?_
          refine K.iload_n (q := 30) dX3_fewestInPart_29 rfl rfl ?_
          refine K.iload_n (q := 31) dX3_fewestInPart_30 rfl rfl ?_
          refine K.iadd (q := 32) dX3_fewestInPart_31 rfl ?_
          refine K.istore_n (q := 33) (i := 3) dX3_fewestInPart_32 rfl rfl (by decide) rfl ?_
          refine K.goto (tgt := 7) dX3_fewestInPart_33 (by decide) ?_
          rw [lp_X3_fewestInPart_7, if_neg c_9_1, if_neg c_15_2] at hrr
          exact ih (if (r_X3_countIn b a3 size) < a2 then (r_X3_countIn b a3 size) else a2) (a3 + size) rr hrr hx
  refine L7 _ (b.1 3) 0 _ (fu_some (d := ((0 : Int32), (0 : Int32))) hf_7) ?_
  refine K.iload_n (q := 37) dX3_fewestInPart_36 rfl rfl ?_
  exact C.iret rfl rfl (by rw [r_X3_fewestInPart]) rfl (Nat.le_of_ble_eq_true rfl) (Nat.le_of_ble_eq_true rfl) dX3_fewestInPart_37
