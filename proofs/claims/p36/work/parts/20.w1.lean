def r_X7_isName (x : Int32) : Int32 := (if x < 0 then 0 else (if 99 < x then 0 else 1))
set_option maxRecDepth 20000 in
theorem s_X7_isName (H : aH) (x : Int32) : Ct 1 0 0 yX7_isName (.code yX7_isName cX7_isName 1 (some (.boolean))) [.int x] (H) (.inl (some (.int (r_X7_isName x)))) (H) := by
  refine Ct.of (LL := [some (.int x)]) mkX7_isName.1 owX7_isName rfl (Nat.le_of_ble_eq_true rfl) rfl (fun Wk C => ?_)
  have K := C.core
  refine K.iload_n (q := 1) dX7_isName_0 rfl rfl ?_
  refine K.if_lt (q := 4) (tgt := 14) dX7_isName_1 rfl (by decide) (fun c_1_1 => ?_) (fun c_1_1 => ?_)
  · refine K.iconst (q := 15) (v := 0) dX7_isName_14 rfl (by decide) ?_
    exact C.iret rfl rfl (by rw [r_X7_isName, if_pos c_1_1]) rfl (Nat.le_of_ble_eq_true rfl) (Nat.le_of_ble_eq_true rfl) dX7_isName_15
  · refine K.iload_n (q := 5) dX7_isName_4 rfl rfl ?_
    refine K.bipush (q := 7) (v := 99) dX7_isName_5 rfl (by decide) ?_
    refine K.icmp_gt (q := 10) (tgt := 14) dX7_isName_7 rfl (by decide) (fun c_7_2 => ?_) (fun c_7_2 => ?_)
    · refine K.iconst (q := 15) (v := 0) dX7_isName_14 rfl (by decide) ?_
      exact C.iret rfl rfl (by rw [r_X7_isName, if_neg c_1_1, if_pos c_7_2]) rfl (Nat.le_of_ble_eq_true rfl) (Nat.le_of_ble_eq_true rfl) dX7_isName_15
    · refine K.iconst (q := 11) (v := 1) dX7_isName_10 rfl (by decide) ?_
      refine K.goto (tgt := 15) dX7_isName_11 (by decide) ?_
      exact C.iret rfl rfl (by rw [r_X7_isName, if_neg c_1_1, if_neg c_7_2]) rfl (Nat.le_of_ble_eq_true rfl) (Nat.le_of_ble_eq_true rfl) dX7_isName_15

def r_X7_isAmount (x : Int32) : Int32 := (if x < 1 then 0 else (if 64 < x then 0 else 1))
set_option maxRecDepth 20000 in
theorem s_X7_isAmount (H : aH) (x : Int32) : Ct 1 0 0 yX7_isAmount (.code yX7_isAmount cX7_isAmount 1 (some (.boolean))) [.int x] (H) (.inl (some (.int (r_X7_isAmount x)))) (H) := by
  refine Ct.of (LL := [some (.int x)]) mkX7_isAmount.1 owX7_isAmount rfl (Nat.le_of_ble_eq_true rfl) rfl (fun Wk C => ?_)
  have K := C.core
  refine K.iload_n (q := 1) dX7_isAmount_0 rfl rfl ?_
  refine K.iconst (q := 2) (v := 1) dX7_isAmount_1 rfl (by decide) ?_
  refine K.icmp_lt (q := 5) (tgt := 15) dX7_isAmount_2 rfl (by decide) (fun c_2_1 => ?_) (fun c_2_1 => ?_)
  · refine K.iconst (q := 16) (v := 0) dX7_isAmount_15 rfl (by decide) ?_
    exact C.iret rfl rfl (by rw [r_X7_isAmount, if_pos c_2_1]) rfl (Nat.le_of_ble_eq_true rfl) (Nat.le_of_ble_eq_true rfl) dX7_isAmount_16
  · refine K.iload_n (q := 6) dX7_isAmount_5 rfl rfl ?_
    refine K.bipush (q := 8) (v := 64) dX7_isAmount_6 rfl (by decide) ?_
    refine K.icmp_gt (q := 11) (tgt := 15) dX7_isAmount_8 rfl (by decide) (fun c_8_2 => ?_) (fun c_8_2 => ?_)
    · refine K.iconst (q := 16) (v := 0) dX7_isAmount_15 rfl (by decide) ?_
      exact C.iret rfl rfl (by rw [r_X7_isAmount, if_neg c_2_1, if_pos c_8_2]) rfl (Nat.le_of_ble_eq_true rfl) (Nat.le_of_ble_eq_true rfl) dX7_isAmount_16
    · refine K.iconst (q := 12) (v := 1) dX7_isAmount_11 rfl (by decide) ?_
      refine K.goto (tgt := 16) dX7_isAmount_12 (by decide) ?_
      exact C.iret rfl rfl (by rw [r_X7_isAmount, if_neg c_2_1, if_neg c_8_2]) rfl (Nat.le_of_ble_eq_true rfl) (Nat.le_of_ble_eq_true rfl) dX7_isAmount_16

def r_X7_isUnit (x : Int32) : Int32 := (if x < 0 then 0 else (if 64 ≤ x then 0 else 1))
set_option maxRecDepth 20000 in
theorem s_X7_isUnit (H : aH) (x : Int32) : Ct 1 0 0 yX7_isUnit (.code yX7_isUnit cX7_isUnit 1 (some (.boolean))) [.int x] (H) (.inl (some (.int (r_X7_isUnit x)))) (H) := by
  refine Ct.of (LL := [some (.int x)]) mkX7_isUnit.1 owX7_isUnit rfl (Nat.le_of_ble_eq_true rfl) rfl (fun Wk C => ?_)
  have K := C.core
  refine K.iload_n (q := 1) dX7_isUnit_0 rfl rfl ?_
  refine K.if_lt (q := 4) (tgt := 14) dX7_isUnit_1 rfl (by decide) (fun c_1_1 => ?_) (fun c_1_1 => ?_)
  · refine K.iconst (q := 15) (v := 0) dX7_isUnit_14 rfl (by decide) ?_
    exact C.iret rfl rfl (by rw [r_X7_isUnit, if_pos c_1_1]) rfl (Nat.le_of_ble_eq_true rfl) (Nat.le_of_ble_eq_true rfl) dX7_isUnit_15
  · refine K.iload_n (q := 5) dX7_isUnit_4 rfl rfl ?_
    refine K.bipush (q := 7) (v := 64) dX7_isUnit_5 rfl (by decide) ?_
    refine K.icmp_ge (q := 10) (tgt := 14) dX7_isUnit_7 rfl (by decide) (fun c_7_2 => ?_) (fun c_7_2 => ?_)
    · refine K.iconst (q := 15) (v := 0) dX7_isUnit_14 rfl (by decide) ?_
      exact C.iret rfl rfl (by rw [r_X7_isUnit, if_neg c_1_1, if_pos c_7_2]) rfl (Nat.le_of_ble_eq_true rfl) (Nat.le_of_ble_eq_true rfl) dX7_isUnit_15
    · refine K.iconst (q := 11) (v := 1) dX7_isUnit_10 rfl (by decide) ?_
      refine K.goto (tgt := 15) dX7_isUnit_11 (by decide) ?_
      exact C.iret rfl rfl (by rw [r_X7_isUnit, if_neg c_1_1, if_neg c_7_2]) rfl (Nat.le_of_ble_eq_true rfl) (Nat.le_of_ble_eq_true rfl) dX7_isUnit_15

def r_X7_isSize (x : Int32) : Int32 := (if x < 1 then 0 else (if 64 < x then 0 else (if (x &&& (x - 1)) = 0 then 1 else 0)))
def r_X7_partOf (unit : Int32) (size : Int32) : Int32 := (unit &&& (-size))
set_option maxRecDepth 20000 in
theorem s_X7_partOf (H : aH) (unit : Int32) (size : Int32) : Ct 1 0 0 yX7_partOf (.code yX7_partOf cX7_partOf 2 (some (.int))) [.int unit, .int size] (H) (.inl (some (.int (r_X7_partOf unit size)))) (H) := by
  refine Ct.of (LL := [some (.int unit), some (.int size)]) mkX7_partOf.1 owX7_partOf rfl (Nat.le_of_ble_eq_true rfl) rfl (fun Wk C => ?_)
  have K := C.core
  refine K.iload_n (q := 1) dX7_partOf_0 rfl rfl ?_
  refine K.iload_n (q := 2) dX7_partOf_1 rfl rfl ?_
  refine K.ineg (q := 3) dX7_partOf_2 rfl ?_
  refine K.iand (q := 4) dX7_partOf_3 rfl ?_
  exact C.iret rfl rfl (by rw [r_X7_partOf]) rfl (Nat.le_of_ble_eq_true rfl) (Nat.le_of_ble_eq_true rfl) dX7_partOf_4

def r_X7_twinOf (unit : Int32) (size : Int32) : Int32 := ((r_X7_partOf unit size) ^^^ size)
set_option maxRecDepth 20000 in
theorem s_X7_twinOf (H : aH) (unit : Int32) (size : Int32) : Ct 2 0 0 yX7_twinOf (.code yX7_twinOf cX7_twinOf 2 (some (.int))) [.int unit, .int size] (H) (.inl (some (.int (r_X7_twinOf unit size)))) (H) := by
  refine Ct.of (LL := [some (.int unit), some (.int size)]) mkX7_twinOf.1 owX7_twinOf rfl (Nat.le_of_ble_eq_true rfl) rfl (fun Wk C => ?_)
  have K := C.core
  refine K.iload_n (q := 1) dX7_twinOf_0 rfl rfl ?_
  refine K.iload_n (q := 2) dX7_twinOf_1 rfl rfl ?_
  refine K.callS0 (q := 5) mkX7_partOf mw_X7_387 (s_X7_partOf _ _ _) rfl (by decide) rfl (Nat.le_of_ble_eq_true rfl) (Nat.le_of_ble_eq_true rfl) (Nat.le_of_ble_eq_true rfl) dX7_twinOf_2 rfl ?_
  refine K.iload_n (q := 6) dX7_twinOf_5 rfl rfl ?_
  refine K.ixor (q := 7) dX7_twinOf_6 rfl ?_
  exact C.iret rfl rfl (by rw [r_X7_twinOf]) rfl (Nat.le_of_ble_eq_true rfl) (Nat.le_of_ble_eq_true rfl) dX7_twinOf_7

def lp_X7_needOf_2 (amount : Int32) : Nat → Int32 → Option (Int32)
  | 0, _ => none
  | j + 1, a1 => (if amount ≤ a1 then (some a1) else (if 64 ≤ a1 then (some a1) else (lp_X7_needOf_2 amount j (a1 * 2))))

def r_X7_needOf (amount : Int32) : Int32 := ((lp_X7_needOf_2 amount 64 1).getD (0 : Int32))
set_option maxRecDepth 20000 in
theorem s_X7_needOf (H : aH) (amount : Int32) (hf_2 : (lp_X7_needOf_2 amount 64 1) ≠ none) : Ct 1 0 0 yX7_needOf (.code yX7_needOf cX7_needOf 2 (some (.int))) [.int amount] (H) (.inl (some (.int (r_X7_needOf amount)))) (H) := by
  refine Ct.of (LL := [some (.int amount), none]) mkX7_needOf.1 owX7_needOf rfl (Nat.le_of_ble_eq_true rfl) rfl (fun Wk C => ?_)
  have K := C.core
  refine K.iconst (q := 1) (v := 1) dX7_needOf_0 rfl (by decide) ?_
  refine K.istore_n (q := 2) (i := 1) dX7_needOf_1 rfl rfl (by decide) rfl ?_
  have L2 : ∀ (j : Nat) (a1 : Int32) (rr : Int32), lp_X7_needOf_2 amount j a1 = some rr → (Wk 0 0 20 [some (.int amount), some (.int rr)] [] (H)) → Wk 0 0 2 [some (.int amount), some (.int a1)] [] (H) := by
    intro j
    induction j with
    | zero =>
      intro a1 rr hrr hx
      exact absurd hrr (by rw [lp_X7_needOf_2]; exact fun h => nomatch h)
    | succ j ih =>
      intro a1 rr hrr hx
      refine K.iload_n (q := 3) dX7_needOf_2 rfl rfl ?_
      refine K.iload_n (q := 4) dX7_needOf_3 rfl rfl ?_
      refine K.icmp_ge (q := 7) (tgt := 20) dX7_needOf_4 rfl (by decide) (fun c_4_1 => ?_) (fun c_4_1 => ?_)
      · rw [lp_X7_needOf_2, if_pos c_4_1] at hrr
        obtain rfl := Option.some.inj hrr
        exact hx
      · refine K.iload_n (q := 8) dX7_needOf_7 rfl rfl ?_
        refine K.bipush (q := 10) (v := 64) dX7_needOf_8 rfl (by decide) ?_
        refine K.icmp_ge (q := 13) (tgt := 20) dX7_needOf_10 rfl (by decide) (fun c_10_2 => ?_) (fun c_10_2 => ?_)
        · rw [lp_X7_needOf_2, if_neg c_4_1, if_pos c_10_2] at hrr
          obtain rfl := Option.some.inj hrr
          exact hx
        · refine K.iload_n (q := 14) dX7_needOf_13 rfl rfl ?_
          refine K.iconst (q := 15) (v := 2) dX7_needOf_14 rfl (by decide) ?_
          refine K.imul (q := 16) dX7_needOf_15 rfl ?_
          refine K.istore_n (q := 17) (i := 1) dX7_needOf_16 rfl rfl (by decide) rfl ?_
          refine K.goto (tgt := 2) dX7_needOf_17 (by decide) ?_
          rw [lp_X7_needOf_2, if_neg c_4_1, if_neg c_10_2] at hrr
          exact ih (a1 * 2) rr hrr hx
  refine L2 _ 1 _ (fu_some (d := (0 : Int32)) hf_2) ?_
  refine K.iload_n (q := 21) dX7_needOf_20 rfl rfl ?_
  exact C.iret rfl rfl (by rw [r_X7_needOf]) rfl (Nat.le_of_ble_eq_true rfl) (Nat.le_of_ble_eq_true rfl) dX7_needOf_21

def r_X5_sizeAt (b : BD) (start : Int32) : Int32 := (if start < 0 then 0 else (if 64 ≤ start then 0 else ((b.2 0) (start.toNatClampNeg))))
set_option maxRecDepth 20000 in
theorem s_X5_sizeAt (X : GS) (b : BD) (start : Int32) : Ct 1 0 0 yX5_sizeAt (.code yX5_sizeAt cX5_sizeAt 2 (some (.int))) [.ref 2, .int start] (mkH (uB X 0 b)) (.inl (some (.int (r_X5_sizeAt b start)))) (mkH (uB X 0 b)) := by
  refine Ct.of (LL := [some (.ref 2), some (.int start)]) mkX5_sizeAt.1 owX5_sizeAt rfl (Nat.le_of_ble_eq_true rfl) rfl (fun Wk C => ?_)
  have K := C.core
  refine K.iload_n (q := 1) dX5_sizeAt_0 rfl rfl ?_
  refine K.if_lt (q := 4) (tgt := 19) dX5_sizeAt_1 rfl (by decide) (fun c_1_1 => ?_) (fun c_1_1 => ?_)
  · refine K.iconst (q := 20) (v := 0) dX5_sizeAt_19 rfl (by decide) ?_
    exact C.iret rfl rfl (by rw [r_X5_sizeAt, if_pos c_1_1]) rfl (Nat.le_of_ble_eq_true rfl) (Nat.le_of_ble_eq_true rfl) dX5_sizeAt_20
  · refine K.iload_n (q := 5) dX5_sizeAt_4 rfl rfl ?_
    refine K.bipush (q := 7) (v := 64) dX5_sizeAt_5 rfl (by decide) ?_
    refine K.icmp_ge (q := 10) (tgt := 19) dX5_sizeAt_7 rfl (by decide) (fun c_7_2 => ?_) (fun c_7_2 => ?_)
    · refine K.iconst (q := 20) (v := 0) dX5_sizeAt_19 rfl (by decide) ?_
      exact C.iret rfl rfl (by rw [r_X5_sizeAt, if_neg c_1_1, if_pos c_7_2]) rfl (Nat.le_of_ble_eq_true rfl) (Nat.le_of_ble_eq_true rfl) dX5_sizeAt_20
    · refine K.aload_n (q := 11) dX5_sizeAt_10 rfl rfl ?_
      refine K.getf (q := 14) (v := .ref 3) fo_X5_9.r rb2 (lt141 (by decide)) rfl dX5_sizeAt_11 rfl ?_
      refine K.iload_n (q := 15) dX5_sizeAt_14 rfl rfl ?_
      refine K.ial (q := 16) (f := (b.2 0)) (m := (start.toNatClampNeg)) rb3 (lt141 (by decide)) (cl_nI c_1_1) (cl_lt c_1_1 c_7_2 (by decide)) (by decide) dX5_sizeAt_15 rfl ?_
      refine K.goto (tgt := 20) dX5_sizeAt_16 (by decide) ?_
      exact C.iret rfl rfl (by rw [r_X5_sizeAt, if_neg c_1_1, if_neg c_7_2]) rfl (Nat.le_of_ble_eq_true rfl) (Nat.le_of_ble_eq_true rfl) dX5_sizeAt_20

def u_X5_setSize (b : BD) (start : Int32) (size : Int32) : BD := (if start < 0 then b else (if 64 ≤ start then b else (bA b 0 (up (b.2 0) (start.toNatClampNeg) size))))
set_option maxRecDepth 20000 in
theorem s_X5_setSize (X : GS) (b : BD) (start : Int32) (size : Int32) : Ct 1 0 0 yX5_setSize (.code yX5_setSize cX5_setSize 3 none) [.ref 2, .int start, .int size] (mkH (uB X 0 b)) (.inl none) (mkH (uB X 0 (u_X5_setSize b start size))) := by
  refine Ct.of (LL := [some (.ref 2), some (.int start), some (.int size)]) mkX5_setSize.1 owX5_setSize rfl (Nat.le_of_ble_eq_true rfl) rfl (fun Wk C => ?_)
  have K := C.core
  refine K.iload_n (q := 1) dX5_setSize_0 rfl rfl ?_
  refine K.if_lt (q := 4) (tgt := 17) dX5_setSize_1 rfl (by decide) (fun c_1_1 => ?_) (fun c_1_1 => ?_)
  · exact C.vret rfl rfl (by rw [u_X5_setSize, if_pos c_1_1]) (Nat.le_of_ble_eq_true rfl) (Nat.le_of_ble_eq_true rfl) dX5_setSize_17
  · refine K.iload_n (q := 5) dX5_setSize_4 rfl rfl ?_
    refine K.bipush (q := 7) (v := 64) dX5_setSize_5 rfl (by decide) ?_
    refine K.icmp_ge (q := 10) (tgt := 17) dX5_setSize_7 rfl (by decide) (fun c_7_2 => ?_) (fun c_7_2 => ?_)
    · exact C.vret rfl rfl (by rw [u_X5_setSize, if_neg c_1_1, if_pos c_7_2]) (Nat.le_of_ble_eq_true rfl) (Nat.le_of_ble_eq_true rfl) dX5_setSize_17
    · refine K.aload_n (q := 11) dX5_setSize_10 rfl rfl ?_
      refine K.getf (q := 14) (v := .ref 3) fo_X5_9.r rb2 (lt141 (by decide)) rfl dX5_setSize_11 rfl ?_
      refine K.iload_n (q := 15) dX5_setSize_14 rfl rfl ?_
      refine K.iload_n (q := 16) dX5_setSize_15 rfl rfl ?_
      refine K.ias (q := 17) (f := (b.2 0)) (m := (start.toNatClampNeg)) rb3 (lt141 (by decide)) (cl_nI c_1_1) (cl_lt c_1_1 c_7_2 (by decide)) (by decide) pba0 dX5_setSize_16 rfl ?_
      exact C.vret rfl rfl (by rw [u_X5_setSize, if_neg c_1_1, if_neg c_7_2]) (Nat.le_of_ble_eq_true rfl) (Nat.le_of_ble_eq_true rfl) dX5_setSize_17

def r_X5_isUpperTaken (b : BD) : Int32 := (if (b.1 0) = 1 then 1 else 0)
set_option maxRecDepth 20000 in
theorem s_X5_isUpperTaken (X : GS) (b : BD) : Ct 1 0 0 yX5_isUpperTaken (.code yX5_isUpperTaken cX5_isUpperTaken 1 (some (.boolean))) [.ref 2] (mkH (uB X 0 b)) (.inl (some (.int (r_X5_isUpperTaken b)))) (mkH (uB X 0 b)) := by
  refine Ct.of (LL := [some (.ref 2)]) mkX5_isUpperTaken.1 owX5_isUpperTaken rfl (Nat.le_of_ble_eq_true rfl) rfl (fun Wk C => ?_)
  have K := C.core
  refine K.aload_n (q := 1) dX5_isUpperTaken_0 rfl rfl ?_
  refine K.getf (q := 4) (v := .int (b.1 0)) fo_X5_15.r rb2 (lt141 (by decide)) rfl dX5_isUpperTaken_1 rfl ?_
  refine K.iconst (q := 5) (v := 1) dX5_isUpperTaken_4 rfl (by decide) ?_
  refine K.icmp_ne (q := 8) (tgt := 12) dX5_isUpperTaken_5 rfl (by decide) (fun c_5_1 => ?_) (fun c_5_1 => ?_)
  · refine K.iconst (q := 13) (v := 0) dX5_isUpperTaken_12 rfl (by decide) ?_
    exact C.iret rfl rfl (by rw [r_X5_isUpperTaken, if_neg c_5_1]) rfl (Nat.le_of_ble_eq_true rfl) (Nat.le_of_ble_eq_true rfl) dX5_isUpperTaken_13
  · refine K.iconst (q := 9) (v := 1) dX5_isUpperTaken_8 rfl (by decide) ?_
    refine K.goto (tgt := 13) dX5_isUpperTaken_9 (by decide) ?_
    exact C.iret rfl rfl (by rw [r_X5_isUpperTaken, if_pos c_5_1]) rfl (Nat.le_of_ble_eq_true rfl) (Nat.le_of_ble_eq_true rfl) dX5_isUpperTaken_13

def r_X5_isWithin (unit : Int32) (start : Int32) (size : Int32) : Int32 := (if unit < start then 0 else (if (start + size) ≤ unit then 0 else 1))
set_option maxRecDepth 20000 in
theorem s_X5_isWithin (H : aH) (unit : Int32) (start : Int32) (size : Int32) : Ct 1 0 0 yX5_isWithin (.code yX5_isWithin cX5_isWithin 3 (some (.boolean))) [.int unit, .int start, .int size] (H) (.inl (some (.int (r_X5_isWithin unit start size)))) (H) := by
  refine Ct.of (LL := [some (.int unit), some (.int start), some (.int size)]) mkX5_isWithin.1 owX5_isWithin rfl (Nat.le_of_ble_eq_true rfl) rfl (fun Wk C => ?_)
  have K := C.core
  refine K.iload_n (q := 1) dX5_isWithin_0 rfl rfl ?_
  refine K.iload_n (q := 2) dX5_isWithin_1 rfl rfl ?_
  refine K.icmp_gt (q := 5) (tgt := 16) dX5_isWithin_2 rfl (by decide) (fun c_2_1 => ?_) (fun c_2_1 => ?_)
  · refine K.iconst (q := 17) (v := 0) dX5_isWithin_16 rfl (by decide) ?_
    exact C.iret rfl rfl (by rw [r_X5_isWithin, if_pos c_2_1]) rfl (Nat.le_of_ble_eq_true rfl) (Nat.le_of_ble_eq_true rfl) dX5_isWithin_17
  · refine K.iload_n (q := 6) dX5_isWithin_5 rfl rfl ?_
    refine K.iload_n (q := 7) dX5_isWithin_6 rfl rfl ?_
    refine K.iload_n (q := 8) dX5_isWithin_7 rfl rfl ?_
    refine K.iadd (q := 9) dX5_isWithin_8 rfl ?_
    refine K.icmp_ge (q := 12) (tgt := 16) dX5_isWithin_9 rfl (by decide) (fun c_9_2 => ?_) (fun c_9_2 => ?_)
    · refine K.iconst (q := 17) (v := 0) dX5_isWithin_16 rfl (by decide) ?_
      exact C.iret rfl rfl (by rw [r_X5_isWithin, if_neg c_2_1, if_pos c_9_2]) rfl (Nat.le_of_ble_eq_true rfl) (Nat.le_of_ble_eq_true rfl) dX5_isWithin_17
    · refine K.iconst (q := 13) (v := 1) dX5_isWithin_12 rfl (by decide) ?_
      refine K.goto (tgt := 17) dX5_isWithin_13 (by decide) ?_
      exact C.iret rfl rfl (by rw [r_X5_isWithin, if_neg c_2_1, if_neg c_9_2]) rfl (Nat.le_of_ble_eq_true rfl) (Nat.le_of_ble_eq_true rfl) dX5_isWithin_17

def r_X5_isPreferred (b : BD) (size : Int32) (other : Int32) : Int32 := (if (b.1 0) = 0 then (if other ≤ size then 0 else 1) else (if (b.1 0) = 1 then (if other < size then 0 else 1) else (if size ≤ other then 0 else 1)))
set_option maxRecDepth 20000 in
theorem s_X5_isPreferred (X : GS) (b : BD) (size : Int32) (other : Int32) : Ct 1 0 0 yX5_isPreferred (.code yX5_isPreferred cX5_isPreferred 3 (some (.boolean))) [.ref 2, .int size, .int other] (mkH (uB X 0 b)) (.inl (some (.int (r_X5_isPreferred b size other)))) (mkH (uB X 0 b)) := by
  refine Ct.of (LL := [some (.ref 2), some (.int size), some (.int other)]) mkX5_isPreferred.1 owX5_isPreferred rfl (Nat.le_of_ble_eq_true rfl) rfl (fun Wk C => ?_)
  have K := C.core
  refine K.aload_n (q := 1) dX5_isPreferred_0 rfl rfl ?_
  refine K.getf (q := 4) (v := .int (b.1 0)) fo_X5_15.r rb2 (lt141 (by decide)) rfl dX5_isPreferred_1 rfl ?_
  by_cases c_4_1 : (b.1 0) = 0
  · refine K.lookup (off := 28) (tgt := 32) dX5_isPreferred_4 (by decide) (by rw [c_4_1]; try rfl) (by decide) ?_
    refine K.iload_n (q := 33) dX5_isPreferred_32 rfl rfl ?_
    refine K.iload_n (q := 34) dX5_isPreferred_33 rfl rfl ?_
    refine K.icmp_ge (q := 37) (tgt := 41) dX5_isPreferred_34 rfl (by decide) (fun c_34_2 => ?_) (fun c_34_2 => ?_)
    · refine K.iconst (q := 42) (v := 0) dX5_isPreferred_41 rfl (by decide) ?_
      exact C.iret rfl rfl (by rw [r_X5_isPreferred, if_pos c_4_1, if_pos c_34_2]) rfl (Nat.le_of_ble_eq_true rfl) (Nat.le_of_ble_eq_true rfl) dX5_isPreferred_42
    · refine K.iconst (q := 38) (v := 1) dX5_isPreferred_37 rfl (by decide) ?_
      refine K.goto (tgt := 42) dX5_isPreferred_38 (by decide) ?_
      exact C.iret rfl rfl (by rw [r_X5_isPreferred, if_pos c_4_1, if_neg c_34_2]) rfl (Nat.le_of_ble_eq_true rfl) (Nat.le_of_ble_eq_true rfl) dX5_isPreferred_42
  · skip
    by_cases c_4_3 : (b.1 0) = 1
    · refine K.lookup (off := 39) (tgt := 43) dX5_isPreferred_4 (by decide) (by rw [c_4_3]; try rfl) (by decide) ?_
      refine K.iload_n (q := 44) dX5_isPreferred_43 rfl rfl ?_
      refine K.iload_n (q := 45) dX5_isPreferred_44 rfl rfl ?_
      refine K.icmp_gt (q := 48) (tgt := 52) dX5_isPreferred_45 rfl (by decide) (fun c_45_4 => ?_) (fun c_45_4 => ?_)
      · refine K.iconst (q := 53) (v := 0) dX5_isPreferred_52 rfl (by decide) ?_
        exact C.iret rfl rfl (by rw [r_X5_isPreferred, if_neg c_4_1, if_pos c_4_3, if_pos c_45_4]) rfl (Nat.le_of_ble_eq_true rfl) (Nat.le_of_ble_eq_true rfl) dX5_isPreferred_53
      · refine K.iconst (q := 49) (v := 1) dX5_isPreferred_48 rfl (by decide) ?_
        refine K.goto (tgt := 53) dX5_isPreferred_49 (by decide) ?_
        exact C.iret rfl rfl (by rw [r_X5_isPreferred, if_neg c_4_1, if_pos c_4_3, if_neg c_45_4]) rfl (Nat.le_of_ble_eq_true rfl) (Nat.le_of_ble_eq_true rfl) dX5_isPreferred_53
    · skip
      refine K.lookup (off := 50) (tgt := 54) dX5_isPreferred_4 (by decide) (by show Op.lookupswitch.offset [(0, 28), (1, 39)] 50 _ = 50; rw [lv_osw (a := 0) c_4_1 (by decide), lv_osw (a := 1) c_4_3 (by decide)]; try rfl) (by decide) ?_
      refine K.iload_n (q := 55) dX5_isPreferred_54 rfl rfl ?_
      refine K.iload_n (q := 56) dX5_isPreferred_55 rfl rfl ?_
      refine K.icmp_le (q := 59) (tgt := 63) dX5_isPreferred_56 rfl (by decide) (fun c_56_5 => ?_) (fun c_56_5 => ?_)
      · refine K.iconst (q := 64) (v := 0) dX5_isPreferred_63 rfl (by decide) ?_
        exact C.iret rfl rfl (by rw [r_X5_isPreferred, if_neg c_4_1, if_neg c_4_3, if_pos c_56_5]) rfl (Nat.le_of_ble_eq_true rfl) (Nat.le_of_ble_eq_true rfl) dX5_isPreferred_64
      · refine K.iconst (q := 60) (v := 1) dX5_isPreferred_59 rfl (by decide) ?_
        refine K.goto (tgt := 64) dX5_isPreferred_60 (by decide) ?_
        exact C.iret rfl rfl (by rw [r_X5_isPreferred, if_neg c_4_1, if_neg c_4_3, if_neg c_56_5]) rfl (Nat.le_of_ble_eq_true rfl) (Nat.le_of_ble_eq_true rfl) dX5_isPreferred_64

def lp_X5_find_7 (b : BD) (need : Int32) : Nat → Nat → Int32 → Int32 → Int32 × Int32
  | 0, _, a2, a3 => (a2, a3)
  | j + 1, i, a2, a3 => (if ((b.2 0) i) < need then (lp_X5_find_7 b need j (i + 1) a2 a3) else (if ((b.2 0) i) ≤ 0 then (lp_X5_find_7 b need j (i + 1) a2 a3) else (if a2 < 0 then (lp_X5_find_7 b need j (i + 1) (nI i) ((b.2 0) i)) else (if (r_X5_isPreferred b ((b.2 0) i) a3) = 0 then (lp_X5_find_7 b need j (i + 1) a2 a3) else (lp_X5_find_7 b need j (i + 1) (nI i) ((b.2 0) i))))))

def r_X5_find (b : BD) (need : Int32) : Int32 := ((lp_X5_find_7 b need 64 0 (-1) 0).1)
set_option maxRecDepth 20000 in
theorem s_X5_find (X : GS) (b : BD) (need : Int32) : Ct 2 0 0 yX5_find (.code yX5_find cX5_find 6 (some (.int))) [.ref 2, .int need] (mkH (uB X 0 b)) (.inl (some (.int (r_X5_find b need)))) (mkH (uB X 0 b)) := by
  refine Ct.of (LL := [some (.ref 2), some (.int need), none, none, none, none]) mkX5_find.1 owX5_find rfl (Nat.le_of_ble_eq_true rfl) rfl (fun Wk C => ?_)
  have K := C.core
  refine K.iconst (q := 1) (v := (-1)) dX5_find_0 rfl (by decide) ?_
  refine K.istore_n (q := 2) (i := 2) dX5_find_1 rfl rfl (by decide) rfl ?_
  refine K.iconst (q := 3) (v := 0) dX5_find_2 rfl (by decide) ?_
  refine K.istore_n (q := 4) (i := 3) dX5_find_3 rfl rfl (by decide) rfl ?_
  refine K.iconst (q := 5) (v := 0) dX5_find_4 rfl (by decide) ?_
  refine K.istore (q := 7) dX5_find_5 rfl (by decide) rfl ?_
  have L7 : ∀ (j i : Nat) (a2 : Int32) (a3 : Int32), i + j = 64 → (Wk 0 0 60 [some (.ref 2), some (.int need), some (.int ((lp_X5_find_7 b need j i a2 a3).1)), some (.int ((lp_X5_find_7 b need j i a2 a3).2)), none, none] [] (mkH (uB X 0 b))) → Wk 0 0 7 [some (.ref 2), some (.int need), some (.int a2), some (.int a3), some (.int (nI i)), none] [] (mkH (uB X 0 b)) := by
    intro j
    induction j with
    | zero =>
      intro i a2 a3 hij hx
      refine K.iload (q := 9) dX5_find_7 rfl rfl ?_
      refine K.bipush (q := 11) (v := 64) dX5_find_9 rfl (by decide) ?_
      refine K.icmp_ge (q := 14) (tgt := 60) dX5_find_11 rfl (by decide) (fun _ => ?_) (fun z => absurd z (not_not_intro (nI_le (a := 64) (b := i) (by omega) (by omega))))
      refine K.drop 4 ?_
      exact hx
    | succ j ih =>
      intro i a2 a3 hij hx
      refine K.iload (q := 9) dX5_find_7 rfl rfl ?_
      refine K.bipush (q := 11) (v := 64) dX5_find_9 rfl (by decide) ?_
      refine K.icmp_ge (q := 14) (tgt := 60) dX5_find_11 rfl (by decide) (fun z => absurd z (nI_ge (a := i) (b := 64) (by omega) (by omega))) (fun _ => ?_)
      refine K.aload_n (q := 15) dX5_find_14 rfl rfl ?_
      refine K.getf (q := 18) (v := .ref 3) fo_X5_9.r rb2 (lt141 (by decide)) rfl dX5_find_15 rfl ?_
      refine K.iload (q := 20) dX5_find_18 rfl rfl ?_
      refine K.ial (q := 21) (f := (b.2 0)) (m := i) rb3 (lt141 (by decide)) rfl (by omega) (by decide) dX5_find_20 rfl ?_
      refine K.istore (q := 23) dX5_find_21 rfl (by decide) rfl ?_
      refine K.iload (q := 25) dX5_find_23 rfl rfl ?_
      refine K.iload_n (q := 26) dX5_find_25 rfl rfl ?_
      refine K.icmp_lt (q := 29) (tgt := 54) dX5_find_26 rfl (by decide) (fun c_26_3 => ?_) (fun c_26_3 => ?_)
      · refine K.iinc (q := 57) (v := (nI (i + 1))) dX5_find_54 rfl rfl (nI_1 _) (by decide) rfl ?_
        refine K.goto (tgt := 7) dX5_find_57 (by decide) ?_
        refine K.drop 5 ?_
        rw [lp_X5_find_7, if_pos c_26_3] at hx
        exact ih (i + 1) a2 a3 (by omega) hx
      · refine K.iload (q := 31) dX5_find_29 rfl rfl ?_
        refine K.if_le (q := 34) (tgt := 54) dX5_find_31 rfl (by decide) (fun c_31_4 => ?_) (fun c_31_4 => ?_)
        · refine K.iinc (q := 57) (v := (nI (i + 1))) dX5_find_54 rfl rfl (nI_1 _) (by decide) rfl ?_
          refine K.goto (tgt := 7) dX5_find_57 (by decide) ?_
          refine K.drop 5 ?_
          rw [lp_X5_find_7, if_neg c_26_3, if_pos c_31_4] at hx
          exact ih (i + 1) a2 a3 (by omega) hx
        · refine K.iload_n (q := 35) dX5_find_34 rfl rfl ?_
          refine K.if_lt (q := 38) (tgt := 48) dX5_find_35 rfl (by decide) (fun c_35_5 => ?_) (fun c_35_5 => ?_)
          · refine K.iload (q := 50) dX5_find_48 rfl rfl ?_
            refine K.istore_n (q := 51) (i := 2) dX5_find_50 rfl rfl (by decide) rfl ?_
            refine K.iload (q := 53) dX5_find_51 rfl rfl ?_
            refine K.istore_n (q := 54) (i := 3) dX5_find_53 rfl rfl (by decide) rfl ?_
            refine K.iinc (q := 57) (v := (nI (i + 1))) dX5_find_54 rfl rfl (nI_1 _) (by decide) rfl ?_
            refine K.goto (tgt := 7) dX5_find_57 (by decide) ?_
            refine K.drop 5 ?_
            rw [lp_X5_find_7, if_neg c_26_3, if_neg c_31_4, if_pos c_35_5] at hx
            exact ih (i + 1) (nI i) ((b.2 0) i) (by omega) hx
          · refine K.aload_n (q := 39) dX5_find_38 rfl rfl ?_
            refine K.iload (q := 41) dX5_find_39 rfl rfl ?_
            refine K.iload_n (q := 42) dX5_find_41 rfl rfl ?_
            refine K.callV0 (q := 45) mkX5_isPreferred mw_X5_31 (s_X5_isPreferred _ _ _ _) rfl (by decide) rfl (lt141 (by decide)) rb2 (Nat.le_of_ble_eq_true rfl) (Nat.le_of_ble_eq_true rfl) (Nat.le_of_ble_eq_true rfl) dX5_find_42 rfl ?_
            refine K.if_eq (q := 48) (tgt := 54) dX5_find_45 rfl (by decide) (fun c_45_6 => ?_) (fun c_45_6 => ?_)
            · refine K.iinc (q := 57) (v := (nI (i + 1))) dX5_find_54 rfl rfl (nI_1 _) (by decide) rfl ?_
              refine K.goto (tgt := 7) dX5_find_57 (by decide) ?_
              refine K.drop 5 ?_
              rw [lp_X5_find_7, if_neg c_26_3, if_neg c_31_4, if_neg c_35_5, if_pos c_45_6] at hx
              exact ih (i + 1) a2 a3 (by omega) hx
            · refine K.iload (q := 50) dX5_find_48 rfl rfl ?_
              refine K.istore_n (q := 51) (i := 2) dX5_find_50 rfl rfl (by decide) rfl ?_
              refine K.iload (q := 53) dX5_find_51 rfl rfl ?_
              refine K.istore_n (q := 54) (i := 3) dX5_find_53 rfl rfl (by decide) rfl ?_
              refine K.iinc (q := 57) (v := (nI (i + 1))) dX5_find_54 rfl rfl (nI_1 _) (by decide) rfl ?_
              refine K.goto (tgt := 7) dX5_find_57 (by decide) ?_
              refine K.drop 5 ?_
              rw [lp_X5_find_7, if_neg c_26_3, if_neg c_31_4, if_neg c_35_5, if_neg c_45_6] at hx
              exact ih (i + 1) (nI i) ((b.2 0) i) (by omega) hx
  refine L7 64 0 (-1) 0 (by omega) ?_
  refine K.iload_n (q := 61) dX5_find_60 rfl rfl ?_
  exact C.iret rfl rfl (by rw [r_X5_find]) rfl (Nat.le_of_ble_eq_true rfl) (Nat.le_of_ble_eq_true rfl) dX5_find_61

def lp_X5_greatestSize_4 (b : BD) : Nat → Nat → Int32 → Int32
  | 0, _, a1 => a1
  | j + 1, i, a1 => (lp_X5_greatestSize_4 b j (i + 1) (if a1 < ((b.2 0) i) then ((b.2 0) i) else a1))

def r_X5_greatestSize (b : BD) : Int32 := (lp_X5_greatestSize_4 b 64 0 0)
set_option maxRecDepth 20000 in
theorem s_X5_greatestSize (X : GS) (b : BD) : Ct 2 0 0 yX5_greatestSize (.code yX5_greatestSize cX5_greatestSize 3 (some (.int))) [.ref 2] (mkH (uB X 0 b)) (.inl (some (.int (r_X5_greatestSize b)))) (mkH (uB X 0 b)) := by
  refine Ct.of (LL := [some (.ref 2), none, none]) mkX5_greatestSize.1 owX5_greatestSize rfl (Nat.le_of_ble_eq_true rfl) rfl (fun Wk C => ?_)
  have K := C.core
  refine K.iconst (q := 1) (v := 0) dX5_greatestSize_0 rfl (by decide) ?_
  refine K.istore_n (q := 2) (i := 1) dX5_greatestSize_1 rfl rfl (by decide) rfl ?_
  refine K.iconst (q := 3) (v := 0) dX5_greatestSize_2 rfl (by decide) ?_
  refine K.istore_n (q := 4) (i := 2) dX5_greatestSize_3 rfl rfl (by decide) rfl ?_
  have L4 : ∀ (j i : Nat) (a1 : Int32), i + j = 64 → (Wk 0 0 27 [some (.ref 2), some (.int (lp_X5_greatestSize_4 b j i a1)), none] [] (mkH (uB X 0 b))) → Wk 0 0 4 [some (.ref 2), some (.int a1), some (.int (nI i))] [] (mkH (uB X 0 b)) := by
    intro j
    induction j with
    | zero =>
      intro i a1 hij hx
      refine K.iload_n (q := 5) dX5_greatestSize_4 rfl rfl ?_
      refine K.bipush (q := 7) (v := 64) dX5_greatestSize_5 rfl (by decide) ?_
      refine K.icmp_ge (q := 10) (tgt := 27) dX5_greatestSize_7 rfl (by decide) (fun _ => ?_) (fun z => absurd z (not_not_intro (nI_le (a := 64) (b := i) (by omega) (by omega))))
      refine K.drop 2 ?_
      exact hx
    | succ j ih =>
      intro i a1 hij hx
      refine K.iload_n (q := 5) dX5_greatestSize_4 rfl rfl ?_
      refine K.bipush (q := 7) (v := 64) dX5_greatestSize_5 rfl (by decide) ?_
      refine K.icmp_ge (q := 10) (tgt := 27) dX5_greatestSize_7 rfl (by decide) (fun z => absurd z (nI_ge (a := i) (b := 64) (by omega) (by omega))) (fun _ => ?_)
      refine K.iload_n (q := 11) dX5_greatestSize_10 rfl rfl ?_
      refine K.aload_n (q := 12) dX5_greatestSize_11 rfl rfl ?_
      refine K.getf (q := 15) (v := .ref 3) fo_X5_9.r rb2 (lt141 (by decide)) rfl dX5_greatestSize_12 rfl ?_
      refine K.iload_n (q := 16) dX5_greatestSize_15 rfl rfl ?_
      refine K.ial (q := 17) (f := (b.2 0)) (m := i) rb3 (lt141 (by decide)) rfl (by omega) (by decide) dX5_greatestSize_16 rfl ?_
      refine K.mmax (q := 20) mw_X5_64 (by decide) (Nat.le_of_ble_eq_true rfl) dX5_greatestSize_17 rfl (Nat.le_of_ble_eq_true rfl) (Nat.le_of_ble_eq_true rfl) ?_
      refine K.istore_n (q := 21) (i := 1) dX5_greatestSize_20 rfl rfl (by decide) rfl ?_
      refine K.iinc (q := 24) (v := (nI (i + 1))) dX5_greatestSize_21 rfl rfl (nI_1 _) (by decide) rfl ?_
      refine K.goto (tgt := 4) dX5_greatestSize_24 (by decide) ?_
      rw [lp_X5_greatestSize_4] at hx
      exact ih (i + 1) (if a1 < ((b.2 0) i) then ((b.2 0) i) else a1) (by omega) hx
  refine L4 64 0 0 (by omega) ?_
  refine K.iload_n (q := 28) dX5_greatestSize_27 rfl rfl ?_
  exact C.iret rfl rfl (by rw [r_X5_greatestSize]) rfl (Nat.le_of_ble_eq_true rfl) (Nat.le_of_ble_eq_true rfl) dX5_greatestSize_28

def lp_X5_countOfSize_4 (b : BD) (size : Int32) : Nat → Nat → Int32 → Int32
  | 0, _, a2 => a2
  | j + 1, i, a2 => (if ((b.2 0) i) = size then (lp_X5_countOfSize_4 b size j (i + 1) (a2 + 1)) else (lp_X5_countOfSize_4 b size j (i + 1) a2))

def r_X5_countOfSize (b : BD) (size : Int32) : Int32 := (lp_X5_countOfSize_4 b size 64 0 0)
set_option maxRecDepth 20000 in
theorem s_X5_countOfSize (X : GS) (b : BD) (size : Int32) : Ct 1 0 0 yX5_countOfSize (.code yX5_countOfSize cX5_countOfSize 4 (some (.int))) [.ref 2, .int size] (mkH (uB X 0 b)) (.inl (some (.int (r_X5_countOfSize b size)))) (mkH (uB X 0 b)) := by
  refine Ct.of (LL := [some (.ref 2), some (.int size), none, none]) mkX5_countOfSize.1 owX5_countOfSize rfl (Nat.le_of_ble_eq_true rfl) rfl (fun Wk C => ?_)
  have K := C.core
  refine K.iconst (q := 1) (v := 0) dX5_countOfSize_0 rfl (by decide) ?_
  refine K.istore_n (q := 2) (i := 2) dX5_countOfSize_1 rfl rfl (by decide) rfl ?_
  refine K.iconst (q := 3) (v := 0) dX5_countOfSize_2 rfl (by decide) ?_
  refine K.istore_n (q := 4) (i := 3) dX5_countOfSize_3 rfl rfl (by decide) rfl ?_
  have L4 : ∀ (j i : Nat) (a2 : Int32), i + j = 64 → (Wk 0 0 29 [some (.ref 2), some (.int size), some (.int (lp_X5_countOfSize_4 b size j i a2)), none] [] (mkH (uB X 0 b))) → Wk 0 0 4 [some (.ref 2), some (.int size), some (.int a2), some (.int (nI i))] [] (mkH (uB X 0 b)) := by
    intro j
    induction j with
    | zero =>
      intro i a2 hij hx
      refine K.iload_n (q := 5) dX5_countOfSize_4 rfl rfl ?_
      refine K.bipush (q := 7) (v := 64) dX5_countOfSize_5 rfl (by decide) ?_
      refine K.icmp_ge (q := 10) (tgt := 29) dX5_countOfSize_7 rfl (by decide) (fun _ => ?_) (fun z => absurd z (not_not_intro (nI_le (a := 64) (b := i) (by omega) (by omega))))
      refine K.drop 3 ?_
      exact hx
    | succ j ih =>
      intro i a2 hij hx
      refine K.iload_n (q := 5) dX5_countOfSize_4 rfl rfl ?_
      refine K.bipush (q := 7) (v := 64) dX5_countOfSize_5 rfl (by decide) ?_
      refine K.icmp_ge (q := 10) (tgt := 29) dX5_countOfSize_7 rfl (by decide) (fun z => absurd z (nI_ge (a := i) (b := 64) (by omega) (by omega))) (fun _ => ?_)
      refine K.aload_n (q := 11) dX5_countOfSize_10 rfl rfl ?_
      refine K.getf (q := 14) (v := .ref 3) fo_X5_9.r rb2 (lt141 (by decide)) rfl dX5_countOfSize_11 rfl ?_
      refine K.iload_n (q := 15) dX5_countOfSize_14 rfl rfl ?_
      refine K.ial (q := 16) (f := (b.2 0)) (m := i) rb3 (lt141 (by decide)) rfl (by omega) (by decide) dX5_countOfSize_15 rfl ?_
      refine K.iload_n (q := 17) dX5_countOfSize_16 rfl rfl ?_
      refine K.icmp_ne (q := 20) (tgt := 23) dX5_countOfSize_17 rfl (by decide) (fun c_17_3 => ?_) (fun c_17_3 => ?_)
      · refine K.iinc (q := 26) (v := (nI (i + 1))) dX5_countOfSize_23 rfl rfl (nI_1 _) (by decide) rfl ?_
        refine K.goto (tgt := 4) dX5_countOfSize_26 (by decide) ?_
        rw [lp_X5_countOfSize_4, if_neg c_17_3] at hx
        exact ih (i + 1) a2 (by omega) hx
      · refine K.iinc (q := 23) (v := (a2 + 1)) dX5_countOfSize_20 rfl rfl rfl (by decide) rfl ?_
        refine K.iinc (q := 26) (v := (nI (i + 1))) dX5_countOfSize_23 rfl rfl (nI_1 _) (by decide) rfl ?_
        refine K.goto (tgt := 4) dX5_countOfSize_26 (by decide) ?_
        rw [lp_X5_countOfSize_4, if_pos c_17_3] at hx
        exact ih (i + 1) (a2 + 1) (by omega) hx
  refine L4 64 0 0 (by omega) ?_
  refine K.iload_n (q := 30) dX5_countOfSize_29 rfl rfl ?_
  exact C.iret rfl rfl (by rw [r_X5_countOfSize]) rfl (Nat.le_of_ble_eq_true rfl) (Nat.le_of_ble_eq_true rfl) dX5_countOfSize_30

def r_X5_countAll (b : BD) : Int32 := (64 - (r_X5_countOfSize b 0))
set_option maxRecDepth 20000 in
theorem s_X5_countAll (X : GS) (b : BD) : Ct 2 0 0 yX5_countAll (.code yX5_countAll cX5_countAll 1 (some (.int))) [.ref 2] (mkH (uB X 0 b)) (.inl (some (.int (r_X5_countAll b)))) (mkH (uB X 0 b)) := by
  refine Ct.of (LL := [some (.ref 2)]) mkX5_countAll.1 owX5_countAll rfl (Nat.le_of_ble_eq_true rfl) rfl (fun Wk C => ?_)
  have K := C.core
  refine K.bipush (q := 2) (v := 64) dX5_countAll_0 rfl (by decide) ?_
  refine K.aload_n (q := 3) dX5_countAll_2 rfl rfl ?_
  refine K.iconst (q := 4) (v := 0) dX5_countAll_3 rfl (by decide) ?_
  refine K.callV0 (q := 7) mkX5_countOfSize mw_X5_69 (s_X5_countOfSize _ _ _) rfl (by decide) rfl (lt141 (by decide)) rb2 (Nat.le_of_ble_eq_true rfl) (Nat.le_of_ble_eq_true rfl) (Nat.le_of_ble_eq_true rfl) dX5_countAll_4 rfl ?_
  refine K.isub (q := 8) dX5_countAll_7 rfl ?_
  exact C.iret rfl rfl (by rw [r_X5_countAll]) rfl (Nat.le_of_ble_eq_true rfl) (Nat.le_of_ble_eq_true rfl) dX5_countAll_8

def lp_X5_countRoomFor_4 (b : BD) (need : Int32) : Nat → Nat → Int32 → Int32
  | 0, _, a2 => a2
  | j + 1, i, a2 => (if need < 1 then a2 else (lp_X5_countRoomFor_4 b need j (i + 1) (a2 + (((b.2 0) i) / need))))

def r_X5_countRoomFor (b : BD) (need : Int32) : Int32 := (lp_X5_countRoomFor_4 b need 64 0 0)
set_option maxRecDepth 20000 in
theorem s_X5_countRoomFor (X : GS) (b : BD) (need : Int32) : Ct 1 0 0 yX5_countRoomFor (.code yX5_countRoomFor cX5_countRoomFor 4 (some (.int))) [.ref 2, .int need] (mkH (uB X 0 b)) (.inl (some (.int (r_X5_countRoomFor b need)))) (mkH (uB X 0 b)) := by
  refine Ct.of (LL := [some (.ref 2), some (.int need), none, none]) mkX5_countRoomFor.1 owX5_countRoomFor rfl (Nat.le_of_ble_eq_true rfl) rfl (fun Wk C => ?_)
  have K := C.core
  refine K.iconst (q := 1) (v := 0) dX5_countRoomFor_0 rfl (by decide) ?_
  refine K.istore_n (q := 2) (i := 2) dX5_countRoomFor_1 rfl rfl (by decide) rfl ?_
  refine K.iconst (q := 3) (v := 0) dX5_countRoomFor_2 rfl (by decide) ?_
  refine K.istore_n (q := 4) (i := 3) dX5_countRoomFor_3 rfl rfl (by decide) rfl ?_
  have L4 : ∀ (j i : Nat) (a2 : Int32), i + j = 64 → (Wk 0 0 32 [some (.ref 2), some (.int need), some (.int (lp_X5_countRoomFor_4 b need j i a2)), none] [] (mkH (uB X 0 b))) → Wk 0 0 4 [some (.ref 2), some (.int need), some (.int a2), some (.int (nI i))] [] (mkH (uB X 0 b)) := by
    intro j
    induction j with
    | zero =>
      intro i a2 hij hx
      refine K.iload_n (q := 5) dX5_countRoomFor_4 rfl rfl ?_
      refine K.iconst (q := 6) (v := 1) dX5_countRoomFor_5 rfl (by decide) ?_
      refine K.icmp_lt (q := 9) (tgt := 32) dX5_countRoomFor_6 rfl (by decide) (fun c_6_1 => ?_) (fun c_6_1 => ?_)
      · refine K.drop 3 ?_
        exact hx
      · refine K.iload_n (q := 10) dX5_countRoomFor_9 rfl rfl ?_
        refine K.bipush (q := 12) (v := 64) dX5_countRoomFor_10 rfl (by decide) ?_
        refine K.icmp_ge (q := 15) (tgt := 32) dX5_countRoomFor_12 rfl (by decide) (fun _ => ?_) (fun z => absurd z (not_not_intro (nI_le (a := 64) (b := i) (by omega) (by omega))))
        refine K.drop 3 ?_
        exact hx
    | succ j ih =>
      intro i a2 hij hx
      refine K.iload_n (q := 5) dX5_countRoomFor_4 rfl rfl ?_
      refine K.iconst (q := 6) (v := 1) dX5_countRoomFor_5 rfl (by decide) ?_
      refine K.icmp_lt (q := 9) (tgt := 32) dX5_countRoomFor_6 rfl (by decide) (fun c_6_3 => ?_) (fun c_6_3 => ?_)
      · refine K.drop 3 ?_
        rw [lp_X5_countRoomFor_4, if_pos c_6_3] at hx
        exact hx
      · refine K.iload_n (q := 10) dX5_countRoomFor_9 rfl rfl ?_
        refine K.bipush (q := 12) (v := 64) dX5_countRoomFor_10 rfl (by decide) ?_
        refine K.icmp_ge (q := 15) (tgt := 32) dX5_countRoomFor_12 rfl (by decide) (fun z => absurd z (nI_ge (a := i) (b := 64) (by omega) (by omega))) (fun _ => ?_)
        refine K.iload_n (q := 16) dX5_countRoomFor_15 rfl rfl ?_
        refine K.aload_n (q := 17) dX5_countRoomFor_16 rfl rfl ?_
        refine K.getf (q := 20) (v := .ref 3) fo_X5_9.r rb2 (lt141 (by decide)) rfl dX5_countRoomFor_17 rfl ?_
        refine K.iload_n (q := 21) dX5_countRoomFor_20 rfl rfl ?_
        refine K.ial (q := 22) (f := (b.2 0)) (m := i) rb3 (lt141 (by decide)) rfl (by omega) (by decide) dX5_countRoomFor_21 rfl ?_
        refine K.iload_n (q := 23) dX5_countRoomFor_22 rfl rfl ?_
        refine K.idiv (q := 24) dX5_countRoomFor_23 rfl (ne0_of c_6_3) ?_
        refine K.iadd (q := 25) dX5_countRoomFor_24 rfl ?_
        refine K.istore_n (q := 26) (i := 2) dX5_countRoomFor_25 rfl rfl (by decide) rfl ?_
        refine K.iinc (q := 29) (v := (nI (i + 1))) dX5_countRoomFor_26 rfl rfl (nI_1 _) (by decide) rfl ?_
        refine K.goto (tgt := 4) dX5_countRoomFor_29 (by decide) ?_
        rw [lp_X5_countRoomFor_4, if_neg c_6_3] at hx
        exact ih (i + 1) (a2 + (((b.2 0) i) / need)) (by omega) hx
  refine L4 64 0 0 (by omega) ?_
  refine K.iload_n (q := 33) dX5_countRoomFor_32 rfl rfl ?_
  exact C.iret rfl rfl (by rw [r_X5_countRoomFor]) rfl (Nat.le_of_ble_eq_true rfl) (Nat.le_of_ble_eq_true rfl) dX5_countRoomFor_33

def lp_X5_startOfPlace_4 (b : BD) (place : Int32) : Nat → Nat → Int32 → Option Int32 × Int32
  | 0, _, a2 => (none, a2)
  | j + 1, i, a2 => (if ((b.2 0) i) ≤ 0 then (lp_X5_startOfPlace_4 b place j (i + 1) a2) else (if (a2 + 1) = place then (some (nI i), a2) else (lp_X5_startOfPlace_4 b place j (i + 1) (a2 + 1))))

def r_X5_startOfPlace (b : BD) (place : Int32) : Int32 := (if (lp_X5_startOfPlace_4 b place 64 0 (-1)).1 = none then (-1) else ((lp_X5_startOfPlace_4 b place 64 0 (-1)).1.getD 0))
def lp_X5_startOf_2 (b : BD) (unit : Int32) : Nat → Nat → Option Int32
  | 0, _ => none
  | j + 1, i => (if (r_X5_isWithin unit (nI i) ((b.2 0) i)) = 0 then (lp_X5_startOf_2 b unit j (i + 1) ) else some (nI i))

def r_X5_startOf (b : BD) (unit : Int32) : Int32 := (if (lp_X5_startOf_2 b unit 64 0) = none then (-1) else ((lp_X5_startOf_2 b unit 64 0).getD 0))
set_option maxRecDepth 20000 in
theorem s_X5_startOf (X : GS) (b : BD) (unit : Int32) : Ct 2 0 0 yX5_startOf (.code yX5_startOf cX5_startOf 3 (some (.int))) [.ref 2, .int unit] (mkH (uB X 0 b)) (.inl (some (.int (r_X5_startOf b unit)))) (mkH (uB X 0 b)) := by
  refine Ct.of (LL := [some (.ref 2), some (.int unit), none]) mkX5_startOf.1 owX5_startOf rfl (Nat.le_of_ble_eq_true rfl) rfl (fun Wk C => ?_)
  have K := C.core
  refine K.iconst (q := 1) (v := 0) dX5_startOf_0 rfl (by decide) ?_
  refine K.istore_n (q := 2) (i := 2) dX5_startOf_1 rfl rfl (by decide) rfl ?_
  have L2 : ∀ (j i : Nat), i + j = 64 → (((lp_X5_startOf_2 b unit j i)) = none → Wk 0 0 30 [some (.ref 2), some (.int unit), none] [] (mkH (uB X 0 b))) → (∀ v : Int32, (lp_X5_startOf_2 b unit j i) = some v → r_X5_startOf b unit = v) → Wk 0 0 2 [some (.ref 2), some (.int unit), some (.int (nI i))] [] (mkH (uB X 0 b)) := by
    intro j
    induction j with
    | zero =>
      intro i  hij hx hr
      refine K.iload_n (q := 3) dX5_startOf_2 rfl rfl ?_
      refine K.bipush (q := 5) (v := 64) dX5_startOf_3 rfl (by decide) ?_
      refine K.icmp_ge (q := 8) (tgt := 30) dX5_startOf_5 rfl (by decide) (fun _ => ?_) (fun z => absurd z (not_not_intro (nI_le (a := 64) (b := i) (by omega) (by omega))))
      refine K.drop 2 ?_
      exact hx rfl
    | succ j ih =>
      intro i  hij hx hr
      refine K.iload_n (q := 3) dX5_startOf_2 rfl rfl ?_
      refine K.bipush (q := 5) (v := 64) dX5_startOf_3 rfl (by decide) ?_
      refine K.icmp_ge (q := 8) (tgt := 30) dX5_startOf_5 rfl (by decide) (fun z => absurd z (nI_ge (a := i) (b := 64) (by omega) (by omega))) (fun _ => ?_)
      refine K.iload_n (q := 9) dX5_startOf_8 rfl rfl ?_
      refine K.iload_n (q := 10) dX5_startOf_9 rfl rfl ?_
      refine K.aload_n (q := 11) dX5_startOf_10 rfl rfl ?_
      refine K.getf (q := 14) (v := .ref 3) fo_X5_9.r rb2 (lt141 (by decide)) rfl dX5_startOf_11 rfl ?_
      refine K.iload_n (q := 15) dX5_startOf_14 rfl rfl ?_
      refine K.ial (q := 16) (f := (b.2 0)) (m := i) rb3 (lt141 (by decide)) rfl (by omega) (by decide) dX5_startOf_15 rfl ?_
      refine K.callS0 (q := 19) mkX5_isWithin mw_X5_72 (s_X5_isWithin _ _ _ _) rfl (by decide) rfl (Nat.le_of_ble_eq_true rfl) (Nat.le_of_ble_eq_true rfl) (Nat.le_of_ble_eq_true rfl) dX5_startOf_16 rfl ?_
      refine K.if_eq (q := 22) (tgt := 24) dX5_startOf_19 rfl (by decide) (fun c_19_3 => ?_) (fun c_19_3 => ?_)
      · refine K.iinc (q := 27) (v := (nI (i + 1))) dX5_startOf_24 rfl rfl (nI_1 _) (by decide) rfl ?_
        refine K.goto (tgt := 2) dX5_startOf_27 (by decide) ?_
        rw [lp_X5_startOf_2, if_pos c_19_3] at hx hr
        exact ih (i + 1)  (by omega) hx hr
      · refine K.iload_n (q := 23) dX5_startOf_22 rfl rfl ?_
        exact C.iret rfl rfl (by rw [hr _ (by rw [lp_X5_startOf_2, if_neg c_19_3])]) rfl (Nat.le_of_ble_eq_true rfl) (Nat.le_of_ble_eq_true rfl) dX5_startOf_23
  refine L2 64 0  (by omega) (fun e_2_4 => ?_) (fun v hv => ?_)
  · refine K.iconst (q := 31) (v := (-1)) dX5_startOf_30 rfl (by decide) ?_
    exact C.iret rfl rfl (by rw [r_X5_startOf, if_pos e_2_4]) rfl (Nat.le_of_ble_eq_true rfl) (Nat.le_of_ble_eq_true rfl) dX5_startOf_31
  · rw [r_X5_startOf, if_neg (fun h0 => by rw [hv] at h0; cases h0), hv]; rfl

def lp_X5_countWith_4 (b : BD) (unit : Int32) : Nat → Nat → Int32 → Int32
  | 0, _, a2 => a2
  | j + 1, i, a2 => (if (r_X5_isWithin unit (nI i) ((b.2 0) i)) = 0 then (lp_X5_countWith_4 b unit j (i + 1) a2) else (lp_X5_countWith_4 b unit j (i + 1) (a2 + 1)))

def r_X5_countWith (b : BD) (unit : Int32) : Int32 := (lp_X5_countWith_4 b unit 64 0 0)
set_option maxRecDepth 20000 in
theorem s_X5_countWith (X : GS) (b : BD) (unit : Int32) : Ct 2 0 0 yX5_countWith (.code yX5_countWith cX5_countWith 4 (some (.int))) [.ref 2, .int unit] (mkH (uB X 0 b)) (.inl (some (.int (r_X5_countWith b unit)))) (mkH (uB X 0 b)) := by
  refine Ct.of (LL := [some (.ref 2), some (.int unit), none, none]) mkX5_countWith.1 owX5_countWith rfl (Nat.le_of_ble_eq_true rfl) rfl (fun Wk C => ?_)
  have K := C.core
  refine K.iconst (q := 1) (v := 0) dX5_countWith_0 rfl (by decide) ?_
  refine K.istore_n (q := 2) (i := 2) dX5_countWith_1 rfl rfl (by decide) rfl ?_
  refine K.iconst (q := 3) (v := 0) dX5_countWith_2 rfl (by decide) ?_
  refine K.istore_n (q := 4) (i := 3) dX5_countWith_3 rfl rfl (by decide) rfl ?_
  have L4 : ∀ (j i : Nat) (a2 : Int32), i + j = 64 → (Wk 0 0 33 [some (.ref 2), some (.int unit), some (.int (lp_X5_countWith_4 b unit j i a2)), none] [] (mkH (uB X 0 b))) → Wk 0 0 4 [some (.ref 2), some (.int unit), some (.int a2), some (.int (nI i))] [] (mkH (uB X 0 b)) := by
    intro j
    induction j with
    | zero =>
      intro i a2 hij hx
      refine K.iload_n (q := 5) dX5_countWith_4 rfl rfl ?_
      refine K.bipush (q := 7) (v := 64) dX5_countWith_5 rfl (by decide) ?_
      refine K.icmp_ge (q := 10) (tgt := 33) dX5_countWith_7 rfl (by decide) (fun _ => ?_) (fun z => absurd z (not_not_intro (nI_le (a := 64) (b := i) (by omega) (by omega))))
      refine K.drop 3 ?_
      exact hx
    | succ j ih =>
      intro i a2 hij hx
      refine K.iload_n (q := 5) dX5_countWith_4 rfl rfl ?_
      refine K.bipush (q := 7) (v := 64) dX5_countWith_5 rfl (by decide) ?_
      refine K.icmp_ge (q := 10) (tgt := 33) dX5_countWith_7 rfl (by decide) (fun z => absurd z (nI_ge (a := i) (b := 64) (by omega) (by omega))) (fun _ => ?_)
      refine K.iload_n (q := 11) dX5_countWith_10 rfl rfl ?_
      refine K.iload_n (q := 12) dX5_countWith_11 rfl rfl ?_
      refine K.aload_n (q := 13) dX5_countWith_12 rfl rfl ?_
      refine K.getf (q := 16) (v := .ref 3) fo_X5_9.r rb2 (lt141 (by decide)) rfl dX5_countWith_13 rfl ?_
      refine K.iload_n (q := 17) dX5_countWith_16 rfl rfl ?_
      refine K.ial (q := 18) (f := (b.2 0)) (m := i) rb3 (lt141 (by decide)) rfl (by omega) (by decide) dX5_countWith_17 rfl ?_
      refine K.callS0 (q := 21) mkX5_isWithin mw_X5_72 (s_X5_isWithin _ _ _ _) rfl (by decide) rfl (Nat.le_of_ble_eq_true rfl) (Nat.le_of_ble_eq_true rfl) (Nat.le_of_ble_eq_true rfl) dX5_countWith_18 rfl ?_
      refine K.if_eq (q := 24) (tgt := 27) dX5_countWith_21 rfl (by decide) (fun c_21_3 => ?_) (fun c_21_3 => ?_)
      · refine K.iinc (q := 30) (v := (nI (i + 1))) dX5_countWith_27 rfl rfl (nI_1 _) (by decide) rfl ?_
        refine K.goto (tgt := 4) dX5_countWith_30 (by decide) ?_
        rw [lp_X5_countWith_4, if_pos c_21_3] at hx
        exact ih (i + 1) a2 (by omega) hx
      · refine K.iinc (q := 27) (v := (a2 + 1)) dX5_countWith_24 rfl rfl rfl (by decide) rfl ?_
        refine K.iinc (q := 30) (v := (nI (i + 1))) dX5_countWith_27 rfl rfl (nI_1 _) (by decide) rfl ?_
        refine K.goto (tgt := 4) dX5_countWith_30 (by decide) ?_
        rw [lp_X5_countWith_4, if_neg c_21_3] at hx
        exact ih (i + 1) (a2 + 1) (by omega) hx
  refine L4 64 0 0 (by omega) ?_
  refine K.iload_n (q := 34) dX5_countWith_33 rfl rfl ?_
  exact C.iret rfl rfl (by rw [r_X5_countWith]) rfl (Nat.le_of_ble_eq_true rfl) (Nat.le_of_ble_eq_true rfl) dX5_countWith_34

def lp_X5_cutDown_8 (need : Int32) : Nat → Int32 → Int32 → BD → Option (Int32 × Int32 × BD)
  | 0, _, _, _ => none
  | j + 1, a4, a5, bb => (if a5 < need then (some (a4, a5, bb)) else (if a5 < 1 then (some (a4, a5, bb)) else (if (r_X5_isUpperTaken (bS bb 1 ((bb.1 1) + 1))) = 0 then (lp_X5_cutDown_8 need j a4 (a5 / 2) (u_X5_setSize (bS bb 1 ((bb.1 1) + 1)) (a4 + a5) a5)) else (lp_X5_cutDown_8 need j (a4 + a5) (a5 / 2) (u_X5_setSize (bS bb 1 ((bb.1 1) + 1)) a4 a5)))))

def r_X5_cutDown (b : BD) (start : Int32) (size : Int32) (need : Int32) : Int32 := (((lp_X5_cutDown_8 need 64 start (size / 2) b).getD ((0 : Int32), (0 : Int32), bd0)).1)

def u_X5_cutDown (b : BD) (start : Int32) (size : Int32) (need : Int32) : BD := (((lp_X5_cutDown_8 need 64 start (size / 2) b).getD ((0 : Int32), (0 : Int32), bd0)).2.2)
set_option maxRecDepth 20000 in
theorem s_X5_cutDown (X : GS) (b : BD) (start : Int32) (size : Int32) (need : Int32) (hf_8 : (lp_X5_cutDown_8 need 64 start (size / 2) b) ≠ none) : Ct 2 0 0 yX5_cutDown (.code yX5_cutDown cX5_cutDown 6 (some (.int))) [.ref 2, .int start, .int size, .int need] (mkH (uB X 0 b)) (.inl (some (.int (r_X5_cutDown b start size need)))) (mkH (uB X 0 (u_X5_cutDown b start size need))) := by
  refine Ct.of (LL := [some (.ref 2), some (.int start), some (.int size), some (.int need), none, none]) mkX5_cutDown.1 owX5_cutDown rfl (Nat.le_of_ble_eq_true rfl) rfl (fun Wk C => ?_)
  have K := C.core
  refine K.iload_n (q := 1) dX5_cutDown_0 rfl rfl ?_
  refine K.istore (q := 3) dX5_cutDown_1 rfl (by decide) rfl ?_
  refine K.iload_n (q := 4) dX5_cutDown_3 rfl rfl ?_
  refine K.iconst (q := 5) (v := 2) dX5_cutDown_4 rfl (by decide) ?_
  refine K.idiv (q := 6) dX5_cutDown_5 rfl (by decide) ?_
  refine K.istore (q := 8) dX5_cutDown_6 rfl (by decide) rfl ?_
  have L8 : ∀ (j : Nat) (a4 : Int32) (a5 : Int32) (bb : BD) (rr : Int32 × Int32 × BD), lp_X5_cutDown_8 need j a4 a5 bb = some rr → (Wk 0 0 75 [some (.ref 2), some (.int start), some (.int size), some (.int need), some (.int (rr.1)), some (.int (rr.2.1))] [] (mkH (uB X 0 (rr.2.2)))) → Wk 0 0 8 [some (.ref 2), some (.int start), some (.int size), some (.int need), some (.int a4), some (.int a5)] [] (mkH (uB X 0 bb)) := by
    intro j
    induction j with
    | zero =>
      intro a4 a5 bb rr hrr hx
      exact absurd hrr (by rw [lp_X5_cutDown_8]; exact fun h => nomatch h)
    | succ j ih =>
      intro a4 a5 bb rr hrr hx
      refine K.iload (q := 10) dX5_cutDown_8 rfl rfl ?_
      refine K.iload_n (q := 11) dX5_cutDown_10 rfl rfl ?_
      refine K.icmp_lt (q := 14) (tgt := 75) dX5_cutDown_11 rfl (by decide) (fun c_11_1 => ?_) (fun c_11_1 => ?_)
      · rw [lp_X5_cutDown_8, if_pos c_11_1] at hrr
        obtain rfl := Option.some.inj hrr
        exact hx
      · refine K.iload (q := 16) dX5_cutDown_14 rfl rfl ?_
        refine K.iconst (q := 17) (v := 1) dX5_cutDown_16 rfl (by decide) ?_
        refine K.icmp_lt (q := 20) (tgt := 75) dX5_cutDown_17 rfl (by decide) (fun c_17_2 => ?_) (fun c_17_2 => ?_)
        · rw [lp_X5_cutDown_8, if_neg c_11_1, if_pos c_17_2] at hrr
          obtain rfl := Option.some.inj hrr
          exact hx
        · refine K.aload_n (q := 21) dX5_cutDown_20 rfl rfl ?_
          refine K.dup (q := 22) dX5_cutDown_21 rfl rfl ?_
          refine K.getf (q := 25) (v := .int (bb.1 1)) fo_X5_19.r rb2 (lt141 (by decide)) rfl dX5_cutDown_22 rfl ?_
          refine K.iconst (q := 26) (v := 1) dX5_cutDown_25 rfl (by decide) ?_
          refine K.iadd (q := 27) dX5_cutDown_26 rfl ?_
          refine K.putf (q := 30) fo_X5_19 rb2 (lt141 (by decide)) (Nat.le_of_ble_eq_true rfl) (fun _ => rfl) (fun _ => rfl) pbs1 dX5_cutDown_27 rfl ?_
          refine K.aload_n (q := 31) dX5_cutDown_30 rfl rfl ?_
          refine K.callV0 (q := 34) mkX5_isUpperTaken mw_X5_50 (s_X5_isUpperTaken _ _) rfl (by decide) rfl (lt141 (by decide)) rb2 (Nat.le_of_ble_eq_true rfl) (Nat.le_of_ble_eq_true rfl) (Nat.le_of_ble_eq_true rfl) dX5_cutDown_31 rfl ?_
          refine K.if_eq (q := 37) (tgt := 55) dX5_cutDown_34 rfl (by decide) (fun c_34_3 => ?_) (fun c_34_3 => ?_)
          · refine K.aload_n (q := 56) dX5_cutDown_55 rfl rfl ?_
            refine K.iload (q := 58) dX5_cutDown_56 rfl rfl ?_
            refine K.iload (q := 60) dX5_cutDown_58 rfl rfl ?_
            refine K.iadd (q := 61) dX5_cutDown_60 rfl ?_
            refine K.iload (q := 63) dX5_cutDown_61 rfl rfl ?_
            refine K.callVv0 (q := 66) mkX5_setSize mw_X5_42 (s_X5_setSize _ _ _ _) rfl (by decide) rfl (lt141 (by decide)) rb2 (Nat.le_of_ble_eq_true rfl) (Nat.le_of_ble_eq_true rfl) (Nat.le_of_ble_eq_true rfl) dX5_cutDown_63 rfl ?_
            refine K.iload (q := 68) dX5_cutDown_66 rfl rfl ?_
            refine K.iconst (q := 69) (v := 2) dX5_cutDown_68 rfl (by decide) ?_
            refine K.idiv (q := 70) dX5_cutDown_69 rfl (by decide) ?_
            refine K.istore (q := 72) dX5_cutDown_70 rfl (by decide) rfl ?_
            refine K.goto (tgt := 8) dX5_cutDown_72 (by decide) ?_
            rw [lp_X5_cutDown_8, if_neg c_11_1, if_neg c_17_2, if_pos c_34_3] at hrr
            exact ih a4 (a5 / 2) (u_X5_setSize (bS bb 1 ((bb.1 1) + 1)) (a4 + a5) a5) rr hrr hx
          · refine K.aload_n (q := 38) dX5_cutDown_37 rfl rfl ?_
            refine K.iload (q := 40) dX5_cutDown_38 rfl rfl ?_
            refine K.iload (q := 42) dX5_cutDown_40 rfl rfl ?_
            refine K.callVv0 (q := 45) mkX5_setSize mw_X5_42 (s_X5_setSize _ _ _ _) rfl (by decide) rfl (lt141 (by decide)) rb2 (Nat.le_of_ble_eq_true rfl) (Nat.le_of_ble_eq_true rfl) (Nat.le_of_ble_eq_true rfl) dX5_cutDown_42 rfl ?_
            refine K.iload (q := 47) dX5_cutDown_45 rfl rfl ?_
            refine K.iload (q := 49) dX5_cutDown_47 rfl rfl ?_
            refine K.iadd (q := 50) dX5_cutDown_49 rfl ?_
            refine K.istore (q := 52) dX5_cutDown_50 rfl (by decide) rfl ?_
            refine K.goto (tgt := 66) dX5_cutDown_52 (by decide) ?_
            refine K.iload (q := 68) dX5_cutDown_66 rfl rfl ?_
            refine K.iconst (q := 69) (v := 2) dX5_cutDown_68 rfl (by decide) ?_
            refine K.idiv (q := 70) dX5_cutDown_69 rfl (by decide) ?_
            refine K.istore (q := 72) dX5_cutDown_70 rfl (by decide) rfl ?_
            refine K.goto (tgt := 8) dX5_cutDown_72 (by decide) ?_
            rw [lp_X5_cutDown_8, if_neg c_11_1, if_neg c_17_2, if_neg c_34_3] at hrr
            exact ih (a4 + a5) (a5 / 2) (u_X5_setSize (bS bb 1 ((bb.1 1) + 1)) a4 a5) rr hrr hx
  refine L8 _ start (size / 2) b _ (fu_some (d := ((0 : Int32), (0 : Int32), bd0)) hf_8) ?_
  refine K.iload (q := 77) dX5_cutDown_75 rfl rfl ?_
  exact C.iret rfl rfl (by rw [r_X5_cutDown]) (by rw [u_X5_cutDown]) (Nat.le_of_ble_eq_true rfl) (Nat.le_of_ble_eq_true rfl) dX5_cutDown_77

def lp_X5_joinedSize_2 (b : BD) (start : Int32) : Nat → Int32 → Option (Int32)
  | 0, _ => none
  | j + 1, a3 => (if a3 < 1 then (some a3) else (if 64 ≤ a3 then (some a3) else (if (r_X5_sizeAt b (r_X7_twinOf start a3)) = a3 then (lp_X5_joinedSize_2 b start j (a3 * 2)) else (some a3))))

def r_X5_joinedSize (b : BD) (start : Int32) (size : Int32) : Int32 := ((lp_X5_joinedSize_2 b start 64 size).getD (0 : Int32))
set_option maxRecDepth 20000 in
theorem s_X5_joinedSize (X : GS) (b : BD) (start : Int32) (size : Int32) (hf_2 : (lp_X5_joinedSize_2 b start 64 size) ≠ none) : Ct 3 0 0 yX5_joinedSize (.code yX5_joinedSize cX5_joinedSize 4 (some (.int))) [.ref 2, .int start, .int size] (mkH (uB X 0 b)) (.inl (some (.int (r_X5_joinedSize b start size)))) (mkH (uB X 0 b)) := by
  refine Ct.of (LL := [some (.ref 2), some (.int start), some (.int size), none]) mkX5_joinedSize.1 owX5_joinedSize rfl (Nat.le_of_ble_eq_true rfl) rfl (fun Wk C => ?_)
  have K := C.core
  refine K.iload_n (q := 1) dX5_joinedSize_0 rfl rfl ?_
  refine K.istore_n (q := 2) (i := 3) dX5_joinedSize_1 rfl rfl (by decide) rfl ?_
  have L2 : ∀ (j : Nat) (a3 : Int32) (rr : Int32), lp_X5_joinedSize_2 b start j a3 = some rr → (Wk 0 0 33 [some (.ref 2), some (.int start), some (.int size), some (.int rr)] [] (mkH (uB X 0 b))) → Wk 0 0 2 [some (.ref 2), some (.int start), some (.int size), some (.int a3)] [] (mkH (uB X 0 b)) := by
    intro j
    induction j with
    | zero =>
      intro a3 rr hrr hx
      exact absurd hrr (by rw [lp_X5_joinedSize_2]; exact fun h => nomatch h)
    | succ j ih =>
      intro a3 rr hrr hx
      refine K.iload_n (q := 3) dX5_joinedSize_2 rfl rfl ?_
      refine K.iconst (q := 4) (v := 1) dX5_joinedSize_3 rfl (by decide) ?_
      refine K.icmp_lt (q := 7) (tgt := 33) dX5_joinedSize_4 rfl (by decide) (fun c_4_1 => ?_) (fun c_4_1 => ?_)
      · rw [lp_X5_joinedSize_2, if_pos c_4_1] at hrr
        obtain rfl := Option.some.inj hrr
        exact hx
      · refine K.iload_n (q := 8) dX5_joinedSize_7 rfl rfl ?_
        refine K.bipush (q := 10) (v := 64) dX5_joinedSize_8 rfl (by decide) ?_
        refine K.icmp_ge (q := 13) (tgt := 33) dX5_joinedSize_10 rfl (by decide) (fun c_10_2 => ?_) (fun c_10_2 => ?_)
        · rw [lp_X5_joinedSize_2, if_neg c_4_1, if_pos c_10_2] at hrr
          obtain rfl := Option.some.inj hrr
          exact hx
        · refine K.aload_n (q := 14) dX5_joinedSize_13 rfl rfl ?_
          refine K.iload_n (q := 15) dX5_joinedSize_14 rfl rfl ?_
          refine K.iload_n (q := 16) dX5_joinedSize_15 rfl rfl ?_
          refine K.callSN0 (q := 19) mkX7_twinOf nw_X5_58 (s_X7_twinOf _ _ _) rfl (by decide) rfl (Nat.le_of_ble_eq_true rfl) (Nat.le_of_ble_eq_true rfl) (Nat.le_of_ble_eq_true rfl) dX5_joinedSize_16 rfl ?_
          refine K.callV0 (q := 22) mkX5_sizeAt mw_X5_39 (s_X5_sizeAt _ _ _) rfl (by decide) rfl (lt141 (by decide)) rb2 (Nat.le_of_ble_eq_true rfl) (Nat.le_of_ble_eq_true rfl) (Nat.le_of_ble_eq_true rfl) dX5_joinedSize_19 rfl ?_
          refine K.iload_n (q := 23) dX5_joinedSize_22 rfl rfl ?_
          refine K.icmp_ne (q := 26) (tgt := 33) dX5_joinedSize_23 rfl (by decide) (fun c_23_3 => ?_) (fun c_23_3 => ?_)
          · rw [lp_X5_joinedSize_2, if_neg c_4_1, if_neg c_10_2, if_neg c_23_3] at hrr
            obtain rfl := Option.some.inj hrr
            exact hx
          · refine K.iload_n (q := 27) dX5_joinedSize_26 rfl rfl ?_
            refine K.iconst (q := 28) (v := 2) dX5_joinedSize_27 rfl (by decide) ?_
            refine K.imul (q := 29) dX5_joinedSize_28 rfl ?_
            refine K.istore_n (q := 30) (i := 3) dX5_joinedSize_29 rfl rfl (by decide) rfl ?_
            refine K.goto (tgt := 2) dX5_joinedSize_30 (by decide) ?_
            rw [lp_X5_joinedSize_2, if_neg c_4_1, if_neg c_10_2, if_pos c_23_3] at hrr
            exact ih (a3 * 2) rr hrr hx
  refine L2 _ size _ (fu_some (d := (0 : Int32)) hf_2) ?_
  refine K.iload_n (q := 34) dX5_joinedSize_33 rfl rfl ?_
  exact C.iret rfl rfl (by rw [r_X5_joinedSize]) rfl (Nat.le_of_ble_eq_true rfl) (Nat.le_of_ble_eq_true rfl) dX5_joinedSize_34
