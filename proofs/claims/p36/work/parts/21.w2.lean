/-! the loops of powers end -/
theorem lp_needOf_step (amount a : Int32) (j : Nat) (h : lp_X7_needOf_2 amount j (a * 2) ≠ none) : lp_X7_needOf_2 amount (j + 1) a ≠ none := by
  rw [lp_X7_needOf_2]
  split
  · exact fun h => by cases h
  · split
    · exact fun h => by cases h
    · exact h
theorem lp_needOf_end (amount a : Int32) (j : Nat) (h : 64 ≤ a) : lp_X7_needOf_2 amount (j + 1) a ≠ none := by
  rw [lp_X7_needOf_2]
  split
  · exact fun h => by cases h
  · first | exact fun h => by cases h | (rw [if_pos h]; exact fun h => by cases h)
theorem lp_needOf_ne (amount : Int32) : lp_X7_needOf_2 amount 64 1 ≠ none :=
  lp_needOf_step _ _ _ (lp_needOf_step _ _ _ (lp_needOf_step _ _ _ (lp_needOf_step _ _ _ (lp_needOf_step _ _ _ (lp_needOf_step _ _ _ (lp_needOf_end _ _ _ (by decide)))))))
theorem i32_lt1 {x : Int32} (h : x.toInt < 1) : x < 1 := Int32.lt_iff_toInt_lt.mpr (by simpa using h)
theorem i32_ge1 {x : Int32} (h : ¬ x < 1) : 1 ≤ x.toInt := by
  by_cases h1 : x.toInt < 1
  · exact absurd (i32_lt1 h1) h
  · omega
theorem i32_max (x : Int32) : x.toInt < 2 ^ 31 := by
  have := Int32.toInt_lt x
  simpa using this
theorem half_toInt {x : Int32} (h : ¬ x < 1) : (x / 2).toInt = x.toInt / 2 := by
  have h1 := i32_ge1 h
  have h2 := i32_max x
  rw [Int32.toInt_div]
  show ((x.toInt).tdiv 2).bmod (2 ^ 32) = _
  rw [Int.tdiv_eq_ediv_of_nonneg (by omega)]
  rw [Int.bmod_eq_of_le (by omega) (by omega)]
theorem lp_cutDown_ne (need : Int32) : ∀ (j : Nat) (y x : Int32) (b : BD), x.toInt < 2 ^ j → lp_X5_cutDown_8 need (j + 1) y x b ≠ none := by
  intro j
  induction j with
  | zero =>
    intro y x b h
    rw [lp_X5_cutDown_8]
    split
    · exact fun h => by cases h
    · have h9 := i32_lt1 (x := x) (by simpa using h)
      first | exact fun h => by cases h | (rw [if_pos h9]; exact fun h => by cases h)
  | succ j ih =>
    intro y x b h
    rw [lp_X5_cutDown_8]
    split
    · exact fun h => by cases h
    · split
      · exact fun h => by cases h
      · rename_i h1
        have h2 := half_toInt h1
        have h3 : (x / 2).toInt < 2 ^ j := by
          rw [h2]
          rw [Int.pow_succ] at h
          omega
        split
        · exact ih _ _ _ h3
        · exact ih _ _ _ h3
theorem i32_pow (x : Int32) : x.toInt < 2 ^ 63 := by
  have := i32_max x
  omega
theorem cutDown_ne (need y x : Int32) (b : BD) : lp_X5_cutDown_8 need 64 y x b ≠ none := lp_cutDown_ne need 63 y x b (i32_pow x)
theorem dbl_toInt {x : Int32} (h : ¬ x < 1) (h2 : x.toInt < 64) : (x * 2).toInt = 2 * x.toInt := by
  have h1 := i32_ge1 h
  rw [Int32.toInt_mul]
  show (x.toInt * 2).bmod (2 ^ 32) = _
  rw [Int.bmod_eq_of_le (by omega) (by omega)]
  omega
theorem lp_joined_ne (b : BD) (start : Int32) : ∀ (j : Nat) (x : Int32), 64 ≤ x.toInt * 2 ^ j ∨ x < 1 → lp_X5_joinedSize_2 b start (j + 1) x ≠ none := by
  intro j
  induction j with
  | zero =>
    intro x h
    rw [lp_X5_joinedSize_2]
    split
    · exact fun h => by cases h
    · rename_i h1
      have h2 : (64 : Int32) ≤ x := by
        rcases h with h | h
        · exact Int32.le_iff_toInt_le.mpr (by simpa using h)
        · exact absurd h h1
      first | exact fun h => by cases h | (rw [if_pos h2]; exact fun h => by cases h)
  | succ j ih =>
    intro x h
    rw [lp_X5_joinedSize_2]
    split
    · exact fun h => by cases h
    · split
      · exact fun h => by cases h
      · split
        · rename_i h1 h2 h3
          refine ih _ (Or.inl ?_)
          have h4 : x.toInt < 64 := by
            have := Int32.lt_iff_toInt_lt.mp (Int32.not_le.mp h2)
            simpa using this
          rw [dbl_toInt h1 h4]
          rcases h with h | h
          · rw [Int.pow_succ] at h
            rw [Int.mul_comm 2 x.toInt, Int.mul_assoc, Int.mul_comm 2]
            exact h
          · exact absurd h h1
        · exact fun h => by cases h
theorem joined_ne (b : BD) (start x : Int32) : lp_X5_joinedSize_2 b start 64 x ≠ none := by
  refine lp_joined_ne b start 63 x ?_
  by_cases h : x < 1
  · exact Or.inr h
  · have := i32_ge1 h
    exact Or.inl (by omega)

def r_X5_take (b : BD) (need : Int32) : Int32 := (if 0 ≤ (r_X5_find b need) then (r_X5_cutDown (u_X5_setSize b (r_X5_find b need) 0) (r_X5_find b need) (r_X5_sizeAt b (r_X5_find b need)) need) else (-1))

def u_X5_take (b : BD) (need : Int32) : BD := (if 0 ≤ (r_X5_find b need) then (u_X5_cutDown (u_X5_setSize b (r_X5_find b need) 0) (r_X5_find b need) (r_X5_sizeAt b (r_X5_find b need)) need) else b)
set_option maxRecDepth 20000 in
theorem s_X5_take (X : GS) (b : BD) (need : Int32) : Ct 3 0 0 yX5_take (.code yX5_take cX5_take 4 (some (.int))) [.ref 2, .int need] (mkH (uB X 0 b)) (.inl (some (.int (r_X5_take b need)))) (mkH (uB X 0 (u_X5_take b need))) := by
  refine Ct.of (LL := [some (.ref 2), some (.int need), none, none]) mkX5_take.1 owX5_take rfl (Nat.le_of_ble_eq_true rfl) rfl (fun Wk C => ?_)
  have K := C.core
  refine K.aload_n (q := 1) dX5_take_0 rfl rfl ?_
  refine K.iload_n (q := 2) dX5_take_1 rfl rfl ?_
  refine K.callV0 (q := 5) mkX5_find mw_X5_35 (s_X5_find _ _ _) rfl (by decide) rfl (lt141 (by decide)) rb2 (Nat.le_of_ble_eq_true rfl) (Nat.le_of_ble_eq_true rfl) (Nat.le_of_ble_eq_true rfl) dX5_take_2 rfl ?_
  refine K.istore_n (q := 6) (i := 2) dX5_take_5 rfl rfl (by decide) rfl ?_
  refine K.iload_n (q := 7) dX5_take_6 rfl rfl ?_
  refine K.if_ge (q := 10) (tgt := 12) dX5_take_7 rfl (by decide) (fun c_7_1 => ?_) (fun c_7_1 => ?_)
  · refine K.aload_n (q := 13) dX5_take_12 rfl rfl ?_
    refine K.iload_n (q := 14) dX5_take_13 rfl rfl ?_
    refine K.callV0 (q := 17) mkX5_sizeAt mw_X5_39 (s_X5_sizeAt _ _ _) rfl (by decide) rfl (lt141 (by decide)) rb2 (Nat.le_of_ble_eq_true rfl) (Nat.le_of_ble_eq_true rfl) (Nat.le_of_ble_eq_true rfl) dX5_take_14 rfl ?_
    refine K.istore_n (q := 18) (i := 3) dX5_take_17 rfl rfl (by decide) rfl ?_
    refine K.aload_n (q := 19) dX5_take_18 rfl rfl ?_
    refine K.iload_n (q := 20) dX5_take_19 rfl rfl ?_
    refine K.iconst (q := 21) (v := 0) dX5_take_20 rfl (by decide) ?_
    refine K.callVv0 (q := 24) mkX5_setSize mw_X5_42 (s_X5_setSize _ _ _ _) rfl (by decide) rfl (lt141 (by decide)) rb2 (Nat.le_of_ble_eq_true rfl) (Nat.le_of_ble_eq_true rfl) (Nat.le_of_ble_eq_true rfl) dX5_take_21 rfl ?_
    refine K.aload_n (q := 25) dX5_take_24 rfl rfl ?_
    refine K.iload_n (q := 26) dX5_take_25 rfl rfl ?_
    refine K.iload_n (q := 27) dX5_take_26 rfl rfl ?_
    refine K.iload_n (q := 28) dX5_take_27 rfl rfl ?_
    refine K.callV0 (q := 31) mkX5_cutDown mw_X5_46 (s_X5_cutDown _ _ _ _ _ (cutDown_ne _ _ _ _)) rfl (by decide) rfl (lt141 (by decide)) rb2 (Nat.le_of_ble_eq_true rfl) (Nat.le_of_ble_eq_true rfl) (Nat.le_of_ble_eq_true rfl) dX5_take_28 rfl ?_
    exact C.iret rfl rfl (by rw [r_X5_take, if_pos c_7_1]) (by rw [u_X5_take, if_pos c_7_1]) (Nat.le_of_ble_eq_true rfl) (Nat.le_of_ble_eq_true rfl) dX5_take_31
  · refine K.iconst (q := 11) (v := (-1)) dX5_take_10 rfl (by decide) ?_
    exact C.iret rfl rfl (by rw [r_X5_take, if_neg c_7_1]) (by rw [u_X5_take, if_neg c_7_1]) (Nat.le_of_ble_eq_true rfl) (Nat.le_of_ble_eq_true rfl) dX5_take_11

def lp_X5_release_10 (b : BD) (start : Int32) (size : Int32) : Nat → Int32 → BD → Option (Int32 × BD)
  | 0, _, _ => none
  | j + 1, a4, bb => (if a4 < 1 then (some (a4, bb)) else (if (r_X5_joinedSize b start size) ≤ a4 then (some (a4, bb)) else (lp_X5_release_10 b start size j (a4 * 2) (bS (u_X5_setSize bb (r_X7_twinOf start a4) 0) 2 (((u_X5_setSize bb (r_X7_twinOf start a4) 0).1 2) + 1)))))

def u_X5_release (b : BD) (start : Int32) (size : Int32) : BD := (u_X5_setSize (((lp_X5_release_10 b start size 64 size b).getD ((0 : Int32), bd0)).2) (r_X7_partOf start (r_X5_joinedSize b start size)) (r_X5_joinedSize b start size))
set_option maxRecDepth 20000 in
theorem s_X5_release (X : GS) (b : BD) (start : Int32) (size : Int32) (hf_10 : (lp_X5_release_10 b start size 64 size b) ≠ none) : Ct 4 0 0 yX5_release (.code yX5_release cX5_release 5 none) [.ref 2, .int start, .int size] (mkH (uB X 0 b)) (.inl none) (mkH (uB X 0 (u_X5_release b start size))) := by
  refine Ct.of (LL := [some (.ref 2), some (.int start), some (.int size), none, none]) mkX5_release.1 owX5_release rfl (Nat.le_of_ble_eq_true rfl) rfl (fun Wk C => ?_)
  have K := C.core
  refine K.aload_n (q := 1) dX5_release_0 rfl rfl ?_
  refine K.iload_n (q := 2) dX5_release_1 rfl rfl ?_
  refine K.iload_n (q := 3) dX5_release_2 rfl rfl ?_
  refine K.callV0 (q := 6) mkX5_joinedSize mw_X5_54 (s_X5_joinedSize _ _ _ _ (joined_ne _ _ _)) rfl (by decide) rfl (lt141 (by decide)) rb2 (Nat.le_of_ble_eq_true rfl) (Nat.le_of_ble_eq_true rfl) (Nat.le_of_ble_eq_true rfl) dX5_release_3 rfl ?_
  refine K.istore_n (q := 7) (i := 3) dX5_release_6 rfl rfl (by decide) rfl ?_
  refine K.iload_n (q := 8) dX5_release_7 rfl rfl ?_
  refine K.istore (q := 10) dX5_release_8 rfl (by decide) rfl ?_
  have L10 : ∀ (j : Nat) (a4 : Int32) (bb : BD) (rr : Int32 × BD), lp_X5_release_10 b start size j a4 bb = some rr → (Wk 0 0 52 [some (.ref 2), some (.int start), some (.int size), some (.int (r_X5_joinedSize b start size)), some (.int (rr.1))] [] (mkH (uB X 0 (rr.2)))) → Wk 0 0 10 [some (.ref 2), some (.int start), some (.int size), some (.int (r_X5_joinedSize b start size)), some (.int a4)] [] (mkH (uB X 0 bb)) := by
    intro j
    induction j with
    | zero =>
      intro a4 bb rr hrr hx
      exact absurd hrr (by rw [lp_X5_release_10]; exact fun h => nomatch h)
    | succ j ih =>
      intro a4 bb rr hrr hx
      refine K.iload (q := 12) dX5_release_10 rfl rfl ?_
      refine K.iconst (q := 13) (v := 1) dX5_release_12 rfl (by decide) ?_
      refine K.icmp_lt (q := 16) (tgt := 52) dX5_release_13 rfl (by decide) (fun c_13_1 => ?_) (fun c_13_1 => ?_)
      · rw [lp_X5_release_10, if_pos c_13_1] at hrr
        obtain rfl := Option.some.inj hrr
        exact hx
      · refine K.iload (q := 18) dX5_release_16 rfl rfl ?_
        refine K.iload_n (q := 19) dX5_release_18 rfl rfl ?_
        refine K.icmp_ge (q := 22) (tgt := 52) dX5_release_19 rfl (by decide) (fun c_19_2 => ?_) (fun c_19_2 => ?_)
        · rw [lp_X5_release_10, if_neg c_13_1, if_pos c_19_2] at hrr
          obtain rfl := Option.some.inj hrr
          exact hx
        · refine K.aload_n (q := 23) dX5_release_22 rfl rfl ?_
          refine K.iload_n (q := 24) dX5_release_23 rfl rfl ?_
          refine K.iload (q := 26) dX5_release_24 rfl rfl ?_
          refine K.callSN0 (q := 29) mkX7_twinOf nw_X5_58 (s_X7_twinOf _ _ _) rfl (by decide) rfl (Nat.le_of_ble_eq_true rfl) (Nat.le_of_ble_eq_true rfl) (Nat.le_of_ble_eq_true rfl) dX5_release_26 rfl ?_
          refine K.iconst (q := 30) (v := 0) dX5_release_29 rfl (by decide) ?_
          refine K.callVv0 (q := 33) mkX5_setSize mw_X5_42 (s_X5_setSize _ _ _ _) rfl (by decide) rfl (lt141 (by decide)) rb2 (Nat.le_of_ble_eq_true rfl) (Nat.le_of_ble_eq_true rfl) (Nat.le_of_ble_eq_true rfl) dX5_release_30 rfl ?_
          refine K.aload_n (q := 34) dX5_release_33 rfl rfl ?_
          refine K.dup (q := 35) dX5_release_34 rfl rfl ?_
          refine K.getf (q := 38) (v := .int ((u_X5_setSize bb (r_X7_twinOf start a4) 0).1 2)) fo_X5_22.r rb2 (lt141 (by decide)) rfl dX5_release_35 rfl ?_
          refine K.iconst (q := 39) (v := 1) dX5_release_38 rfl (by decide) ?_
          refine K.iadd (q := 40) dX5_release_39 rfl ?_
          refine K.putf (q := 43) fo_X5_22 rb2 (lt141 (by decide)) (Nat.le_of_ble_eq_true rfl) (fun _ => rfl) (fun _ => rfl) pbs2 dX5_release_40 rfl ?_
          refine K.iload (q := 45) dX5_release_43 rfl rfl ?_
          refine K.iconst (q := 46) (v := 2) dX5_release_45 rfl (by decide) ?_
          refine K.imul (q := 47) dX5_release_46 rfl ?_
          refine K.istore (q := 49) dX5_release_47 rfl (by decide) rfl ?_
          refine K.goto (tgt := 10) dX5_release_49 (by decide) ?_
          rw [lp_X5_release_10, if_neg c_13_1, if_neg c_19_2] at hrr
          exact ih (a4 * 2) (bS (u_X5_setSize bb (r_X7_twinOf start a4) 0) 2 (((u_X5_setSize bb (r_X7_twinOf start a4) 0).1 2) + 1)) rr hrr hx
  refine L10 _ size b _ (fu_some (d := ((0 : Int32), bd0)) hf_10) ?_
  refine K.aload_n (q := 53) dX5_release_52 rfl rfl ?_
  refine K.iload_n (q := 54) dX5_release_53 rfl rfl ?_
  refine K.iload_n (q := 55) dX5_release_54 rfl rfl ?_
  refine K.callSN0 (q := 58) mkX7_partOf nw_X5_61 (s_X7_partOf _ _ _) rfl (by decide) rfl (Nat.le_of_ble_eq_true rfl) (Nat.le_of_ble_eq_true rfl) (Nat.le_of_ble_eq_true rfl) dX5_release_55 rfl ?_
  refine K.iload_n (q := 59) dX5_release_58 rfl rfl ?_
  refine K.callVv0 (q := 62) mkX5_setSize mw_X5_42 (s_X5_setSize _ _ _ _) rfl (by decide) rfl (lt141 (by decide)) rb2 (Nat.le_of_ble_eq_true rfl) (Nat.le_of_ble_eq_true rfl) (Nat.le_of_ble_eq_true rfl) dX5_release_59 rfl ?_
  exact C.vret rfl rfl (by rw [u_X5_release]) (Nat.le_of_ble_eq_true rfl) (Nat.le_of_ble_eq_true rfl) dX5_release_62

theorem dbl_wrap {x : Int32} (h : ¬ x < 1) (h2 : 2 ^ 30 ≤ x.toInt) : x * 2 < 1 := by
  have h1 := i32_max x
  refine i32_lt1 ?_
  rw [Int32.toInt_mul]
  show (x.toInt * 2).bmod (2 ^ 32) < 1
  have e : (x.toInt * 2).bmod (2 ^ 32) = x.toInt * 2 - 2 ^ 32 := by
    rw [← Int.sub_bmod_right, Int.bmod_eq_of_le (by omega) (by omega)]; rfl
  omega
theorem dbl_small {x : Int32} (h : ¬ x < 1) (h2 : x.toInt < 2 ^ 30) : (x * 2).toInt = 2 * x.toInt := by
  have h1 := i32_ge1 h
  rw [Int32.toInt_mul]
  show (x.toInt * 2).bmod (2 ^ 32) = _
  rw [Int.bmod_eq_of_le (by omega) (by omega)]
  omega
theorem lp_release_ne (b : BD) (start size : Int32) : ∀ (j : Nat) (x : Int32) (bb : BD), 2 ^ 31 ≤ x.toInt * 2 ^ j ∨ x < 1 → lp_X5_release_10 b start size (j + 1) x bb ≠ none := by
  intro j
  induction j with
  | zero =>
    intro x bb h
    have h1 := i32_max x
    rw [lp_X5_release_10]
    rcases h with h | h
    · omega
    · rw [if_pos h]; exact fun h => by cases h
  | succ j ih =>
    intro x bb h
    rw [lp_X5_release_10]
    split
    · exact fun h => by cases h
    · split
      · exact fun h => by cases h
      · rename_i h1 h2
        by_cases h3 : x.toInt < 2 ^ 30
        · refine ih _ _ (Or.inl ?_)
          rw [dbl_small h1 h3]
          rcases h with h | h
          · rw [Int.pow_succ] at h
            rw [Int.mul_comm 2 x.toInt, Int.mul_assoc, Int.mul_comm 2]
            exact h
          · exact absurd h h1
        · exact ih _ _ (Or.inr (dbl_wrap h1 (by omega)))
theorem release_ne (b : BD) (start size x : Int32) (bb : BD) : lp_X5_release_10 b start size 64 x bb ≠ none := by
  refine lp_release_ne b start size 63 x bb ?_
  by_cases h : x < 1
  · exact Or.inr h
  · have := i32_ge1 h
    exact Or.inl (by omega)
