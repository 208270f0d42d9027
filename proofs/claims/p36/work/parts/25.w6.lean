theorem dec_toInt {x : Int32} (h : ¬ x < 0) : (x + (-1)).toInt = x.toInt - 1 := by
  have h0 : 0 ≤ x.toInt := by
    have := Int32.le_iff_toInt_le.mp (Int32.not_lt.mp h)
    simpa using this
  have h1 := i32_max x
  rw [Int32.toInt_add]
  show (x.toInt + (-1)).bmod (2 ^ 32) = _
  rw [Int.bmod_eq_of_le (by omega) (by omega)]
  omega
theorem lp_giveBackAll_ne (name : Int32) : ∀ (j : Nat) (g x : Int32) (b : BD), x.toInt < (j : Nat) → lp_X0_giveBackAll_12 name (j + 1) g x b ≠ none := by
  intro j
  induction j with
  | zero =>
    intro g x b h
    rw [lp_X0_giveBackAll_12, if_pos (Int32.lt_iff_toInt_lt.mpr (by simpa using h))]
    exact fun h => by cases h
  | succ j ih =>
    intro g x b h
    rw [lp_X0_giveBackAll_12]
    split
    · exact fun h => by cases h
    · rename_i h1
      have h2 := dec_toInt h1
      split
      · exact ih _ _ _ (by rw [h2]; omega)
      · exact ih _ _ _ (by rw [h2]; omega)
theorem giveBackAll_ne (name g x : Int32) (b : BD) : lp_X0_giveBackAll_12 name bigF g x b ≠ none := lp_giveBackAll_ne name 4294967295 g x b (by have := i32_max x; omega)
theorem lp_countFree_ne (b : BD) (size : Int32) : ∀ (j : Nat) (f x : Int32), 0 ≤ x.toInt → ((64 : Int32) ≤ x ∨ (64 ≤ x.toInt + (j : Nat) ∧ (x = 0 ∨ size.toInt ≤ 64))) → lp_X0_countFreeParts_4 b size (j + 1) f x ≠ none := by
  intro j
  induction j with
  | zero =>
    intro f x h0 h
    have h2 : (64 : Int32) ≤ x := by
      rcases h with h | ⟨h, -⟩
      · exact h
      · exact i32_ge64 (by omega)
    rw [lp_X0_countFreeParts_4]
    split
    · exact fun h => by cases h
    · first | exact fun h => by cases h | (rw [if_pos h2]; exact fun h => by cases h)
  | succ j ih =>
    intro f x h0 h
    rw [lp_X0_countFreeParts_4]
    by_cases h1 : size < 1
    · rw [if_pos h1]; exact fun h => by cases h
    · rw [if_neg h1]
      by_cases h2 : (64 : Int32) ≤ x
      · rw [if_pos h2]; exact fun h => by cases h
      · rw [if_neg h2]
        rcases h with h | ⟨h, hs⟩
        · exact absurd h h2
        · obtain ⟨a1, a2⟩ := steps_next h1 h2 h0 h hs
          split
          · split
            · exact ih _ _ a1 a2
            · exact ih _ _ a1 a2
          · exact ih _ _ a1 a2
theorem countFree_ne (b : BD) (size f : Int32) : lp_X0_countFreeParts_4 b size 100 f 0 ≠ none := lp_countFree_ne b size 99 f 0 (by decide) (Or.inr ⟨by decide, Or.inl rfl⟩)

def lp_X0_isCountedAlike_2 (b : BD) : Nat → Int32 → Option (Option Int32 × Int32)
  | 0, _ => none
  | j + 1, a1 => (if 64 < a1 then (some (none, a1)) else (if (r_X5_countOfSize b a1) = (r_X0_countFreeParts b a1) then (lp_X0_isCountedAlike_2 b j (a1 * 2)) else (some ((some 0, a1)))))

def r_X0_isCountedAlike (b : BD) : Int32 := (if ((lp_X0_isCountedAlike_2 b 64 1).getD ((none : Option Int32), (0 : Int32))).1 = none then 1 else (((lp_X0_isCountedAlike_2 b 64 1).getD ((none : Option Int32), (0 : Int32))).1.getD 0))
set_option maxRecDepth 20000 in
theorem s_X0_isCountedAlike (X : GS) (b : BD) (hf_2 : (lp_X0_isCountedAlike_2 b 64 1) ≠ none) : Ct 6 0 0 yX0_isCountedAlike (.code yX0_isCountedAlike cX0_isCountedAlike 2 (some (.boolean))) [.ref 1] (mkH (uB X 0 b)) (.inl (some (.int (r_X0_isCountedAlike b)))) (mkH (uB X 0 b)) := by
  refine Ct.of (LL := [some (.ref 1), none]) mkX0_isCountedAlike.1 owX0_isCountedAlike rfl (Nat.le_of_ble_eq_true rfl) rfl (fun Wk C => ?_)
  have K := C.core
  refine K.iconst (q := 1) (v := 1) dX0_isCountedAlike_0 rfl (by decide) ?_
  refine K.istore_n (q := 2) (i := 1) dX0_isCountedAlike_1 rfl rfl (by decide) rfl ?_
  have L2 : ∀ (j : Nat) (a1 : Int32) (rr : Option Int32 × Int32), lp_X0_isCountedAlike_2 b j a1 = some rr → ((rr).1 = none → Wk 0 0 33 [some (.ref 1), some (.int (rr.2))] [] (mkH (uB X 0 b))) → (∀ v : Int32, rr.1 = some v → r_X0_isCountedAlike b = v) → Wk 0 0 2 [some (.ref 1), some (.int a1)] [] (mkH (uB X 0 b)) := by
    intro j
    induction j with
    | zero =>
      intro a1 rr hrr hx hr
      exact absurd hrr (by rw [lp_X0_isCountedAlike_2]; exact fun h => nomatch h)
    | succ j ih =>
      intro a1 rr hrr hx hr
      refine K.iload_n (q := 3) dX0_isCountedAlike_2 rfl rfl ?_
      refine K.bipush (q := 5) (v := 64) dX0_isCountedAlike_3 rfl (by decide) ?_
      refine K.icmp_gt (q := 8) (tgt := 33) dX0_isCountedAlike_5 rfl (by decide) (fun c_5_1 => ?_) (fun c_5_1 => ?_)
      · rw [lp_X0_isCountedAlike_2, if_pos c_5_1] at hrr
        obtain rfl := Option.some.inj hrr
        exact hx rfl
      · refine K.aload_n (q := 9) dX0_isCountedAlike_8 rfl rfl ?_
        refine K.getf (q := 12) (v := .ref 2) fo_X0_12.r rb1 (lt141 (by decide)) rfl dX0_isCountedAlike_9 rfl ?_
        refine K.iload_n (q := 13) dX0_isCountedAlike_12 rfl rfl ?_
        refine K.callV0 (q := 16) mkX5_countOfSize mw_X0_139 (s_X5_countOfSize _ _ _) rfl (by decide) rfl (lt141 (by decide)) rb2 (Nat.le_of_ble_eq_true rfl) (Nat.le_of_ble_eq_true rfl) (Nat.le_of_ble_eq_true rfl) dX0_isCountedAlike_13 rfl ?_
        refine K.aload_n (q := 17) dX0_isCountedAlike_16 rfl rfl ?_
        refine K.iload_n (q := 18) dX0_isCountedAlike_17 rfl rfl ?_
        refine K.callV0 (q := 21) mkX0_countFreeParts mw_X0_142 (s_X0_countFreeParts _ _ _ (countFree_ne _ _ _)) rfl (by decide) rfl (lt141 (by decide)) rb1 (Nat.le_of_ble_eq_true rfl) (Nat.le_of_ble_eq_true rfl) (Nat.le_of_ble_eq_true rfl) dX0_isCountedAlike_18 rfl ?_
        refine K.icmp_eq (q := 24) (tgt := 26) dX0_isCountedAlike_21 rfl (by decide) (fun c_21_2 => ?_) (fun c_21_2 => ?_)
        · refine K.iload_n (q := 27) dX0_isCountedAlike_26 rfl rfl ?_
          refine K.iconst (q := 28) (v := 2) dX0_isCountedAlike_27 rfl (by decide) ?_
          refine K.imul (q := 29) dX0_isCountedAlike_28 rfl ?_
          refine K.istore_n (q := 30) (i := 1) dX0_isCountedAlike_29 rfl rfl (by decide) rfl ?_
          refine K.goto (tgt := 2) dX0_isCountedAlike_30 (by decide) ?_
          rw [lp_X0_isCountedAlike_2, if_neg c_5_1, if_pos c_21_2] at hrr
          exact ih (a1 * 2) rr hrr hx hr
        · refine K.iconst (q := 25) (v := 0) dX0_isCountedAlike_24 rfl (by decide) ?_
          (rw [lp_X0_isCountedAlike_2, if_neg c_5_1, if_neg c_21_2] at hrr; obtain rfl := Option.some.inj hrr; exact C.iret rfl rfl (by rw [hr _ rfl]) rfl (Nat.le_of_ble_eq_true rfl) (Nat.le_of_ble_eq_true rfl) dX0_isCountedAlike_25)
  refine L2 _ 1 _ (fu_some (d := ((none : Option Int32), (0 : Int32))) hf_2) (fun e_2_3 => ?_) (fun v hv => ?_)
  · refine K.iconst (q := 34) (v := 1) dX0_isCountedAlike_33 rfl (by decide) ?_
    exact C.iret rfl rfl (by rw [r_X0_isCountedAlike, if_pos e_2_3]) rfl (Nat.le_of_ble_eq_true rfl) (Nat.le_of_ble_eq_true rfl) dX0_isCountedAlike_34
  · rw [r_X0_isCountedAlike, if_neg (fun h0 => by rw [hv] at h0; cases h0), hv]; rfl

def x_X2_clear (X : GS) : GS := (uS X 2 0)
set_option maxRecDepth 20000 in
theorem s_X2_clear (X : GS) (b : BD) : Ct 1 0 0 yX2_clear (.code yX2_clear cX2_clear 1 none) [.ref 124] (mkH (uB X 0 b)) (.inl none) (mkH (uB (x_X2_clear X) 0 b)) := by
  refine Ct.of (LL := [some (.ref 124)]) mkX2_clear.1 owX2_clear rfl (Nat.le_of_ble_eq_true rfl) rfl (fun Wk C => ?_)
  have K := C.core
  refine K.aload_n (q := 1) dX2_clear_0 rfl rfl ?_
  refine K.iconst (q := 2) (v := 0) dX2_clear_1 rfl (by decide) ?_
  refine K.putf (q := 5) fo_X2_15 rx124b (lt141 (by decide)) (Nat.le_of_ble_eq_true rfl) (fun _ => rfl) (fun _ => rfl) pxs2b dX2_clear_2 rfl ?_
  exact C.vret rfl rfl (by rw [x_X2_clear]) (Nat.le_of_ble_eq_true rfl) (Nat.le_of_ble_eq_true rfl) dX2_clear_5

def r_X2_has (X : GS) (index : Int32) : Int32 := (if index < 0 then 0 else (if (X.2.1 2) ≤ index then 0 else (if 384 ≤ index then 0 else 1)))
set_option maxRecDepth 20000 in
theorem s_X2_has (X : GS) (b : BD) (index : Int32) : Ct 1 0 0 yX2_has (.code yX2_has cX2_has 2 (some (.boolean))) [.ref 124, .int index] (mkH (uB X 0 b)) (.inl (some (.int (r_X2_has X index)))) (mkH (uB X 0 b)) := by
  refine Ct.of (LL := [some (.ref 124), some (.int index)]) mkX2_has.1 owX2_has rfl (Nat.le_of_ble_eq_true rfl) rfl (fun Wk C => ?_)
  have K := C.core
  refine K.iload_n (q := 1) dX2_has_0 rfl rfl ?_
  refine K.if_lt (q := 4) (tgt := 23) dX2_has_1 rfl (by decide) (fun c_1_1 => ?_) (fun c_1_1 => ?_)
  · refine K.iconst (q := 24) (v := 0) dX2_has_23 rfl (by decide) ?_
    exact C.iret rfl rfl (by rw [r_X2_has, if_pos c_1_1]) rfl (Nat.le_of_ble_eq_true rfl) (Nat.le_of_ble_eq_true rfl) dX2_has_24
  · refine K.iload_n (q := 5) dX2_has_4 rfl rfl ?_
    refine K.aload_n (q := 6) dX2_has_5 rfl rfl ?_
    refine K.getf (q := 9) (v := .int (X.2.1 2)) fo_X2_15.r rx124b (lt141 (by decide)) rfl dX2_has_6 rfl ?_
    refine K.icmp_ge (q := 12) (tgt := 23) dX2_has_9 rfl (by decide) (fun c_9_2 => ?_) (fun c_9_2 => ?_)
    · refine K.iconst (q := 24) (v := 0) dX2_has_23 rfl (by decide) ?_
      exact C.iret rfl rfl (by rw [r_X2_has, if_neg c_1_1, if_pos c_9_2]) rfl (Nat.le_of_ble_eq_true rfl) (Nat.le_of_ble_eq_true rfl) dX2_has_24
    · refine K.iload_n (q := 13) dX2_has_12 rfl rfl ?_
      refine K.sipush (q := 16) (v := 384) dX2_has_13 rfl (by decide) ?_
      refine K.icmp_ge (q := 19) (tgt := 23) dX2_has_16 rfl (by decide) (fun c_16_3 => ?_) (fun c_16_3 => ?_)
      · refine K.iconst (q := 24) (v := 0) dX2_has_23 rfl (by decide) ?_
        exact C.iret rfl rfl (by rw [r_X2_has, if_neg c_1_1, if_neg c_9_2, if_pos c_16_3]) rfl (Nat.le_of_ble_eq_true rfl) (Nat.le_of_ble_eq_true rfl) dX2_has_24
      · refine K.iconst (q := 20) (v := 1) dX2_has_19 rfl (by decide) ?_
        refine K.goto (tgt := 24) dX2_has_20 (by decide) ?_
        exact C.iret rfl rfl (by rw [r_X2_has, if_neg c_1_1, if_neg c_9_2, if_neg c_16_3]) rfl (Nat.le_of_ble_eq_true rfl) (Nat.le_of_ble_eq_true rfl) dX2_has_24

theorem hasL {X : GS} {x : Int32} (h : ¬ r_X2_has X x = 0) : ¬ x < 0 ∧ ¬ (384 : Int32) ≤ x ∧ ¬ (X.2.1 2) ≤ x := by
  unfold r_X2_has at h
  by_cases h1 : x < 0
  · rw [if_pos h1] at h; exact absurd rfl h
  · rw [if_neg h1] at h
    by_cases h2 : (X.2.1 2) ≤ x
    · rw [if_pos h2] at h; exact absurd rfl h
    · rw [if_neg h2] at h
      by_cases h3 : (384 : Int32) ≤ x
      · rw [if_pos h3] at h; exact absurd rfl h
      · exact ⟨h1, h3, h2⟩

def r_X2_signAt (X : GS) (index : Int32) : Int32 := (if (r_X2_has X index) = 0 then 32 else ((X.2.2.1 0) (index.toNatClampNeg)))
set_option maxRecDepth 20000 in
theorem s_X2_signAt (X : GS) (b : BD) (index : Int32) (hch : ∀ i : Nat, narrow .char (.int (X.2.2.1 0 i)) = .int (X.2.2.1 0 i)) : Ct 2 0 0 yX2_signAt (.code yX2_signAt cX2_signAt 2 (some (.char))) [.ref 124, .int index] (mkH (uB X 0 b)) (.inl (some (.int (r_X2_signAt X index)))) (mkH (uB X 0 b)) := by
  refine Ct.of (LL := [some (.ref 124), some (.int index)]) mkX2_signAt.1 owX2_signAt rfl (Nat.le_of_ble_eq_true rfl) rfl (fun Wk C => ?_)
  have K := C.core
  refine K.aload_n (q := 1) dX2_signAt_0 rfl rfl ?_
  refine K.iload_n (q := 2) dX2_signAt_1 rfl rfl ?_
  refine K.callV0 (q := 5) mkX2_has mw_X2_19 (s_X2_has _ _ _) rfl (by decide) rfl (lt141 (by decide)) rx124b (Nat.le_of_ble_eq_true rfl) (Nat.le_of_ble_eq_true rfl) (Nat.le_of_ble_eq_true rfl) dX2_signAt_2 rfl ?_
  refine K.if_eq (q := 8) (tgt := 17) dX2_signAt_5 rfl (by decide) (fun c_5_1 => ?_) (fun c_5_1 => ?_)
  · refine K.bipush (q := 19) (v := 32) dX2_signAt_17 rfl (by decide) ?_
    exact C.iret rfl (by first | rfl | exact hch _) (by rw [r_X2_signAt, if_pos c_5_1]) rfl (Nat.le_of_ble_eq_true rfl) (Nat.le_of_ble_eq_true rfl) dX2_signAt_19
  · refine K.aload_n (q := 9) dX2_signAt_8 rfl rfl ?_
    refine K.getf (q := 12) (v := .ref 125) fo_X2_9.r rx124b (lt141 (by decide)) rfl dX2_signAt_9 rfl ?_
    refine K.iload_n (q := 13) dX2_signAt_12 rfl rfl ?_
    refine K.cal (q := 14) (f := (X.2.2.1 0)) (m := (index.toNatClampNeg)) rx125b (lt141 (by decide)) (cl_nI (hasL c_5_1).1) (cl_lt (hasL c_5_1).1 (hasL c_5_1).2.1 (by decide)) (by decide) dX2_signAt_13 rfl ?_
    refine K.goto (tgt := 19) dX2_signAt_14 (by decide) ?_
    exact C.iret rfl (by first | rfl | exact hch _) (by rw [r_X2_signAt, if_neg c_5_1]) rfl (Nat.le_of_ble_eq_true rfl) (Nat.le_of_ble_eq_true rfl) dX2_signAt_19

def x_X2_put (X : GS) (sign : Int32) : GS := (if (X.2.1 2) < 0 then X else (if 384 ≤ (X.2.1 2) then X else (uS (uA X 0 (up (X.2.2.1 0) ((X.2.1 2).toNatClampNeg) (vp_nar .char sign))) 2 ((X.2.1 2) + 1))))
set_option maxRecDepth 20000 in
theorem s_X2_put (X : GS) (b : BD) (sign : Int32) : Ct 1 0 0 yX2_put (.code yX2_put cX2_put 2 none) [.ref 124, .int sign] (mkH (uB X 0 b)) (.inl none) (mkH (uB (x_X2_put X sign) 0 b)) := by
  refine Ct.of (LL := [some (.ref 124), some (.int sign)]) mkX2_put.1 owX2_put rfl (Nat.le_of_ble_eq_true rfl) rfl (fun Wk C => ?_)
  have K := C.core
  refine K.aload_n (q := 1) dX2_put_0 rfl rfl ?_
  refine K.getf (q := 4) (v := .int (X.2.1 2)) fo_X2_15.r rx124b (lt141 (by decide)) rfl dX2_put_1 rfl ?_
  refine K.if_lt (q := 7) (tgt := 37) dX2_put_4 rfl (by decide) (fun c_4_1 => ?_) (fun c_4_1 => ?_)
  · exact C.vret rfl rfl (by rw [x_X2_put, if_pos c_4_1]) (Nat.le_of_ble_eq_true rfl) (Nat.le_of_ble_eq_true rfl) dX2_put_37
  · refine K.aload_n (q := 8) dX2_put_7 rfl rfl ?_
    refine K.getf (q := 11) (v := .int (X.2.1 2)) fo_X2_15.r rx124b (lt141 (by decide)) rfl dX2_put_8 rfl ?_
    refine K.sipush (q := 14) (v := 384) dX2_put_11 rfl (by decide) ?_
    refine K.icmp_ge (q := 17) (tgt := 37) dX2_put_14 rfl (by decide) (fun c_14_2 => ?_) (fun c_14_2 => ?_)
    · exact C.vret rfl rfl (by rw [x_X2_put, if_neg c_4_1, if_pos c_14_2]) (Nat.le_of_ble_eq_true rfl) (Nat.le_of_ble_eq_true rfl) dX2_put_37
    · refine K.aload_n (q := 18) dX2_put_17 rfl rfl ?_
      refine K.getf (q := 21) (v := .ref 125) fo_X2_9.r rx124b (lt141 (by decide)) rfl dX2_put_18 rfl ?_
      refine K.aload_n (q := 22) dX2_put_21 rfl rfl ?_
      refine K.getf (q := 25) (v := .int (X.2.1 2)) fo_X2_15.r rx124b (lt141 (by decide)) rfl dX2_put_22 rfl ?_
      refine K.iload_n (q := 26) dX2_put_25 rfl rfl ?_
      refine K.cas (q := 27) (f := (X.2.2.1 0)) (m := ((X.2.1 2).toNatClampNeg)) rx125b (lt141 (by decide)) rfl (cl_nI c_4_1) (cl_lt c_4_1 c_14_2 (by decide)) (by decide) pxa0b dX2_put_26 rfl ?_
      refine K.aload_n (q := 28) dX2_put_27 rfl rfl ?_
      refine K.dup (q := 29) dX2_put_28 rfl rfl ?_
      refine K.getf (q := 32) (v := .int (X.2.1 2)) fo_X2_15.r rx124b (lt141 (by decide)) rfl dX2_put_29 rfl ?_
      refine K.iconst (q := 33) (v := 1) dX2_put_32 rfl (by decide) ?_
      refine K.iadd (q := 34) dX2_put_33 rfl ?_
      refine K.putf (q := 37) fo_X2_15 rx124b (lt141 (by decide)) (Nat.le_of_ble_eq_true rfl) (fun _ => rfl) (fun _ => rfl) pxs2b dX2_put_34 rfl ?_
      exact C.vret rfl rfl (by rw [x_X2_put, if_neg c_4_1, if_neg c_14_2]) (Nat.le_of_ble_eq_true rfl) (Nat.le_of_ble_eq_true rfl) dX2_put_37

def x_X2_putNumber (X : GS) (number : Int32) : GS := (if number < 10 then (x_X2_put X (((48 + (number - number / 10 * 10)).toUInt32 % 65536).toInt32)) else (x_X2_put (x_X2_put X (((48 + (number / 10)).toUInt32 % 65536).toInt32)) (((48 + (number - number / 10 * 10)).toUInt32 % 65536).toInt32)))
set_option maxRecDepth 20000 in
theorem s_X2_putNumber (X : GS) (b : BD) (number : Int32) : Ct 2 0 0 yX2_putNumber (.code yX2_putNumber cX2_putNumber 2 none) [.ref 124, .int number] (mkH (uB X 0 b)) (.inl none) (mkH (uB (x_X2_putNumber X number) 0 b)) := by
  refine Ct.of (LL := [some (.ref 124), some (.int number)]) mkX2_putNumber.1 owX2_putNumber rfl (Nat.le_of_ble_eq_true rfl) rfl (fun Wk C => ?_)
  have K := C.core
  refine K.iload_n (q := 1) dX2_putNumber_0 rfl rfl ?_
  refine K.bipush (q := 3) (v := 10) dX2_putNumber_1 rfl (by decide) ?_
  refine K.icmp_lt (q := 6) (tgt := 18) dX2_putNumber_3 rfl (by decide) (fun c_3_1 => ?_) (fun c_3_1 => ?_)
  · refine K.aload_n (q := 19) dX2_putNumber_18 rfl rfl ?_
    refine K.bipush (q := 21) (v := 48) dX2_putNumber_19 rfl (by decide) ?_
    refine K.iload_n (q := 22) dX2_putNumber_21 rfl rfl ?_
    refine K.bipush (q := 24) (v := 10) dX2_putNumber_22 rfl (by decide) ?_
    refine K.irem (q := 25) dX2_putNumber_24 rfl (by decide) ?_
    refine K.iadd (q := 26) dX2_putNumber_25 rfl ?_
    refine K.i2c (q := 27) dX2_putNumber_26 rfl ?_
    refine K.callVv0 (q := 30) mkX2_put mw_X2_23 (s_X2_put _ _ _) rfl (by decide) rfl (lt141 (by decide)) rx124b (Nat.le_of_ble_eq_true rfl) (Nat.le_of_ble_eq_true rfl) (Nat.le_of_ble_eq_true rfl) dX2_putNumber_27 rfl ?_
    exact C.vret rfl rfl (by rw [x_X2_putNumber, if_pos c_3_1]) (Nat.le_of_ble_eq_true rfl) (Nat.le_of_ble_eq_true rfl) dX2_putNumber_30
  · refine K.aload_n (q := 7) dX2_putNumber_6 rfl rfl ?_
    refine K.bipush (q := 9) (v := 48) dX2_putNumber_7 rfl (by decide) ?_
    refine K.iload_n (q := 10) dX2_putNumber_9 rfl rfl ?_
    refine K.bipush (q := 12) (v := 10) dX2_putNumber_10 rfl (by decide) ?_
    refine K.idiv (q := 13) dX2_putNumber_12 rfl (by decide) ?_
    refine K.iadd (q := 14) dX2_putNumber_13 rfl ?_
    refine K.i2c (q := 15) dX2_putNumber_14 rfl ?_
    refine K.callVv0 (q := 18) mkX2_put mw_X2_23 (s_X2_put _ _ _) rfl (by decide) rfl (lt141 (by decide)) rx124b (Nat.le_of_ble_eq_true rfl) (Nat.le_of_ble_eq_true rfl) (Nat.le_of_ble_eq_true rfl) dX2_putNumber_15 rfl ?_
    refine K.aload_n (q := 19) dX2_putNumber_18 rfl rfl ?_
    refine K.bipush (q := 21) (v := 48) dX2_putNumber_19 rfl (by decide) ?_
    refine K.iload_n (q := 22) dX2_putNumber_21 rfl rfl ?_
    refine K.bipush (q := 24) (v := 10) dX2_putNumber_22 rfl (by decide) ?_
    refine K.irem (q := 25) dX2_putNumber_24 rfl (by decide) ?_
    refine K.iadd (q := 26) dX2_putNumber_25 rfl ?_
    refine K.i2c (q := 27) dX2_putNumber_26 rfl ?_
    refine K.callVv0 (q := 30) mkX2_put mw_X2_23 (s_X2_put _ _ _) rfl (by decide) rfl (lt141 (by decide)) rx124b (Nat.le_of_ble_eq_true rfl) (Nat.le_of_ble_eq_true rfl) (Nat.le_of_ble_eq_true rfl) dX2_putNumber_27 rfl ?_
    exact C.vret rfl rfl (by rw [x_X2_putNumber, if_neg c_3_1]) (Nat.le_of_ble_eq_true rfl) (Nat.le_of_ble_eq_true rfl) dX2_putNumber_30

def x_X0_writePiece (X : GS) (b : BD) (unit : Int32) : GS := (if 0 ≤ (r_X3_holderOf b unit) then (x_X2_putNumber (x_X2_put (x_X2_putNumber X (r_X0_pieceSize b unit)) 61) (r_X3_holderOf b unit)) else (x_X2_put (x_X2_putNumber X (r_X0_pieceSize b unit)) 46))
set_option maxRecDepth 20000 in
theorem s_X0_writePiece (X : GS) (b : BD) (unit : Int32) : Ct 5 0 0 yX0_writePiece (.code yX0_writePiece cX0_writePiece 4 none) [.ref 1, .ref 124, .int unit] (mkH (uB X 0 b)) (.inl none) (mkH (uB (x_X0_writePiece X b unit) 0 b)) := by
  refine Ct.of (LL := [some (.ref 1), some (.ref 124), some (.int unit), none]) mkX0_writePiece.1 owX0_writePiece rfl (Nat.le_of_ble_eq_true rfl) rfl (fun Wk C => ?_)
  have K := C.core
  refine K.aload_n (q := 1) dX0_writePiece_0 rfl rfl ?_
  refine K.getf (q := 4) (v := .ref 4) fo_X0_21.r rb1 (lt141 (by decide)) rfl dX0_writePiece_1 rfl ?_
  refine K.iload_n (q := 5) dX0_writePiece_4 rfl rfl ?_
  refine K.callV0 (q := 8) mkX3_holderOf mw_X0_119 (s_X3_holderOf _ _ _) rfl (by decide) rfl (lt141 (by decide)) rb4 (Nat.le_of_ble_eq_true rfl) (Nat.le_of_ble_eq_true rfl) (Nat.le_of_ble_eq_true rfl) dX0_writePiece_5 rfl ?_
  refine K.istore_n (q := 9) (i := 3) dX0_writePiece_8 rfl rfl (by decide) rfl ?_
  refine K.aload_n (q := 10) dX0_writePiece_9 rfl rfl ?_
  refine K.aload_n (q := 11) dX0_writePiece_10 rfl rfl ?_
  refine K.iload_n (q := 12) dX0_writePiece_11 rfl rfl ?_
  refine K.callV0 (q := 15) mkX0_pieceSize mw_X0_160 (s_X0_pieceSize _ _ _) rfl (by decide) rfl (lt141 (by decide)) rb1 (Nat.le_of_ble_eq_true rfl) (Nat.le_of_ble_eq_true rfl) (Nat.le_of_ble_eq_true rfl) dX0_writePiece_12 rfl ?_
  refine K.callVv0 (q := 18) mkX2_putNumber mw_X0_163 (s_X2_putNumber _ _ _) rfl (by decide) rfl (lt141 (by decide)) rx124b (Nat.le_of_ble_eq_true rfl) (Nat.le_of_ble_eq_true rfl) (Nat.le_of_ble_eq_true rfl) dX0_writePiece_15 rfl ?_
  refine K.iload_n (q := 19) dX0_writePiece_18 rfl rfl ?_
  refine K.if_ge (q := 22) (tgt := 31) dX0_writePiece_19 rfl (by decide) (fun c_19_1 => ?_) (fun c_19_1 => ?_)
  · refine K.aload_n (q := 32) dX0_writePiece_31 rfl rfl ?_
    refine K.bipush (q := 34) (v := 61) dX0_writePiece_32 rfl (by decide) ?_
    refine K.callVv0 (q := 37) mkX2_put mw_X0_153 (s_X2_put _ _ _) rfl (by decide) rfl (lt141 (by decide)) rx124b (Nat.le_of_ble_eq_true rfl) (Nat.le_of_ble_eq_true rfl) (Nat.le_of_ble_eq_true rfl) dX0_writePiece_34 rfl ?_
    refine K.aload_n (q := 38) dX0_writePiece_37 rfl rfl ?_
    refine K.iload_n (q := 39) dX0_writePiece_38 rfl rfl ?_
    refine K.callVv0 (q := 42) mkX2_putNumber mw_X0_163 (s_X2_putNumber _ _ _) rfl (by decide) rfl (lt141 (by decide)) rx124b (Nat.le_of_ble_eq_true rfl) (Nat.le_of_ble_eq_true rfl) (Nat.le_of_ble_eq_true rfl) dX0_writePiece_39 rfl ?_
    exact C.vret rfl rfl (by rw [x_X0_writePiece, if_pos c_19_1]) (Nat.le_of_ble_eq_true rfl) (Nat.le_of_ble_eq_true rfl) dX0_writePiece_42
  · refine K.aload_n (q := 23) dX0_writePiece_22 rfl rfl ?_
    refine K.bipush (q := 25) (v := 46) dX0_writePiece_23 rfl (by decide) ?_
    refine K.callVv0 (q := 28) mkX2_put mw_X0_153 (s_X2_put _ _ _) rfl (by decide) rfl (lt141 (by decide)) rx124b (Nat.le_of_ble_eq_true rfl) (Nat.le_of_ble_eq_true rfl) (Nat.le_of_ble_eq_true rfl) dX0_writePiece_25 rfl ?_
    refine K.goto (tgt := 42) dX0_writePiece_28 (by decide) ?_
    exact C.vret rfl rfl (by rw [x_X0_writePiece, if_neg c_19_1]) (Nat.le_of_ble_eq_true rfl) (Nat.le_of_ble_eq_true rfl) dX0_writePiece_42

def lp_X0_writePieces_6 (b : BD) : Nat → Nat → GS → GS
  | 0, _, XX => XX
  | j + 1, i, XX => (if (r_X0_pieceStart b (nI i)) = (nI i) then (if (nI i) ≤ 0 then (lp_X0_writePieces_6 b j (i + 1) (x_X0_writePiece XX b (nI i))) else (lp_X0_writePieces_6 b j (i + 1) (x_X0_writePiece (x_X2_put XX 32) b (nI i)))) else (lp_X0_writePieces_6 b j (i + 1) XX))

def x_X0_writePieces (X : GS) (b : BD) : GS := (lp_X0_writePieces_6 b 64 0 (x_X2_clear X))
set_option maxRecDepth 20000 in
theorem s_X0_writePieces (X : GS) (b : BD) : Ct 6 0 0 yX0_writePieces (.code yX0_writePieces cX0_writePieces 3 none) [.ref 1, .ref 124] (mkH (uB X 0 b)) (.inl none) (mkH (uB (x_X0_writePieces X b) 0 b)) := by
  refine Ct.of (LL := [some (.ref 1), some (.ref 124), none]) mkX0_writePieces.1 owX0_writePieces rfl (Nat.le_of_ble_eq_true rfl) rfl (fun Wk C => ?_)
  have K := C.core
  refine K.aload_n (q := 1) dX0_writePieces_0 rfl rfl ?_
  refine K.callVv0 (q := 4) mkX2_clear mw_X0_145 (s_X2_clear _ _) rfl (by decide) rfl (lt141 (by decide)) rx124b (Nat.le_of_ble_eq_true rfl) (Nat.le_of_ble_eq_true rfl) (Nat.le_of_ble_eq_true rfl) dX0_writePieces_1 rfl ?_
  refine K.iconst (q := 5) (v := 0) dX0_writePieces_4 rfl (by decide) ?_
  refine K.istore_n (q := 6) (i := 2) dX0_writePieces_5 rfl rfl (by decide) rfl ?_
  have L6 : ∀ (j i : Nat) (XX : GS), i + j = 64 → (Wk 0 0 43 [some (.ref 1), some (.ref 124), none] [] (mkH (uB (lp_X0_writePieces_6 b j i XX) 0 b))) → Wk 0 0 6 [some (.ref 1), some (.ref 124), some (.int (nI i))] [] (mkH (uB XX 0 b)) := by
    intro j
    induction j with
    | zero =>
      intro i XX hij hx
      refine K.iload_n (q := 7) dX0_writePieces_6 rfl rfl ?_
      refine K.bipush (q := 9) (v := 64) dX0_writePieces_7 rfl (by decide) ?_
      refine K.icmp_ge (q := 12) (tgt := 43) dX0_writePieces_9 rfl (by decide) (fun _ => ?_) (fun z => absurd z (not_not_intro (nI_le (a := 64) (b := i) (by omega) (by omega))))
      refine K.drop 2 ?_
      exact hx
    | succ j ih =>
      intro i XX hij hx
      refine K.iload_n (q := 7) dX0_writePieces_6 rfl rfl ?_
      refine K.bipush (q := 9) (v := 64) dX0_writePieces_7 rfl (by decide) ?_
      refine K.icmp_ge (q := 12) (tgt := 43) dX0_writePieces_9 rfl (by decide) (fun z => absurd z (nI_ge (a := i) (b := 64) (by omega) (by omega))) (fun _ => ?_)
      refine K.aload_n (q := 13) dX0_writePieces_12 rfl rfl ?_
      refine K.iload_n (q := 14) dX0_writePieces_13 rfl rfl ?_
      refine K.callV0 (q := 17) mkX0_pieceStart mw_X0_150 (s_X0_pieceStart _ _ _) rfl (by decide) rfl (lt141 (by decide)) rb1 (Nat.le_of_ble_eq_true rfl) (Nat.le_of_ble_eq_true rfl) (Nat.le_of_ble_eq_true rfl) dX0_writePieces_14 rfl ?_
      refine K.iload_n (q := 18) dX0_writePieces_17 rfl rfl ?_
      refine K.icmp_ne (q := 21) (tgt := 37) dX0_writePieces_18 rfl (by decide) (fun c_18_3 => ?_) (fun c_18_3 => ?_)
      · refine K.iinc (q := 40) (v := (nI (i + 1))) dX0_writePieces_37 rfl rfl (nI_1 _) (by decide) rfl ?_
        refine K.goto (tgt := 6) dX0_writePieces_40 (by decide) ?_
        rw [lp_X0_writePieces_6, if_neg c_18_3] at hx
        exact ih (i + 1) XX (by omega) hx
      · refine K.iload_n (q := 22) dX0_writePieces_21 rfl rfl ?_
        refine K.if_le (q := 25) (tgt := 31) dX0_writePieces_22 rfl (by decide) (fun c_22_4 => ?_) (fun c_22_4 => ?_)
        · refine K.aload_n (q := 32) dX0_writePieces_31 rfl rfl ?_
          refine K.aload_n (q := 33) dX0_writePieces_32 rfl rfl ?_
          refine K.iload_n (q := 34) dX0_writePieces_33 rfl rfl ?_
          refine K.callVv0 (q := 37) mkX0_writePiece mw_X0_156 (s_X0_writePiece _ _ _) rfl (by decide) rfl (lt141 (by decide)) rb1 (Nat.le_of_ble_eq_true rfl) (Nat.le_of_ble_eq_true rfl) (Nat.le_of_ble_eq_true rfl) dX0_writePieces_34 rfl ?_
          refine K.iinc (q := 40) (v := (nI (i + 1))) dX0_writePieces_37 rfl rfl (nI_1 _) (by decide) rfl ?_
          refine K.goto (tgt := 6) dX0_writePieces_40 (by decide) ?_
          rw [lp_X0_writePieces_6, if_pos c_18_3, if_pos c_22_4] at hx
          exact ih (i + 1) (x_X0_writePiece XX b (nI i)) (by omega) hx
        · refine K.aload_n (q := 26) dX0_writePieces_25 rfl rfl ?_
          refine K.bipush (q := 28) (v := 32) dX0_writePieces_26 rfl (by decide) ?_
          refine K.callVv0 (q := 31) mkX2_put mw_X0_153 (s_X2_put _ _ _) rfl (by decide) rfl (lt141 (by decide)) rx124b (Nat.le_of_ble_eq_true rfl) (Nat.le_of_ble_eq_true rfl) (Nat.le_of_ble_eq_true rfl) dX0_writePieces_28 rfl ?_
          refine K.aload_n (q := 32) dX0_writePieces_31 rfl rfl ?_
          refine K.aload_n (q := 33) dX0_writePieces_32 rfl rfl ?_
          refine K.iload_n (q := 34) dX0_writePieces_33 rfl rfl ?_
          refine K.callVv0 (q := 37) mkX0_writePiece mw_X0_156 (s_X0_writePiece _ _ _) rfl (by decide) rfl (lt141 (by decide)) rb1 (Nat.le_of_ble_eq_true rfl) (Nat.le_of_ble_eq_true rfl) (Nat.le_of_ble_eq_true rfl) dX0_writePieces_34 rfl ?_
          refine K.iinc (q := 40) (v := (nI (i + 1))) dX0_writePieces_37 rfl rfl (nI_1 _) (by decide) rfl ?_
          refine K.goto (tgt := 6) dX0_writePieces_40 (by decide) ?_
          rw [lp_X0_writePieces_6, if_pos c_18_3, if_neg c_22_4] at hx
          exact ih (i + 1) (x_X0_writePiece (x_X2_put XX 32) b (nI i)) (by omega) hx
  refine L6 64 0 (x_X2_clear X) (by omega) ?_
  exact C.vret rfl rfl (by rw [x_X0_writePieces]) (Nat.le_of_ble_eq_true rfl) (Nat.le_of_ble_eq_true rfl) dX0_writePieces_43

def lp_X0_writeUnits_6 (b : BD) : Nat → Nat → GS → GS
  | 0, _, XX => XX
  | j + 1, i, XX => (if 0 ≤ (r_X3_holderOf b (nI i)) then (lp_X0_writeUnits_6 b j (i + 1) (x_X2_put XX (((97 + (r_X3_holderOf b (nI i))).toUInt32 % 65536).toInt32))) else (lp_X0_writeUnits_6 b j (i + 1) (x_X2_put XX 46)))

def x_X0_writeUnits (X : GS) (b : BD) : GS := (lp_X0_writeUnits_6 b 64 0 (x_X2_clear X))