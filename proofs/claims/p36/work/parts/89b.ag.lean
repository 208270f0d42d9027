/-! ===== p36: boards that agree where the class reads ===== -/
def ag (b b' : BD) : Prop := (∀ k, k < 5 → b.1 k = b'.1 k) ∧ (∀ i, i < 64 → b.2 0 i = b'.2 0 i) ∧ (∀ k, 1 ≤ k → k ≤ 4 → ∀ i, i < 16 → b.2 k i = b'.2 k i) ∧ ∀ k, 5 ≤ k → k ≤ 6 → ∀ i, i < 6 → b.2 k i = b'.2 k i
theorem ag.rf {b : BD} : ag b b := ⟨fun _ _ => rfl, fun _ _ => rfl, fun _ _ _ _ _ => rfl, fun _ _ _ _ _ => rfl⟩
theorem ag.tr {a b c : BD} (h : ag a b) (h' : ag b c) : ag a c := ⟨fun k hk => (h.1 k hk).trans (h'.1 k hk), fun i hi => (h.2.1 i hi).trans (h'.2.1 i hi), fun k h1 h2 i hi => (h.2.2.1 k h1 h2 i hi).trans (h'.2.2.1 k h1 h2 i hi), fun k h1 h2 i hi => (h.2.2.2 k h1 h2 i hi).trans (h'.2.2.2 k h1 h2 i hi)⟩
theorem ag.sy {a b : BD} (h : ag a b) : ag b a := ⟨fun k hk => (h.1 k hk).symm, fun i hi => (h.2.1 i hi).symm, fun k h1 h2 i hi => (h.2.2.1 k h1 h2 i hi).symm, fun k h1 h2 i hi => (h.2.2.2 k h1 h2 i hi).symm⟩
theorem cpy_lt {n i : Nat} {f g : Nat → Int32} (h : i < n) : cpy n f g i = f i := by simp [cpy, h]
theorem ag_cpB (s b : BD) : ag (cpB s b) s := by
  refine ⟨fun k hk => ?_, fun i hi => cpy_lt hi, fun k h1 h2 i hi => ?_, fun k h1 h2 i hi => ?_⟩
  · rcases (show k = 0 ∨ k = 1 ∨ k = 2 ∨ k = 3 ∨ k = 4 by omega) with rfl | rfl | rfl | rfl | rfl <;> rfl
  · rcases (show k = 1 ∨ k = 2 ∨ k = 3 ∨ k = 4 by omega) with rfl | rfl | rfl | rfl <;> exact cpy_lt hi
  · rcases (show k = 5 ∨ k = 6 by omega) with rfl | rfl <;> exact cpy_lt hi
theorem clamp_lt {x : Int32} {n : Nat} (h0 : ¬ x < 0) (h : ¬ nI n ≤ x) (hn : n < 2147483648) : x.toNatClampNeg < n := by
  have h1 : x = nI x.toNatClampNeg := by
    have h2 : (0 : Int) ≤ x.toInt := by
      have h3 := Int32.not_lt.mp h0
      have h4 := Int32.le_iff_toInt_le.mp h3
      simpa using h4
    rw [← Int32.toInt_inj]
    show x.toInt = (Int32.ofNat x.toInt.toNat).toInt
    have h5 := i32_max x
    rw [Int32.toInt_ofNat_of_lt (by omega)]
    omega
  refine Nat.lt_of_not_le (fun h2 => h ?_)
  rw [h1]
  refine nI_le h2 ?_
  have h5 := i32_max x
  show x.toInt.toNat < 2 ^ 31
  omega
theorem ag_has3 {b b' : BD} (h : ag b b') (l : Int32) : r_X3_has b l = r_X3_has b' l := by unfold r_X3_has; rw [h.1 3 (by decide)]
theorem ag_has6 {b b' : BD} (h : ag b b') (l : Int32) : r_X6_has b l = r_X6_has b' l := by unfold r_X6_has; rw [h.1 4 (by decide)]
theorem has3_16 {b : BD} {l : Int32} (hh : ¬ r_X3_has b l = 0) : l.toNatClampNeg < 16 := by
  unfold r_X3_has at hh
  by_cases h1 : l < 0
  · rw [if_pos h1] at hh; exact absurd rfl hh
  rw [if_neg h1] at hh
  by_cases h2 : b.1 3 ≤ l
  · rw [if_pos h2] at hh; exact absurd rfl hh
  rw [if_neg h2] at hh
  by_cases h3 : 16 ≤ l
  · rw [if_pos h3] at hh; exact absurd rfl hh
  exact clamp_lt h1 h3 (by decide)
theorem has6_6 {b : BD} {l : Int32} (hh : ¬ r_X6_has b l = 0) : l.toNatClampNeg < 6 := by
  unfold r_X6_has at hh
  by_cases h1 : l < 0
  · rw [if_pos h1] at hh; exact absurd rfl hh
  rw [if_neg h1] at hh
  by_cases h2 : b.1 4 ≤ l
  · rw [if_pos h2] at hh; exact absurd rfl hh
  rw [if_neg h2] at hh
  by_cases h3 : 6 ≤ l
  · rw [if_pos h3] at hh; exact absurd rfl hh
  exact clamp_lt h1 h3 (by decide)
theorem ag_name {b b' : BD} (h : ag b b') (l : Int32) : r_X3_nameAt b l = r_X3_nameAt b' l := by
  unfold r_X3_nameAt
  rw [← ag_has3 h l]
  by_cases hh : r_X3_has b l = 0
  · rw [if_pos hh, if_pos hh]
  · rw [if_neg hh, if_neg hh]; exact h.2.2.1 1 (by decide) (by decide) _ (has3_16 hh)
theorem ag_am {b b' : BD} (h : ag b b') (l : Int32) : r_X3_amountAt b l = r_X3_amountAt b' l := by
  unfold r_X3_amountAt
  rw [← ag_has3 h l]
  by_cases hh : r_X3_has b l = 0
  · rw [if_pos hh, if_pos hh]
  · rw [if_neg hh, if_neg hh]; exact h.2.2.1 2 (by decide) (by decide) _ (has3_16 hh)
theorem ag_st {b b' : BD} (h : ag b b') (l : Int32) : r_X3_startAt b l = r_X3_startAt b' l := by
  unfold r_X3_startAt
  rw [← ag_has3 h l]
  by_cases hh : r_X3_has b l = 0
  · rw [if_pos hh, if_pos hh]
  · rw [if_neg hh, if_neg hh]; exact h.2.2.1 3 (by decide) (by decide) _ (has3_16 hh)
theorem ag_sz {b b' : BD} (h : ag b b') (l : Int32) : r_X3_sizeAt b l = r_X3_sizeAt b' l := by
  unfold r_X3_sizeAt
  rw [← ag_has3 h l]
  by_cases hh : r_X3_has b l = 0
  · rw [if_pos hh, if_pos hh]
  · rw [if_neg hh, if_neg hh]; exact h.2.2.1 4 (by decide) (by decide) _ (has3_16 hh)
theorem ag_wn {b b' : BD} (h : ag b b') (l : Int32) : r_X6_nameAt b l = r_X6_nameAt b' l := by
  unfold r_X6_nameAt
  rw [← ag_has6 h l]
  by_cases hh : r_X6_has b l = 0
  · rw [if_pos hh, if_pos hh]
  · rw [if_neg hh, if_neg hh]; exact h.2.2.2 5 (by decide) (by decide) _ (has6_6 hh)
theorem ag_wa {b b' : BD} (h : ag b b') (l : Int32) : r_X6_amountAt b l = r_X6_amountAt b' l := by
  unfold r_X6_amountAt
  rw [← ag_has6 h l]
  by_cases hh : r_X6_has b l = 0
  · rw [if_pos hh, if_pos hh]
  · rw [if_neg hh, if_neg hh]; exact h.2.2.2 6 (by decide) (by decide) _ (has6_6 hh)
theorem ag_lam {b b' : BD} (h : ag b b') : ∀ (j i : Nat) (v : Int32), lp_X3_allAmounts_4 b j i v = lp_X3_allAmounts_4 b' j i v
  | 0, _, _ => rfl
  | j + 1, i, v => by
    unfold lp_X3_allAmounts_4
    rw [ag_am h, ag_lam h j]
theorem ag_lsz {b b' : BD} (h : ag b b') : ∀ (j i : Nat) (v : Int32), lp_X3_allSizes_4 b j i v = lp_X3_allSizes_4 b' j i v
  | 0, _, _ => rfl
  | j + 1, i, v => by
    unfold lp_X3_allSizes_4
    rw [ag_sz h, ag_lsz h j]
theorem ag_lco {b b' : BD} (h : ag b b') (z : Int32) : ∀ (j i : Nat) (v : Int32), i + j ≤ 64 → lp_X5_countOfSize_4 b z j i v = lp_X5_countOfSize_4 b' z j i v
  | 0, _, _, _ => rfl
  | j + 1, i, v, hj => by
    unfold lp_X5_countOfSize_4
    rw [h.2.1 i (by omega), ag_lco h z j _ _ (by omega), ag_lco h z j _ _ (by omega)]
theorem ag_isIn {b b' : BD} (h : ag b b') (l s z : Int32) : r_X3_isIn b l s z = r_X3_isIn b' l s z := by
  unfold r_X3_isIn
  rw [← ag_has3 h l]
  by_cases hh : r_X3_has b l = 0
  · rw [if_pos hh, if_pos hh]
  · rw [if_neg hh, if_neg hh, h.2.2.1 3 (by decide) (by decide) _ (has3_16 hh), h.2.2.1 4 (by decide) (by decide) _ (has3_16 hh)]
theorem ag_lho {b b' : BD} (h : ag b b') (u : Int32) : ∀ (j i : Nat), lp_X3_holderOf_2 b u j i = lp_X3_holderOf_2 b' u j i
  | 0, _ => rfl
  | j + 1, i => by
    unfold lp_X3_holderOf_2
    rw [ag_isIn h, ag_lho h u j]
theorem ag_hold {b b' : BD} (h : ag b b') (u : Int32) : r_X3_holderOf b u = r_X3_holderOf b' u := by
  unfold r_X3_holderOf
  rw [h.1 3 (by decide), ag_lho h]
theorem ag_lso {b b' : BD} (h : ag b b') (u : Int32) : ∀ (j i : Nat), i + j ≤ 64 → lp_X5_startOf_2 b u j i = lp_X5_startOf_2 b' u j i
  | 0, _, _ => rfl
  | j + 1, i, hj => by
    unfold lp_X5_startOf_2
    rw [h.2.1 i (by omega), ag_lso h u j _ (by omega)]
theorem ag_so {b b' : BD} (h : ag b b') (u : Int32) : r_X5_startOf b u = r_X5_startOf b' u := by
  unfold r_X5_startOf
  rw [ag_lso h _ _ _ (by decide)]
theorem ag_ps {b b' : BD} (h : ag b b') (u : Int32) : r_X0_pieceStart b u = r_X0_pieceStart b' u := by
  unfold r_X0_pieceStart
  rw [ag_hold h, ag_so h, ag_st h]
theorem ag_po {b b' : BD} (h : ag b b') (u : Int32) : r_X7_pieceOf b u 1 = r_X7_pieceOf b' u 1 := by
  show (if r_X7_isUnit u = 0 then 0 else r_X0_pieceStart b u) = (if r_X7_isUnit u = 0 then 0 else r_X0_pieceStart b' u)
  rw [ag_ps h]
theorem ag_acc {b b' : BD} (h : ag b b') (X X' : GS) {k : Nat} (hk : k < 9) : r_X7_account X b (nI k) = r_X7_account X' b' (nI k) := by
  have e1 : r_X3_allAmounts b = r_X3_allAmounts b' := by unfold r_X3_allAmounts; rw [h.1 3 (by decide), ag_lam h]
  have e2 : r_X3_allSizes b = r_X3_allSizes b' := by unfold r_X3_allSizes; rw [h.1 3 (by decide), ag_lsz h]
  have e3 : r_X5_countAll b = r_X5_countAll b' := by unfold r_X5_countAll r_X5_countOfSize; rw [ag_lco h _ _ _ _ (by decide)]
  unfold r_X7_account
  rw [e1, e2, e3, h.1 0 (by decide), h.1 1 (by decide), h.1 2 (by decide), h.1 3 (by decide), h.1 4 (by decide)]
  rcases (show k = 0 ∨ k = 1 ∨ k = 2 ∨ k = 3 ∨ k = 4 ∨ k = 5 ∨ k = 6 ∨ k = 7 ∨ k = 8 by omega) with rfl | rfl | rfl | rfl | rfl | rfl | rfl | rfl | rfl <;> rfl
theorem ag_loan {b b' : BD} (h : ag b b') (l w : Int32) : r_X7_loanOf b l w = r_X7_loanOf b' l w := by
  unfold r_X7_loanOf
  rw [ag_has3 h, ag_name h, ag_am h, ag_st h, ag_sz h]
theorem ag_wait {b b' : BD} (h : ag b b') (l w : Int32) : r_X7_waitingOf b l w = r_X7_waitingOf b' l w := by
  unfold r_X7_waitingOf
  rw [ag_has6 h, ag_wn h, ag_wa h]
theorem ag_l3 {b b' : BD} (h : ag b b') (name : Int32) : ∀ (j i : Nat) (v : Int32), lp_X3_countOf_4 b name j i v = lp_X3_countOf_4 b' name j i v
  | 0, _, _ => rfl
  | j + 1, i, v => by
    unfold lp_X3_countOf_4
    rw [ag_name h, ag_l3 h name j, ag_l3 h name j]
theorem ag_c3 {b b' : BD} (h : ag b b') (name : Int32) : r_X3_countOf b name = r_X3_countOf b' name := by
  unfold r_X3_countOf
  rw [h.1 3 (by decide), ag_l3 h]
theorem ag_l6 {b b' : BD} (h : ag b b') (name : Int32) : ∀ (j i : Nat) (v : Int32), lp_X6_countOf_4 b name j i v = lp_X6_countOf_4 b' name j i v
  | 0, _, _ => rfl
  | j + 1, i, v => by
    unfold lp_X6_countOf_4
    rw [ag_wn h, ag_l6 h name j, ag_l6 h name j]
theorem ag_c6 {b b' : BD} (h : ag b b') (name : Int32) : r_X6_countOf b name = r_X6_countOf b' name := by
  unfold r_X6_countOf
  rw [h.1 4 (by decide), ag_l6 h]
theorem ag_st4 {b b' : BD} (h : ag b b') : ∀ (j u : Nat) (v : Int32), st4 b j u v = st4 b' j u v
  | 0, _, _ => rfl
  | j + 1, u, v => by
    unfold st4
    rw [ag_po h, ag_st4 h j]
theorem ag_st3i {b b' : BD} (h : ag b b') (l : Nat) : ∀ (j k : Nat) (v : Int32), st3i b l j k v = st3i b' l j k v
  | 0, _, _ => rfl
  | j + 1, k, v => by
    unfold st3i
    rw [ag_wait h, ag_st3i h l j]
theorem ag_st3 {b b' : BD} (h : ag b b') : ∀ (j l : Nat) (v : Int32), st3 b j l v = st3 b' j l v
  | 0, _, _ => rfl
  | j + 1, l, v => by
    unfold st3
    rw [ag_st3i h, ag_st3 h j]
theorem ag_st2i {b b' : BD} (h : ag b b') (l : Nat) : ∀ (j k : Nat) (v : Int32), st2i b l j k v = st2i b' l j k v
  | 0, _, _ => rfl
  | j + 1, k, v => by
    unfold st2i
    rw [ag_loan h, ag_st2i h l j]
theorem ag_st2 {b b' : BD} (h : ag b b') : ∀ (j l : Nat) (v : Int32), st2 b j l v = st2 b' j l v
  | 0, _, _ => rfl
  | j + 1, l, v => by
    unfold st2
    rw [ag_st2i h, ag_st2 h j]
theorem ag_st1 {X X' : GS} (h : ag (X.1 0) (X'.1 0)) : ∀ (j k : Nat) (v : Int32), k + j ≤ 9 → st1 X j k v = st1 X' j k v
  | 0, _, _, _ => rfl
  | j + 1, k, v, hj => by
    unfold st1
    rw [ag_acc h X X' (by omega), ag_st1 h j _ _ (by omega)]
theorem ag_stH {X X' : GS} (h : ag (X.1 0) (X'.1 0)) (nl nw : Nat) : stH X nl nw = stH X' nl nw := by
  unfold stH
  rw [ag_st1 h _ _ _ (by decide), ag_st2 h, ag_st3 h, ag_st4 h]
/-- nobody is called 77 -/
theorem no77_3 {b : BD} (hI : IB b) : r_X3_countOf b 77 = 0 := by
  have hl : ∀ (j i : Nat) (v : Int32), lp_X3_countOf_4 b 77 j i v = v := by
    intro j
    induction j with
    | zero => intro i v; rfl
    | succ j ih =>
      intro i v
      unfold lp_X3_countOf_4
      rw [if_neg, ih]
      unfold r_X3_nameAt
      split
      · decide
      · exact hI.2.2.2.1 _
  exact hl _ _ _
theorem no77_6 {b : BD} (hI : IB b) : r_X6_countOf b 77 = 0 := by
  have hl : ∀ (j i : Nat) (v : Int32), lp_X6_countOf_4 b 77 j i v = v := by
    intro j
    induction j with
    | zero => intro i v; rfl
    | succ j ih =>
      intro i v
      unfold lp_X6_countOf_4
      rw [if_neg, ih]
      exact nv_name6 hI _
  exact hl _ _ _
