/-! ===== the pure part, 17: questions of loans and of those who wait ===== -/
/-- a question: e what the class throws, r what it answers; o what the reference does at Y -/
def QB (e : String) (r : Int32) (E1 E2 : String) (Y : GS) (o : Option (Int32 × GS)) : Prop :=
  (e = "" ∧ o = some (r, uS Y 19 0)) ∨ (e = E1 ∧ o = some (0, uS (uS Y 19 1) 17 0)) ∨ (e = E2 ∧ o = some (0, uS (uS Y 19 2) 17 0))
section
variable {p : Nat → Nat} {F : Nat → Bool} {L : tL} {W : tWt} {w : Nat} {b : BD} {Y : GS}
theorem sizeOf_ok (B : BG p F L W w b (Y.2.2.1 5)) {l : Nat} {q : Nat × Nat × Nat} (hq : L[l]? = some q) : m_X8_sizeOf Y (nI l) = some (nI (nd q.2.1)) := by
  have hl := get_lt hq
  have h16 := B.1.2.2.2.2.1
  have q4 := B.1.2.2.2.1 q (get_mem hq)
  have a97 : (97 : Int32) + nI l = nI (97 + l) := nI_add 97 l
  have gq := (B.2.2.1.2.2.2.2.1 l q hq).2.2
  have gst : Y.2.2.1 5 q.2.2 = nI (nd q.2.1) := by rw [B.2.2.1.1 _ q4.2.2.2.1, q4.2.2.2.2]
  unfold m_X8_sizeOf
  simp only [a97, if_pos (inR_nI (show 97 + l < 129 by omega) (show 129 < 2 ^ 31 by omega)), nI_clamp (show 97 + l < 2 ^ 31 by omega), gq, if_pos (inR_nI (show q.2.2 < 129 by omega) (show 129 < 2 ^ 31 by omega)), nI_clamp (show q.2.2 < 2 ^ 31 by omega), gst]
theorem lp_held0 (B : BG p F L W w b (Y.2.2.1 5)) (x : Int32) : ∀ (j i : Nat) (a : Int32), i + j = L.length → lp_X8_held_5 Y x 0 j i a = some (lp_X3_countOf_4 b x j i a) := by
  intro j
  induction j with
  | zero => intro i a hi; rfl
  | succ j ih =>
    intro i a hi
    have h16 := B.1.2.2.2.2.1
    obtain ⟨q, hq⟩ := get_ex (L := L) (l := i) (by omega)
    have gq := B.2.2.1.2.2.2.2.1 i q hq
    rw [lp_X3_countOf_4, lp_X8_held_5, (loan_at B.1 B.2.1 hq).1, if_pos (by omega), gq.1]
    by_cases e : nI q.1 = x
    · rw [if_pos e, if_pos e, if_pos rfl]; exact ih _ _ (by omega)
    · rw [if_neg e, if_neg e]; exact ih _ _ (by omega)
theorem lp_held1 (B : BG p F L W w b (Y.2.2.1 5)) (x : Int32) : ∀ (j i : Nat) (a : Int32), i + j = L.length → lp_X8_held_5 Y x 1 j i a = some (lp_X3_amountsOf_4 b x j i a) := by
  intro j
  induction j with
  | zero => intro i a hi; rfl
  | succ j ih =>
    intro i a hi
    have h16 := B.1.2.2.2.2.1
    obtain ⟨q, hq⟩ := get_ex (L := L) (l := i) (by omega)
    have gq := B.2.2.1.2.2.2.2.1 i q hq
    obtain ⟨l1, l2, l3, l4⟩ := loan_at B.1 B.2.1 hq
    rw [lp_X3_amountsOf_4, lp_X8_held_5, l1, l2, if_pos (by omega), gq.1]
    by_cases e : nI q.1 = x
    · rw [if_pos e, if_pos e, if_neg (by decide), if_pos rfl, if_pos (by omega), gq.2.1]; exact ih _ _ (by omega)
    · rw [if_neg e, if_neg e]; exact ih _ _ (by omega)
theorem lp_held2 (B : BG p F L W w b (Y.2.2.1 5)) (x : Int32) : ∀ (j i : Nat) (a : Int32), i + j = L.length → lp_X8_held_5 Y x 2 j i a = some (lp_X3_sizesOf_4 b x j i a) := by
  intro j
  induction j with
  | zero => intro i a hi; rfl
  | succ j ih =>
    intro i a hi
    have h16 := B.1.2.2.2.2.1
    obtain ⟨q, hq⟩ := get_ex (L := L) (l := i) (by omega)
    have gq := B.2.2.1.2.2.2.2.1 i q hq
    obtain ⟨l1, l2, l3, l4⟩ := loan_at B.1 B.2.1 hq
    rw [lp_X3_sizesOf_4, lp_X8_held_5, l1, l4, if_pos (by omega), gq.1]
    by_cases e : nI q.1 = x
    · rw [if_pos e, if_pos e, if_neg (by decide), if_neg (by decide), sizeOf_ok B hq, bnd1_some]; exact ih _ _ (by omega)
    · rw [if_neg e, if_neg e]; exact ih _ _ (by omega)
theorem held_ok (B : BG p F L W w b (Y.2.2.1 5)) (x : Int32) : m_X8_held Y x 0 = some (r_X3_countOf b x) ∧ m_X8_held Y x 1 = some (r_X3_amountsOf b x) ∧ m_X8_held Y x 2 = some (r_X3_sizesOf b x) := by
  have h16 := B.1.2.2.2.2.1
  unfold m_X8_held r_X3_countOf r_X3_amountsOf r_X3_sizesOf
  rw [B.2.1.2.2.1, B.2.2.1.2.2.1, nI_clamp (by omega), lp_held0 B x L.length 0 0 (by omega), lp_held1 B x L.length 0 0 (by omega), lp_held2 B x L.length 0 0 (by omega)]
  exact ⟨rfl, rfl, rfl⟩
theorem lp_all1 (B : BG p F L W w b (Y.2.2.1 5)) : ∀ (j i : Nat) (a : Int32), i + j = L.length → lp_X8_all_4 Y 1 j i a = some (lp_X3_allAmounts_4 b j i a) := by
  intro j
  induction j with
  | zero => intro i a hi; rfl
  | succ j ih =>
    intro i a hi
    have h16 := B.1.2.2.2.2.1
    obtain ⟨q, hq⟩ := get_ex (L := L) (l := i) (by omega)
    have gq := B.2.2.1.2.2.2.2.1 i q hq
    obtain ⟨l1, l2, l3, l4⟩ := loan_at B.1 B.2.1 hq
    rw [lp_X3_allAmounts_4, lp_X8_all_4, l2, if_pos rfl, if_pos (by omega), gq.2.1]; exact ih _ _ (by omega)
theorem lp_all2 (B : BG p F L W w b (Y.2.2.1 5)) : ∀ (j i : Nat) (a : Int32), i + j = L.length → lp_X8_all_4 Y 2 j i a = some (lp_X3_allSizes_4 b j i a) := by
  intro j
  induction j with
  | zero => intro i a hi; rfl
  | succ j ih =>
    intro i a hi
    have h16 := B.1.2.2.2.2.1
    obtain ⟨q, hq⟩ := get_ex (L := L) (l := i) (by omega)
    obtain ⟨l1, l2, l3, l4⟩ := loan_at B.1 B.2.1 hq
    rw [lp_X3_allSizes_4, lp_X8_all_4, l4, if_neg (by decide), sizeOf_ok B hq, bnd1_some]; exact ih _ _ (by omega)
theorem all_sums (B : BG p F L W w b (Y.2.2.1 5)) : m_X8_all Y 1 = some (r_X3_allAmounts b) ∧ m_X8_all Y 2 = some (r_X3_allSizes b) := by
  have h16 := B.1.2.2.2.2.1
  unfold m_X8_all r_X3_allAmounts r_X3_allSizes
  rw [B.2.1.2.2.1, B.2.2.1.2.2.1, nI_clamp (by omega), lp_all1 B L.length 0 0 (by omega), lp_all2 B L.length 0 0 (by omega)]
  exact ⟨rfl, rfl⟩
/-- promise 9 -/
theorem q_loanOf (B : BG p F L W w b (Y.2.2.1 5)) (x y : Int32) : QB (e_X7_loanOf b x y) (r_X7_loanOf b x y) "java/lang/IndexOutOfBoundsException" "java/lang/IllegalArgumentException" Y (m_X8_loanOf Y x y) := by
  have h16 := B.1.2.2.2.2.1
  unfold e_X7_loanOf r_X7_loanOf m_X8_loanOf
  rcases loan_cases (X := Y) B.2.1.2.2.1 h16 B.2.2.1.2.2.1 x with ⟨⟨l, hl, rfl⟩, h1, h2⟩ | ⟨h1, h2⟩
  · obtain ⟨q, hq⟩ := get_ex hl
    obtain ⟨l1, l2, l3, l4⟩ := loan_at B.1 B.2.1 hq
    have gq := B.2.2.1.2.2.2.2.1 l q hq
    simp only [h1, h2, bnd1_some, if_neg (show ¬ (1 : Int32) = 0 by decide), l1, l2, l3, l4, sizeOf_ok B hq]
    by_cases e0 : y = 0
    · subst e0
      have e : (65 + (16 * 0) : Int32) + nI l = nI (65 + l) := nI_add 65 l
      simp only [if_true, e, if_pos (inR_nI (show 65 + l < 129 by omega) (show 129 < 2 ^ 31 by omega)), nI_clamp (show 65 + l < 2 ^ 31 by omega), gq.1]
      exact Or.inl ⟨rfl, rfl⟩
    · simp only [if_neg e0]
      by_cases e1 : y = 1
      · subst e1
        have e : (65 + (16 * 1) : Int32) + nI l = nI (81 + l) := nI_add 81 l
        simp only [if_true, e, if_pos (inR_nI (show 81 + l < 129 by omega) (show 129 < 2 ^ 31 by omega)), nI_clamp (show 81 + l < 2 ^ 31 by omega), gq.2.1]
        exact Or.inl ⟨rfl, rfl⟩
      · simp only [if_neg e1]
        by_cases e2 : y = 2
        · subst e2
          have e : (65 + (16 * 2) : Int32) + nI l = nI (97 + l) := nI_add 97 l
          simp only [if_true, e, if_pos (inR_nI (show 97 + l < 129 by omega) (show 129 < 2 ^ 31 by omega)), nI_clamp (show 97 + l < 2 ^ 31 by omega), gq.2.2]
          exact Or.inl ⟨rfl, rfl⟩
        · simp only [if_neg e2]
          by_cases e3 : y = 3
          · subst e3
            simp only [if_true]
            exact Or.inl ⟨rfl, rfl⟩
          · simp only [if_neg e3]
            by_cases e4 : y = 4
            · subst e4
              have e : (81 : Int32) + nI l = nI (81 + l) := nI_add 81 l
              simp only [if_true, e, if_pos (inR_nI (show 81 + l < 129 by omega) (show 129 < 2 ^ 31 by omega)), nI_clamp (show 81 + l < 2 ^ 31 by omega), gq.2.1]
              exact Or.inl ⟨rfl, rfl⟩
            · simp only [if_neg e4]
              exact Or.inr (Or.inr ⟨rfl, rfl⟩)
  · simp only [h1, h2, bnd1_some, if_true]
    exact Or.inr (Or.inl ⟨rfl, rfl⟩)
theorem what3 (y : Int32) (h : ¬ y = 0) (h1 : ¬ y = 1) (h2 : ¬ y = 2) (h3 : ¬ y = 3) : m_X8_in y 0 3 = some 0 := by
  rcases in_cases (x := y) (n := 3) (by omega) with ⟨⟨k, hk, rfl⟩, -⟩ | ⟨-, h9⟩
  · exfalso
    rcases (show k = 0 ∨ k = 1 ∨ k = 2 ∨ k = 3 by omega) with rfl | rfl | rfl | rfl
    · exact h rfl
    · exact h1 rfl
    · exact h2 rfl
    · exact h3 rfl
  · exact h9
/-- promise 10 -/
theorem q_nameOf (B : BG p F L W w b (Y.2.2.1 5)) (x y : Int32) : QB (e_X7_nameOf x y) (r_X7_nameOf b x y) "java/lang/IllegalArgumentException" "java/lang/IndexOutOfBoundsException" Y (m_X8_nameOf Y x y) := by
  unfold e_X7_nameOf r_X7_nameOf m_X8_nameOf
  rcases name_cases x with ⟨-, h1, h2⟩ | ⟨h1, h2⟩
  · obtain ⟨k0, k1, k2⟩ := held_ok B x
    have k3 := waitFor_ok B x
    simp only [h1, h2, bnd1_some, if_neg (show ¬ (1 : Int32) = 0 by decide)]
    by_cases e0 : y = 0
    · subst e0
      simp only [if_true, show m_X8_in 0 0 3 = some 1 by decide, bnd1_some, if_neg (show ¬ (1 : Int32) = 0 by decide), if_neg (show ¬ (0 : Int32) = 3 by decide), k0]
      exact Or.inl ⟨rfl, rfl⟩
    · by_cases e1 : y = 1
      · subst e1
        simp only [if_true, if_neg e0, show m_X8_in 1 0 3 = some 1 by decide, bnd1_some, if_neg (show ¬ (1 : Int32) = 3 by decide), k1]
        exact Or.inl ⟨rfl, rfl⟩
      · by_cases e2 : y = 2
        · subst e2
          simp only [if_true, if_neg e0, if_neg e1, show m_X8_in 2 0 3 = some 1 by decide, bnd1_some, if_neg (show ¬ (1 : Int32) = 0 by decide), if_neg (show ¬ (2 : Int32) = 3 by decide), k2]
          exact Or.inl ⟨rfl, rfl⟩
        · by_cases e3 : y = 3
          · subst e3
            simp only [if_true, if_neg e0, if_neg e1, if_neg e2, show m_X8_in 3 0 3 = some 1 by decide, bnd1_some, if_neg (show ¬ (1 : Int32) = 0 by decide), k3]
            exact Or.inl ⟨rfl, rfl⟩
          · simp only [if_neg e0, if_neg e1, if_neg e2, if_neg e3, what3 y e0 e1 e2 e3, bnd1_some, if_true]
            exact Or.inr (Or.inr ⟨rfl, rfl⟩)
  · simp only [h1, h2, bnd1_some, if_true]
    exact Or.inr (Or.inl ⟨rfl, rfl⟩)
/-- promise 11 -/
theorem q_waitingOf (B : BG p F L W w b (Y.2.2.1 5)) (x y : Int32) : QB (e_X7_waitingOf b x y) (r_X7_waitingOf b x y) nseN "java/lang/IllegalArgumentException" Y (m_X8_waitingOf Y x y) := by
  have h6 := B.1.2.2.2.2.2.2.1
  unfold e_X7_waitingOf r_X7_waitingOf m_X8_waitingOf
  rcases place_cases (b := b) B.2.1.2.2.2.1 h6 (hi := Y.2.2.1 5 113) B.2.2.1.2.2.2.1 x with ⟨⟨k, hk, rfl⟩, h1, h2⟩ | ⟨h1, h2⟩
  · obtain ⟨q, hq⟩ := get_ex hk
    obtain ⟨w1, w2⟩ := wait_at B.1 B.2.1 hq
    have gq := B.2.2.1.2.2.2.2.2 k q hq
    have a1 : (114 : Int32) + nI k = nI (114 + k) := nI_add 114 k
    have a2 : (120 : Int32) + nI k = nI (120 + k) := nI_add 120 k
    simp only [h1, h2, bnd1_some, if_neg (show ¬ (1 : Int32) = 0 by decide), w1, w2, a1, a2, if_pos (inR_nI (show 114 + k < 129 by omega) (show 129 < 2 ^ 31 by omega)), if_pos (inR_nI (show 120 + k < 129 by omega) (show 129 < 2 ^ 31 by omega)), nI_clamp (show 114 + k < 2 ^ 31 by omega), nI_clamp (show 120 + k < 2 ^ 31 by omega), gq.1, gq.2]
    by_cases e0 : y = 0
    · subst e0
      simp only [if_true, show m_X8_in 0 0 1 = some 1 by decide, bnd1_some, if_neg (show ¬ (1 : Int32) = 0 by decide)]
      exact Or.inl ⟨rfl, rfl⟩
    · by_cases e1 : y = 1
      · subst e1
        simp only [if_true, if_neg e0, show m_X8_in 1 0 1 = some 1 by decide, bnd1_some]
        exact Or.inl ⟨rfl, rfl⟩
      · have h9 : m_X8_in y 0 1 = some 0 := by
          rcases in_cases (x := y) (n := 1) (by omega) with ⟨⟨k, hk, rfl⟩, -⟩ | ⟨-, h9⟩
          · exfalso
            rcases (show k = 0 ∨ k = 1 by omega) with rfl | rfl
            · exact e0 rfl
            · exact e1 rfl
          · exact h9
        simp only [if_neg e0, if_neg e1, h9, bnd1_some, if_true]
        exact Or.inr (Or.inr ⟨rfl, rfl⟩)
  · simp only [h1, h2, bnd1_some, if_true]
    exact Or.inr (Or.inl ⟨rfl, rfl⟩)
end
