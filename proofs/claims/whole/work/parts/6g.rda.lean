/-! ===== the pure part, 26: the orders are read ===== -/
theorem PR.rs2 {C M : GS} {i t : Nat} (P : PR C M i t) {d : Int32} (hd : ¬ d = -1) : (r_X4_readSign C d = 0 ∧ x_X4_readSign C d = C ∧ ∃ w, m_X8_here M = some w ∧ ¬ w = d) ∨ (r_X4_readSign C d = 1 ∧ i < t ∧ x_X4_readSign C d = uS C 5 (nI (i + 1)) ∧ m_X8_here M = some d) := by
  unfold r_X4_readSign x_X4_readSign
  by_cases c : r_X4_sign C = d
  · right
    rw [if_pos c, if_pos c]
    have hi : i < t := by
      rcases P.sign.2 with ⟨-, h⟩ | ⟨h, -⟩
      · rw [h] at c; exact absurd c.symm hd
      · exact h
    exact ⟨rfl, hi, by rw [(P.step hi).1], by rw [← c]; exact P.sign.1⟩
  · left
    rw [if_neg c, if_neg c]
    exact ⟨rfl, rfl, _, P.sign.1, c⟩
theorem PR.s3 {C M : GS} {i t : Nat} (P : PR C M i t) (v : Int32) : PR (uS C 3 v) M i t := by
  obtain ⟨h1, h2, h3, h4, h5', h6, h7, h8⟩ := P
  exact ⟨h1, h2, by rw [uS_ne (by decide)]; exact h3, h4, by rw [uS_ne (by decide)]; exact h5', h6, h7, h8⟩
/-- the orders told to both -/
def TT (C M : GS) (n : Nat) : Prop := ∀ q, q < n → C.2.2.1 1 q = M.2.2.1 11 (3 * q) ∧ C.2.2.1 2 q = M.2.2.1 11 (3 * q + 1) ∧ (kA (C.2.2.1 1 q) → C.2.2.1 3 q = M.2.2.1 11 (3 * q + 2)) ∧ (kA (C.2.2.1 1 q) ∨ kB (C.2.2.1 1 q) ∨ C.2.2.1 1 q = 119)
theorem TT.same {C M C' M' : GS} {n : Nat} (h : TT C M n) (hC : C'.2.2.1 = C.2.2.1) (hM : M'.2.2.1 11 = M.2.2.1 11) : TT C' M' n := by
  unfold TT
  rw [hC, hM]
  exact h
theorem TT.step {C M C' M' : GS} {o : Nat} (h : TT C M o) (g : TA C C' M M' o) : TT C' M' (o + 1) := by
  -- the arrays of the class and what was told, behind one order more
  obtain ⟨k, f, s, g1, g2, g3, g4, g5, g6, g7, g8, g9⟩ := g
  intro q hq
  rw [g1, g2, g3]
  by_cases e : q = o
  · subst e
    rw [up_self, up_self, up_self, g5, g6]
    exact ⟨rfl, rfl, fun hk => (g7 hk).symm, g9⟩
  · obtain ⟨z1, z2, z3, z4⟩ := h q (by omega)
    rw [up_ne e, up_ne e, up_ne e, g8 _ (by omega), g8 _ (by omega), g8 _ (by omega)]
    exact ⟨z1, z2, z3, z4⟩
theorem read_loop {M0 : GS} {t : Nat} : ∀ (j o i : Nat) (C M : GS), o + j = 20 → PR C M i t → 3 * o ≤ i → TT C M o → MF M0 M → ∀ f, j + 2 ≤ f →
    (∃ (p : Nat) (o' : Int32) (M' : GS), p ≤ 60 ∧ (if (lp_X4_read_12 j o C).1 = none then (lp_X4_read_12 j o C).2.2.1 5 else (lp_X4_read_12 j o C).1.getD 0) = nI p ∧ lp_X8_run_14 f (nI o) 1 M = some (o', 0, M') ∧ MF M0 M' ∧ M'.2.1 20 = nI p ∧ (¬ M'.2.1 21 = 0 ∨ (M'.2.1 21 = 0 ∧ ¬ M'.2.1 13 ≤ M'.2.1 20))) ∨
    (∃ (n : Nat) (C' M' : GS), n ≤ 20 ∧ 1 ≤ n ∧ lp_X4_read_12 j o C = (some (-1), C') ∧ C'.2.1 3 = nI n ∧ lp_X8_run_14 f (nI o) 1 M = some (nI n, 0, M') ∧ MF M0 M' ∧ M'.2.1 21 = 0 ∧ M'.2.1 13 ≤ M'.2.1 20 ∧ TT C' M' n) := by
  intro j
  have e3 : (3 : Int32) = nI 3 := rfl
  have one0 : ¬ (1 : Int32) = 0 := by decide
  have z20 : ∀ X : GS, uS X 20 (X.2.1 20 + 0) = X := fun X => by rw [Int32.add_zero, uS_eta]
  induction j with
  | zero =>
    intro o i C M ho P hi T F f hf
    have := P.1
    have := P.2.1
    have e : i = t := by omega
    have ht : t = 60 := by omega
    subst ht
    left
    obtain ⟨f, rfl⟩ : ∃ g, f = g + 1 + 1 := ⟨f - 2, by omega⟩
    have hs : r_X4_sign C = -1 := by
      rcases P.sign.2 with ⟨-, h⟩ | ⟨h, -⟩
      · exact h
      · omega
    have hh : m_X8_here M = some (-1) := by rw [← hs]; exact P.sign.1
    have R := (rd_eq (k := nI (3 * o)) hh (inR_nI (by omega) (by omega))).2.2.2 (by decide) (by decide) (by decide) (by decide) (by decide) (by decide)
    have a1 : (rsD M (nI (3 * o)) (-1)) = some (uS (uS (uA (uS M 20 (M.2.1 20 + 1)) 11 (up (M.2.2.1 11) ((nI (3 * o)).toNatClampNeg) (-1))) 21 1) 20 (M.2.1 20 + 1 - 1)) := rfl
    have F1 : MF M0 (uS (uS (uA (uS M 20 (M.2.1 20 + 1)) 11 (up (M.2.2.1 11) ((nI (3 * o)).toNatClampNeg) (-1))) 21 1) 20 (M.2.1 20 + 1 - 1)) := (((F.s20 _).a11 _).s21 _).s20 _
    have b1 : (uS (uS (uA (uS M 20 (M.2.1 20 + 1)) 11 (up (M.2.2.1 11) ((nI (3 * o)).toNatClampNeg) (-1))) 21 1) 20 (M.2.1 20 + 1 - 1)).2.1 20 = nI i := by
      rw [uS_at, P.2.2.2.1, nI_1, show (1 : Int32) = nI 1 from rfl, nI_sub (by omega)]
      rfl
    have b2 : ¬ (uS (uS (uA (uS M 20 (M.2.1 20 + 1)) 11 (up (M.2.2.1 11) ((nI (3 * o)).toNatClampNeg) (-1))) 21 1) 20 (M.2.1 20 + 1 - 1)).2.1 21 = 0 := by
      rw [uS_ne (by decide), uS_at]; decide
    rw [a1] at R
    generalize uS (uS (uA (uS M 20 (M.2.1 20 + 1)) 11 (up (M.2.2.1 11) ((nI (3 * o)).toNatClampNeg) (-1))) 21 1) 20 (M.2.1 20 + 1 - 1) = M1 at *
    refine ⟨i, nI o + 1, M1, by omega, ?_, ?_, F1, b1, Or.inl b2⟩
    · rw [lp_X4_read_12, if_pos rfl]; exact P.2.2.1
    · rw [lp_X8_run_14, if_neg one0, e3, nI_mul, R, bnd1_some, if_neg b2, z20, lp_X8_run_14, if_pos rfl]
  | succ j ih =>
    intro o i C M ho P hi T F f hf
    obtain ⟨f, rfl⟩ : ∃ g, f = g + 1 + 1 := ⟨f - 2, by omega⟩
    have h60 := P.2.1
    rcases order_ok P (show o < 20 by omega) with ⟨q1, M1, p, q2, q3, q4, q5, q6, q7⟩ | ⟨q1, M1, k, q2, q3, q4, q5, q6, q7⟩
    · left
      refine ⟨p, nI o + 1, M1, q4, ?_, ?_, F.trans q7, q5, Or.inl q3⟩
      · rw [lp_X4_read_12, if_pos q1, if_neg (fun h => by cases h)]; exact q6
      · rw [lp_X8_run_14, if_neg one0, e3, nI_mul, q2, bnd1_some, if_neg q3, z20, lp_X8_run_14, if_pos rfl]
    · have q1' : ¬ r_X4_readOrder C = 0 := by rw [q1]; decide
      have F1 := F.trans q6
      have T1 := T.step q7
      have h21 := q5.2.2.2.2.2.2.1
      rw [lp_X4_read_12, if_neg q1', lp_X8_run_14, if_neg one0, e3, nI_mul, q2, bnd1_some, if_pos h21, q5.2.2.1, q5.2.2.2.2.1]
      generalize x_X4_readOrder C (nI o) = C1 at *
      by_cases e : k = t
      · subst e
        right
        have hs : r_X4_sign C1 = -1 := by
          rcases q5.sign.2 with ⟨-, h⟩ | ⟨h, -⟩
          · exact h
          · omega
        refine ⟨o + 1, uS C1 3 (nI o + 1), M1, by omega, by omega, by rw [if_pos rfl], ?_, ?_, F1, h21, ?_, T1.same rfl rfl⟩
        · rw [uS_at, nI_1]
        · rw [q5.sign.1, bnd1_some, hs, if_neg (by decide), z20, lp_X8_run_14, if_pos rfl, nI_1]
        · rw [q5.2.2.2.2.2.1, q5.2.2.2.1]; exact nI_le (Nat.le_refl _) (by omega)
      · have e' : ¬ nI k = nI t := fun h => e ((nI_eq (by omega) (by omega)).mp h)
        rw [if_neg e']
        have P2 := q5.s3 (nI o + 1)
        rcases P2.rs2 (d := 59) (by decide) with ⟨g1, g2, w, g3, g4⟩ | ⟨g1, g2, g3, g4⟩
        · left
          rw [if_pos g1, g2, g3, bnd1_some, if_neg g4, z20]
          refine ⟨k, nI o + 1, M1, by omega, ?_, ?_, F1, q5.2.2.2.1, Or.inr ⟨h21, ?_⟩⟩
          · rw [if_neg (fun h => by cases h)]; exact P2.2.2.1
          · rw [lp_X8_run_14, if_pos rfl]
          · rw [q5.2.2.2.2.2.1, q5.2.2.2.1]; exact nI_ge (by omega) (by omega)
        · have g1' : ¬ r_X4_readSign (uS C1 3 (nI o + 1)) 59 = 0 := by rw [g1]; decide
          obtain ⟨t1, t2, t3⟩ := P2.step g2
          rw [if_neg g1', g3, g4, bnd1_some, if_pos rfl, t2, nI_1]
          rw [nI_1] at t3
          exact ih (o + 1) (k + 1) _ _ (by omega) t3 (by omega) (T1.same rfl rfl) (F1.s20 _) (f + 1) (by omega)
