/-! ===== the pure part, 30: the calls without a code of their own ===== -/
theorem cuts_term0 (am : Int32) : ∀ (j v : Nat) (a4 : Int32), v < 2 ^ 31 → v < 2 ^ j → lp_X7_cuts_29 am (j + 1) a4 (nI v) ≠ none := by
  intro j
  induction j with
  | zero =>
    intro v a4 h31 hv
    have : v = 0 := by omega
    subst this
    rw [lp_X7_cuts_29]
    split
    · exact fun h => by cases h
    · rw [if_pos (by decide)]; exact fun h => by cases h
  | succ j ih =>
    intro v a4 h31 hv
    rw [lp_X7_cuts_29]
    split
    · exact fun h => by cases h
    · split
      · exact fun h => by cases h
      · rw [nI_half h31]
        exact ih (v / 2) _ (by omega) (by rw [Nat.pow_succ] at hv; omega)
theorem cuts_term (am a4 a5 : Int32) : lp_X7_cuts_29 am 64 a4 a5 ≠ none := by
  by_cases h : a5 < 0
  · show lp_X7_cuts_29 am (63 + 1) a4 a5 ≠ none
    rw [lp_X7_cuts_29]
    split
    · exact fun h => by cases h
    · rw [if_pos (Int32.lt_trans h (by decide))]; exact fun h => by cases h
  · obtain ⟨v, hv, rfl⟩ := nI_of h
    exact cuts_term0 am 63 v a4 hv (by omega)
theorem Rel.okI {X : GS} (R : Rel X) : okI (X.2.1 0) := by
  obtain ⟨-, ⟨n, c, i1, i2, i3, -⟩, -⟩ := R
  rw [i3]
  exact ⟨nI_pos (by omega), geL (k := 8) (x := 8) rfl i1 (by omega)⟩
theorem Rel.ch0 {X : GS} (R : Rel X) : ∀ i, Ch (X.2.2.1 0 i) := by
  obtain ⟨-, -, -, -, -, -, ⟨k, h1, h2, h3, h4, h5, h6⟩, -⟩ := R
  exact h5
theorem Rel.ch10 {X : GS} (R : Rel X) : ∀ i, Ch (X.2.2.1 10 i) := by
  obtain ⟨-, -, -, -, -, -, ⟨k, h1, h2, h3, h4, h5, h6⟩, -⟩ := R
  exact h6
theorem nanf_all : ∀ a, a < 1025 → FP.f2d (FP.fdiv (FP.i2f (nI a)) 1115684864) &&& 0x7fffffffffffffff ≤ 0x7ff0000000000000 := by decide +kernel
theorem p_meanWaste {X : GS} (R : Rel X) : (0 < (X.1 0).1 3 → FP.ddiv (FP.i2d (r_X3_allSizes (X.1 0) - r_X3_allAmounts (X.1 0))) (FP.i2d ((X.1 0).1 3)) &&& 0x7fffffffffffffff ≤ 0x7ff0000000000000) ∧
    ∃ (z : Int32) (Z' : GS) (vb : UInt64) (Y : GS), ((e_X7_meanWaste (X.1 0) = "" ∧ z = 0 ∧ Z' = uD X (up X.2.2.2.2 0 (r_X7_meanWaste (X.1 0)))) ∨ (e_X7_meanWaste (X.1 0) = "java/lang/ArithmeticException" ∧ z = 1 ∧ Z' = X)) ∧ m_X8_meanWaste Z' = some (vb, Y) ∧ Y.2.1 19 = z ∧ (z = 0 → vb = r_X7_meanWaste (X.1 0) ∧ Y.2.2.2.2 0 = r_X7_meanWaste (X.1 0)) ∧ Rel Y := by
  obtain ⟨p, F, L, W, w, B, S⟩ := R.QB
  rcases q_meanWaste (Y := uD X (up X.2.2.2.2 0 (r_X7_meanWaste (X.1 0)))) B with ⟨h1, h2, h3⟩ | ⟨h1, h2, -⟩
  · refine ⟨fun _ => h2, 0, uD X (up X.2.2.2.2 0 (r_X7_meanWaste (X.1 0))), r_X7_meanWaste (X.1 0), uS (uD X (up X.2.2.2.2 0 (r_X7_meanWaste (X.1 0)))) 19 0, Or.inl ⟨h1, rfl, rfl⟩, h3, uS_at, fun _ => ⟨rfl, ?_⟩, (Rel.q (R.d _) 0 0).1⟩
    show up X.2.2.2.2 0 (r_X7_meanWaste (X.1 0)) 0 = _
    rw [up_self]
  · rcases q_meanWaste (Y := X) B with ⟨k1, -⟩ | ⟨-, -, k3⟩
    · rw [h1] at k1; exact absurd k1 (by decide)
    · exact ⟨fun h => absurd h h2, 1, X, FP.dconst0, uS X 19 1, Or.inr ⟨h1, rfl, rfl⟩, k3, uS_at, fun e => absurd e (by decide), (Rel.q R 0 1).1⟩
theorem p_lentShare {X : GS} (R : Rel X) : (FP.fdiv (FP.i2f (r_X3_allSizes (X.1 0))) 1115684864 &&& 0x7fffffff ≤ 0x7f800000) ∧ (FP.f2d (r_X7_lentShare (X.1 0)) &&& 0x7fffffffffffffff ≤ 0x7ff0000000000000) ∧ m_X8_lentShare X = some (r_X7_lentShare (X.1 0), uS X 19 0) ∧ Rel (uS X 19 0) := by
  obtain ⟨p, F, L, W, w, B, S⟩ := R.QB
  obtain ⟨h1, h2⟩ := q_lentShare (Y := X) B
  obtain ⟨s, hs, e⟩ := allSizes_le (Y := X) B
  refine ⟨h1, ?_, h2, (Rel.q R 0 0).1⟩
  unfold r_X7_lentShare
  rw [e]
  exact nanf_all s (by omega)
theorem p_line {X : GS} (R : Rel X) : ∃ (Z Y : GS) (v : Int32), uB (x_X7_line X (X.1 0)) 0 (X.1 0) = Z ∧ r_X7_line X (X.1 0) = v ∧ m_X8_line Z = some (v, Y) ∧ Rel Y := by
  obtain ⟨p, F, L, W, w, B, S⟩ := R.QB
  obtain ⟨f, f', k, h1, -⟩ := line_ok (X := X) (Y := X) B R.ch0 R.ch10
  have eB : uB (x_X7_line X (X.1 0)) 0 (X.1 0) = x_X7_line X (X.1 0) := by
    rw [h1]
    exact uB_eta (X := uS (uA X 0 f) 2 (nI k))
  have a5 : (x_X7_line X (X.1 0)).2.2.1 5 = X.2.2.1 5 := by rw [h1]; exact uA_ne (by decide)
  have a10 : (x_X7_line X (X.1 0)).2.2.1 10 = X.2.2.1 10 := by rw [h1]; exact uA_ne (by decide)
  obtain ⟨f2, f2', k2, g1, g2, g3, g4, g5, g6⟩ := line_ok (X := X) (Y := x_X7_line X (X.1 0)) (b := X.1 0) (by rw [a5]; exact B) R.ch0 (by rw [a10]; exact R.ch10)
  refine ⟨_, _, _, eB, ?_, g2, ?_⟩
  · show (x_X7_line X (X.1 0)).2.1 2 = _
    rw [g1, uS_at]
  · rw [g1]
    exact Rel.lined R (f := f2) (f' := f2') (k := k2) rfl (fun i z1 z2 z3 => by rw [uS_ne z3, uS_ne z2]; show up X.2.1 2 (nI k2) i = _; rw [up_ne z1]) (fun i z1 z2 => by
      show up (up X.2.2.1 0 f2) 10 f2' i = _
      rw [up_ne z2, up_ne z1]) (by rw [uS_ne (by decide), uS_ne (by decide)]; show up X.2.1 2 (nI k2) 2 = _; rw [up_self]) (by rw [uS_ne (by decide), uS_at]) (by
      show up (up X.2.2.1 0 f2) 10 f2' 0 = _
      rw [up_ne (by decide), up_self]) (by
      show up (up X.2.2.1 0 f2) 10 f2' 10 = _
      rw [up_self]) g3 g4 g5 g6
theorem p_map {X : GS} (R : Rel X) : ∃ (Z Y : GS) (v : Int32), uB (x_X7_map X (X.1 0)) 0 (X.1 0) = Z ∧ r_X7_map X (X.1 0) = v ∧ m_X8_map Z = some (v, Y) ∧ Rel Y := by
  obtain ⟨p, F, L, W, w, B, S⟩ := R.QB
  obtain ⟨f, f', k, h1, -⟩ := map_ok (X := X) (Y := X) B R.ch0 R.ch10
  have eB : uB (x_X7_map X (X.1 0)) 0 (X.1 0) = x_X7_map X (X.1 0) := by
    rw [h1]
    exact uB_eta (X := uS (uA X 0 f) 2 (nI k))
  have a5 : (x_X7_map X (X.1 0)).2.2.1 5 = X.2.2.1 5 := by rw [h1]; exact uA_ne (by decide)
  have a10 : (x_X7_map X (X.1 0)).2.2.1 10 = X.2.2.1 10 := by rw [h1]; exact uA_ne (by decide)
  obtain ⟨f2, f2', k2, g1, g2, g3, g4, g5, g6⟩ := map_ok (X := X) (Y := x_X7_map X (X.1 0)) (b := X.1 0) (by rw [a5]; exact B) R.ch0 (by rw [a10]; exact R.ch10)
  refine ⟨_, _, _, eB, ?_, g2, ?_⟩
  · show (x_X7_map X (X.1 0)).2.1 2 = _
    rw [g1, uS_at]
  · rw [g1]
    exact Rel.lined R (f := f2) (f' := f2') (k := k2) rfl (fun i z1 z2 z3 => by rw [uS_ne z3, uS_ne z2]; show up X.2.1 2 (nI k2) i = _; rw [up_ne z1]) (fun i z1 z2 => by
      show up (up X.2.2.1 0 f2) 10 f2' i = _
      rw [up_ne z2, up_ne z1]) (by rw [uS_ne (by decide), uS_ne (by decide)]; show up X.2.1 2 (nI k2) 2 = _; rw [up_self]) (by rw [uS_ne (by decide), uS_at]) (by
      show up (up X.2.2.1 0 f2) 10 f2' 0 = _
      rw [up_ne (by decide), up_self]) (by
      show up (up X.2.2.1 0 f2) 10 f2' 10 = _
      rw [up_self]) g3 g4 g5 g6
theorem p_well {X : GS} (R : Rel X) : r_X7_isWell (X.1 0) = 1 := by
  obtain ⟨p, F, L, W, w, B, S⟩ := R.QB
  exact well_ok (Y := X) B S
