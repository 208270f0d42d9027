/-! ===== the pure part, 24: texts are read ===== -/
theorem nI_subneg {a c : Nat} (ha : a < 2 ^ 20) (hc : c < 2 ^ 20) : nI a - nI c < 0 ↔ a < c := by
  have e : (nI a - nI c).toInt = (a : Int) - (c : Int) := by
    rw [Int32.toInt_sub, nI_toInt (by omega), nI_toInt (by omega)]
    rw [Int.bmod_eq_of_le] <;> omega
  rw [Int32.lt_iff_toInt_lt, e, show (0 : Int32).toInt = 0 from rfl]
  omega
def PR (C M : GS) (i t : Nat) : Prop := i ≤ t ∧ t ≤ 60 ∧ C.2.1 5 = nI i ∧ M.2.1 20 = nI i ∧ C.2.1 4 = nI t ∧ M.2.1 13 = nI t ∧ M.2.1 21 = 0 ∧ ∀ k, k < t → C.2.2.1 4 k = M.2.2.1 9 k ∧ Ch (C.2.2.1 4 k)
/-- a digit, or none -/
def isD (s : Int32) : Bool := decide (m_X8_in s 48 57 = some 1)
theorem dig_cases {s : Int32} (h : s = -1 ∨ Ch s) : (m_X8_in s 48 57 = some 1 ∧ ¬ s - 48 < 0 ∧ s - 48 ≤ 9) ∨ (m_X8_in s 48 57 = some 0 ∧ (s - 48 < 0 ∨ ¬ s - 48 ≤ 9)) := by
  rcases h with rfl | ⟨c, hc, rfl⟩
  · right; exact ⟨by decide, Or.inl (by decide)⟩
  · have e48 : (48 : Int32) = nI 48 := rfl
    have e57 : (57 : Int32) = nI 57 := rfl
    unfold m_X8_in
    rw [e48, e57]
    by_cases c1 : c < 48
    · right
      rw [if_pos (nI_lt c1 (by omega))]
      exact ⟨rfl, Or.inl ((nI_subneg (by omega) (by omega)).mpr c1)⟩
    · rw [if_neg (nI_nlt (by omega) (by omega)), nI_sub (by omega)]
      by_cases c2 : 57 < c
      · right
        rw [if_pos (nI_lt c2 (by omega))]
        exact ⟨rfl, Or.inr (nleR (k := 9) (x := 9) rfl (by omega) (by omega))⟩
      · left
        rw [if_neg (nI_nlt (by omega) (by omega))]
        exact ⟨rfl, nI_pos (by omega), leR (k := 9) (x := 9) rfl (by omega) (by omega)⟩
def CF (C C' : GS) : Prop := C'.1 = C.1 ∧ (∀ k, ¬ k = 5 → ¬ k = 6 → C'.2.1 k = C.2.1 k) ∧ C'.2.2 = C.2.2
theorem CF.refl (C : GS) : CF C C := ⟨rfl, fun _ _ _ => rfl, rfl⟩
theorem CF.trans {C D E : GS} (h : CF C D) (g : CF D E) : CF C E := ⟨g.1.trans h.1, fun k h1 h2 => (g.2.1 k h1 h2).trans (h.2.1 k h1 h2), g.2.2.trans h.2.2⟩
theorem CF.s5 (C : GS) (v : Int32) : CF C (uS C 5 v) := ⟨rfl, fun k h1 _ => up_ne h1, rfl⟩
theorem CF.s6 (C : GS) (v : Int32) : CF C (uS C 6 v) := ⟨rfl, fun k _ h2 => up_ne h2, rfl⟩
section
variable {C M : GS} {i t : Nat}
theorem PR.sign (P : PR C M i t) : m_X8_here M = some (r_X4_sign C) ∧ ((i = t ∧ r_X4_sign C = -1) ∨ (i < t ∧ Ch (r_X4_sign C))) := by
  obtain ⟨h1, h2, h3, h4, h5, h6, h7, h8⟩ := P
  unfold m_X8_here r_X4_sign
  rw [h3, h4, h5, h6, if_neg (nI_pos (by omega))]
  by_cases c : i = t
  · subst c
    rw [if_pos (nI_le (Nat.le_refl _) (by omega)), if_pos (nI_le (Nat.le_refl _) (by omega))]
    exact ⟨rfl, Or.inl ⟨rfl, rfl⟩⟩
  · rw [if_neg (nI_ge (by omega) (by omega)), if_neg (nI_ge (by omega) (by omega)), if_pos (inR_nI (by omega) (by omega)), if_neg (geL (k := 60) (x := 60) rfl (by omega) (by omega)), nI_clamp (by omega)]
    rw [(h8 i (by omega)).1]
    refine ⟨rfl, Or.inr ⟨by omega, ?_⟩⟩
    rw [← (h8 i (by omega)).1]
    exact (h8 i (by omega)).2
theorem PR.sg (P : PR C M i t) : r_X4_sign C = -1 ∨ Ch (r_X4_sign C) := by
  rcases P.sign.2 with ⟨-, h⟩ | ⟨-, h⟩
  · exact Or.inl h
  · exact Or.inr h
theorem PR.cf {C' : GS} (P : PR C M i t) {j : Nat} (hc : CF C C') (h5 : C'.2.1 5 = nI j) (hj : j ≤ t) : PR C' (uS M 20 (nI j)) j t := by
  obtain ⟨h1, h2, h3, h4, h5', h6, h7, h8⟩ := P
  refine ⟨hj, h2, h5, uS_at, by rw [hc.2.1 4 (by decide) (by decide)]; exact h5', by rw [uS_ne (by decide)]; exact h6, by rw [uS_ne (by decide)]; exact h7, fun k hk => ?_⟩
  rw [show C'.2.2.1 = C.2.2.1 by rw [hc.2.2]]
  exact h8 k hk
theorem PR.told (P : PR C M i t) (f : Nat → Int32) : PR C (uA M 11 f) i t := by
  obtain ⟨h1, h2, h3, h4, h5', h6, h7, h8⟩ := P
  refine ⟨h1, h2, h3, h4, h5', h6, h7, fun k hk => ?_⟩
  rw [uA_ne (by decide)]
  exact h8 k hk
theorem PR.step (P : PR C M i t) (hi : i < t) : C.2.1 5 + 1 = nI (i + 1) ∧ M.2.1 20 + 1 = nI (i + 1) ∧ PR (uS C 5 (nI (i + 1))) (uS M 20 (nI (i + 1))) (i + 1) t := by
  refine ⟨by rw [P.2.2.1, nI_1], by rw [P.2.2.2.1, nI_1], P.cf (CF.s5 _ _) uS_at hi⟩
theorem PR.m21 (P : PR C M i t) : uS M 21 0 = M := by
  have := uS_eta (X := M) (k := 21)
  rw [P.2.2.2.2.2.2.1] at this
  exact this
/-- a digit is read -/
theorem dig_ok (P : PR C M i t) : (m_X8_in (r_X4_sign C) 48 57 = some 0 ∧ r_X4_readDigit C = 0 ∧ x_X4_readDigit C = C) ∨
    (m_X8_in (r_X4_sign C) 48 57 = some 1 ∧ r_X4_readDigit C = 1 ∧ i < t ∧ (x_X4_readDigit C).2.1 6 = r_X4_sign C - 48 ∧ (x_X4_readDigit C).2.1 5 = nI (i + 1) ∧ CF C (x_X4_readDigit C) ∧ PR (x_X4_readDigit C) (uS M 20 (nI (i + 1))) (i + 1) t) := by
  unfold r_X4_readDigit x_X4_readDigit
  rcases dig_cases P.sg with ⟨h1, h2, h3⟩ | ⟨h1, h2⟩
  · right
    have hi : i < t := by
      rcases P.sign.2 with ⟨-, h⟩ | ⟨h, -⟩
      · rw [h] at h1; exact absurd h1 (by decide)
      · exact h
    obtain ⟨s1, s2, s3⟩ := P.step hi
    rw [if_neg h2, if_pos h3, if_neg h2, if_pos h3, s1]
    have e6 : (uS (uS C 6 (r_X4_sign C - 48)) 5 (nI (i + 1))).2.1 6 = r_X4_sign C - 48 := by rw [uS_ne (by decide), uS_at]
    have hc : CF C (uS (uS C 6 (r_X4_sign C - 48)) 5 (nI (i + 1))) := (CF.s6 _ _).trans (CF.s5 _ _)
    exact ⟨h1, rfl, hi, e6, uS_at, hc, P.cf hc uS_at hi⟩
  · left
    rcases h2 with h2 | h2
    · rw [if_pos h2, if_pos h2]; exact ⟨h1, rfl, rfl⟩
    · by_cases c : r_X4_sign C - 48 < 0
      · rw [if_pos c, if_pos c]; exact ⟨h1, rfl, rfl⟩
      · rw [if_neg c, if_neg h2, if_neg c, if_neg h2]; exact ⟨h1, rfl, rfl⟩
theorem i32_10 (s : Int32) : 10 * (0 : Int32) + s - 48 = s - 48 := by
  rw [show (10 * (0 : Int32)) = 0 from by decide, Int32.zero_add]
theorem i32_assoc (a c d : Int32) : a + c - d = a + (c - d) := by rw [Int32.sub_eq_add_neg, Int32.add_assoc, ← Int32.sub_eq_add_neg]
theorem fig1_ok (P : PR C M i t) : (r_X4_readDigit C = 0 ∧ x_X4_readDigit C = C ∧ m_X8_figures M 1 = some (0, uS M 21 1)) ∨
    (r_X4_readDigit C = 1 ∧ i < t ∧ CF C (x_X4_readDigit C) ∧ m_X8_figures M 1 = some ((x_X4_readDigit C).2.1 6, uS M 20 (nI (i + 1))) ∧ PR (x_X4_readDigit C) (uS M 20 (nI (i + 1))) (i + 1) t) := by
  have h21 := P.2.2.2.2.2.2.1
  unfold m_X8_figures
  rw [if_pos h21, P.sign.1, bnd1_some]
  rcases dig_ok P with ⟨h1, h2, h3⟩ | ⟨h1, h2, h3, h4, h5, h6, h7⟩
  · left
    refine ⟨h2, h3, ?_⟩
    rw [h1, bnd1_some, if_pos rfl]
    show (bnd3 (lp_X8_figures_34 1 (999 + 1) 0 0 (uS M 21 1)) fun a _ X => some (a, X)) = _
    rw [lp_X8_figures_34, if_neg (show ¬ (uS M 21 1).2.1 21 = 0 by rw [uS_at]; decide), bnd3_some]
  · right
    refine ⟨h2, h3, h6, ?_, h7⟩
    rw [h1, bnd1_some, if_neg (by decide), P.m21]
    show (bnd3 (lp_X8_figures_34 1 (998 + 1 + 1) 0 0 M) fun a _ X => some (a, X)) = _
    rw [lp_X8_figures_34, if_pos h21, if_neg (by decide), P.sign.1, bnd1_some, h1, bnd1_some, if_neg (by decide), bnd1_some, lp_X8_figures_34, (P.step h3).2.1, if_pos (show (uS M 20 (nI (i + 1))).2.1 21 = 0 by rw [uS_ne (by decide)]; exact h21), if_pos (by decide), bnd3_some, i32_10, h4]
theorem fig2_ok (P : PR C M i t) : (r_X4_readNumber C = 0 ∧ x_X4_readNumber C = C ∧ m_X8_figures M 2 = some (0, uS M 21 1)) ∨
    (r_X4_readNumber C = 1 ∧ ∃ j, i < j ∧ j ≤ t ∧ CF C (x_X4_readNumber C) ∧ m_X8_figures M 2 = some ((x_X4_readNumber C).2.1 6, uS M 20 (nI j)) ∧ PR (x_X4_readNumber C) (uS M 20 (nI j)) j t) := by
  have h21 := P.2.2.2.2.2.2.1
  unfold m_X8_figures r_X4_readNumber x_X4_readNumber
  rw [if_pos h21, P.sign.1, bnd1_some]
  rcases dig_ok P with ⟨h1, h2, h3⟩ | ⟨h1, h2, h3, h4, h5, h6, h7⟩
  · left
    rw [if_pos h2, if_pos h2]
    refine ⟨rfl, h3, ?_⟩
    rw [h1, bnd1_some, if_pos rfl]
    show (bnd3 (lp_X8_figures_34 2 (999 + 1) 0 0 (uS M 21 1)) fun a _ X => some (a, X)) = _
    rw [lp_X8_figures_34, if_neg (show ¬ (uS M 21 1).2.1 21 = 0 by rw [uS_at]; decide), bnd3_some]
  · right
    have n2 : ¬ r_X4_readDigit C = 0 := by rw [h2]; decide
    rw [if_neg n2, if_neg n2]
    have h21' : (uS M 20 (nI (i + 1))).2.1 21 = 0 := h7.2.2.2.2.2.2.1
    have first : ∀ f : Nat, lp_X8_figures_34 2 (f + 1) 0 0 M = lp_X8_figures_34 2 f (r_X4_sign C - 48) (0 + 1) (uS M 20 (nI (i + 1))) := fun f => by
      rw [lp_X8_figures_34, if_pos h21, if_neg (by decide), P.sign.1, bnd1_some, h1, bnd1_some, if_neg (by decide), bnd1_some, (P.step h3).2.1, i32_10]
    rw [h1, bnd1_some, if_neg (show ¬ (1 : Int32) = 0 by decide), P.m21]
    rcases dig_ok h7 with ⟨g1, g2, g3⟩ | ⟨g1, g2, g3, g4, g5, g6, g7⟩
    · rw [if_pos g2, if_pos g2, g3]
      refine ⟨rfl, i + 1, by omega, by omega, h6, ?_, h7⟩
      show (bnd3 (lp_X8_figures_34 2 (998 + 1 + 1) 0 0 M) fun a _ X => some (a, X)) = _
      rw [first, lp_X8_figures_34, if_pos h21', if_neg (by decide), h7.sign.1, bnd1_some, g1, bnd1_some, if_pos rfl, bnd3_some, h4]
    · have m2 : ¬ r_X4_readDigit (x_X4_readDigit C) = 0 := by rw [g2]; decide
      rw [if_neg m2, if_neg m2]
      have hcf : CF C (uS (x_X4_readDigit (x_X4_readDigit C)) 6 (10 * (x_X4_readDigit C).2.1 6 + (x_X4_readDigit (x_X4_readDigit C)).2.1 6)) := (h6.trans g6).trans (CF.s6 _ _)
      have h5' : (uS (x_X4_readDigit (x_X4_readDigit C)) 6 (10 * (x_X4_readDigit C).2.1 6 + (x_X4_readDigit (x_X4_readDigit C)).2.1 6)).2.1 5 = nI (i + 1 + 1) := by rw [uS_ne (by decide)]; exact g5
      refine ⟨rfl, i + 1 + 1, by omega, by omega, hcf, ?_, P.cf hcf h5' (by omega)⟩
      show (bnd3 (lp_X8_figures_34 2 (997 + 1 + 1 + 1) 0 0 M) fun a _ X => some (a, X)) = _
      have e9 : uS (uS M 20 (nI (i + 1))) 20 (nI (i + 1 + 1)) = uS M 20 (nI (i + 1 + 1)) := by simp only [uS, up_up]
      rw [first, lp_X8_figures_34, if_pos h21', if_neg (by decide), h7.sign.1, bnd1_some, g1, bnd1_some, if_neg (by decide), bnd1_some, (h7.step g3).2.1, e9, lp_X8_figures_34, if_pos (show (uS M 20 (nI (i + 1 + 1))).2.1 21 = 0 by rw [uS_ne (by decide)]; exact h21), if_pos (by decide), bnd3_some, uS_at, h4, g4, i32_assoc]
end
/-- the reference's reading behind the kinds with an amount -/
def rsA (X : GS) (k : Int32) : Option GS := bnd2 (m_X8_figures X 2) fun v11 X11 => if inR (k + 1) 180 then (if X11.2.1 21 = 0 then (bnd1 (m_X8_here (uA X11 11 (up (X11.2.2.1 11) ((k + 1).toNatClampNeg) v11))) fun v17 => if v17 = 58 then (bnd2 (m_X8_figures (uS (uS (uA X11 11 (up (X11.2.2.1 11) ((k + 1).toNatClampNeg) v11)) 21 0) 20 (X11.2.1 20 + 1)) 2) fun v20 X20 => if inR (k + 2) 180 then some (uA X20 11 (up (X20.2.2.1 11) ((k + 2).toNatClampNeg) v20)) else none) else (bnd2 (m_X8_figures (uS (uS (uA X11 11 (up (X11.2.2.1 11) ((k + 1).toNatClampNeg) v11)) 21 1) 20 (X11.2.1 20 + 0)) 2) fun v23 X23 => if inR (k + 2) 180 then some (uA X23 11 (up (X23.2.2.1 11) ((k + 2).toNatClampNeg) v23)) else none)) else (bnd2 (m_X8_figures (uS (uS (uA X11 11 (up (X11.2.2.1 11) ((k + 1).toNatClampNeg) v11)) 21 1) 20 (X11.2.1 20 + 0)) 2) fun v15 X15 => if inR (k + 2) 180 then some (uA X15 11 (up (X15.2.2.1 11) ((k + 2).toNatClampNeg) v15)) else none)) else none
/-- and behind the others -/
def rsB (X : GS) (k most : Int32) : Option GS := bnd2 (m_X8_figures X most) fun v4 X4 => if inR (k + 1) 180 then some (uA X4 11 (up (X4.2.2.1 11) ((k + 1).toNatClampNeg) v4)) else none
/-- and where there is no kind -/
def rsD (X : GS) (k v : Int32) : Option GS := some (uS (uS (uA (uS X 20 (X.2.1 20 + 1)) 11 (up (X.2.2.1 11) (k.toNatClampNeg) v)) 21 1) 20 (X.2.1 20 + 1 - 1))
theorem rd_eq {X : GS} {k v : Int32} (h : m_X8_here X = some v) (hk : inR k 180) :
    (v = 108 ∨ v = 113 ∨ v = 114 → m_X8_readsOrder X k = rsA (uA (uS X 20 (X.2.1 20 + 1)) 11 (up (X.2.2.1 11) (k.toNatClampNeg) v)) k) ∧
    (v = 103 ∨ v = 110 → m_X8_readsOrder X k = rsB (uA (uS X 20 (X.2.1 20 + 1)) 11 (up (X.2.2.1 11) (k.toNatClampNeg) v)) k 2) ∧
    (v = 119 → m_X8_readsOrder X k = rsB (uA (uS X 20 (X.2.1 20 + 1)) 11 (up (X.2.2.1 11) (k.toNatClampNeg) v)) k 1) ∧
    (¬ v = 103 → ¬ v = 108 → ¬ v = 110 → ¬ v = 113 → ¬ v = 114 → ¬ v = 119 → m_X8_readsOrder X k = rsD X k v) := by
  unfold m_X8_readsOrder
  rw [h, bnd1_some, if_pos hk]
  refine ⟨fun hv => ?_, fun hv => ?_, fun hv => ?_, fun h1 h2 h3 h4 h5 h6 => ?_⟩
  · rcases hv with rfl | rfl | rfl
    · rw [if_neg (show ¬ (108 : Int32) = 103 by decide), if_neg (show ¬ (108 : Int32) = 104 by decide), if_neg (show ¬ (108 : Int32) = 105 by decide), if_neg (show ¬ (108 : Int32) = 106 by decide), if_neg (show ¬ (108 : Int32) = 107 by decide), if_pos (show (108 : Int32) = 108 from rfl)]
      rfl
    · rw [if_neg (show ¬ (113 : Int32) = 103 by decide), if_neg (show ¬ (113 : Int32) = 104 by decide), if_neg (show ¬ (113 : Int32) = 105 by decide), if_neg (show ¬ (113 : Int32) = 106 by decide), if_neg (show ¬ (113 : Int32) = 107 by decide), if_neg (show ¬ (113 : Int32) = 108 by decide), if_neg (show ¬ (113 : Int32) = 109 by decide), if_neg (show ¬ (113 : Int32) = 110 by decide), if_neg (show ¬ (113 : Int32) = 111 by decide), if_neg (show ¬ (113 : Int32) = 112 by decide), if_pos (show (113 : Int32) = 113 from rfl)]
      rfl
    · rw [if_neg (show ¬ (114 : Int32) = 103 by decide), if_neg (show ¬ (114 : Int32) = 104 by decide), if_neg (show ¬ (114 : Int32) = 105 by decide), if_neg (show ¬ (114 : Int32) = 106 by decide), if_neg (show ¬ (114 : Int32) = 107 by decide), if_neg (show ¬ (114 : Int32) = 108 by decide), if_neg (show ¬ (114 : Int32) = 109 by decide), if_neg (show ¬ (114 : Int32) = 110 by decide), if_neg (show ¬ (114 : Int32) = 111 by decide), if_neg (show ¬ (114 : Int32) = 112 by decide), if_neg (show ¬ (114 : Int32) = 113 by decide), if_pos (show (114 : Int32) = 114 from rfl)]
      rfl
  · rcases hv with rfl | rfl
    · rw [if_pos (show (103 : Int32) = 103 from rfl)]
      rfl
    · rw [if_neg (show ¬ (110 : Int32) = 103 by decide), if_neg (show ¬ (110 : Int32) = 104 by decide), if_neg (show ¬ (110 : Int32) = 105 by decide), if_neg (show ¬ (110 : Int32) = 106 by decide), if_neg (show ¬ (110 : Int32) = 107 by decide), if_neg (show ¬ (110 : Int32) = 108 by decide), if_neg (show ¬ (110 : Int32) = 109 by decide), if_pos (show (110 : Int32) = 110 from rfl)]
      rfl
  · subst hv
    rw [if_neg (show ¬ (119 : Int32) = 103 by decide), if_neg (show ¬ (119 : Int32) = 104 by decide), if_neg (show ¬ (119 : Int32) = 105 by decide), if_neg (show ¬ (119 : Int32) = 106 by decide), if_neg (show ¬ (119 : Int32) = 107 by decide), if_neg (show ¬ (119 : Int32) = 108 by decide), if_neg (show ¬ (119 : Int32) = 109 by decide), if_neg (show ¬ (119 : Int32) = 110 by decide), if_neg (show ¬ (119 : Int32) = 111 by decide), if_neg (show ¬ (119 : Int32) = 112 by decide), if_neg (show ¬ (119 : Int32) = 113 by decide), if_neg (show ¬ (119 : Int32) = 114 by decide), if_neg (show ¬ (119 : Int32) = 115 by decide), if_neg (show ¬ (119 : Int32) = 116 by decide), if_neg (show ¬ (119 : Int32) = 117 by decide), if_neg (show ¬ (119 : Int32) = 118 by decide), if_pos (show (119 : Int32) = 119 from rfl)]
    rfl
  · rw [if_neg h1, if_neg h2, if_neg h3, if_neg h4, if_neg h5, if_neg h6]
    simp only [ite_self]
    rfl
