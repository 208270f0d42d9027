/-! ===== the pure part, 15: the copies of the reference ===== -/
theorem uA_ne {X : GS} {k i : Nat} {f : Nat → Int32} (h : ¬ i = k) : (uA X k f).2.2.1 i = X.2.2.1 i := up_ne h
theorem uS_ne {X : GS} {k i : Nat} {v : Int32} (h : ¬ i = k) : (uS X k v).2.1 i = X.2.1 i := up_ne h
theorem uS_at {X : GS} {k : Nat} {v : Int32} : (uS X k v).2.1 k = v := up_self
theorem lp_copy_132_133 (at0 th : Nat) (h1 : at0 + 129 ≤ 129) (h2 : th + 129 ≤ 129) : ∀ (j i : Nat) (X : GS), i + j = 129 → ∃ f : Nat → Int32, lp_X8_copy_132_133_3 (nI at0) (nI th) j i X = some (uA X 6 f) ∧ ∀ x, f x = if th + i ≤ x ∧ x < th + 129 then X.2.2.1 5 (at0 + (x - th)) else X.2.2.1 6 x := by
  intro j
  induction j with
  | zero => intro i X hi; exact ⟨X.2.2.1 6, by rw [lp_X8_copy_132_133_3, uA_self], fun x => by rw [if_neg (by omega)]⟩
  | succ j ih =>
    intro i X hi
    have a1 : nI at0 + nI i = nI (at0 + i) := nI_add at0 i
    have a2 : nI th + nI i = nI (th + i) := nI_add th i
    obtain ⟨f, h3, h4⟩ := ih (i + 1) (uA X 6 (up (X.2.2.1 6) (th + i) (X.2.2.1 5 (at0 + i)))) (by omega)
    refine ⟨f, ?_, fun x => ?_⟩
    · rw [lp_X8_copy_132_133_3]
      simp only [a1, a2, if_pos (inR_nI (show at0 + i < 129 by omega) (show 129 < 2 ^ 31 by omega)), if_pos (inR_nI (show th + i < 129 by omega) (show 129 < 2 ^ 31 by omega)), nI_clamp (show at0 + i < 2 ^ 31 by omega), nI_clamp (show th + i < 2 ^ 31 by omega)]
      rw [h3, uA_uA]
    · rw [h4 x, uA_at]
      have e : (uA X 6 (up (X.2.2.1 6) (th + i) (X.2.2.1 5 (at0 + i)))).2.2.1 5 = X.2.2.1 5 := uA_ne (by decide)
      rw [e]
      by_cases c1 : th + (i + 1) ≤ x ∧ x < th + 129
      · rw [if_pos c1, if_pos (by omega)]
      · rw [if_neg c1]
        by_cases c2 : x = th + i
        · subst c2
          rw [up_self, if_pos (by omega), show th + i - th = i by omega]
        · rw [up_ne c2, if_neg (by omega)]
theorem copy_132_133 {X : GS} {at0 th : Nat} (h1 : at0 + 129 ≤ 129) (h2 : th + 129 ≤ 129) : ∃ f : Nat → Int32, m_X8_copy_132_133 X (nI at0) (nI th) = some (uA X 6 f) ∧ ∀ x, f x = if th ≤ x ∧ x < th + 129 then X.2.2.1 5 (at0 + (x - th)) else X.2.2.1 6 x := by
  obtain ⟨f, h3, h4⟩ := lp_copy_132_133 at0 th h1 h2 129 0 X (by omega)
  refine ⟨f, ?_, fun x => by rw [h4 x]; rfl⟩
  unfold m_X8_copy_132_133
  rw [h3]
  rfl
theorem lp_copy_133_132 (at0 th : Nat) (h1 : at0 + 129 ≤ 129) (h2 : th + 129 ≤ 129) : ∀ (j i : Nat) (X : GS), i + j = 129 → ∃ f : Nat → Int32, lp_X8_copy_133_132_3 (nI at0) (nI th) j i X = some (uA X 5 f) ∧ ∀ x, f x = if th + i ≤ x ∧ x < th + 129 then X.2.2.1 6 (at0 + (x - th)) else X.2.2.1 5 x := by
  intro j
  induction j with
  | zero => intro i X hi; exact ⟨X.2.2.1 5, by rw [lp_X8_copy_133_132_3, uA_self], fun x => by rw [if_neg (by omega)]⟩
  | succ j ih =>
    intro i X hi
    have a1 : nI at0 + nI i = nI (at0 + i) := nI_add at0 i
    have a2 : nI th + nI i = nI (th + i) := nI_add th i
    obtain ⟨f, h3, h4⟩ := ih (i + 1) (uA X 5 (up (X.2.2.1 5) (th + i) (X.2.2.1 6 (at0 + i)))) (by omega)
    refine ⟨f, ?_, fun x => ?_⟩
    · rw [lp_X8_copy_133_132_3]
      simp only [a1, a2, if_pos (inR_nI (show at0 + i < 129 by omega) (show 129 < 2 ^ 31 by omega)), if_pos (inR_nI (show th + i < 129 by omega) (show 129 < 2 ^ 31 by omega)), nI_clamp (show at0 + i < 2 ^ 31 by omega), nI_clamp (show th + i < 2 ^ 31 by omega)]
      rw [h3, uA_uA]
    · rw [h4 x, uA_at]
      have e : (uA X 5 (up (X.2.2.1 5) (th + i) (X.2.2.1 6 (at0 + i)))).2.2.1 6 = X.2.2.1 6 := uA_ne (by decide)
      rw [e]
      by_cases c1 : th + (i + 1) ≤ x ∧ x < th + 129
      · rw [if_pos c1, if_pos (by omega)]
      · rw [if_neg c1]
        by_cases c2 : x = th + i
        · subst c2
          rw [up_self, if_pos (by omega), show th + i - th = i by omega]
        · rw [up_ne c2, if_neg (by omega)]
theorem copy_133_132 {X : GS} {at0 th : Nat} (h1 : at0 + 129 ≤ 129) (h2 : th + 129 ≤ 129) : ∃ f : Nat → Int32, m_X8_copy_133_132 X (nI at0) (nI th) = some (uA X 5 f) ∧ ∀ x, f x = if th ≤ x ∧ x < th + 129 then X.2.2.1 6 (at0 + (x - th)) else X.2.2.1 5 x := by
  obtain ⟨f, h3, h4⟩ := lp_copy_133_132 at0 th h1 h2 129 0 X (by omega)
  refine ⟨f, ?_, fun x => by rw [h4 x]; rfl⟩
  unfold m_X8_copy_133_132
  rw [h3]
  rfl
theorem lp_copy_133_134 (at0 th : Nat) (h1 : at0 + 129 ≤ 129) (h2 : th + 129 ≤ 1032) : ∀ (j i : Nat) (X : GS), i + j = 129 → ∃ f : Nat → Int32, lp_X8_copy_133_134_3 (nI at0) (nI th) j i X = some (uA X 7 f) ∧ ∀ x, f x = if th + i ≤ x ∧ x < th + 129 then X.2.2.1 6 (at0 + (x - th)) else X.2.2.1 7 x := by
  intro j
  induction j with
  | zero => intro i X hi; exact ⟨X.2.2.1 7, by rw [lp_X8_copy_133_134_3, uA_self], fun x => by rw [if_neg (by omega)]⟩
  | succ j ih =>
    intro i X hi
    have a1 : nI at0 + nI i = nI (at0 + i) := nI_add at0 i
    have a2 : nI th + nI i = nI (th + i) := nI_add th i
    obtain ⟨f, h3, h4⟩ := ih (i + 1) (uA X 7 (up (X.2.2.1 7) (th + i) (X.2.2.1 6 (at0 + i)))) (by omega)
    refine ⟨f, ?_, fun x => ?_⟩
    · rw [lp_X8_copy_133_134_3]
      simp only [a1, a2, if_pos (inR_nI (show at0 + i < 129 by omega) (show 129 < 2 ^ 31 by omega)), if_pos (inR_nI (show th + i < 1032 by omega) (show 1032 < 2 ^ 31 by omega)), nI_clamp (show at0 + i < 2 ^ 31 by omega), nI_clamp (show th + i < 2 ^ 31 by omega)]
      rw [h3, uA_uA]
    · rw [h4 x, uA_at]
      have e : (uA X 7 (up (X.2.2.1 7) (th + i) (X.2.2.1 6 (at0 + i)))).2.2.1 6 = X.2.2.1 6 := uA_ne (by decide)
      rw [e]
      by_cases c1 : th + (i + 1) ≤ x ∧ x < th + 129
      · rw [if_pos c1, if_pos (by omega)]
      · rw [if_neg c1]
        by_cases c2 : x = th + i
        · subst c2
          rw [up_self, if_pos (by omega), show th + i - th = i by omega]
        · rw [up_ne c2, if_neg (by omega)]
theorem copy_133_134 {X : GS} {at0 th : Nat} (h1 : at0 + 129 ≤ 129) (h2 : th + 129 ≤ 1032) : ∃ f : Nat → Int32, m_X8_copy_133_134 X (nI at0) (nI th) = some (uA X 7 f) ∧ ∀ x, f x = if th ≤ x ∧ x < th + 129 then X.2.2.1 6 (at0 + (x - th)) else X.2.2.1 7 x := by
  obtain ⟨f, h3, h4⟩ := lp_copy_133_134 at0 th h1 h2 129 0 X (by omega)
  refine ⟨f, ?_, fun x => by rw [h4 x]; rfl⟩
  unfold m_X8_copy_133_134
  rw [h3]
  rfl
theorem lp_copy_134_132 (at0 th : Nat) (h1 : at0 + 129 ≤ 1032) (h2 : th + 129 ≤ 129) : ∀ (j i : Nat) (X : GS), i + j = 129 → ∃ f : Nat → Int32, lp_X8_copy_134_132_3 (nI at0) (nI th) j i X = some (uA X 5 f) ∧ ∀ x, f x = if th + i ≤ x ∧ x < th + 129 then X.2.2.1 7 (at0 + (x - th)) else X.2.2.1 5 x := by
  intro j
  induction j with
  | zero => intro i X hi; exact ⟨X.2.2.1 5, by rw [lp_X8_copy_134_132_3, uA_self], fun x => by rw [if_neg (by omega)]⟩
  | succ j ih =>
    intro i X hi
    have a1 : nI at0 + nI i = nI (at0 + i) := nI_add at0 i
    have a2 : nI th + nI i = nI (th + i) := nI_add th i
    obtain ⟨f, h3, h4⟩ := ih (i + 1) (uA X 5 (up (X.2.2.1 5) (th + i) (X.2.2.1 7 (at0 + i)))) (by omega)
    refine ⟨f, ?_, fun x => ?_⟩
    · rw [lp_X8_copy_134_132_3]
      simp only [a1, a2, if_pos (inR_nI (show at0 + i < 1032 by omega) (show 1032 < 2 ^ 31 by omega)), if_pos (inR_nI (show th + i < 129 by omega) (show 129 < 2 ^ 31 by omega)), nI_clamp (show at0 + i < 2 ^ 31 by omega), nI_clamp (show th + i < 2 ^ 31 by omega)]
      rw [h3, uA_uA]
    · rw [h4 x, uA_at]
      have e : (uA X 5 (up (X.2.2.1 5) (th + i) (X.2.2.1 7 (at0 + i)))).2.2.1 7 = X.2.2.1 7 := uA_ne (by decide)
      rw [e]
      by_cases c1 : th + (i + 1) ≤ x ∧ x < th + 129
      · rw [if_pos c1, if_pos (by omega)]
      · rw [if_neg c1]
        by_cases c2 : x = th + i
        · subst c2
          rw [up_self, if_pos (by omega), show th + i - th = i by omega]
        · rw [up_ne c2, if_neg (by omega)]
theorem copy_134_132 {X : GS} {at0 th : Nat} (h1 : at0 + 129 ≤ 1032) (h2 : th + 129 ≤ 129) : ∃ f : Nat → Int32, m_X8_copy_134_132 X (nI at0) (nI th) = some (uA X 5 f) ∧ ∀ x, f x = if th ≤ x ∧ x < th + 129 then X.2.2.1 7 (at0 + (x - th)) else X.2.2.1 5 x := by
  obtain ⟨f, h3, h4⟩ := lp_copy_134_132 at0 th h1 h2 129 0 X (by omega)
  refine ⟨f, ?_, fun x => by rw [h4 x]; rfl⟩
  unfold m_X8_copy_134_132
  rw [h3]
  rfl
theorem lp_copy_132_135 (at0 th : Nat) (h1 : at0 + 129 ≤ 129) (h2 : th + 129 ≤ 129) : ∀ (j i : Nat) (X : GS), i + j = 129 → ∃ f : Nat → Int32, lp_X8_copy_132_135_3 (nI at0) (nI th) j i X = some (uA X 8 f) ∧ ∀ x, f x = if th + i ≤ x ∧ x < th + 129 then X.2.2.1 5 (at0 + (x - th)) else X.2.2.1 8 x := by
  intro j
  induction j with
  | zero => intro i X hi; exact ⟨X.2.2.1 8, by rw [lp_X8_copy_132_135_3, uA_self], fun x => by rw [if_neg (by omega)]⟩
  | succ j ih =>
    intro i X hi
    have a1 : nI at0 + nI i = nI (at0 + i) := nI_add at0 i
    have a2 : nI th + nI i = nI (th + i) := nI_add th i
    obtain ⟨f, h3, h4⟩ := ih (i + 1) (uA X 8 (up (X.2.2.1 8) (th + i) (X.2.2.1 5 (at0 + i)))) (by omega)
    refine ⟨f, ?_, fun x => ?_⟩
    · rw [lp_X8_copy_132_135_3]
      simp only [a1, a2, if_pos (inR_nI (show at0 + i < 129 by omega) (show 129 < 2 ^ 31 by omega)), if_pos (inR_nI (show th + i < 129 by omega) (show 129 < 2 ^ 31 by omega)), nI_clamp (show at0 + i < 2 ^ 31 by omega), nI_clamp (show th + i < 2 ^ 31 by omega)]
      rw [h3, uA_uA]
    · rw [h4 x, uA_at]
      have e : (uA X 8 (up (X.2.2.1 8) (th + i) (X.2.2.1 5 (at0 + i)))).2.2.1 5 = X.2.2.1 5 := uA_ne (by decide)
      rw [e]
      by_cases c1 : th + (i + 1) ≤ x ∧ x < th + 129
      · rw [if_pos c1, if_pos (by omega)]
      · rw [if_neg c1]
        by_cases c2 : x = th + i
        · subst c2
          rw [up_self, if_pos (by omega), show th + i - th = i by omega]
        · rw [up_ne c2, if_neg (by omega)]
theorem copy_132_135 {X : GS} {at0 th : Nat} (h1 : at0 + 129 ≤ 129) (h2 : th + 129 ≤ 129) : ∃ f : Nat → Int32, m_X8_copy_132_135 X (nI at0) (nI th) = some (uA X 8 f) ∧ ∀ x, f x = if th ≤ x ∧ x < th + 129 then X.2.2.1 5 (at0 + (x - th)) else X.2.2.1 8 x := by
  obtain ⟨f, h3, h4⟩ := lp_copy_132_135 at0 th h1 h2 129 0 X (by omega)
  refine ⟨f, ?_, fun x => by rw [h4 x]; rfl⟩
  unfold m_X8_copy_132_135
  rw [h3]
  rfl
theorem lp_copy_135_132 (at0 th : Nat) (h1 : at0 + 129 ≤ 129) (h2 : th + 129 ≤ 129) : ∀ (j i : Nat) (X : GS), i + j = 129 → ∃ f : Nat → Int32, lp_X8_copy_135_132_3 (nI at0) (nI th) j i X = some (uA X 5 f) ∧ ∀ x, f x = if th + i ≤ x ∧ x < th + 129 then X.2.2.1 8 (at0 + (x - th)) else X.2.2.1 5 x := by
  intro j
  induction j with
  | zero => intro i X hi; exact ⟨X.2.2.1 5, by rw [lp_X8_copy_135_132_3, uA_self], fun x => by rw [if_neg (by omega)]⟩
  | succ j ih =>
    intro i X hi
    have a1 : nI at0 + nI i = nI (at0 + i) := nI_add at0 i
    have a2 : nI th + nI i = nI (th + i) := nI_add th i
    obtain ⟨f, h3, h4⟩ := ih (i + 1) (uA X 5 (up (X.2.2.1 5) (th + i) (X.2.2.1 8 (at0 + i)))) (by omega)
    refine ⟨f, ?_, fun x => ?_⟩
    · rw [lp_X8_copy_135_132_3]
      simp only [a1, a2, if_pos (inR_nI (show at0 + i < 129 by omega) (show 129 < 2 ^ 31 by omega)), if_pos (inR_nI (show th + i < 129 by omega) (show 129 < 2 ^ 31 by omega)), nI_clamp (show at0 + i < 2 ^ 31 by omega), nI_clamp (show th + i < 2 ^ 31 by omega)]
      rw [h3, uA_uA]
    · rw [h4 x, uA_at]
      have e : (uA X 5 (up (X.2.2.1 5) (th + i) (X.2.2.1 8 (at0 + i)))).2.2.1 8 = X.2.2.1 8 := uA_ne (by decide)
      rw [e]
      by_cases c1 : th + (i + 1) ≤ x ∧ x < th + 129
      · rw [if_pos c1, if_pos (by omega)]
      · rw [if_neg c1]
        by_cases c2 : x = th + i
        · subst c2
          rw [up_self, if_pos (by omega), show th + i - th = i by omega]
        · rw [up_ne c2, if_neg (by omega)]
theorem copy_135_132 {X : GS} {at0 th : Nat} (h1 : at0 + 129 ≤ 129) (h2 : th + 129 ≤ 129) : ∃ f : Nat → Int32, m_X8_copy_135_132 X (nI at0) (nI th) = some (uA X 5 f) ∧ ∀ x, f x = if th ≤ x ∧ x < th + 129 then X.2.2.1 8 (at0 + (x - th)) else X.2.2.1 5 x := by
  obtain ⟨f, h3, h4⟩ := lp_copy_135_132 at0 th h1 h2 129 0 X (by omega)
  refine ⟨f, ?_, fun x => by rw [h4 x]; rfl⟩
  unfold m_X8_copy_135_132
  rw [h3]
  rfl
