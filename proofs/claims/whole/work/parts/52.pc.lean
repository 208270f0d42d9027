/-! ===== the pure part, 3: the rows of the class and of the reference hold p and F; what is found ===== -/
def RC (p : Nat → Nat) (F : Nat → Bool) (b : BD) : Prop := ∀ u, u < 64 → b.2 0 u = nI (if F u = true then p u else 0)
def RM (p : Nat → Nat) (F : Nat → Bool) (n : Nat) (g : Nat → Int32) : Prop := n ≤ 16 ∧ g 64 = nI n ∧ (∀ u, u < 64 → g u = nI (p u)) ∧ ∀ u, u < 64 → (F u = true ↔ p u ≠ 0 ∧ ∀ l, l < n → g (97 + l) ≠ nI u)
theorem uA_uA {X : GS} {k : Nat} {f f' : Nat → Int32} : uA (uA X k f) k f' = uA X k f' := by simp only [uA, up_up]
theorem uA_at {X : GS} {k : Nat} {f : Nat → Int32} : (uA X k f).2.2.1 k = f := up_self
theorem inR_nI {a n : Nat} (h : a < n) (hn : n < 2 ^ 31) : inR (nI a) n := ⟨nI_pos (by omega), by rw [nI_clamp (by omega)]; exact h⟩
theorem nI_m1 {a : Nat} (h : a < 2 ^ 31) : ¬ nI a = -1 := by
  intro e
  have := congrArg Int32.toInt e
  rw [nI_toInt h] at this
  simp at this
theorem nI_ne {a b : Nat} (ha : a < 2 ^ 31) (hb : b < 2 ^ 31) (h : ¬ a = b) : ¬ nI a = nI b := fun e => h ((nI_eq ha hb).mp e)
theorem bnd1_some {α γ : Type} {a : α} {f : α → Option γ} : bnd1 (some a) f = f a := rfl
theorem bnd2_some {α β γ : Type} {a : α} {b : β} {f : α → β → Option γ} : bnd2 (some (a, b)) f = f a b := rfl
theorem bnd3_some {α β δ γ : Type} {a : α} {b : β} {c : δ} {f : α → β → δ → Option γ} : bnd3 (some (a, b, c)) f = f a b c := rfl
theorem elseE_n {α γ : Type} {f : α → Option γ} {g : Option γ} : elseE none f g = g := rfl
theorem elseE_s {α γ : Type} {v : α} {f : α → Option γ} {g : Option γ} : elseE (some v) f g = f v := rfl
theorem lp_loanAt (X : GS) (u : Int32) (n : Nat) (h16 : n ≤ 16) : ∀ (j i : Nat), i + j = n →
    (lp_X8_loanAt_2 X u j i = some none ∧ ∀ l, i ≤ l → l < n → X.2.2.1 5 (97 + l) ≠ u) ∨ ∃ l, i ≤ l ∧ l < n ∧ X.2.2.1 5 (97 + l) = u ∧ (∀ k, i ≤ k → k < l → X.2.2.1 5 (97 + k) ≠ u) ∧ lp_X8_loanAt_2 X u j i = some (some (nI l)) := by
  intro j
  induction j with
  | zero => intro i hi; exact Or.inl ⟨rfl, fun l h1 h2 => by omega⟩
  | succ j ih =>
    intro i hi
    rw [lp_X8_loanAt_2, if_pos (by omega)]
    by_cases e : X.2.2.1 5 (97 + i) = u
    · rw [if_pos e]
      exact Or.inr ⟨i, Nat.le_refl _, by omega, e, fun k h1 h2 => by omega, rfl⟩
    · rw [if_neg e]
      rcases ih (i + 1) (by omega) with ⟨h1, h2⟩ | ⟨l, h1, h2, h3, h4, h5⟩
      · refine Or.inl ⟨h1, fun l g1 g2 => ?_⟩
        by_cases e2 : l = i
        · subst e2; exact e
        · exact h2 l (by omega) g2
      · refine Or.inr ⟨l, by omega, h2, h3, fun k g1 g2 => ?_, h5⟩
        by_cases e2 : k = i
        · subst e2; exact e
        · exact h4 k (by omega) g2
theorem loanAt_cases {X : GS} {n : Nat} (hn : X.2.2.1 5 64 = nI n) (h16 : n ≤ 16) (u : Int32) :
    (m_X8_loanAt X u = some (-1) ∧ ∀ l, l < n → X.2.2.1 5 (97 + l) ≠ u) ∨ ∃ l, l < n ∧ X.2.2.1 5 (97 + l) = u ∧ (∀ k, k < l → X.2.2.1 5 (97 + k) ≠ u) ∧ m_X8_loanAt X u = some (nI l) := by
  unfold m_X8_loanAt
  rw [hn, nI_clamp (by omega)]
  rcases lp_loanAt X u n h16 n 0 (by omega) with ⟨h1, h2⟩ | ⟨l, h1, h2, h3, h4, h5⟩
  · left
    rw [h1]
    exact ⟨rfl, fun l h => h2 l (Nat.zero_le _) h⟩
  · right
    rw [h5]
    exact ⟨l, h2, h3, fun k h => h4 k (Nat.zero_le _) h, rfl⟩
theorem TI.ple {p : Nat → Nat} {F : Nat → Bool} (T : TI p F) {u : Nat} (hu : u < 64) : p u ≤ 64 := by
  rcases T.1 u hu with h | h
  · omega
  · exact isP_le h.1
theorem isFreeAt_nI {p : Nat → Nat} {F : Nat → Bool} {n : Nat} {X : GS} (T : TI p F) (R : RM p F n (X.2.2.1 5)) {u : Nat} (hu : u < 64) : m_X8_isFreeAt X (nI u) = some (if F u = true then 1 else 0) := by
  obtain ⟨r1, r2, r3, r4⟩ := R
  have hp := T.ple hu
  unfold m_X8_isFreeAt
  rw [if_pos (inR_nI (by omega) (by omega)), nI_clamp (by omega), r3 u hu]
  by_cases h0 : p u = 0
  · have hF : ¬ F u = true := fun h => (T.2.2.2.1 u hu h) h0
    rw [if_pos (by rw [h0]; decide), if_neg hF]
  · rw [if_neg (nI_nle (by omega) (by omega))]
    rcases loanAt_cases r2 r1 (nI u) with ⟨h1, h2⟩ | ⟨l, h1, h2, h3, h4⟩
    · rw [h1, bnd1_some, if_pos rfl, if_pos ((r4 u hu).mpr ⟨h0, h2⟩)]
    · rw [h4, bnd1_some, if_neg (nI_m1 (by omega)), if_neg (fun h => ((r4 u hu).mp h).2 l h1 h2)]
theorem RC.t {p : Nat → Nat} {F : Nat → Bool} {b : BD} (R : RC p F b) {u : Nat} (hu : u < 64) (h : F u = true) : b.2 0 u = nI (p u) := by rw [R u hu, if_pos h]
theorem RC.f {p : Nat → Nat} {F : Nat → Bool} {b : BD} (R : RC p F b) {u : Nat} (hu : u < 64) (h : ¬ F u = true) : b.2 0 u = nI 0 := by rw [R u hu, if_neg h]
theorem isBetter_nI {p : Nat → Nat} {F : Nat → Bool} {n w : Nat} {X : GS} {b : BD} (T : TI p F) (R : RM p F n (X.2.2.1 5)) (hw : w < 3) (hb : b.1 0 = nI w) (hg : X.2.2.1 5 126 = nI w) {u v : Nat} (hu : u < 64) (hv : v < 64) :
    m_X8_isBetter X (nI u) (nI v) = some (r_X5_isPreferred b (nI (p u)) (nI (p v))) := by
  unfold m_X8_isBetter r_X5_isPreferred
  obtain ⟨r1, r2, r3, r4⟩ := R
  simp only [if_neg (nI_m1 (show v < 2 ^ 31 by omega)), if_pos (inR_nI (show u < 129 by omega) (show 129 < 2 ^ 31 by omega)), if_pos (inR_nI (show v < 129 by omega) (show 129 < 2 ^ 31 by omega)), nI_clamp (show u < 2 ^ 31 by omega), nI_clamp (show v < 2 ^ 31 by omega), r3 u hu, r3 v hv, hb, hg]
  rcases (show w = 0 ∨ w = 1 ∨ w = 2 by omega) with rfl | rfl | rfl
  · rw [if_neg (by decide), if_neg (by decide), if_pos (show nI 0 = 0 by decide)]
    split <;> rfl
  · rw [if_neg (by decide), if_pos (by decide), if_neg (show ¬ nI 1 = 0 by decide), if_pos (show nI 1 = 1 by decide)]
    split <;> rfl
  · rw [if_pos (by decide), if_neg (show ¬ nI 2 = 0 by decide), if_neg (show ¬ nI 2 = 1 by decide)]
    split <;> rfl
section
variable {p : Nat → Nat} {F : Nat → Bool} {n w : Nat} {X : GS} {b : BD}
theorem lp_finds (T : TI p F) (R : RM p F n (X.2.2.1 5)) (RB : RC p F b) (hw : w < 3) (hb : b.1 0 = nI w) (hg : X.2.2.1 5 126 = nI w) {need : Nat} (hn1 : 1 ≤ need) (hn2 : need ≤ 64) : ∀ (j i : Nat) (a sz : Int32), i + j = 64 → ((a = -1 ∧ sz = 0 ∧ ∀ u, u < i → F u = true → p u < need) ∨ ∃ v, v < 64 ∧ a = nI v ∧ sz = nI (p v) ∧ F v = true ∧ need ≤ p v) →
    lp_X8_finds_4 X (nI need) j i a = some (lp_X5_find_7 b (nI need) j i a sz).1 ∧ (((lp_X5_find_7 b (nI need) j i a sz).1 = -1 ∧ ∀ u, u < 64 → F u = true → p u < need) ∨ ∃ v, v < 64 ∧ (lp_X5_find_7 b (nI need) j i a sz).1 = nI v ∧ F v = true ∧ need ≤ p v) := by
  intro j
  induction j with
  | zero =>
    intro i a sz hi h
    refine ⟨rfl, ?_⟩
    rcases h with ⟨h1, h2, h3⟩ | ⟨v, h1, h2, h3, h4, h5⟩
    · exact Or.inl ⟨h1, fun u hu => h3 u (by omega)⟩
    · exact Or.inr ⟨v, h1, h2, h4, h5⟩
  | succ j ih =>
    intro i a sz hi h
    have hi64 : i < 64 := by omega
    have hpi := T.ple hi64
    rw [lp_X8_finds_4, lp_X5_find_7, isFreeAt_nI T R hi64, bnd1_some]
    by_cases hF : F i = true
    · rw [if_pos hF, RB.t hi64 hF, R.2.2.1 i hi64, if_neg (by decide)]
      by_cases hlt : p i < need
      · rw [if_pos (nI_lt hlt (by omega)), if_pos (nI_lt hlt (by omega))]
        refine ih (i + 1) a sz (by omega) ?_
        rcases h with ⟨h1, h2, h3⟩ | h
        · refine Or.inl ⟨h1, h2, fun u hu hFu => ?_⟩
          by_cases e : u = i
          · subst e; exact hlt
          · exact h3 u (by omega) hFu
        · exact Or.inr h
      · rw [if_neg (nI_nlt (by omega) (by omega)), if_neg (nI_nlt (by omega) (by omega)), if_neg (nI_nle (by omega) (by omega))]
        have took : lp_X8_finds_4 X (nI need) j (i + 1) (nI i) = some (lp_X5_find_7 b (nI need) j (i + 1) (nI i) (nI (p i))).1 ∧ (((lp_X5_find_7 b (nI need) j (i + 1) (nI i) (nI (p i))).1 = -1 ∧ ∀ u, u < 64 → F u = true → p u < need) ∨ ∃ v, v < 64 ∧ (lp_X5_find_7 b (nI need) j (i + 1) (nI i) (nI (p i))).1 = nI v ∧ F v = true ∧ need ≤ p v) :=
          ih (i + 1) (nI i) (nI (p i)) (by omega) (Or.inr ⟨i, hi64, rfl, rfl, hF, by omega⟩)
        rcases h with ⟨rfl, rfl, h3⟩ | ⟨v, h1, rfl, rfl, h4, h5⟩
        · have e1 : m_X8_isBetter X (nI i) (-1) = some 1 := by unfold m_X8_isBetter; rw [if_pos rfl]
          rw [e1, bnd1_some, if_neg (by decide), if_pos (by decide)]
          exact took
        · rw [isBetter_nI T R hw hb hg hi64 h1, bnd1_some, if_neg (nI_pos (by omega))]
          by_cases e2 : r_X5_isPreferred b (nI (p i)) (nI (p v)) = 0
          · rw [if_pos e2, if_pos e2]
            exact ih (i + 1) (nI v) (nI (p v)) (by omega) (Or.inr ⟨v, h1, rfl, rfl, h4, h5⟩)
          · rw [if_neg e2, if_neg e2]
            exact took
    · rw [if_neg hF, if_pos rfl, RB.f hi64 hF, if_pos (nI_lt (by omega) (by omega))]
      refine ih (i + 1) a sz (by omega) ?_
      rcases h with ⟨h1, h2, h3⟩ | h
      · refine Or.inl ⟨h1, h2, fun u hu hFu => ?_⟩
        by_cases e : u = i
        · subst e; exact absurd hFu hF
        · exact h3 u (by omega) hFu
      · exact Or.inr h
/-- what is found: by the class and by the reference -/
theorem find_ok (T : TI p F) (R : RM p F n (X.2.2.1 5)) (RB : RC p F b) (hw : w < 3) (hb : b.1 0 = nI w) (hg : X.2.2.1 5 126 = nI w) {need : Nat} (hn1 : 1 ≤ need) (hn2 : need ≤ 64) :
    m_X8_finds X (nI need) = some (r_X5_find b (nI need)) ∧ ((r_X5_find b (nI need) = -1 ∧ ∀ u, u < 64 → F u = true → p u < need) ∨ ∃ v, v < 64 ∧ r_X5_find b (nI need) = nI v ∧ F v = true ∧ need ≤ p v) := by
  have h := lp_finds T R RB hw hb hg hn1 hn2 64 0 (-1) 0 (by omega) (Or.inl ⟨rfl, rfl, fun u hu => by omega⟩)
  unfold m_X8_finds r_X5_find
  rw [h.1]
  exact ⟨rfl, h.2⟩
theorem lp_greatest (T : TI p F) (R : RM p F n (X.2.2.1 5)) (RB : RC p F b) : ∀ (j i m : Nat), i + j = 64 → m ≤ 64 → (∀ u, u < i → F u = true → p u ≤ m) → (m = 0 ∨ ∃ u, u < 64 ∧ F u = true ∧ p u = m) →
    ∃ M, M ≤ 64 ∧ lp_X5_greatestSize_4 b j i (nI m) = nI M ∧ lp_X8_greatestFree_4 X j i (nI m) = some (nI M) ∧ (∀ u, u < 64 → F u = true → p u ≤ M) ∧ (M = 0 ∨ ∃ u, u < 64 ∧ F u = true ∧ p u = M) := by
  intro j
  induction j with
  | zero => intro i m hi hm h1 h2; exact ⟨m, hm, rfl, rfl, fun u hu => h1 u (by omega), h2⟩
  | succ j ih =>
    intro i m hi hm h1 h2
    have hi64 : i < 64 := by omega
    have hpi := T.ple hi64
    rw [lp_X8_greatestFree_4, lp_X5_greatestSize_4, isFreeAt_nI T R hi64, bnd1_some]
    by_cases hF : F i = true
    · rw [if_pos hF, RB.t hi64 hF, R.2.2.1 i hi64, if_neg (show ¬ (1 : Int32) = 0 by decide)]
      by_cases hlt : m < p i
      · rw [if_pos (nI_lt hlt (by omega)), if_neg (nI_ge hlt (by omega))]
        refine ih (i + 1) (p i) (by omega) hpi (fun u hu hFu => ?_) (Or.inr ⟨i, hi64, hF, rfl⟩)
        by_cases e : u = i
        · subst e; exact Nat.le_refl _
        · have := h1 u (by omega) hFu; omega
      · rw [if_neg (nI_nlt (by omega) (by omega)), if_pos (nI_le (by omega) (by omega))]
        refine ih (i + 1) m (by omega) hm (fun u hu hFu => ?_) h2
        by_cases e : u = i
        · subst e; omega
        · exact h1 u (by omega) hFu
    · rw [if_neg hF, if_pos rfl, RB.f hi64 hF, if_neg (nI_nlt (by omega) (by omega))]
      refine ih (i + 1) m (by omega) hm (fun u hu hFu => ?_) h2
      by_cases e : u = i
      · subst e; exact absurd hFu hF
      · exact h1 u (by omega) hFu
theorem greatest_ok (T : TI p F) (R : RM p F n (X.2.2.1 5)) (RB : RC p F b) : ∃ M, M ≤ 64 ∧ r_X5_greatestSize b = nI M ∧ m_X8_greatestFree X = some (nI M) ∧ (∀ u, u < 64 → F u = true → p u ≤ M) ∧ (M = 0 ∨ ∃ u, u < 64 ∧ F u = true ∧ p u = M) := by
  obtain ⟨M, h1, h2, h3, h4, h5⟩ := lp_greatest T R RB 64 0 0 (by omega) (by omega) (fun u hu => by omega) (Or.inl rfl)
  refine ⟨M, h1, h2, ?_, h4, h5⟩
  unfold m_X8_greatestFree
  have e : (nI 0 : Int32) = 0 := by decide
  rw [e] at h3
  rw [h3]
  rfl
end
