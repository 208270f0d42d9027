/-! ===== the pure part, 6: a piece that becomes free, to the end ===== -/
theorem isP_top {s : Nat} (h : isP s) : ∃ m, m < 7 ∧ s * 2 ^ m = 64 := by
  rcases h with rfl | rfl | rfl | rfl | rfl | rfl | rfl
  · exact ⟨6, by omega, by decide⟩
  · exact ⟨5, by omega, by decide⟩
  · exact ⟨4, by omega, by decide⟩
  · exact ⟨3, by omega, by decide⟩
  · exact ⟨2, by omega, by decide⟩
  · exact ⟨1, by omega, by decide⟩
  · exact ⟨0, by omega, by decide⟩
theorem isP_up {s t : Nat} (h : isP s) (ht : isP t) (hle : s ≤ t) : ∃ k, k < 7 ∧ t = s * 2 ^ k := by
  rcases h with rfl | rfl | rfl | rfl | rfl | rfl | rfl <;> rcases ht with rfl | rfl | rfl | rfl | rfl | rfl | rfl <;>
    first
    | omega
    | exact ⟨0, by omega, by decide⟩
    | exact ⟨1, by omega, by decide⟩
    | exact ⟨2, by omega, by decide⟩
    | exact ⟨3, by omega, by decide⟩
    | exact ⟨4, by omega, by decide⟩
    | exact ⟨5, by omega, by decide⟩
    | exact ⟨6, by omega, by decide⟩
theorem rel_ok {p : Nat → Nat} {F : Nat → Bool} {n st s : Nat} {b : BD} {X : GS} (T : TI p F) (hst : st < 64) (hp : p st = s) (hs : isP s) (hF : F st = false) (RB : RC p F b) (RG : ∀ u, u < 64 → X.2.2.1 5 u = nI (p u)) (h16 : n ≤ 16) (hn : X.2.2.1 5 64 = nI n)
    (HL : ∀ u, u < 64 → ((∃ l, l < n ∧ X.2.2.1 5 (97 + l) = nI u) ↔ (u ≠ st ∧ p u ≠ 0 ∧ F u = false))) :
    ∃ (p' : Nat → Nat) (F' : Nat → Bool) (J c : Nat) (g' : Nat → Int32), TI p' F' ∧ RC p' F' (u_X5_release b (nI st) (nI s)) ∧ (u_X5_release b (nI st) (nI s)).1 2 = b.1 2 + nI c ∧ (∀ i, ¬ i = 2 → (u_X5_release b (nI st) (nI s)).1 i = b.1 i) ∧ (∀ i, ¬ i = 0 → (u_X5_release b (nI st) (nI s)).2 i = b.2 i) ∧
      m_X8_joins X (nI st) = some (uA X 5 g') ∧ g' 128 = X.2.2.1 5 128 + nI c ∧ (∀ i, 64 ≤ i → ¬ i = 128 → g' i = X.2.2.1 5 i) ∧ RM p' F' n g' ∧ r_X5_joinedSize b (nI st) (nI s) = nI J ∧ s ≤ J ∧ J ≤ 64 ∧
      (∀ u, u < 64 → ((p' u ≠ 0 ∧ F' u = false) ↔ (u ≠ st ∧ p u ≠ 0 ∧ F u = false))) ∧
      (∀ u, u < 64 → u ≠ st → p u ≠ 0 → F u = false → p' u = p u) ∧ (∃ u, u < 64 ∧ F' u = true ∧ p' u = J) ∧
      (∀ u, u < 64 → F' u = true → p' u = J ∨ (F u = true ∧ p' u = p u)) ∧
      (∀ u, u < 64 → F u = true → p u ≤ J ∨ (F' u = true ∧ p' u = p u)) := by
  obtain ⟨m, hm7, hm⟩ := isP_top hs
  have hpos := isP_pos hs
  have hal := T.al hst (by omega)
  rw [hp] at hal
  have ha : st = st - st % s := by omega
  have RL : ∀ u, u < 64 → u ≠ st → (F u = true ↔ p u ≠ 0 ∧ ∀ l, l < n → X.2.2.1 5 (97 + l) ≠ nI u) := by
    intro u hu hne
    constructor
    · intro h
      refine ⟨T.2.2.2.1 u hu h, fun l hl hz => ?_⟩
      have := ((HL u hu).mp ⟨l, hl, hz⟩).2.2
      rw [h] at this
      cases this
    · rintro ⟨h1, h2⟩
      cases hc : F u with
      | true => rfl
      | false =>
        obtain ⟨l, hl, hz⟩ := (HL u hu).mpr ⟨hne, h1, hc⟩
        exact absurd hz (h2 l hl)
  obtain ⟨p1, F1, a1, J, c, C, cJ, ca, q1, ⟨b1, q2, q3, q4, q5, q6⟩, g1, r1, r2, r3, r4⟩ := join_ok (b0 := b) hst h16 m s p F st b X hs hm T ha hp hF RB RG hn RL (fun q _ _ _ => rfl)
  obtain ⟨c1, c2, c3, c4, c5, c6, c7, c8, c9, c10⟩ := C
  have hJ : r_X5_joinedSize b (nI st) (nI s) = nI J := by
    unfold r_X5_joinedSize
    rw [q1 64 (by omega)]
    rfl
  have hJ64 := isP_le cJ
  have hJ0 := isP_pos cJ
  have NA : ¬ (a1 ≠ st ∧ p a1 ≠ 0 ∧ F a1 = false) := by
    rintro ⟨h1, h2, h3⟩
    have h4 := c8 a1 c1 h1 h2 h3
    rw [c3] at h4
    have h5 : st % J < J := Nat.mod_lt _ hJ0
    have h6 := Nat.mod_le st J
    exact h1 (T.uniq hst (by omega) (by omega) (Nat.le_refl st) (by omega))
  have OC : ∀ u, u < 64 → ((p1 u ≠ 0 ∧ up F1 a1 true u = false) ↔ (u ≠ st ∧ p u ≠ 0 ∧ F u = false)) := by
    intro u hu
    by_cases e : u = a1
    · subst e
      rw [up_self]
      exact ⟨fun h => (nomatch h.2), fun h => absurd h NA⟩
    · rw [up_ne e, c7 u hu]
      exact ⟨fun h => h.resolve_left e, fun h => Or.inr h⟩
  have hRel : u_X5_release b (nI st) (nI s) = bA b1 0 (up (b1.2 0) a1 (nI J)) := by
    unfold u_X5_release
    rw [q2 64 b (nI s) (by omega) hJ, hJ, partOf_nI hst cJ, ← ca]
    exact setSize_nI c1
  have T2 := TI_free c2 c1 (by omega) (fun h1 h2 => by rw [c3] at h1 h2 ⊢; exact c6 h1 h2)
  rw [hRel]
  refine ⟨p1, up F1 a1 true, J, c, g1, T2, fun u hu => ?_, q4, q5, fun i hi => ?_, ?_, r3, r4, ⟨h16, by rw [r4 64 (by omega) (by omega), hn], r2, fun u hu => ?_⟩, hJ, by omega, hJ64, OC, c8, ⟨a1, c1, up_self, c3⟩, fun u hu h => ?_, fun u hu h => ?_⟩
  · show up (b1.2 0) a1 (nI J) u = _
    by_cases e : u = a1
    · subst e; rw [up_self, up_self, if_pos rfl, c3]
    · rw [up_ne e, up_ne e]; exact q3 u hu
  · show up b1.2 0 _ i = _
    rw [up_ne hi]; exact q6 i hi
  · unfold m_X8_joins
    rw [r1 1000 (by omega)]
    rfl
  · have eL : ∀ l, l < n → g1 (97 + l) = X.2.2.1 5 (97 + l) := fun l hl => r4 (97 + l) (by omega) (by omega)
    constructor
    · intro h
      refine ⟨T2.2.2.2.1 u hu h, fun l hl hz => ?_⟩
      rw [eL l hl] at hz
      have := ((OC u hu).mpr ((HL u hu).mp ⟨l, hl, hz⟩)).2
      rw [h] at this
      cases this
    · rintro ⟨h1, h2⟩
      cases hc : up F1 a1 true u with
      | true => rfl
      | false =>
        obtain ⟨l, hl, hz⟩ := (HL u hu).mpr ((OC u hu).mp ⟨h1, hc⟩)
        exact absurd (by rw [eL l hl]; exact hz) (h2 l hl)
  · by_cases e : u = a1
    · subst e; exact Or.inl c3
    · rw [up_ne e] at h; exact Or.inr (c9 u hu h)
  · by_cases e : u = a1
    · subst e
      rcases c10 u hu h with h1 | h1
      · exact Or.inl h1
      · rw [c4] at h1; cases h1.1
    · rw [up_ne e]; exact c10 u hu h
