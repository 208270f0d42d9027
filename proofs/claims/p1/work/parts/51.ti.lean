/-! ===== the pure part, 2: how the board is tiled =====
p u: the size of the piece that begins at u, or 0; F u: that piece is free -/
def TI (p : Nat → Nat) (F : Nat → Bool) : Prop :=
  (∀ u, u < 64 → p u = 0 ∨ (isP (p u) ∧ u % p u = 0)) ∧
  (∀ u, u < 64 → ∃ v, v ≤ u ∧ u < v + p v) ∧
  (∀ u v, u < v → v < u + p u → v < 64 → p v = 0) ∧
  (∀ u, u < 64 → F u = true → p u ≠ 0) ∧
  (∀ u, u < 64 → F u = true → p u < 64 → F (tw u (p u)) = true → p (tw u (p u)) ≠ p u)
theorem up_cases {α : Type} {f : Nat → α} {k i : Nat} {v : α} : (i = k ∧ up f k v i = v) ∨ (¬ i = k ∧ up f k v i = f i) := by
  by_cases h : i = k
  · exact Or.inl ⟨h, by subst h; exact up_self⟩
  · exact Or.inr ⟨h, up_ne h⟩
theorem TI.al {p : Nat → Nat} {F : Nat → Bool} (T : TI p F) {u : Nat} (hu : u < 64) (h : p u ≠ 0) : isP (p u) ∧ u % p u = 0 := (T.1 u hu).resolve_left h
theorem TI.end_le {p : Nat → Nat} {F : Nat → Bool} (T : TI p F) {u : Nat} (hu : u < 64) : u + p u ≤ 64 := by
  rcases T.1 u hu with h | ⟨h, h2⟩
  · omega
  · generalize p u = s at h h2
    rcases h with rfl | rfl | rfl | rfl | rfl | rfl | rfl <;> omega
theorem TI_halve0 {p : Nat → Nat} {F : Nat → Bool} {a h x y : Nat} (T : TI p F) (ha : a < 64) (hp : p a = 2 * h) (hh : isP h) (hF : F a = false) (hxy : (x = a ∧ y = a + h) ∨ (x = a + h ∧ y = a)) : a + h < 64 ∧ F (a + h) = false ∧ TI (up (up p a h) (a + h) h) (up F x true) ∧ (up F x true) y = false := by
  have h0 := isP_pos hh
  obtain ⟨t1, t2, t3, t4, t5⟩ := T
  have hal := (t1 a ha).resolve_left (by omega)
  rw [hp] at hal
  have hend : a + 2 * h ≤ 64 := by
    have h3 := isP_le hal.1; have h2 := hal.2
    rcases hh with rfl | rfl | rfl | rfl | rfl | rfl | rfl <;> omega
  have ha2 : a + h < 64 := by omega
  have hz : p (a + h) = 0 := t3 a (a + h) (by omega) (by omega) ha2
  have hF2 : F (a + h) = false := by
    cases hc : F (a + h) with
    | false => rfl
    | true => exact absurd hz (t4 _ ha2 hc)
  have hpa : ∀ i, ¬ i = a → ¬ i = a + h → up (up p a h) (a + h) h i = p i := fun i h1 h2 => by rw [up_ne h2, up_ne h1]
  have hp1 : up (up p a h) (a + h) h a = h := by rw [up_ne (by omega), up_self]
  have hp2 : up (up p a h) (a + h) h (a + h) = h := up_self
  have hmod : a % h = 0 ∧ (a + h) % h = 0 ∧ a % (2 * h) = 0 := by
    have h2 := hal.2
    rcases hh with rfl | rfl | rfl | rfl | rfl | rfl | rfl <;> omega
  have htw : tw a h = a + h := by
    rcases tw_cases hh hmod.1 with h1 | h1 <;> omega
  have htw2 : tw (a + h) h = a := by rw [← htw]; exact tw_tw hh hmod.1
  have hy : (up F x true) y = false := by
    rcases hxy with ⟨rfl, rfl⟩ | ⟨rfl, rfl⟩
    · rw [up_ne (by omega)]; exact hF2
    · rw [up_ne (by omega)]; exact hF
  refine ⟨ha2, hF2, ⟨fun u hu => ?_, fun u hu => ?_, fun u v h1 h2 h3 => ?_, fun u hu h1 => ?_, fun u hu h1 h2 h3 => ?_⟩, hy⟩
  · by_cases e1 : u = a
    · subst e1; rw [hp1]; exact Or.inr ⟨hh, hmod.1⟩
    · by_cases e2 : u = a + h
      · subst e2; rw [hp2]; exact Or.inr ⟨hh, hmod.2.1⟩
      · rw [hpa u e1 e2]; exact t1 u hu
  · obtain ⟨v, h1, h2⟩ := t2 u hu
    by_cases e1 : v = a
    · subst e1
      by_cases e2 : u < v + h
      · exact ⟨v, h1, by rw [hp1]; exact e2⟩
      · exact ⟨v + h, by omega, by rw [hp2]; omega⟩
    · by_cases e2 : v = a + h
      · subst e2; omega
      · exact ⟨v, h1, by rw [hpa v e1 e2]; exact h2⟩
  · by_cases e1 : u = a
    · subst e1
      rw [hp1] at h2
      rw [hpa v (by omega) (by omega)]
      exact t3 u v h1 (by omega) h3
    · by_cases e2 : u = a + h
      · subst e2
        rw [hp2] at h2
        rw [hpa v (by omega) (by omega)]
        exact t3 a v (by omega) (by omega) h3
      · rw [hpa u e1 e2] at h2
        by_cases e3 : v = a
        · subst e3
          have := t3 u v h1 h2 h3
          omega
        · by_cases e4 : v = a + h
          · subst e4
            by_cases e5 : u < a
            · have := t3 u a e5 (by omega) ha
              omega
            · have := t3 a u (by omega) (by omega) (by omega)
              omega
          · rw [hpa v e3 e4]; exact t3 u v h1 h2 h3
  · by_cases e1 : u = a
    · subst e1; rw [hp1]; omega
    · by_cases e2 : u = a + h
      · subst e2; rw [hp2]; omega
      · rw [hpa u e1 e2]
        rw [up_ne (by rcases hxy with ⟨rfl, rfl⟩ | ⟨rfl, rfl⟩ <;> assumption)] at h1
        exact t4 u hu h1
  · -- no twins
    have hxa : x = a ∨ x = a + h := by rcases hxy with ⟨rfl, -⟩ | ⟨rfl, -⟩ <;> simp
    have hpx : up (up p a h) (a + h) h x = h := by rcases hxa with rfl | rfl; exact hp1; exact hp2
    have htx : tw x h = y := by rcases hxy with ⟨rfl, rfl⟩ | ⟨rfl, rfl⟩; exact htw; exact htw2
    have hFx : F a = false ∧ F (a + h) = false := ⟨hF, hF2⟩
    by_cases e1 : u = x
    · subst e1
      rw [hpx, htx, hy] at h3
      cases h3
    · rw [up_ne e1] at h1
      have e2 : ¬ u = a := fun e => by rw [e, hF] at h1; cases h1
      have e3 : ¬ u = a + h := fun e => by rw [e, hF2] at h1; cases h1
      rw [hpa u e2 e3] at h2 h3 ⊢
      by_cases e4 : tw u (p u) = x
      · rw [e4, hpx]
        intro e5
        have h6 := (t1 u hu).resolve_left (t4 u hu h1)
        have h7 := tw_tw h6.1 h6.2
        rw [e4, ← e5, htx] at h7
        rw [← h7] at h1
        rcases hxy with ⟨-, rfl⟩ | ⟨-, rfl⟩
        · rw [hF2] at h1; cases h1
        · rw [hF] at h1; cases h1
      · rw [up_ne e4] at h3
        have e5 : ¬ tw u (p u) = a := fun e => by rw [e, hF] at h3; cases h3
        have e6 : ¬ tw u (p u) = a + h := fun e => by rw [e, hF2] at h3; cases h3
        rw [hpa _ e5 e6]
        exact t5 u hu h1 h2 h3
/-- two pieces, neither of them free, are joined -/
theorem TI_join0 {p : Nat → Nat} {F : Nat → Bool} {a h : Nat} (T : TI p F) (ha : a + h < 64) (hh : isP h) (h64 : h < 64) (h0 : a % (2 * h) = 0) (hp : p a = h) (hp2 : p (a + h) = h) : TI (up (up p a (2 * h)) (a + h) 0) (up (up F a false) (a + h) false) := by
  have h1 := isP_pos hh
  obtain ⟨t1, t2, t3, t4, t5⟩ := T
  have hpa : ∀ i, ¬ i = a → ¬ i = a + h → up (up p a (2 * h)) (a + h) 0 i = p i := fun i h1 h2 => by rw [up_ne h2, up_ne h1]
  have hq1 : up (up p a (2 * h)) (a + h) 0 a = 2 * h := by rw [up_ne (by omega), up_self]
  have hq2 : up (up p a (2 * h)) (a + h) 0 (a + h) = 0 := up_self
  have hFF : ∀ i, up (up F a false) (a + h) false i = true → ¬ i = a ∧ ¬ i = a + h ∧ F i = true := by
    intro i hi
    by_cases e1 : i = a + h
    · subst e1; rw [up_self] at hi; cases hi
    · rw [up_ne e1] at hi
      by_cases e2 : i = a
      · subst e2; rw [up_self] at hi; cases hi
      · rw [up_ne e2] at hi; exact ⟨e2, e1, hi⟩
  refine ⟨fun u hu => ?_, fun u hu => ?_, fun u v g1 g2 g3 => ?_, fun u hu g1 => ?_, fun u hu g1 g2 g3 => ?_⟩
  · by_cases e1 : u = a
    · subst e1; rw [hq1]; exact Or.inr ⟨isP_dbl hh h64, h0⟩
    · by_cases e2 : u = a + h
      · subst e2; rw [hq2]; exact Or.inl rfl
      · rw [hpa u e1 e2]; exact t1 u hu
  · obtain ⟨v, g1, g2⟩ := t2 u hu
    by_cases e1 : v = a
    · subst e1
      exact ⟨v, g1, by rw [hq1]; omega⟩
    · by_cases e2 : v = a + h
      · subst e2; exact ⟨a, by omega, by rw [hq1]; omega⟩
      · exact ⟨v, g1, by rw [hpa v e1 e2]; exact g2⟩
  · by_cases e1 : u = a
    · subst e1
      rw [hq1] at g2
      by_cases e2 : v = u + h
      · subst e2; exact hq2
      · rw [hpa v (by omega) e2]
        by_cases e3 : v < u + h
        · exact t3 u v g1 (by omega) g3
        · exact t3 (u + h) v (by omega) (by omega) g3
    · by_cases e2 : u = a + h
      · subst e2; rw [hq2] at g2; omega
      · rw [hpa u e1 e2] at g2
        by_cases e3 : v = a
        · subst e3
          have := t3 u v g1 g2 g3
          omega
        · by_cases e4 : v = a + h
          · subst e4; exact hq2
          · rw [hpa v e3 e4]; exact t3 u v g1 g2 g3
  · obtain ⟨e1, e2, e3⟩ := hFF u g1
    rw [hpa u e1 e2]
    exact t4 u hu e3
  · obtain ⟨e1, e2, e3⟩ := hFF u g1
    rw [hpa u e1 e2] at g2 g3 ⊢
    obtain ⟨e4, e5, e6⟩ := hFF _ g3
    rw [hpa _ e4 e5]
    exact t5 u hu e3 g2 e6
theorem TI_free {p : Nat → Nat} {F : Nat → Bool} {a : Nat} (T : TI p F) (ha : a < 64) (hp : p a ≠ 0) (hno : p a < 64 → F (tw a (p a)) = true → p (tw a (p a)) ≠ p a) : TI p (up F a true) := by
  obtain ⟨t1, t2, t3, t4, t5⟩ := T
  refine ⟨t1, t2, t3, fun u hu g1 => ?_, fun u hu g1 g2 g3 => ?_⟩
  · by_cases e : u = a
    · subst e; exact hp
    · rw [up_ne e] at g1; exact t4 u hu g1
  · have hal := (t1 a ha).resolve_left hp
    by_cases e : u = a
    · subst e
      by_cases e2 : tw u (p u) = u
      · exfalso
        have h1 := isP_pos hal.1
        rcases tw_cases hal.1 hal.2 with h2 | h2 <;> omega
      · rw [up_ne e2] at g3; exact hno g2 g3
    · rw [up_ne e] at g1
      by_cases e2 : tw u (p u) = a
      · rw [e2]
        intro e3
        have h6 := (t1 u hu).resolve_left (t4 u hu g1)
        have h7 := tw_tw h6.1 h6.2
        rw [e2, ← e3] at h7
        rw [← h7] at g1
        refine hno (by omega) g1 ?_
        rw [h7]; exact e3.symm
      · rw [up_ne e2] at g3; exact t5 u hu g1 g2 g3
theorem TI_mono {p : Nat → Nat} {F F' : Nat → Bool} (T : TI p F) (h : ∀ u, F' u = true → F u = true) : TI p F' :=
  ⟨T.1, T.2.1, T.2.2.1, fun u hu g => T.2.2.2.1 u hu (h u g), fun u hu g1 g2 g3 => T.2.2.2.2 u hu (h u g1) g2 (h _ g3)⟩
/-- the piece that has a unit is one -/
theorem TI.uniq {p : Nat → Nat} {F : Nat → Bool} (T : TI p F) {u v w : Nat} (hu : u < 64) (h1 : v ≤ u) (h2 : u < v + p v) (h3 : w ≤ u) (h4 : u < w + p w) : v = w := by
  obtain ⟨t1, t2, t3, t4, t5⟩ := T
  by_cases e : v < w
  · have := t3 v w e (by omega) (by omega); omega
  · by_cases e2 : w < v
    · have := t3 w v e2 (by omega) (by omega); omega
    · omega
/-- a part in which all is free, and which is within no greater piece, is one piece -/
theorem TI.single {p : Nat → Nat} {F : Nat → Bool} (T : TI p F) : ∀ (k : Nat), k < 7 → ∀ u, u + 2 ^ k ≤ 64 → u % 2 ^ k = 0 → (∀ v, v < 64 → p v ≠ 0 → v < u + 2 ^ k → u < v + p v → F v = true) → (∀ v, v ≤ u → u < v + p v → p v ≤ 2 ^ k) → p u = 2 ^ k := by
  intro k
  induction k with
  | zero =>
    intro _ u hu h0 hf hs
    obtain ⟨v, h1, h2⟩ := T.2.1 u (by omega)
    have h3 := hs v h1 h2
    have : v = u := by omega
    subst this
    omega
  | succ k ih =>
    intro hk u hu h0 hf hs
    have e2 : 2 ^ (k + 1) = 2 * 2 ^ k := by rw [Nat.pow_succ]; omega
    rw [e2] at hu h0 hf hs ⊢
    have hP : isP (2 ^ k) := by
      rcases (show k = 0 ∨ k = 1 ∨ k = 2 ∨ k = 3 ∨ k = 4 ∨ k = 5 by omega) with rfl | rfl | rfl | rfl | rfl | rfl <;> (unfold isP; decide)
    generalize 2 ^ k = h at *
    have hpos := isP_pos hP
    have hh0 : u % h = 0 ∧ (u + h) % h = 0 := by
      rcases hP with rfl | rfl | rfl | rfl | rfl | rfl | rfl <;> omega
    apply Classical.byContradiction
    intro hne
    have key : ∀ v, v < 64 → v ≤ u → u < v + p v → p v ≤ h := by
      intro v hv h1 h2
      have h3 := hs v h1 h2
      have hal := T.al hv (by omega)
      by_cases e : p v = 2 * h
      · exfalso
        have : v = u := by
          have h4 := hal.2
          rw [e] at h4 h2
          rcases hP with rfl | rfl | rfl | rfl | rfl | rfl | rfl <;> omega
        subst this
        exact hne e
      · have := hal.1
        unfold isP at this hP
        omega
    have a1 : p u = h := ih (by omega) u (by omega) hh0.1 (fun v g1 g0 g2 g3 => hf v g1 g0 (by omega) g3) (fun v g1 g2 => key v (by omega) g1 g2)
    have a2 : p (u + h) = h := by
      refine ih (by omega) (u + h) (by omega) hh0.2 (fun v g1 g0 g2 g3 => hf v g1 g0 (by omega) (by omega)) (fun v g1 g2 => ?_)
      apply Classical.byContradiction
      intro hgt
      have hv : v < 64 := by omega
      have hal := T.al hv (by omega)
      have : v ≤ u := by
        have h4 := hal.2
        have h5 := hal.1
        generalize p v = s at *
        rcases hP with rfl | rfl | rfl | rfl | rfl | rfl | rfl <;> rcases h5 with rfl | rfl | rfl | rfl | rfl | rfl | rfl <;> omega
      have := key v hv this (by omega)
      omega
    have f1 : F u = true := hf u (by omega) (by omega) (by omega) (by omega)
    have f2 : F (u + h) = true := hf (u + h) (by omega) (by omega) (by omega) (by omega)
    have t5 := T.2.2.2.2 u (by omega) f1 (by omega)
    rw [a1] at t5
    have : tw u h = u + h := by rcases tw_cases hP hh0.1 with h1 | h1 <;> omega
    rw [this] at t5
    exact t5 f2 a2
