/-! ===== the pure part, 4: a piece that is not free is halved ===== -/
theorem halves_step {X : GS} {a h need w j : Nat} (ha2 : a + h < 64) (h1 : 1 ≤ h) (hlt : need < 2 * h) (hG : X.2.2.1 5 a = nI (2 * h)) (hw : X.2.2.1 5 126 = nI w) (hw3 : w < 3) :
    lp_X8_halves_2 (nI need) (j + 1) (nI a) X = lp_X8_halves_2 (nI need) j (nI (if w = 1 then a + h else a)) (uA X 5 (up (up (up (X.2.2.1 5) a (nI h)) (a + h) (nI h)) 127 (X.2.2.1 5 127 + 1))) := by
  have ca : (nI a).toNatClampNeg = a := nI_clamp (by omega)
  have cb : (nI (a + h)).toNatClampNeg = a + h := nI_clamp (by omega)
  have i1 : inR (nI a) 129 := inR_nI (by omega) (by omega)
  have i2 : inR (nI (a + h)) 129 := inR_nI (by omega) (by omega)
  have hh : nI (2 * h) / 2 = nI h := by rw [nI_half (by omega)]; congr 1; omega
  have e126 : up (up (X.2.2.1 5) a (nI h)) (a + h) (nI h) 126 = nI w := by rw [up_ne (by omega), up_ne (by omega), hw]
  have e127 : up (up (X.2.2.1 5) a (nI h)) (a + h) (nI h) 127 = X.2.2.1 5 127 := by rw [up_ne (by omega), up_ne (by omega)]
  rw [lp_X8_halves_2]
  simp only [if_pos i1, ca, hG, if_neg (nI_ge hlt (show 2 * h < 2 ^ 31 by omega)), hh, nI_add, if_pos i2, cb, e126, e127, uA_uA]
  by_cases e : w = 1
  · subst e
    rw [if_pos (show nI 1 = 1 by decide), if_pos rfl]
  · rw [if_neg (neL (k := 1) (x := 1) rfl (by omega) (by omega) e), if_neg e]
theorem halves_stop {X : GS} {a need j : Nat} (ha : a < 64) (hn : need < 2 ^ 31) (hG : X.2.2.1 5 a = nI need) : lp_X8_halves_2 (nI need) (j + 1) (nI a) X = some (nI a, X) := by
  have ca : (nI a).toNatClampNeg = a := nI_clamp (by omega)
  have i1 : inR (nI a) 129 := inR_nI (by omega) (by omega)
  rw [lp_X8_halves_2, if_pos i1]
  simp only [ca, hG, if_pos (nI_le (Nat.le_refl need) hn)]
theorem setSize_nI {b : BD} {a : Nat} {v : Int32} (ha : a < 64) : u_X5_setSize b (nI a) v = bA b 0 (up (b.2 0) a v) := by
  unfold u_X5_setSize
  rw [if_neg (nI_pos (by omega)), if_neg (geL (k := 64) (x := 64) rfl ha (by omega)), nI_clamp (by omega)]
theorem sizeAt_nI {b : BD} {a : Nat} (ha : a < 64) : r_X5_sizeAt b (nI a) = b.2 0 a := by
  unfold r_X5_sizeAt
  rw [if_neg (nI_pos (by omega)), if_neg (geL (k := 64) (x := 64) rfl ha (by omega)), nI_clamp (by omega)]
theorem upper_nI {b : BD} {w : Nat} (h : b.1 0 = nI w) (hw : w < 3) : r_X5_isUpperTaken b = if w = 1 then 1 else 0 := by
  unfold r_X5_isUpperTaken
  rw [h]
  by_cases e : w = 1
  · subst e; rw [if_pos (show nI 1 = 1 by decide), if_pos rfl]
  · rw [if_neg (neL (k := 1) (x := 1) rfl (by omega) (by omega) e), if_neg e]
theorem pzCut_step {b : BD} {a h need w j : Nat} (ha2 : a + h < 64) (h1 : 1 ≤ h) (hle : need ≤ h) (hw : b.1 0 = nI w) (hw3 : w < 3) :
    lp_X5_cutDown_8 (nI need) (j + 1) (nI a) (nI h) b = lp_X5_cutDown_8 (nI need) j (nI (if w = 1 then a + h else a)) (nI (h / 2)) (bA (bS b 1 (b.1 1 + 1)) 0 (up (b.2 0) (if w = 1 then a else a + h) (nI h))) := by
  have hu : (bS b 1 (b.1 1 + 1)).1 0 = nI w := hw
  have n1 : ¬ nI h < 1 := by
    intro e
    have : nI h < nI 1 := e
    rw [nI_ltI (by omega) (by omega)] at this
    omega
  rw [lp_X5_cutDown_8, if_neg (nI_nlt hle (by omega)), if_neg n1, upper_nI hu hw3]
  by_cases e : w = 1
  · rw [if_pos e, if_neg (by decide), nI_add, nI_half (by omega), setSize_nI (by omega), if_pos e, if_pos e]
    rfl
  · rw [if_neg e, if_pos rfl, nI_add, nI_half (by omega), setSize_nI (by omega), if_neg e, if_neg e]
    rfl
theorem pzCut_stop {b : BD} {a half need j : Nat} (h : half < need) (hn : need < 2 ^ 31) : lp_X5_cutDown_8 (nI need) (j + 1) (nI a) (nI half) b = some (nI a, nI half, b) := by
  rw [lp_X5_cutDown_8, if_pos (nI_lt h hn)]
/-- what is left behind cutting the piece a of size s -/
def Cut (p : Nat → Nat) (F : Nat → Bool) (a s : Nat) (p' : Nat → Nat) (F' : Nat → Bool) (a' need : Nat) : Prop :=
  a' < 64 ∧ TI p' F' ∧ p' a' = need ∧ F' a' = false ∧
  (∀ u, u < 64 → ((p' u ≠ 0 ∧ F' u = false) ↔ u = a' ∨ (u ≠ a ∧ p u ≠ 0 ∧ F u = false))) ∧
  (∀ u, u < 64 → u ≠ a → p u ≠ 0 → p' u = p u) ∧
  (∀ u, u < 64 → F' u = true → (F u = true ∧ p' u = p u) ∨ p' u < s) ∧ (a' = a ∨ p a' = 0)
theorem cut_ok {need w : Nat} (hN : isP need) (hw : w < 3) : ∀ (k : Nat) (p : Nat → Nat) (F : Nat → Bool) (a : Nat) (b : BD) (X : GS) (j1 j2 : Nat), k < j1 → k < j2 → TI p F → a < 64 → p a = need * 2 ^ k → F a = false → RC p F b → (∀ u, u < 64 → X.2.2.1 5 u = nI (p u)) → b.1 0 = nI w → X.2.2.1 5 126 = nI w →
    ∃ (p' : Nat → Nat) (F' : Nat → Bool) (a' : Nat), Cut p F a (need * 2 ^ k) p' F' a' need ∧
      (∃ (y : Int32) (b' : BD), lp_X5_cutDown_8 (nI need) j1 (nI a) (nI (need * 2 ^ k / 2)) b = some (nI a', y, b') ∧ RC p' F' b' ∧ b'.1 1 = b.1 1 + nI k ∧ (∀ i, ¬ i = 1 → b'.1 i = b.1 i) ∧ ∀ i, ¬ i = 0 → b'.2 i = b.2 i) ∧
      ∃ g' : Nat → Int32, lp_X8_halves_2 (nI need) j2 (nI a) X = some (nI a', uA X 5 g') ∧ (∀ u, u < 64 → g' u = nI (p' u)) ∧ g' 127 = X.2.2.1 5 127 + nI k ∧ ∀ i, 64 ≤ i → ¬ i = 127 → g' i = X.2.2.1 5 i := by
  intro k
  induction k with
  | zero =>
    intro p F a b X j1 j2 hj1 hj2 T ha hp hF RB RG hb hg
    have hpos := isP_pos hN
    have hle := isP_le hN
    obtain ⟨j1, rfl⟩ : ∃ j, j1 = j + 1 := ⟨j1 - 1, by omega⟩
    obtain ⟨j2, rfl⟩ : ∃ j, j2 = j + 1 := ⟨j2 - 1, by omega⟩
    simp only [Nat.pow_zero, Nat.mul_one] at hp ⊢
    refine ⟨p, F, a, ⟨ha, T, hp, hF, fun u hu => ⟨fun h => ?_, fun h => ?_⟩, fun u _ _ _ => rfl, fun u hu h => Or.inl ⟨h, rfl⟩, Or.inl rfl⟩, ⟨nI (need / 2), b, pzCut_stop (by omega) (by omega), RB, ?_, fun _ _ => rfl, fun _ _ => rfl⟩, X.2.2.1 5, ?_, RG, ?_, fun _ _ _ => rfl⟩
    · by_cases e : u = a
      · exact Or.inl e
      · exact Or.inr ⟨e, h⟩
    · rcases h with rfl | h
      · exact ⟨by omega, hF⟩
      · exact h.2
    · rw [show (nI 0 : Int32) = 0 by decide, Int32.add_zero]
    · rw [halves_stop ha (by omega) (by rw [RG a ha, hp])]
      simp only [uA, up_eta]
    · rw [show (nI 0 : Int32) = 0 by decide, Int32.add_zero]
  | succ k ih =>
    intro p F a b X j1 j2 hj1 hj2 T ha hp hF RB RG hb hg
    obtain ⟨j1, rfl⟩ : ∃ j, j1 = j + 1 := ⟨j1 - 1, by omega⟩
    obtain ⟨j2, rfl⟩ : ∃ j, j2 = j + 1 := ⟨j2 - 1, by omega⟩
    have hN0 := isP_pos hN
    have e2 : need * 2 ^ (k + 1) = 2 * (need * 2 ^ k) := by rw [Nat.pow_succ]; rw [← Nat.mul_assoc, Nat.mul_comm]
    have hge : need ≤ need * 2 ^ k := Nat.le_mul_of_pos_right _ (Nat.pos_of_ne_zero (by simp))
    rw [e2] at hp ⊢
    have hdiv : 2 * (need * 2 ^ k) / 2 = need * 2 ^ k := by omega
    rw [hdiv]
    generalize hh : need * 2 ^ k = h at *
    have hal := T.al ha (by omega)
    rw [hp] at hal
    have hP : isP h := by
      have h1 := isP_half hal.1 (by omega)
      rwa [show 2 * h / 2 = h by omega] at h1
    have hst := TI_halve0 (x := if w = 1 then a else a + h) (y := if w = 1 then a + h else a) T ha hp hP hF (by by_cases e : w = 1 <;> simp [e])
    obtain ⟨s1, s2, s3, s4⟩ := hst
    have hx : (if w = 1 then a else a + h) = a ∨ (if w = 1 then a else a + h) = a + h := by by_cases e : w = 1 <;> simp [e]
    have hy : (if w = 1 then a + h else a) = a ∨ (if w = 1 then a + h else a) = a + h := by by_cases e : w = 1 <;> simp [e]
    have hxy : ¬ (if w = 1 then a else a + h) = (if w = 1 then a + h else a) := by by_cases e : w = 1 <;> simp [e] <;> omega
    have hxy2 : ∀ u, u = a ∨ u = a + h → u = (if w = 1 then a else a + h) ∨ u = (if w = 1 then a + h else a) := by
      intro u hu; by_cases e : w = 1 <;> simp [e] <;> omega
    rw [pzCut_step s1 (by omega) hge hb hw, halves_step s1 (by omega) (by omega) (by rw [RG a ha, hp]) hg hw]
    generalize hxx : (if w = 1 then a else a + h) = x at *
    generalize hyy : (if w = 1 then a + h else a) = y at *
    have hz : p (a + h) = 0 := T.2.2.1 a (a + h) (by omega) (by omega) s1
    have hp1 : ∀ u, ¬ u = a → ¬ u = a + h → up (up p a h) (a + h) h u = p u := fun u h1 h2 => by rw [up_ne h2, up_ne h1]
    have hpxy : ∀ u, u = a ∨ u = a + h → up (up p a h) (a + h) h u = h := by
      intro u hu
      rcases hu with rfl | rfl
      · rw [up_ne (by omega), up_self]
      · exact up_self
    have hFxy : F a = false ∧ F (a + h) = false := ⟨hF, s2⟩
    have hy64 : y < 64 := by omega
    have hx64 : x < 64 := by omega
    obtain ⟨p', F', a', C, ⟨z, b', g1, g2, g3, g4, g5⟩, g', k1, k2, k3, k4⟩ := ih (up (up p a h) (a + h) h) (up F x true) y (bA (bS b 1 (b.1 1 + 1)) 0 (up (b.2 0) x (nI h))) (uA X 5 (up (up (up (X.2.2.1 5) a (nI h)) (a + h) (nI h)) 127 (X.2.2.1 5 127 + 1))) j1 j2 (by omega) (by omega) s3 hy64 (by rw [hpxy y hy]) s4
      (fun u hu => by
        show up (b.2 0) x (nI h) u = _
        by_cases e : u = x
        · subst e; rw [up_self, up_self, if_pos rfl, hpxy _ hx]
        · rw [up_ne e, up_ne e, RB u hu]
          by_cases e3 : F u = true
          · have n1 : ¬ u = a := fun z => by rw [z, hF] at e3; cases e3
            have n2 : ¬ u = a + h := fun z => by rw [z, s2] at e3; cases e3
            rw [if_pos e3, if_pos e3, hp1 u n1 n2]
          · rw [if_neg e3, if_neg e3])
      (fun u hu => by
        rw [uA_at, up_ne (by omega)]
        by_cases e : u = a + h
        · subst e; rw [up_self, up_self]
        · rw [up_ne e, up_ne e]
          by_cases e3 : u = a
          · subst e3; rw [up_self, up_self]
          · rw [up_ne e3, up_ne e3]; exact RG u hu)
      hb (by rw [uA_at, up_ne (by omega), up_ne (by omega), up_ne (by omega)]; exact hg)
    obtain ⟨c1, c2, c3, c4, c5, c6, c7, c8⟩ := C
    refine ⟨p', F', a', ⟨c1, c2, c3, c4, fun u hu => ?_, fun u hu h1 h2 => ?_, fun u hu h1 => ?_, ?_⟩, ⟨z, b', g1, g2, ?_, fun i hi => ?_, fun i hi => ?_⟩, g', ?_, k2, ?_, fun i h1 h2 => ?_⟩
    · rw [c5 u hu]
      constructor
      · rintro (h1 | ⟨h1, h2, h3⟩)
        · exact Or.inl h1
        · right
          by_cases e : u = x
          · subst e; rw [up_self] at h3; cases h3
          · have n1 : ¬ u = a := fun z => by rcases hxy2 u (Or.inl z) with h | h <;> contradiction
            have n2 : ¬ u = a + h := fun z => by rcases hxy2 u (Or.inr z) with h | h <;> contradiction
            rw [hp1 u n1 n2] at h2
            rw [up_ne e] at h3
            exact ⟨n1, h2, h3⟩
      · rintro (h1 | ⟨h1, h2, h3⟩)
        · exact Or.inl h1
        · right
          have n2 : ¬ u = a + h := fun z => by rw [z] at h2; exact h2 hz
          have n3 : ¬ u = x := by rcases hx with h | h <;> rw [h] <;> assumption
          have n4 : ¬ u = y := by rcases hy with h | h <;> rw [h] <;> assumption
          exact ⟨n4, by rw [hp1 u h1 n2]; exact h2, by rw [up_ne n3]; exact h3⟩
    · have n2 : ¬ u = a + h := fun z => by rw [z] at h2; exact h2 hz
      have n4 : ¬ u = y := by rcases hy with h | h <;> rw [h] <;> assumption
      have := hp1 u h1 n2
      rw [c6 u hu n4 (by rw [this]; exact h2), this]
    · rcases c7 u hu h1 with ⟨h2, h3⟩ | h2
      · by_cases e : u = x
        · right; rw [h3, hpxy u (by rw [e]; exact hx)]; omega
        · left
          rw [up_ne e] at h2
          have n1 : ¬ u = a := fun z => by rw [z, hF] at h2; cases h2
          have n2 : ¬ u = a + h := fun z => by rw [z, s2] at h2; cases h2
          exact ⟨h2, by rw [h3, hp1 u n1 n2]⟩
      · right; omega
    · rcases c8 with h1 | h1
      · rcases hy with h2 | h2
        · left; rw [h1, h2]
        · right; rw [h1, h2]; exact hz
      · right
        have n1 : ¬ a' = a := fun e => by rw [hpxy a' (Or.inl e)] at h1; omega
        have n2 : ¬ a' = a + h := fun e => by rw [hpxy a' (Or.inr e)] at h1; omega
        rwa [hp1 a' n1 n2] at h1
    · rw [g3]
      show b.1 1 + 1 + nI k = b.1 1 + nI (k + 1)
      rw [nI_succ, Int32.add_assoc, Int32.add_comm 1]
    · rw [g4 i hi]; show up b.1 1 _ i = _; rw [up_ne hi]
    · rw [g5 i hi]; show up b.2 0 _ i = _; rw [up_ne hi]
    · rw [k1, uA_uA]
    · rw [k3, uA_at, up_self, nI_succ, Int32.add_assoc, Int32.add_comm 1]
    · rw [k4 i h1 h2, uA_at, up_ne h2, up_ne (by omega), up_ne (by omega)]
