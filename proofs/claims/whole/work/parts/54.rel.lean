/-! ===== the pure part, 5: a piece becomes free and is joined ===== -/
theorem tw_out_all : ∀ u, u < 64 → ∀ s ∈ [1, 2, 4, 8, 16, 32], ∀ q ∈ [1, 2, 4, 8, 16, 32], 2 * s ≤ q → ¬ tw u q = tw u s := by decide +kernel
theorem tw_base {u s : Nat} (hs : isP s) : tw u s = tw (u - u % s) s := by
  unfold tw
  rcases hs with rfl | rfl | rfl | rfl | rfl | rfl | rfl <;> split <;> split <;> omega
theorem joins_step {X : GS} {a h j t : Nat} (ha : a < 64) (hh : isP h) (h64 : h < 64) (h0 : a % h = 0) (ht : t = tw a h) (hG : X.2.2.1 5 a = nI h) (hT : X.2.2.1 5 t = nI h) (hL : m_X8_loanAt X (nI t) = some (-1)) :
    lp_X8_joins_2 (j + 1) (nI a) X = lp_X8_joins_2 j (nI (if t ≤ a then t else a)) (uA X 5 (up (up (up (up (X.2.2.1 5) a 0) t 0) (if t ≤ a then t else a) (nI (2 * h))) 128 (X.2.2.1 5 128 + 1))) := by
  have t64 : t < 64 := by rw [ht]; exact tw_lt ha hh h64
  have ca : (nI a).toNatClampNeg = a := nI_clamp (by omega)
  have ct : (nI t).toNatClampNeg = t := nI_clamp (by omega)
  have i1 : inR (nI a) 129 := inR_nI (by omega) (by omega)
  have i2 : inR (nI t) 129 := inR_nI (by omega) (by omega)
  have hx : nI a ^^^ nI h = nI t := by rw [xor_nI ha hh h64 h0, ht]
  have h2 : (2 : Int32) * nI h = nI (2 * h) := nI_mul 2 h
  rw [lp_X8_joins_2]
  simp only [if_pos i1, ca, hG, if_neg (geL (k := 64) (x := 64) rfl h64 (by omega)), hx, if_pos i2, ct, hT, if_pos, hL, bnd1_some, h2, uA_uA]
  by_cases e : t ≤ a
  · rw [if_pos (nI_le e (by omega)), if_pos e]
    congr 2
    rw [up_ne (by omega), up_ne (by omega), up_ne (by omega)]
  · rw [if_neg (nI_ge (by omega) (by omega)), if_neg e]
    congr 2
    rw [up_ne (by omega), up_ne (by omega), up_ne (by omega)]
theorem joins_top {X : GS} {a j : Nat} (ha : a < 64) (hG : X.2.2.1 5 a = nI 64) : lp_X8_joins_2 (j + 1) (nI a) X = some (nI a, X) := by
  have ca : (nI a).toNatClampNeg = a := nI_clamp (by omega)
  have i1 : inR (nI a) 129 := inR_nI (by omega) (by omega)
  rw [lp_X8_joins_2, if_pos i1]
  simp only [ca, hG, if_pos (leL (k := 64) (x := 64) rfl (Nat.le_refl 64) (by omega))]
theorem joins_stop {X : GS} {a h j t s l : Nat} (ha : a < 64) (hh : isP h) (h64 : h < 64) (h0 : a % h = 0) (ht : t = tw a h) (hG : X.2.2.1 5 a = nI h) (hT : X.2.2.1 5 t = nI s) (hs : s ≤ 64) (hl : l < 16) (hL : ¬ s = h ∨ m_X8_loanAt X (nI t) = some (nI l)) :
    lp_X8_joins_2 (j + 1) (nI a) X = some (nI a, X) := by
  have t64 : t < 64 := by rw [ht]; exact tw_lt ha hh h64
  have ca : (nI a).toNatClampNeg = a := nI_clamp (by omega)
  have ct : (nI t).toNatClampNeg = t := nI_clamp (by omega)
  have i1 : inR (nI a) 129 := inR_nI (by omega) (by omega)
  have i2 : inR (nI t) 129 := inR_nI (by omega) (by omega)
  have hx : nI a ^^^ nI h = nI t := by rw [xor_nI ha hh h64 h0, ht]
  rw [lp_X8_joins_2]
  simp only [if_pos i1, ca, hG, if_neg (geL (k := 64) (x := 64) rfl h64 (by omega)), hx, if_pos i2, ct, hT]
  by_cases e : s = h
  · rcases hL with h1 | h1
    · exact absurd e h1
    · rw [if_pos (by rw [e]), h1, bnd1_some, if_neg (nI_m1 (by omega))]
  · rw [if_neg (nI_ne (by omega) (by omega) e)]
/-- what is left behind joining from the piece a on, whose size is s: at the end the piece a' of size J, which isn't free yet -/
def Joi (p : Nat → Nat) (F : Nat → Bool) (a : Nat) (p' : Nat → Nat) (F' : Nat → Bool) (a' J : Nat) : Prop :=
  a' < 64 ∧ TI p' F' ∧ p' a' = J ∧ F' a' = false ∧ p a ≤ J ∧ (J < 64 → F' (tw a' J) = true → p' (tw a' J) ≠ J) ∧
  (∀ u, u < 64 → ((p' u ≠ 0 ∧ F' u = false) ↔ u = a' ∨ (u ≠ a ∧ p u ≠ 0 ∧ F u = false))) ∧
  (∀ u, u < 64 → u ≠ a → p u ≠ 0 → F u = false → p' u = p u) ∧
  (∀ u, u < 64 → F' u = true → F u = true ∧ p' u = p u) ∧
  (∀ u, u < 64 → F u = true → p u ≤ J ∨ (F' u = true ∧ p' u = p u))
theorem join_ok {u0 n : Nat} {b0 : BD} (hu0 : u0 < 64) (h16 : n ≤ 16) : ∀ (m part : Nat) (p : Nat → Nat) (F : Nat → Bool) (a : Nat) (b : BD) (X : GS), isP part → part * 2 ^ m = 64 → TI p F → a = u0 - u0 % part → p a = part → F a = false → RC p F b → (∀ u, u < 64 → X.2.2.1 5 u = nI (p u)) → X.2.2.1 5 64 = nI n →
    (∀ u, u < 64 → u ≠ a → (F u = true ↔ p u ≠ 0 ∧ ∀ l, l < n → X.2.2.1 5 (97 + l) ≠ nI u)) → (∀ q, isP q → part ≤ q → q < 64 → b0.2 0 (tw u0 q) = b.2 0 (tw u0 q)) →
    ∃ (p' : Nat → Nat) (F' : Nat → Bool) (a' J c : Nat), Joi p F a p' F' a' J ∧ isP J ∧ a' = u0 - u0 % J ∧
      (∀ j, m < j → lp_X5_joinedSize_2 b0 (nI u0) j (nI part) = some (nI J)) ∧
      (∃ b' : BD, (∀ (j : Nat) (bO : BD) (sz : Int32), m < j → r_X5_joinedSize bO (nI u0) sz = nI J → lp_X5_release_10 bO (nI u0) sz j (nI part) b = some (nI J, b')) ∧ RC p' F' b' ∧ b'.1 2 = b.1 2 + nI c ∧ (∀ i, ¬ i = 2 → b'.1 i = b.1 i) ∧ ∀ i, ¬ i = 0 → b'.2 i = b.2 i) ∧
      ∃ g' : Nat → Int32, (∀ j, m < j → lp_X8_joins_2 j (nI a) X = some (nI a', uA X 5 g')) ∧ (∀ u, u < 64 → g' u = nI (p' u)) ∧ g' 128 = X.2.2.1 5 128 + nI c ∧ ∀ i, 64 ≤ i → ¬ i = 128 → g' i = X.2.2.1 5 i := by
  intro m
  have n0 : (nI 0 : Int32) = 0 := by decide
  -- where nothing is joined
  have stop : ∀ (m part : Nat) (p : Nat → Nat) (F : Nat → Bool) (a : Nat) (b : BD) (X : GS), isP part → TI p F → a = u0 - u0 % part → p a = part → F a = false → RC p F b → (∀ u, u < 64 → X.2.2.1 5 u = nI (p u)) →
      (part < 64 → F (tw a part) = true → p (tw a part) ≠ part) → (∀ j, m < j → lp_X5_joinedSize_2 b0 (nI u0) j (nI part) = some (nI part)) → (∀ j, m < j → lp_X8_joins_2 j (nI a) X = some (nI a, X)) →
      ∃ (p' : Nat → Nat) (F' : Nat → Bool) (a' J c : Nat), Joi p F a p' F' a' J ∧ isP J ∧ a' = u0 - u0 % J ∧
      (∀ j, m < j → lp_X5_joinedSize_2 b0 (nI u0) j (nI part) = some (nI J)) ∧
      (∃ b' : BD, (∀ (j : Nat) (bO : BD) (sz : Int32), m < j → r_X5_joinedSize bO (nI u0) sz = nI J → lp_X5_release_10 bO (nI u0) sz j (nI part) b = some (nI J, b')) ∧ RC p' F' b' ∧ b'.1 2 = b.1 2 + nI c ∧ (∀ i, ¬ i = 2 → b'.1 i = b.1 i) ∧ ∀ i, ¬ i = 0 → b'.2 i = b.2 i) ∧
      ∃ g' : Nat → Int32, (∀ j, m < j → lp_X8_joins_2 j (nI a) X = some (nI a', uA X 5 g')) ∧ (∀ u, u < 64 → g' u = nI (p' u)) ∧ g' 128 = X.2.2.1 5 128 + nI c ∧ ∀ i, 64 ≤ i → ¬ i = 128 → g' i = X.2.2.1 5 i := by
    intro m part p F a b X hP T ha hp hF RB RG hno k1 k2
    have hpos := isP_pos hP
    have hle := isP_le hP
    refine ⟨p, F, a, part, 0, ⟨by omega, T, hp, hF, by omega, hno, fun u hu => ⟨fun h => ?_, fun h => ?_⟩, fun u _ _ _ _ => rfl, fun u hu h => ⟨h, rfl⟩, fun u hu h => Or.inr ⟨h, rfl⟩⟩, hP, ha, k1, ⟨b, fun j bO sz hj hJ => ?_, RB, by rw [n0, Int32.add_zero], fun _ _ => rfl, fun _ _ => rfl⟩, X.2.2.1 5, fun j hj => ?_, RG, by rw [n0, Int32.add_zero], fun _ _ _ => rfl⟩
    · by_cases e : u = a
      · exact Or.inl e
      · exact Or.inr ⟨e, h⟩
    · rcases h with rfl | h
      · exact ⟨by omega, hF⟩
      · exact h.2
    · obtain ⟨j, rfl⟩ : ∃ i, j = i + 1 := ⟨j - 1, by omega⟩
      rw [lp_X5_release_10, if_neg (nltR (k := 1) (x := 1) rfl hpos (by omega)), hJ, if_pos (nI_le (Nat.le_refl _) (by omega))]
    · rw [k2 j hj]
      simp only [uA, up_eta]
  induction m with
  | zero =>
    intro part p F a b X hP hm T ha hp hF RB RG hn RL hb0
    have e64 : part = 64 := by simpa using hm
    refine stop 0 part p F a b X hP T ha hp hF RB RG (fun h => by omega) (fun j hj => ?_) (fun j hj => ?_)
    · obtain ⟨j, rfl⟩ : ∃ i, j = i + 1 := ⟨j - 1, by omega⟩
      rw [lp_X5_joinedSize_2, if_neg (nltR (k := 1) (x := 1) rfl (by omega) (by omega)), if_pos (leL (k := 64) (x := 64) rfl (by omega) (by omega))]
    · obtain ⟨j, rfl⟩ : ∃ i, j = i + 1 := ⟨j - 1, by omega⟩
      exact joins_top (by omega) (by rw [RG a (by omega), hp, e64])
  | succ m ih =>
    intro part p F a b X hP hm T ha hp hF RB RG hn RL hb0
    have hpos := isP_pos hP
    have h64 : part < 64 := by
      have h1 := isP_le hP
      rcases Nat.lt_or_ge part 64 with h | h
      · exact h
      · exfalso
        have : part = 64 := by omega
        rw [this, Nat.pow_succ] at hm
        have : 0 < 2 ^ m := Nat.pos_of_ne_zero (by simp)
        omega
    have ha64 : a < 64 := by omega
    have h0 : a % part = 0 := by
      rw [ha]
      rcases hP with rfl | rfl | rfl | rfl | rfl | rfl | rfl <;> omega
    have htb : tw u0 part = tw a part := by rw [ha]; exact tw_base hP
    have ht64 := tw_lt ha64 hP h64
    have hta : ¬ tw a part = a := by rcases tw_cases hP h0 with h | h <;> omega
    have hpt := T.ple ht64
    have hc0 : r_X5_sizeAt b0 (r_X7_twinOf (nI u0) (nI part)) = nI (if F (tw a part) = true then p (tw a part) else 0) := by
      rw [twinOf_nI hu0 hP h64, sizeAt_nI (by rw [htb]; exact ht64), hb0 part hP (Nat.le_refl _) h64, htb, RB _ ht64]
    by_cases hc : F (tw a part) = true ∧ p (tw a part) = part
    · -- joined
      obtain ⟨hc1, hc2⟩ := hc
      rw [if_pos hc1, hc2] at hc0
      have hLo : (if tw a part ≤ a then tw a part else a) % (2 * part) = 0 ∧ (if tw a part ≤ a then tw a part else a) + part < 64 ∧ (if tw a part ≤ a then tw a part else a) = u0 - u0 % (2 * part) ∧
          (((if tw a part ≤ a then tw a part else a) = a ∧ (if tw a part ≤ a then tw a part else a) + part = tw a part) ∨ ((if tw a part ≤ a then tw a part else a) = tw a part ∧ (if tw a part ≤ a then tw a part else a) + part = a)) := by
        rcases tw_cases hP h0 with ⟨h1, h2⟩ | ⟨h1, h2⟩
        · rw [if_neg (by omega)]
          refine ⟨h1, by omega, ?_, Or.inl ⟨rfl, h2.symm⟩⟩
          rw [ha] at h1 ⊢
          rcases hP with rfl | rfl | rfl | rfl | rfl | rfl | rfl <;> omega
        · rw [if_pos (by omega)]
          refine ⟨?_, by omega, ?_, Or.inr ⟨rfl, h2⟩⟩
          · rcases hP with rfl | rfl | rfl | rfl | rfl | rfl | rfl <;> omega
          · rcases hP with rfl | rfl | rfl | rfl | rfl | rfl | rfl <;> omega
      have hstep := fun j => joins_step (j := j) (X := X) (t := tw a part) ha64 hP h64 h0 rfl (by rw [RG a ha64, hp]) (by rw [RG _ ht64, hc2]) (by
        rcases loanAt_cases hn h16 (nI (tw a part)) with ⟨h1, h2⟩ | ⟨l, h1, h2, h3, h4⟩
        · exact h1
        · exact absurd h2 (((RL _ ht64 hta).mp hc1).2 l h1))
      generalize hlo : (if tw a part ≤ a then tw a part else a) = lo at *
      obtain ⟨l1, l2, l3, l4⟩ := hLo
      have hpl : p lo = part ∧ p (lo + part) = part := by
        rcases l4 with ⟨e1, e2⟩ | ⟨e1, e2⟩
        · rw [e2, e1]; exact ⟨hp, hc2⟩
        · rw [e2, e1]; exact ⟨hc2, hp⟩
      have T1 := TI_join0 T l2 hP h64 l1 hpl.1 hpl.2
      have hset : ∀ u, (u = lo ∨ u = lo + part) ↔ (u = a ∨ u = tw a part) := by
        intro u
        rcases l4 with ⟨e1, e2⟩ | ⟨e1, e2⟩ <;> rw [e2, e1]
        exact Or.comm
      have hp1 : ∀ u, ¬ u = a → ¬ u = tw a part → up (up p lo (2 * part)) (lo + part) 0 u = p u := fun u h1 h2 => by
        have h3 : ¬ (u = lo ∨ u = lo + part) := fun h => by rcases (hset u).mp h with h | h <;> contradiction
        rw [up_ne (fun h => h3 (Or.inr h)), up_ne (fun h => h3 (Or.inl h))]
      have hF1 : ∀ u, ¬ u = a → ¬ u = tw a part → up (up F lo false) (lo + part) false u = F u := fun u h1 h2 => by
        have h3 : ¬ (u = lo ∨ u = lo + part) := fun h => by rcases (hset u).mp h with h | h <;> contradiction
        rw [up_ne (fun h => h3 (Or.inr h)), up_ne (fun h => h3 (Or.inl h))]
      have hF2 : ∀ u, u = a ∨ u = tw a part → up (up F lo false) (lo + part) false u = false := fun u h => by
        rcases (hset u).mpr h with rfl | rfl
        · rw [up_ne (by omega), up_self]
        · exact up_self
      have hpv : up (up p lo (2 * part)) (lo + part) 0 lo = 2 * part := by rw [up_ne (by omega), up_self]
      have hpv2 : up (up p lo (2 * part)) (lo + part) 0 (lo + part) = 0 := up_self
      have hlo64 : lo < 64 := by omega
      have e2m : 2 * part * 2 ^ m = 64 := by rw [Nat.pow_succ] at hm; rw [← hm]; rw [Nat.mul_comm (2 ^ m) 2, ← Nat.mul_assoc, Nat.mul_comm part 2]
      obtain ⟨p', F', a', J, c, C, cJ, ca', q1, ⟨b', q2, q3, q4, q5, q6⟩, g', r1, r2, r3, r4⟩ := ih (2 * part) (up (up p lo (2 * part)) (lo + part) 0) (up (up F lo false) (lo + part) false) lo
        (bS (bA b 0 (up (b.2 0) (tw a part) 0)) 2 (b.1 2 + 1)) (uA X 5 (up (up (up (up (X.2.2.1 5) a 0) (tw a part) 0) lo (nI (2 * part))) 128 (X.2.2.1 5 128 + 1)))
        (isP_dbl hP h64) e2m T1 l3 hpv (hF2 lo ((hset lo).mp (Or.inl rfl)))
        (fun u hu => by
          show up (b.2 0) (tw a part) 0 u = _
          by_cases e1 : u = tw a part
          · subst e1
            rw [up_self, hF2 _ (Or.inr rfl)]
            exact n0.symm
          · by_cases e2 : u = a
            · subst e2
              rw [up_ne e1, RB u hu, hF, hF2 u (Or.inl rfl)]
              rfl
            · rw [up_ne e1, RB u hu, hF1 u e2 e1, hp1 u e2 e1])
        (fun u hu => by
          rw [uA_at, up_ne (by omega)]
          by_cases e0 : u = lo
          · subst e0; rw [up_self, hpv]
          · rw [up_ne e0]
            by_cases e1 : u = tw a part
            · rw [e1, up_self]
              have : tw a part = lo + part := by rcases (hset (tw a part)).mpr (Or.inr rfl) with h | h; exact absurd (e1.trans h) e0; exact h
              rw [this, hpv2]
              exact n0.symm
            · rw [up_ne e1]
              by_cases e2 : u = a
              · rw [e2, up_self]
                have : a = lo + part := by rcases (hset a).mpr (Or.inl rfl) with h | h; exact absurd (e2.trans h) e0; exact h
                rw [this, hpv2]
                exact n0.symm
              · rw [up_ne e2, hp1 u e2 e1]; exact RG u hu)
        (by rw [uA_at, up_ne (by omega), up_ne (by omega), up_ne (by omega), up_ne (by omega)]; exact hn)
        (fun u hu hne => by
          have eL : ∀ l, l < n → (uA X 5 (up (up (up (up (X.2.2.1 5) a 0) (tw a part) 0) lo (nI (2 * part))) 128 (X.2.2.1 5 128 + 1))).2.2.1 5 (97 + l) = X.2.2.1 5 (97 + l) := fun l hl => by
            rw [uA_at, up_ne (by omega), up_ne (by omega), up_ne (by omega), up_ne (by omega)]
          by_cases e1 : u = a ∨ u = tw a part
          · rw [hF2 u e1]
            have : u = lo + part := by rcases (hset u).mpr e1 with h | h; exact absurd h hne; exact h
            rw [this, hpv2]
            exact ⟨fun h => (nomatch h), fun h => absurd rfl h.1⟩
          · have n1 : ¬ u = a := fun h => e1 (Or.inl h)
            have n2 : ¬ u = tw a part := fun h => e1 (Or.inr h)
            rw [hF1 u n1 n2, hp1 u n1 n2, RL u hu n1]
            exact ⟨fun h => ⟨h.1, fun l hl => by rw [eL l hl]; exact h.2 l hl⟩, fun h => ⟨h.1, fun l hl => by rw [← eL l hl]; exact h.2 l hl⟩⟩)
        (fun q hq hq1 hq2 => by
          rw [hb0 q hq (by omega) hq2]
          show _ = up (b.2 0) (tw a part) 0 (tw u0 q)
          rw [up_ne (by rw [← htb]; exact tw_out_all u0 hu0 part (isP_mem6 hP h64) q (isP_mem6 hq hq2) hq1)])
      obtain ⟨c1, c2, c3, c4, c5, c6, c7, c8, c9, c10⟩ := C
      rw [hpv] at c5
      have hJ64 := isP_le cJ
      refine ⟨p', F', a', J, c + 1, ⟨c1, c2, c3, c4, by omega, c6, fun u hu => ?_, fun u hu h1 h2 h3 => ?_, fun u hu h1 => ?_, fun u hu h1 => ?_⟩, cJ, ca', fun j hj => ?_, ⟨b', fun j bO sz hj hJ => ?_, q3, ?_, fun i hi => ?_, fun i hi => ?_⟩, g', fun j hj => ?_, r2, ?_, fun i h1 h2 => ?_⟩
      · rw [c7 u hu]
        constructor
        · rintro (h1 | ⟨h1, h2, h3⟩)
          · exact Or.inl h1
          · right
            by_cases e1 : u = a ∨ u = tw a part
            · have : u = lo + part := by rcases (hset u).mpr e1 with h | h; exact absurd h h1; exact h
              rw [this, hpv2] at h2
              exact absurd rfl h2
            · have n1 : ¬ u = a := fun h => e1 (Or.inl h)
              have n2 : ¬ u = tw a part := fun h => e1 (Or.inr h)
              rw [hp1 u n1 n2] at h2
              rw [hF1 u n1 n2] at h3
              exact ⟨n1, h2, h3⟩
        · rintro (h1 | ⟨h1, h2, h3⟩)
          · exact Or.inl h1
          · right
            have n2 : ¬ u = tw a part := fun h => by rw [h, hc1] at h3; cases h3
            refine ⟨fun h => ?_, by rw [hp1 u h1 n2]; exact h2, by rw [hF1 u h1 n2]; exact h3⟩
            rcases (hset u).mp (Or.inl h) with h | h <;> contradiction
      · have n2 : ¬ u = tw a part := fun h => by rw [h, hc1] at h3; cases h3
        rw [c8 u hu (fun h => by rcases (hset u).mp (Or.inl h) with h | h <;> contradiction) (by rw [hp1 u h1 n2]; exact h2) (by rw [hF1 u h1 n2]; exact h3), hp1 u h1 n2]
      · obtain ⟨h2, h3⟩ := c9 u hu h1
        by_cases e1 : u = a ∨ u = tw a part
        · rw [hF2 u e1] at h2; cases h2
        · have n1 : ¬ u = a := fun h => e1 (Or.inl h)
          have n2 : ¬ u = tw a part := fun h => e1 (Or.inr h)
          rw [hF1 u n1 n2] at h2
          rw [hp1 u n1 n2] at h3
          exact ⟨h2, h3⟩
      · by_cases e2 : u = tw a part
        · left; rw [e2, hc2]; omega
        · have n1 : ¬ u = a := fun h => by rw [h, hF] at h1; cases h1
          rcases c10 u hu (by rw [hF1 u n1 e2]; exact h1) with h | h
          · left; rw [hp1 u n1 e2] at h; exact h
          · right; rw [hp1 u n1 e2] at h; exact h
      · obtain ⟨j, rfl⟩ : ∃ i, j = i + 1 := ⟨j - 1, by omega⟩
        rw [lp_X5_joinedSize_2, if_neg (nltR (k := 1) (x := 1) rfl hpos (by omega)), if_neg (geL (k := 64) (x := 64) rfl h64 (by omega)), hc0, if_pos rfl, show nI part * 2 = nI (part * 2) from nI_mul part 2, Nat.mul_comm part 2]
        exact q1 j (by omega)
      · obtain ⟨j, rfl⟩ : ∃ i, j = i + 1 := ⟨j - 1, by omega⟩
        rw [lp_X5_release_10, if_neg (nltR (k := 1) (x := 1) rfl hpos (by omega)), hJ, if_neg (nI_ge (by omega) (by omega)), show nI part * 2 = nI (part * 2) from nI_mul part 2, Nat.mul_comm part 2, twinOf_nI hu0 hP h64, htb, setSize_nI ht64]
        exact q2 j bO sz (by omega) hJ
      · rw [q4]
        show b.1 2 + 1 + nI c = b.1 2 + nI (c + 1)
        rw [nI_succ, Int32.add_assoc, Int32.add_comm 1]
      · rw [q5 i hi]; show up b.1 2 _ i = _; rw [up_ne hi]
      · rw [q6 i hi]; show up b.2 0 _ i = _; rw [up_ne hi]
      · obtain ⟨j, rfl⟩ : ∃ i, j = i + 1 := ⟨j - 1, by omega⟩
        rw [hstep j, r1 j (by omega), uA_uA]
      · rw [r3, uA_at, up_self, nI_succ, Int32.add_assoc, Int32.add_comm 1]
      · rw [r4 i h1 h2, uA_at, up_ne h2, up_ne (by omega), up_ne (by omega), up_ne (by omega)]
    · refine stop (m + 1) part p F a b X hP T ha hp hF RB RG (fun _ h1 h2 => hc ⟨h1, h2⟩) (fun j hj => ?_) (fun j hj => ?_)
      · obtain ⟨j, rfl⟩ : ∃ i, j = i + 1 := ⟨j - 1, by omega⟩
        rw [lp_X5_joinedSize_2, if_neg (nltR (k := 1) (x := 1) rfl hpos (by omega)), if_neg (geL (k := 64) (x := 64) rfl h64 (by omega)), hc0, if_neg]
        by_cases e : F (tw a part) = true
        · rw [if_pos e]
          exact nI_ne (by omega) (by omega) (fun h => hc ⟨e, h⟩)
        · rw [if_neg e]
          exact nI_ne (by omega) (by omega) (by omega)
      · obtain ⟨j, rfl⟩ : ∃ i, j = i + 1 := ⟨j - 1, by omega⟩
        by_cases e : p (tw a part) = part
        · rcases loanAt_cases hn h16 (nI (tw a part)) with ⟨h1, h2⟩ | ⟨l, h1, h2, h3, h4⟩
          · exact absurd ⟨(RL _ ht64 hta).mpr ⟨by omega, h2⟩, e⟩ hc
          · exact joins_stop (s := p (tw a part)) (l := l) ha64 hP h64 h0 rfl (by rw [RG a ha64, hp]) (RG _ ht64) hpt (by omega) (Or.inr h4)
        · exact joins_stop (s := p (tw a part)) (l := 0) ha64 hP h64 h0 rfl (by rw [RG a ha64, hp]) (RG _ ht64) hpt (by omega) (Or.inl e)
