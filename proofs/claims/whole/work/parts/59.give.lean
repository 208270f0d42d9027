/-! ===== the pure part, 10: a loan is given back ===== -/
theorem lp_rem3 : ∀ (j i n : Nat) (b : BD), b.1 3 = nI (n + 1) → n + 1 ≤ 16 → i + j = 15 → (lp_X3_remove_11 j i b).1 = b.1 ∧ (∀ a, ¬ a = 1 → ¬ a = 2 → ¬ a = 3 → ¬ a = 4 → (lp_X3_remove_11 j i b).2 a = b.2 a) ∧ ∀ a, (a = 1 ∨ a = 2 ∨ a = 3 ∨ a = 4) → ∀ t, (lp_X3_remove_11 j i b).2 a t = if i ≤ t ∧ t < n then b.2 a (t + 1) else b.2 a t := by
  intro j
  induction j with
  | zero =>
    intro i n b hb hn hi
    refine ⟨rfl, fun _ _ _ _ _ => rfl, fun a ha t => ?_⟩
    rw [if_neg (by omega)]
    rfl
  | succ j ih =>
    intro i n b hb hn hi
    rw [lp_X3_remove_11, hb, nI_pred]
    by_cases e : n ≤ i
    · rw [if_pos (nI_le e (by omega))]
      refine ⟨rfl, fun _ _ _ _ _ => rfl, fun a ha t => ?_⟩
      rw [if_neg (by omega)]
    · rw [if_neg (nI_ge (by omega) (by omega))]
      obtain ⟨h1, h2, h3⟩ := ih (i + 1) n (bA (bA (bA (bA b 1 (up (b.2 1) i (b.2 1 (i + 1)))) 2 (up (b.2 2) i (b.2 2 (i + 1)))) 3 (up (b.2 3) i (b.2 3 (i + 1)))) 4 (up (b.2 4) i (b.2 4 (i + 1)))) hb hn (by omega)
      refine ⟨h1, fun a ha1 ha2 ha3 ha4 => ?_, fun a ha t => ?_⟩
      · rw [h2 a ha1 ha2 ha3 ha4]; show up (up (up (up b.2 1 _) 2 _) 3 _) 4 _ a = _; rw [up_ne ha4, up_ne ha3, up_ne ha2, up_ne ha1]
      · rw [h3 a ha t]
        have e1 : (bA (bA (bA (bA b 1 (up (b.2 1) i (b.2 1 (i + 1)))) 2 (up (b.2 2) i (b.2 2 (i + 1)))) 3 (up (b.2 3) i (b.2 3 (i + 1)))) 4 (up (b.2 4) i (b.2 4 (i + 1)))).2 a = up (b.2 a) i (b.2 a (i + 1)) := by
          show up (up (up (up b.2 1 _) 2 _) 3 _) 4 _ a = _
          rcases ha with rfl | rfl | rfl | rfl
          · rw [up_ne (by decide), up_ne (by decide), up_ne (by decide), up_self]
          · rw [up_ne (by decide), up_ne (by decide), up_self]
          · rw [up_ne (by decide), up_self]
          · rw [up_self]
        rw [e1]
        by_cases c1 : i + 1 ≤ t ∧ t < n
        · rw [if_pos c1, if_pos (by omega), up_ne (by omega)]
        · rw [if_neg c1]
          by_cases c2 : t = i
          · subst c2; rw [up_self, if_pos (by omega)]
          · rw [up_ne c2, if_neg (by omega)]
theorem lp_row : ∀ (d fuel i m row : Nat) (X : GS), i + d = m → m ≤ 15 → 65 ≤ row → row ≤ 97 → d < fuel → X.2.2.1 5 64 = nI m → ∃ g' : Nat → Int32, lp_X8_comesBack_33 (nI row) fuel (nI i) X = some (nI m, uA X 5 g') ∧ ∀ x, g' x = if row + i ≤ x ∧ x < row + m then X.2.2.1 5 (x + 1) else X.2.2.1 5 x := by
  intro d
  induction d with
  | zero =>
    intro fuel i m row X hi hm hr1 hr2 hf hn
    obtain ⟨fuel, rfl⟩ : ∃ k, fuel = k + 1 := ⟨fuel - 1, by omega⟩
    refine ⟨X.2.2.1 5, ?_, fun x => by rw [if_neg (by omega)]⟩
    rw [lp_X8_comesBack_33, hn, if_pos (nI_le (by omega) (by omega))]
    have : i = m := by omega
    subst this
    simp only [uA, up_eta]
  | succ d ih =>
    intro fuel i m row X hi hm hr1 hr2 hf hn
    obtain ⟨fuel, rfl⟩ : ∃ k, fuel = k + 1 := ⟨fuel - 1, by omega⟩
    have a1 : nI row + nI i = nI (row + i) := nI_add row i
    have a3 : nI (row + i) + 1 = nI (row + i + 1) := nI_1 _
    have a5 : nI i + 1 = nI (i + 1) := nI_1 _
    obtain ⟨g', h1, h2⟩ := ih fuel (i + 1) m row (uA X 5 (up (X.2.2.1 5) (row + i) (X.2.2.1 5 (row + i + 1)))) (by omega) hm hr1 hr2 (by omega) (by rw [uA_at, up_ne (by omega)]; exact hn)
    refine ⟨g', ?_, fun x => ?_⟩
    · rw [lp_X8_comesBack_33, hn, if_neg (nI_ge (by omega) (by omega))]
      simp only [a1, a3, a5, if_pos (inR_nI (show row + i + 1 < 129 by omega) (show 129 < 2 ^ 31 by omega)), if_pos (inR_nI (show row + i < 129 by omega) (show 129 < 2 ^ 31 by omega)), nI_clamp (show row + i < 2 ^ 31 by omega), nI_clamp (show row + i + 1 < 2 ^ 31 by omega)]
      rw [h1, uA_uA]
    · rw [h2 x, uA_at]
      by_cases c1 : row + (i + 1) ≤ x ∧ x < row + m
      · rw [if_pos c1, if_pos (by omega), up_ne (by omega)]
      · rw [if_neg c1]
        by_cases c2 : x = row + i
        · subst c2; rw [up_self, if_pos (by omega)]
        · rw [up_ne c2, if_neg (by omega)]
theorem row_step {X : GS} {l m row j : Nat} (hm : m ≤ 15) (hl : l ≤ m) (hr1 : 65 ≤ row) (hr2 : row ≤ 97) (hn : X.2.2.1 5 64 = nI m) :
    ∃ g' : Nat → Int32, lp_X8_comesBack_24 (nI l) (j + 1) (nI row) X = lp_X8_comesBack_24 (nI l) j (nI (row + 16)) (uA X 5 g') ∧ g' 64 = nI m ∧ (∀ t, t < m → g' (row + t) = if l ≤ t then X.2.2.1 5 (row + (t + 1)) else X.2.2.1 5 (row + t)) ∧ ∀ x, x < row ∨ row + m < x → g' x = X.2.2.1 5 x := by
  obtain ⟨g', h1, h2⟩ := lp_row (m - l) 1000 l m row X (by omega) hm hr1 hr2 (by omega) hn
  have g64 : g' 64 = nI m := by rw [h2, if_neg (by omega), hn]
  have a1 : nI row + nI m = nI (row + m) := nI_add row m
  have a2 : nI row + 16 = nI (row + 16) := nI_add row 16
  refine ⟨up g' (row + m) 0, ?_, ?_, fun t ht => ?_, fun x hx => ?_⟩
  · rw [lp_X8_comesBack_24, if_neg (geL (k := 113) (x := 113) rfl (by omega) (by omega)), h1, bnd2_some]
    simp only [uA_at, g64, a1, a2, if_pos (inR_nI (show row + m < 129 by omega) (show 129 < 2 ^ 31 by omega)), nI_clamp (show row + m < 2 ^ 31 by omega), uA_uA]
  · rw [up_ne (by omega), g64]
  · rw [up_ne (by omega), h2]
    by_cases c : l ≤ t
    · rw [if_pos (by omega), if_pos c]; rfl
    · rw [if_neg (by omega), if_neg c]
  · rw [up_ne (by omega), h2, if_neg (by omega)]
/-- the loan l goes out of the rows -/
theorem rows_ok {X : GS} {l m : Nat} {st : Nat} (hm : m ≤ 15) (hl : l ≤ m) (hn : X.2.2.1 5 64 = nI (m + 1)) (hst : X.2.2.1 5 (97 + l) = nI st) :
    ∃ g' : Nat → Int32, m_X8_comesBack X (nI l) = (bnd1 (m_X8_joins (uA X 5 g') (nI st)) fun X9 => some X9) ∧ g' 64 = nI m ∧
      (∀ t, t < m → g' (65 + t) = (if l ≤ t then X.2.2.1 5 (65 + (t + 1)) else X.2.2.1 5 (65 + t)) ∧ g' (81 + t) = (if l ≤ t then X.2.2.1 5 (81 + (t + 1)) else X.2.2.1 5 (81 + t)) ∧ g' (97 + t) = (if l ≤ t then X.2.2.1 5 (97 + (t + 1)) else X.2.2.1 5 (97 + t))) ∧
      ∀ x, x < 64 ∨ 113 ≤ x → g' x = X.2.2.1 5 x := by
  obtain ⟨g1, a1, a2, a3, a4⟩ := row_step (X := uA X 5 (up (X.2.2.1 5) 64 (nI m))) (j := 999) (l := l) (m := m) (row := 65) hm hl (by omega) (by omega) (by rw [uA_at, up_self])
  obtain ⟨g2, b1, b2, b3, b4⟩ := row_step (X := uA X 5 g1) (j := 998) (l := l) (m := m) (row := 81) hm hl (by omega) (by omega) (by rw [uA_at]; exact a2)
  obtain ⟨g3, c1, c2, c3, c4⟩ := row_step (X := uA X 5 g2) (j := 997) (l := l) (m := m) (row := 97) hm hl (by omega) (by omega) (by rw [uA_at]; exact b2)
  rw [uA_at] at a3 a4 b3 b4 c3 c4
  rw [uA_uA] at a1 b1 c1
  have e1 : (97 : Int32) + nI l = nI (97 + l) := nI_add 97 l
  refine ⟨g3, ?_, c2, fun t ht => ⟨?_, ?_, ?_⟩, fun x hx => ?_⟩
  · unfold m_X8_comesBack
    simp only [e1, if_pos (inR_nI (show 97 + l < 129 by omega) (show 129 < 2 ^ 31 by omega)), nI_clamp (show 97 + l < 2 ^ 31 by omega), hst, hn, nI_pred]
    have e2 : lp_X8_comesBack_24 (nI l) 1000 65 (uA X 5 (up (X.2.2.1 5) 64 (nI m))) = some (nI 113, uA X 5 g3) := by
      refine a1.trans (b1.trans (c1.trans ?_))
      show lp_X8_comesBack_24 (nI l) (996 + 1) (nI 113) (uA X 5 g3) = _
      rw [lp_X8_comesBack_24, if_pos (leL (k := 113) (x := 113) rfl (by omega) (by omega))]
    rw [e2, bnd2_some]
  · rw [c4 _ (by omega), b4 _ (by omega), a3 t ht]
    by_cases c : l ≤ t
    · rw [if_pos c, if_pos c, up_ne (by omega)]
    · rw [if_neg c, if_neg c, up_ne (by omega)]
  · rw [c4 _ (by omega), b3 t ht]
    by_cases c : l ≤ t
    · rw [if_pos c, if_pos c, a4 _ (by omega), up_ne (by omega)]
    · rw [if_neg c, if_neg c, a4 _ (by omega), up_ne (by omega)]
  · rw [c3 t ht]
    by_cases c : l ≤ t
    · rw [if_pos c, if_pos c, b4 _ (by omega), a4 _ (by omega), up_ne (by omega)]
    · rw [if_neg c, if_neg c, b4 _ (by omega), a4 _ (by omega), up_ne (by omega)]
  · rw [c4 _ (by omega), b4 _ (by omega), a4 _ (by omega), up_ne (by omega)]
section
variable {p : Nat → Nat} {F : Nat → Bool} {L : tL} {W : tWt} {w : Nat} {b : BD}
/-- a loan is given back, and its piece becomes free -/
theorem back_ok {X : GS} {l : Nat} {q : Nat × Nat × Nat} (B : BG p F L W w b (X.2.2.1 5)) (hq : L[l]? = some q) :
    ∃ (p' : Nat → Nat) (F' : Nat → Bool) (g' : Nat → Int32), BG p' F' (L.eraseIdx l) W w (u_X0_releaseLoan b (nI l)) g' ∧ m_X8_comesBack X (nI l) = some (uA X 5 g') := by
  obtain ⟨S, B, G, hv1, hv2⟩ := B
  obtain ⟨at1, at2, at3, at4⟩ := loan_at S B hq
  obtain ⟨s1, s2, s3, s4, s5, s6, s7, s8⟩ := S
  obtain ⟨b1, b2, b3, b4, b5, b6⟩ := B
  obtain ⟨k1, k2, k3, k4, k5, k6⟩ := G
  have hl := get_lt hq
  obtain ⟨m, hn⟩ : ∃ n, L.length = n + 1 := ⟨L.length - 1, by omega⟩
  have hlen : (L.eraseIdx l).length = m := by rw [List.length_eraseIdx, if_pos hl]; omega
  rw [hn] at b3 k3 s5 hl
  have q4 := s4 q (get_mem hq)
  obtain ⟨g1, m1, m2, m3, m4⟩ := rows_ok (X := X) (l := l) (m := m) (st := q.2.2) (by omega) (by omega) k3 (k5 l q hq).2.2
  obtain ⟨r1, r2, r3⟩ := lp_rem3 (15 - l) l m b b3 s5 (by omega)
  have hu : u_X3_remove b (nI l) = bS (lp_X3_remove_11 (15 - l) l b) 3 (nI m) := by
    unfold u_X3_remove
    rw [has3_t b3 s5 hl, if_neg (by decide), nI_clamp (by omega), r1, b3, nI_pred]
  have u1 : (u_X3_remove b (nI l)).1 = up b.1 3 (nI m) := by rw [hu]; show up (lp_X3_remove_11 (15 - l) l b).1 3 _ = _; rw [r1]
  have u2 : (u_X3_remove b (nI l)).2 = (lp_X3_remove_11 (15 - l) l b).2 := by rw [hu]; rfl
  -- the loans that stay
  have hers : ∀ r, r ∈ L.eraseIdx l ↔ r ∈ L ∧ ¬ r.2.2 = q.2.2 := by
    intro r
    constructor
    · intro hr
      refine ⟨List.mem_of_mem_eraseIdx hr, fun e => ?_⟩
      obtain ⟨t, ht⟩ := mem_get hr
      rcases get_er ht with ⟨h1, h2⟩ | ⟨h1, h2⟩
      · have := nodup_at s3 h2 hq e; omega
      · have := nodup_at s3 h2 hq e; omega
    · rintro ⟨hr, e⟩
      obtain ⟨t, ht⟩ := mem_get hr
      by_cases e1 : t < l
      · refine List.mem_of_getElem? (i := t) ?_
        rw [List.getElem?_eraseIdx, if_pos e1]; exact ht
      · have e2 : ¬ t = l := fun z => by rw [z, hq] at ht; exact e (by rw [Option.some.inj ht])
        refine List.mem_of_getElem? (i := t - 1) ?_
        rw [List.getElem?_eraseIdx, if_neg (by omega), show t - 1 + 1 = t by omega]; exact ht
  have hpq : p q.2.2 = nd q.2.1 := q4.2.2.2.2
  have hFq : F q.2.2 = false := ((s2 _ q4.2.2.2.1).mpr ⟨q, get_mem hq, rfl⟩).2
  have hold : ∀ t r, (L.eraseIdx l)[t]? = some r → t < m ∧ L[if l ≤ t then t + 1 else t]? = some r := by
    intro t r hr
    have h1 := get_lt hr
    rw [hlen] at h1
    refine ⟨h1, ?_⟩
    rcases get_er hr with ⟨h1, h2⟩ | ⟨h1, h2⟩
    · rw [if_neg (by omega)]; exact h2
    · rw [if_pos h1]; exact h2
  have G1 : ∀ t r, (L.eraseIdx l)[t]? = some r → g1 (65 + t) = nI r.1 ∧ g1 (81 + t) = nI r.2.1 ∧ g1 (97 + t) = nI r.2.2 := by
    intro t r hr
    obtain ⟨h1, h2⟩ := hold t r hr
    obtain ⟨x1, x2, x3⟩ := m3 t h1
    rw [x1, x2, x3]
    by_cases c : l ≤ t
    · rw [if_pos c] at h2 ⊢; rw [if_pos c, if_pos c]; exact k5 _ r h2
    · rw [if_neg c] at h2 ⊢; rw [if_neg c, if_neg c]; exact k5 _ r h2
  have HL : ∀ u, u < 64 → ((∃ t, t < m ∧ (uA X 5 g1).2.2.1 5 (97 + t) = nI u) ↔ (u ≠ q.2.2 ∧ p u ≠ 0 ∧ F u = false)) := by
    intro u hu
    rw [uA_at]
    constructor
    · rintro ⟨t, ht, hz⟩
      obtain ⟨r, hr⟩ := get_ex (L := L.eraseIdx l) (l := t) (by omega)
      have h1 := (G1 t r hr).2.2
      obtain ⟨h2, h3⟩ := (hers r).mp (get_mem hr)
      have h4 := (s4 r h2).2.2.2.1
      rw [hz] at h1
      have h5 := (nI_eq (by omega) (by omega)).mp h1
      subst h5
      exact ⟨h3, (s2 _ hu).mpr ⟨r, h2, rfl⟩⟩
    · rintro ⟨h1, h2⟩
      obtain ⟨r, hr, rfl⟩ := (s2 u hu).mp h2
      obtain ⟨t, ht⟩ := mem_get ((hers r).mpr ⟨hr, h1⟩)
      exact ⟨t, by have := get_lt ht; omega, (G1 t r ht).2.2⟩
  obtain ⟨p', F', J, c, g', t1, t2, t3, t4, t5, t6, t7, t8, t9, t10, t11, t12, t13, t14, t15, t16, t17⟩ := rel_ok (p := p) (F := F) (n := m) (st := q.2.2) (s := nd q.2.1) (b := u_X3_remove b (nI l)) (X := uA X 5 g1) s1 q4.2.2.2.1 hpq (isP_nd _) hFq
    (fun u hu => by rw [u2, r2 0 (by decide) (by decide) (by decide) (by decide)]; exact b1 u hu) (fun u hu => by rw [uA_at, m4 u (by omega)]; exact k1 u hu) (by omega) (by rw [uA_at]; exact m2) HL
  have eU : u_X0_releaseLoan b (nI l) = u_X5_release (u_X3_remove b (nI l)) (nI q.2.2) (nI (nd q.2.1)) := by
    unfold u_X0_releaseLoan; rw [at3, at4]
  rw [uA_at] at t7 t8
  refine ⟨p', F', g', ⟨⟨t1, fun u hu => ?_, ?_, fun r hr => ?_, by omega, s6, s7, s8⟩, ⟨?_, ?_, ?_, ?_, fun t r hr => ?_, fun t r hr => ?_⟩, ⟨fun u hu => t9.2.2.1 u hu, ?_, ?_, ?_, fun t r hr => ?_, fun t r hr => ?_⟩, ?_, ?_⟩, ?_⟩
  · rw [t13 u hu]
    constructor
    · rintro ⟨h1, h2⟩
      obtain ⟨r, hr, rfl⟩ := (s2 u hu).mp h2
      exact ⟨r, (hers r).mpr ⟨hr, h1⟩, rfl⟩
    · rintro ⟨r, hr, rfl⟩
      obtain ⟨h1, h2⟩ := (hers r).mp hr
      exact ⟨h2, (s2 _ hu).mpr ⟨r, h1, rfl⟩⟩
  · exact s3.sublist ((List.eraseIdx_sublist L l).map _)
  · obtain ⟨h1, h2⟩ := (hers r).mp hr
    have h3 := s4 r h1
    obtain ⟨h4, h5⟩ := (s2 _ h3.2.2.2.1).mpr ⟨r, h1, rfl⟩
    rw [t14 _ h3.2.2.2.1 h2 h4 h5]
    exact h3
  · rw [eU]; exact t2
  · rw [eU, t4 0 (by decide), u1, up_ne (by decide), b2]
  · rw [eU, t4 3 (by decide), u1, up_self, hlen]
  · rw [eU, t4 4 (by decide), u1, up_ne (by decide), b4]
  · obtain ⟨h1, h2⟩ := hold t r hr
    rw [eU, t5 1 (by decide), t5 2 (by decide), t5 3 (by decide), t5 4 (by decide), u2, r3 1 (by simp), r3 2 (by simp), r3 3 (by simp), r3 4 (by simp)]
    by_cases c : l ≤ t
    · rw [if_pos c] at h2
      rw [if_pos ⟨c, h1⟩, if_pos ⟨c, h1⟩, if_pos ⟨c, h1⟩, if_pos ⟨c, h1⟩]; exact b5 _ r h2
    · rw [if_neg c] at h2
      rw [if_neg (by omega), if_neg (by omega), if_neg (by omega), if_neg (by omega)]; exact b5 _ r h2
  · rw [eU, t5 5 (by decide), t5 6 (by decide), u2, r2 5 (by decide) (by decide) (by decide) (by decide), r2 6 (by decide) (by decide) (by decide) (by decide)]; exact b6 t r hr
  · rw [t8 126 (by omega) (by omega), m4 126 (by omega)]; exact k2
  · rw [t8 64 (by omega) (by omega), m2, hlen]
  · rw [t8 113 (by omega) (by omega), m4 113 (by omega)]; exact k4
  · have h1 := (hold t r hr).1
    rw [t8 (65 + t) (by omega) (by omega), t8 (81 + t) (by omega) (by omega), t8 (97 + t) (by omega) (by omega)]; exact G1 t r hr
  · have h1 := get_lt hr
    rw [t8 (114 + t) (by omega) (by omega), t8 (120 + t) (by omega) (by omega), m4 (114 + t) (by omega), m4 (120 + t) (by omega)]; exact k6 t r hr
  · rw [eU, t4 1 (by decide), u1, up_ne (by decide), hv1, t8 127 (by omega) (by omega), m4 127 (by omega)]
  · rw [eU, t3, u1, up_ne (by decide), hv2, t7, m4 128 (by omega)]
  · rw [m1, t6, uA_uA]; rfl
/-- all loans of a name are given back, the last one first -/
theorem all_ok (w : Nat) {nm : Nat} (hnm : nm < 100) : ∀ (d fuel fuel2 gv : Nat) (p : Nat → Nat) (F : Nat → Bool) (L : tL) (W : tWt) (b : BD) (X : GS), BG p F L W w b (X.2.2.1 5) → d ≤ L.length → d < fuel → d < fuel2 →
    ∃ (gv' : Nat) (y : Int32) (p' : Nat → Nat) (F' : Nat → Bool) (L' : tL) (b' : BD) (g' : Nat → Int32), lp_X0_giveBackAll_12 (nI nm) fuel (nI gv) (nI d - 1) b = some (nI gv', y, b') ∧ lp_X8_givesAll_25 (nI nm) fuel2 (nI gv) (nI d - 1) X = some (nI gv', y, uA X 5 g') ∧ BG p' F' L' W w b' g' ∧ gv' ≤ gv + d ∧
      ((gv' = gv ∧ b' = b ∧ g' = X.2.2.1 5 ∧ ∀ t q, t < d → L[t]? = some q → ¬ q.1 = nm) ∨ (gv < gv' ∧ ∃ t q, t < d ∧ L[t]? = some q ∧ q.1 = nm)) := by
  intro d
  induction d with
  | zero =>
    intro fuel fuel2 gv p F L W b X B hd hf hf2
    obtain ⟨fuel, rfl⟩ : ∃ k, fuel = k + 1 := ⟨fuel - 1, by omega⟩
    obtain ⟨fuel2, rfl⟩ : ∃ k, fuel2 = k + 1 := ⟨fuel2 - 1, by omega⟩
    refine ⟨gv, nI 0 - 1, p, F, L, b, X.2.2.1 5, ?_, ?_, B, by omega, Or.inl ⟨rfl, rfl, rfl, fun t q h => by omega⟩⟩
    · rw [lp_X0_giveBackAll_12, if_pos (by decide)]
    · rw [lp_X8_givesAll_25, if_pos (by decide)]
      simp only [uA, up_eta]
  | succ d ih =>
    intro fuel fuel2 gv p F L W b X B hd hf hf2
    obtain ⟨fuel, rfl⟩ : ∃ k, fuel = k + 1 := ⟨fuel - 1, by omega⟩
    obtain ⟨fuel2, rfl⟩ : ∃ k, fuel2 = k + 1 := ⟨fuel2 - 1, by omega⟩
    obtain ⟨q, hq⟩ := get_ex (L := L) (l := d) (by omega)
    have h16 := B.1.2.2.2.2.1
    have h4 := B.1.2.2.2.1 q (get_mem hq)
    have a1 : (65 : Int32) + nI d = nI (65 + d) := nI_add 65 d
    have a2 : nI d + (-1) = nI d - 1 := by rw [Int32.sub_eq_add_neg]
    rw [nI_pred, lp_X0_giveBackAll_12, lp_X8_givesAll_25, if_neg (nI_pos (by omega)), if_neg (nI_pos (by omega)), (loan_at B.1 B.2.1 hq).1]
    simp only [a1, a2, if_pos (inR_nI (show 65 + d < 129 by omega) (show 129 < 2 ^ 31 by omega)), nI_clamp (show 65 + d < 2 ^ 31 by omega), (B.2.2.1.2.2.2.2.1 d q hq).1]
    by_cases e : q.1 = nm
    · rw [if_pos (by rw [e]), if_pos (by rw [e])]
      obtain ⟨p1, F1, g1, B1, m1⟩ := back_ok B hq
      rw [m1, bnd1_some, nI_1]
      have hlen : (L.eraseIdx d).length = L.length - 1 := by rw [List.length_eraseIdx, if_pos (by omega)]
      obtain ⟨gv', y, p', F', L', b', g', z1, z2, z3, z4, z5⟩ := ih fuel fuel2 (gv + 1) p1 F1 _ W _ (uA X 5 g1) (by rw [uA_at]; exact B1) (by omega) (by omega) (by omega)
      rw [uA_uA] at z2
      refine ⟨gv', y, p', F', L', b', g', z1, z2, z3, by omega, Or.inr ⟨?_, d, q, by omega, hq, e⟩⟩
      rcases z5 with h | h <;> omega
    · rw [if_neg (nI_ne (by omega) (by omega) e), if_neg (nI_ne (by omega) (by omega) e)]
      obtain ⟨gv', y, p', F', L', b', g', z1, z2, z3, z4, z5⟩ := ih fuel fuel2 gv p F L W b X B (by omega) (by omega) (by omega)
      refine ⟨gv', y, p', F', L', b', g', z1, z2, z3, by omega, ?_⟩
      rcases z5 with ⟨h1, h2, h3, h5⟩ | ⟨h1, t, r, h2, h3, h5⟩
      · refine Or.inl ⟨h1, h2, h3, fun t r ht hr => ?_⟩
        by_cases e2 : t = d
        · subst e2
          rw [hq] at hr
          obtain rfl := Option.some.inj hr
          exact e
        · exact h5 t r (by omega) hr
      · exact Or.inr ⟨h1, t, r, by omega, h3, h5⟩
end
