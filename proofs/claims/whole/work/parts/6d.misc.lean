/-! ===== the pure part, 23: characters, accounts, reasons, undo, snapshot ===== -/
theorem Rel.QB {X : GS} (R : Rel X) : ∃ (p : Nat → Nat) (F : Nat → Bool) (L : tL) (W : tWt) (w : Nat), BG p F L W w (X.1 0) (X.2.2.1 5) ∧ Sv p F L W := R.1
/-- what a question leaves -/
theorem Rel.q {X : GS} (R : Rel X) (n a : Int32) : Rel (uS X 19 a) ∧ Rel (uS (uS X 19 n) 17 a) := by
  refine ⟨R.same (fun _ _ => rfl) (fun k _ _ _ _ z _ _ => ?_) (fun _ _ => rfl) (fun _ _ _ _ _ _ _ => rfl), R.same (fun _ _ => rfl) (fun k _ _ _ z4 z _ _ => ?_) (fun _ _ => rfl) (fun _ _ _ _ _ _ _ => rfl)⟩
  · show up X.2.1 19 a k = _
    rw [up_ne z]
  · show up (up X.2.1 19 n) 17 a k = _
    rw [up_ne z4, up_ne z]
theorem Rel.o {X : GS} (R : Rel X) (o : Nat → Int64) : Rel (uO X o) := R
theorem Rel.d {X : GS} (R : Rel X) (o : Nat → UInt64) : Rel (uD X o) := R
/-- promise 23 -/
theorem q_character {X : GS} (R : Rel X) (x : Int32) : (e_X7_character X x = "" ∧ m_X8_character X x = some (r_X7_character X x, uS X 19 0)) ∨ (e_X7_character X x = "java/lang/IndexOutOfBoundsException" ∧ m_X8_character X x = some (0, uS X 19 1)) := by
  obtain ⟨k, hk, h2, h18, hag, hc1, hc2⟩ := R.2.2.2.2.2.2.1
  have hin : ((∃ i, i < k ∧ x = nI i) ∧ m_X8_in x 0 (X.2.1 18 - 1) = some 1) ∨ ((∀ i, i < k → ¬ x = nI i) ∧ m_X8_in x 0 (X.2.1 18 - 1) = some 0) := by
    rw [h18]
    cases k with
    | zero =>
      right
      refine ⟨fun i hi => by omega, ?_⟩
      unfold m_X8_in
      by_cases c : x < 0
      · rw [if_pos c]
      · rw [if_neg c]
        obtain ⟨j, hj, rfl⟩ := nI_of c
        rw [if_pos (Int32.lt_iff_toInt_lt.mpr (by rw [nI_toInt hj]; have : (nI 0 - 1 : Int32).toInt = -1 := by decide
                                                  rw [this]; omega))]
    | succ n =>
      rw [nI_pred]
      rcases in_cases (x := x) (n := n) (by omega) with ⟨⟨i, hi, rfl⟩, h⟩ | ⟨h1, h⟩
      · exact Or.inl ⟨⟨i, by omega, rfl⟩, h⟩
      · exact Or.inr ⟨fun i hi => h1 i (by omega), h⟩
  unfold e_X7_character r_X7_character m_X8_character r_X2_signAt r_X2_has
  rcases hin with ⟨⟨i, hi, rfl⟩, h⟩ | ⟨h1, h⟩
  · rw [h2, h, bnd1_some]
    simp only [if_neg (nI_pos (show i < 2 ^ 31 by omega)), if_neg (nI_ge hi (show k < 2 ^ 31 by omega)), if_neg (geL (k := 384) (x := 384) rfl (show i < 384 by omega) (by omega)), if_neg (show ¬ (1 : Int32) = 0 by decide), nI_clamp (show i < 2 ^ 31 by omega), if_pos (inR_nI (show i < 400 by omega) (show 400 < 2 ^ 31 by omega)), hag i hi]
    exact Or.inl ⟨trivial, trivial⟩
  · rw [h, bnd1_some, if_pos rfl]
    right
    by_cases c : x < 0
    · simp only [if_pos c, if_true]
      exact ⟨trivial, trivial⟩
    · obtain ⟨j, hj, rfl⟩ := nI_of c
      rw [h2]
      simp only [if_neg c, if_pos (nI_le (Nat.not_lt.mp (fun z => h1 j z rfl)) hj), if_true]
      exact ⟨trivial, trivial⟩
/-- promise 24 -/
theorem append_ok {X : GS} (R : Rel X) {x : Int32} (hx : Ch x) (o : Nat → Int64) : (e_X7_append X = "" ∧ ∃ Y, m_X8_append (uO (x_X7_append X x) o) x = some (r_X7_append X x, Y) ∧ Y.2.1 19 = 0 ∧ Y.2.2.2.1 = o ∧ Rel Y) ∨ (e_X7_append X = "java/lang/IllegalStateException" ∧ x_X7_append X x = X ∧ ∀ o, m_X8_append (uO X o) x = some (0, uS (uS (uO X o) 19 1) 17 0)) := by
  obtain ⟨r1, r2, r3, r4, r5, r6, r7, k, hk, h4, h13, hag⟩ := R
  unfold e_X7_append x_X7_append r_X7_append r_X4_isFull
  rw [h4]
  by_cases c : k = 60
  · right
    subst c
    rw [if_neg (show ¬ nI 60 < 60 by decide)]
    simp only [if_neg (show ¬ (1 : Int32) = 0 by decide)]
    refine ⟨trivial, trivial, fun o => ?_⟩
    unfold m_X8_append
    rw [show (uO X o).2.1 13 = nI 60 from h13, if_pos (show nI 60 = (60 : Int32) from rfl), fails_eq, bnd2_some]
  · left
    rw [if_pos (ltR (k := 60) (x := 60) rfl (by omega) (by omega))]
    simp only [if_true]
    refine ⟨trivial, ?_⟩
    have ha : x_X4_addSign X x = uS (uA X 4 (up (X.2.2.1 4) k x)) 4 (nI (k + 1)) := by
      unfold x_X4_addSign
      rw [h4, if_neg (nI_pos (by omega)), if_neg (geL (k := 60) (x := 60) rfl (by omega) (by omega)), nI_clamp (by omega), hx.nar, nI_1]
    rw [ha]
    generalize hZ : uO (uS (uA X 4 (up (X.2.2.1 4) k x)) 4 (nI (k + 1))) o = Z
    have z1 : Z.1 = X.1 := by rw [← hZ]; rfl
    have z2 : Z.2.1 = up X.2.1 4 (nI (k + 1)) := by rw [← hZ]; rfl
    have z3 : Z.2.2.1 = up X.2.2.1 4 (up (X.2.2.1 4) k x) := by rw [← hZ]; rfl
    have e13 : Z.2.1 13 = nI k := by rw [z2, up_ne (by decide)]; exact h13
    have e9 : Z.2.2.1 9 = X.2.2.1 9 := by rw [z3, up_ne (by decide)]
    have e0 : (uS (uA X 4 (up (X.2.2.1 4) k x)) 4 (nI (k + 1))).2.1 4 = nI (k + 1) := uS_at
    rw [e0]
    refine ⟨uS (uS (uA Z 9 (up (X.2.2.1 9) k x)) 13 (nI (k + 1))) 19 0, ?_, uS_at, (show Z.2.2.2.1 = o by rw [← hZ]; rfl), ?_⟩
    · unfold m_X8_append
      rw [e13, if_neg (neL (k := 60) (x := 60) rfl (by omega) (by omega) c), if_pos (inR_nI (by omega) (by omega)), nI_clamp (by omega), hx.nar, nI_1, e9, done_eq, bnd2_some]
    · have S : ∀ i, (uS (uS (uA Z 9 (up (X.2.2.1 9) k x)) 13 (nI (k + 1))) 19 0).2.1 i = up (up (up X.2.1 4 (nI (k + 1))) 13 (nI (k + 1))) 19 0 i := fun i => by show up (up Z.2.1 13 _) 19 0 i = _; rw [z2]
      have A : ∀ i, (uS (uS (uA Z 9 (up (X.2.2.1 9) k x)) 13 (nI (k + 1))) 19 0).2.2.1 i = up (up X.2.2.1 4 (up (X.2.2.1 4) k x)) 9 (up (X.2.2.1 9) k x) i := fun i => by show up Z.2.2.1 9 _ i = _; rw [z3]
      have Bq : (uS (uS (uA Z 9 (up (X.2.2.1 9) k x)) 13 (nI (k + 1))) 19 0).1 = X.1 := z1
      generalize uS (uS (uA Z 9 (up (X.2.2.1 9) k x)) 13 (nI (k + 1))) 19 0 = V at *
      have D : ∀ i, (¬ i = 4 ∧ ¬ i = 13 ∧ ¬ i = 19) → V.2.1 i = X.2.1 i := fun i z => by rw [S, up_ne z.2.2, up_ne z.2.1, up_ne z.1]
      have E : ∀ i, (¬ i = 4 ∧ ¬ i = 9) → V.2.2.1 i = X.2.2.1 i := fun i z => by rw [A, up_ne z.2, up_ne z.1]
      refine ⟨?_, r2.same (fun j _ => by rw [Bq]) (D 0 (by decide)) (D 1 (by decide)) (D 11 (by decide)) (E 7 (by decide)), r3.same (by rw [Bq]) (D 8 (by decide)) (D 12 (by decide)) (E 8 (by decide)), ?_, ?_, ?_, r7.same (D 2 (by decide)) (D 18 (by decide)) (E 0 (by decide)) (E 10 (by decide)), k + 1, by omega, ?_, ?_, fun i hi => ?_⟩
      · rw [Bq, E 5 (by decide)]; exact r1
      · rw [D 9 (by decide), D 15 (by decide)]; exact r4
      · rw [D 10 (by decide), D 16 (by decide)]; exact r5
      · rw [D 7 (by decide), D 14 (by decide)]; exact r6
      · rw [S, up_ne (by decide), up_ne (by decide), up_self]
      · rw [S, up_ne (by decide), up_self]
      · rw [A, A, up_ne (show ¬ 4 = 9 by decide), up_self, up_self]
        by_cases e : i = k
        · subst e; rw [up_self, up_self]; exact ⟨rfl, hx⟩
        · rw [up_ne e, up_ne e]; exact hag i (by omega)
/-- promise 26 -/
theorem q_errorPosition {X : GS} (R : Rel X) : m_X8_errorPosition X = some (r_X7_errorPosition X, uS X 19 0) := by
  unfold m_X8_errorPosition r_X7_errorPosition
  rw [done_eq, bnd2_some, R.2.2.2.2.2.1]
/-- promise 27 -/
theorem q_refusal {X : GS} (R : Rel X) (x : Int32) : QB (e_X7_refusal X x) (r_X7_refusal X x) nseN "-" X (m_X8_refusal X x) := by
  unfold m_X8_refusal r_X7_refusal e_X7_refusal
  rw [← R.2.2.2.1, ← R.2.2.2.2.1]
  by_cases c : X.2.1 9 = 0
  · simp only [if_pos c]
    exact Or.inr (Or.inl ⟨rfl, rfl⟩)
  · simp only [if_neg c]
    by_cases d : x = 0
    · simp only [if_pos d]; exact Or.inl ⟨rfl, rfl⟩
    · simp only [if_neg d]; exact Or.inl ⟨rfl, rfl⟩
/-- promise 28 -/
theorem q_account {X : GS} (R : Rel X) (x : Int32) : QB (e_X7_account x) (r_X7_account X (X.1 0) x) "java/lang/IllegalArgumentException" "-" X (m_X8_account X x) := by
  obtain ⟨p, F, L, W, w, B, hS⟩ := R.QB
  obtain ⟨n, c, i1, i2, i3, i4, i5, -⟩ := R.2.1
  obtain ⟨k, hk, h4, h13, -⟩ := R.2.2.2.2.2.2.2
  obtain ⟨s1, s2⟩ := all_sums B
  unfold m_X8_account r_X7_account e_X7_account
  by_cases e0 : x = 0
  · simp only [if_pos e0, B.2.1.2.2.1, B.2.2.1.2.2.1]; exact Or.inl ⟨rfl, rfl⟩
  · simp only [if_neg e0]
    by_cases e1 : x = 1
    · simp only [e1, if_true, s1, bnd1_some]; exact Or.inl ⟨rfl, rfl⟩
    · simp only [if_neg e1]
      by_cases e2 : x = 2
      · simp only [e2, if_true, s2, bnd1_some]; exact Or.inl ⟨rfl, rfl⟩
      · simp only [if_neg e2]
        by_cases e3 : x = 3
        · simp only [if_pos e3, freePieces_ok B, bnd1_some]; exact Or.inl ⟨rfl, rfl⟩
        · simp only [if_neg e3]
          by_cases e4 : x = 4
          · simp only [if_pos e4, B.2.1.2.2.2.1, B.2.2.1.2.2.2.1]; exact Or.inl ⟨rfl, rfl⟩
          · simp only [if_neg e4]
            by_cases e5 : x = 5
            · simp only [if_pos e5, s1, s2, bnd1_some]; exact Or.inl ⟨rfl, rfl⟩
            · simp only [if_neg e5]
              by_cases e6 : x = 6
              · subst e6
                simp only [if_true, show ((127 : Int32) + 6 - 6) = nI 127 from by decide, if_pos (inR_nI (show 127 < 129 by omega) (show 129 < 2 ^ 31 by omega)), nI_clamp (show 127 < 2 ^ 31 by omega), B.2.2.2.1]
                exact Or.inl ⟨rfl, rfl⟩
              · simp only [if_neg e6]
                by_cases e7 : x = 7
                · subst e7
                  simp only [if_true, show ((127 : Int32) + 7 - 6) = nI 128 from by decide, if_pos (inR_nI (show 128 < 129 by omega) (show 129 < 2 ^ 31 by omega)), nI_clamp (show 128 < 2 ^ 31 by omega), B.2.2.2.2]
                  exact Or.inl ⟨rfl, rfl⟩
                · simp only [if_neg e7]
                  by_cases e8 : x = 8
                  · simp only [if_pos e8, B.2.1.2.1, B.2.2.1.2.1]; exact Or.inl ⟨rfl, rfl⟩
                  · simp only [if_neg e8]
                    by_cases e9 : x = 9
                    · simp only [if_pos e9, h4, h13]; exact Or.inl ⟨rfl, rfl⟩
                    · simp only [if_neg e9]
                      by_cases e10 : x = 10
                      · simp only [if_pos e10, i4, i5]; exact Or.inl ⟨rfl, rfl⟩
                      · simp only [if_neg e10]; exact Or.inr (Or.inl ⟨rfl, rfl⟩)
section
variable {p : Nat → Nat} {F : Nat → Bool} {L : tL} {W : tWt} {w : Nat} {b : BD} {Y : GS}
theorem lp_allS (B : BG p F L W w b (Y.2.2.1 5)) : ∀ (j i a : Nat), i + j = L.length → a ≤ 64 * i → ∃ s t : Nat, lp_X3_allSizes_4 b j i (nI a) = nI s ∧ s ≤ 64 * L.length := by
  intro j
  induction j with
  | zero => intro i a hi ha; exact ⟨a, 0, rfl, by rw [← hi]; omega⟩
  | succ j ih =>
    intro i a hi ha
    obtain ⟨q, hq⟩ := get_ex (L := L) (l := i) (by omega)
    obtain ⟨l1, l2, l3, l4⟩ := loan_at B.1 B.2.1 hq
    have h1 := isP_le (isP_nd q.2.1)
    rw [lp_X3_allSizes_4, l4, nI_add]
    exact ih (i + 1) (a + nd q.2.1) (by omega) (by omega)
theorem allSizes_le (B : BG p F L W w b (Y.2.2.1 5)) : ∃ s, s ≤ 1024 ∧ r_X3_allSizes b = nI s := by
  have h16 := B.1.2.2.2.2.1
  obtain ⟨s, t, h1, h2⟩ := lp_allS B L.length 0 0 (by omega) (by omega)
  refine ⟨s, by omega, ?_⟩
  unfold r_X3_allSizes
  rw [B.2.1.2.2.1, nI_clamp (by omega)]
  exact h1
theorem lp_waste (B : BG p F L W w b (Y.2.2.1 5)) : ∀ (j i a c : Nat), i + j = L.length → a ≤ c → c ≤ a + 64 * i → a ≤ 64 * i → ∃ s t : Nat, lp_X3_allAmounts_4 b j i (nI a) = nI s ∧ lp_X3_allSizes_4 b j i (nI c) = nI t ∧ s ≤ t ∧ t ≤ s + 64 * L.length := by
  intro j
  induction j with
  | zero => intro i a c hi h1 h2 h3; exact ⟨a, c, rfl, rfl, h1, by rw [← hi]; omega⟩
  | succ j ih =>
    intro i a c hi h1 h2 h3
    obtain ⟨q, hq⟩ := get_ex (L := L) (l := i) (by omega)
    obtain ⟨l1, l2, l3, l4⟩ := loan_at B.1 B.2.1 hq
    have q4 := B.1.2.2.2.1 q (get_mem hq)
    have g1 := isP_le (isP_nd q.2.1)
    have g2 := nd_ge q4.2.2.1
    rw [lp_X3_allSizes_4, lp_X3_allAmounts_4, l4, l2, nI_add, nI_add]
    exact ih (i + 1) (a + q.2.1) (c + nd q.2.1) (by omega) (by omega) (by omega) (by omega)
theorem waste_ok (B : BG p F L W w b (Y.2.2.1 5)) : ∃ s, s ≤ 1024 ∧ r_X3_allSizes b - r_X3_allAmounts b = nI s := by
  have h16 := B.1.2.2.2.2.1
  obtain ⟨s, t, h1, h2, h3, h4⟩ := lp_waste B L.length 0 0 0 (by omega) (by omega) (by omega) (by omega)
  refine ⟨t - s, by omega, ?_⟩
  unfold r_X3_allSizes r_X3_allAmounts
  rw [B.2.1.2.2.1, nI_clamp (by omega)]
  have h1' : lp_X3_allAmounts_4 b L.length 0 0 = nI s := h1
  have h2' : lp_X3_allSizes_4 b L.length 0 0 = nI t := h2
  rw [h1', h2', nI_sub h3]
/-- promise 30 -/
theorem q_meanWaste (B : BG p F L W w b (Y.2.2.1 5)) : (e_X7_meanWaste b = "" ∧ (FP.ddiv (FP.i2d (r_X3_allSizes b - r_X3_allAmounts b)) (FP.i2d (b.1 3)) &&& 0x7fffffffffffffff ≤ 0x7ff0000000000000) ∧ m_X8_meanWaste Y = some (r_X7_meanWaste b, uS Y 19 0)) ∨ (e_X7_meanWaste b = "java/lang/ArithmeticException" ∧ ¬ 0 < b.1 3 ∧ m_X8_meanWaste Y = some (FP.dconst0, uS Y 19 1)) := by
  have h16 := B.1.2.2.2.2.1
  unfold e_X7_meanWaste r_X7_meanWaste m_X8_meanWaste
  rw [B.2.1.2.2.1, B.2.2.1.2.2.1]
  by_cases c : L.length = 0
  · right
    rw [c, if_neg (show ¬ (0 : Int32) < nI 0 by decide), if_pos (show (nI 0 : Int32) = 0 from rfl)]
    exact ⟨rfl, by decide, rfl⟩
  · left
    obtain ⟨s, hs, e⟩ := waste_ok B
    obtain ⟨s1, s2⟩ := all_sums (Y := uS Y 19 0) (b := b) B
    have hn := nan64_all s (by omega) L.length (by omega) (by omega)
    rw [if_pos (ltL (a := L.length) (k := 0) (x := 0) rfl (by omega) (by omega)), if_pos (ltL (a := L.length) (k := 0) (x := 0) rfl (by omega) (by omega)), if_neg (nI_ne0 (by omega) (by omega)), s2, bnd1_some, s1, bnd1_some, e, if_pos hn]
    exact ⟨rfl, hn, rfl⟩
/-- promise 31 -/
theorem q_lentShare (B : BG p F L W w b (Y.2.2.1 5)) : (FP.fdiv (FP.i2f (r_X3_allSizes b)) 1115684864 &&& 0x7fffffff ≤ 0x7f800000) ∧ m_X8_lentShare Y = some (r_X7_lentShare b, uS Y 19 0) := by
  obtain ⟨s, hs, e⟩ := allSizes_le B
  obtain ⟨s1, s2⟩ := all_sums (Y := uS Y 19 0) (b := b) B
  have hn := nan32_all s (by omega)
  unfold m_X8_lentShare r_X7_lentShare
  rw [s2, bnd1_some, e, if_pos hn]
  exact ⟨hn, rfl⟩
end
/-- promise 32 -/
theorem undo_ok {X : GS} (R : Rel X) (o : Nat → Int64) : (e_X7_undo X = "" ∧ ∃ Y, m_X8_undo (uO (uB (x_X7_undo X) 0 (u_X7_undo X (X.1 0))) o) = some (r_X7_undo X, Y) ∧ Y.2.1 19 = 0 ∧ Y.2.2.2.1 = o ∧ Rel Y) ∨ (e_X7_undo X = "java/lang/IllegalStateException" ∧ x_X7_undo X = X ∧ u_X7_undo X (X.1 0) = X.1 0 ∧ ∀ o, m_X8_undo (uO X o) = some (0, uS (uS (uO X o) 19 1) 17 0)) := by
  obtain ⟨r1, ⟨n, c, i1, i2, i3, i4, i5, i6⟩, r3, r4, r5, r6, r7, r8⟩ := R
  unfold e_X7_undo x_X7_undo u_X7_undo r_X7_undo
  rw [i4]
  by_cases hc : c = 0
  · right
    subst hc
    rw [if_neg (show ¬ (0 : Int32) < nI 0 by decide), if_neg (show ¬ (0 : Int32) < nI 0 by decide), if_neg (show ¬ (0 : Int32) < nI 0 by decide)]
    refine ⟨rfl, rfl, rfl, fun o => ?_⟩
    unfold m_X8_undo
    rw [if_pos (show (uO X o).2.1 11 = 0 from i5), fails_eq, bnd2_some]
  · left
    have hpos : (0 : Int32) < nI c := nI_lt (a := 0) (by omega) (by omega)
    rw [if_pos hpos, if_pos hpos, if_pos hpos, if_pos hpos]
    refine ⟨rfl, ?_⟩
    have hnle : ¬ nI c ≤ 0 := nI_nle (by omega) (by omega)
    -- the class
    have hk : x_X1_takeBack X = uS (uS X 0 (nI ((n + 7) % 8))) 1 (nI (c - 1)) ∧ u_X1_takeBack X (X.1 0) = cpB (X.1 (3 + (n + 7) % 8)) (X.1 0) := by
      have en : nx X = n := by show (X.2.1 0).toNatClampNeg = n; rw [i3, nI_clamp (by omega)]
      unfold x_X1_takeBack u_X1_takeBack
      rw [i3, i4, if_neg hnle, if_neg hnle, if_neg hnle, if_neg hnle, en]
      have ec : nI c - 1 = nI (c - 1) := by
        obtain ⟨d, rfl⟩ : ∃ d, c = d + 1 := ⟨c - 1, by omega⟩
        exact nI_pred d
      by_cases d : n = 0
      · subst d
        rw [if_pos (show nI 0 ≤ 0 by decide), if_pos (show nI 0 ≤ 0 by decide), ec]
        exact ⟨rfl, rfl⟩
      · have e1 : nI n - 1 = nI ((n + 7) % 8) := by
          obtain ⟨m, rfl⟩ : ∃ m, n = m + 1 := ⟨n - 1, by omega⟩
          rw [nI_pred]; congr 1; omega
        rw [if_neg (nI_nle (n := n) (by omega) (by omega)), if_neg (nI_nle (n := n) (by omega) (by omega)), e1, ec, show n - 1 = (n + 7) % 8 by omega]
        exact ⟨rfl, rfl⟩
    rw [hk.1, hk.2]
    generalize hZ : uO (uB (uS (uS X 0 (nI ((n + 7) % 8))) 1 (nI (c - 1))) 0 (cpB (X.1 (3 + (n + 7) % 8)) (X.1 0))) o = Z
    have z1 : Z.1 = up X.1 0 (cpB (X.1 (3 + (n + 7) % 8)) (X.1 0)) := by rw [← hZ]; rfl
    have z2 : Z.2.1 = up (up X.2.1 0 (nI ((n + 7) % 8))) 1 (nI (c - 1)) := by rw [← hZ]; rfl
    have z3 : Z.2.2.1 = X.2.2.1 := by rw [← hZ]; rfl
    have e11 : Z.2.1 11 = nI c := by rw [z2, up_ne (by decide), up_ne (by decide)]; exact i5
    have er : (uS (uS X 0 (nI ((n + 7) % 8))) 1 (nI (c - 1))).2.1 1 = nI (c - 1) := uS_at
    rw [er]
    have ec : nI c - 1 = nI (c - 1) := by
      obtain ⟨d, rfl⟩ : ∃ d, c = d + 1 := ⟨c - 1, by omega⟩
      exact nI_pred d
    have em : nI (c - 1) * 129 = nI ((c - 1) * 129) := nI_mul (c - 1) 129
    obtain ⟨f, h1, h2⟩ := copy_134_132 (X := uS Z 11 (nI (c - 1))) (at0 := (c - 1) * 129) (th := 0) (by omega) (by omega)
    have h1' : m_X8_copy_134_132 (uS Z 11 (nI (c - 1))) (nI ((c - 1) * 129)) 0 = some (uA (uS Z 11 (nI (c - 1))) 5 f) := h1
    refine ⟨uS (uA (uS Z 11 (nI (c - 1))) 5 f) 19 0, ?_, uS_at, (show Z.2.2.2.1 = o by rw [← hZ]; rfl), ?_⟩
    · unfold m_X8_undo
      rw [e11, if_neg (nI_ne0 (by omega) (by omega)), ec, em, h1', bnd1_some, done_eq, bnd2_some, show (uA (uS Z 11 (nI (c - 1))) 5 f).2.1 11 = nI (c - 1) from uS_at (X := Z) (k := 11) (v := nI (c - 1))]
    · have S : ∀ i, (uS (uA (uS Z 11 (nI (c - 1))) 5 f) 19 0).2.1 i = up (up (up (up X.2.1 0 (nI ((n + 7) % 8))) 1 (nI (c - 1))) 11 (nI (c - 1))) 19 0 i := fun i => by show up (up Z.2.1 11 _) 19 0 i = _; rw [z2]
      have A : ∀ i, (uS (uA (uS Z 11 (nI (c - 1))) 5 f) 19 0).2.2.1 i = up X.2.2.1 5 f i := fun i => by show up Z.2.2.1 5 f i = _; rw [z3]
      have Bq : (uS (uA (uS Z 11 (nI (c - 1))) 5 f) 19 0).1 = up X.1 0 (cpB (X.1 (3 + (n + 7) % 8)) (X.1 0)) := z1
      have h7 : (uS Z 11 (nI (c - 1))).2.2.1 7 = X.2.2.1 7 := by show Z.2.2.1 7 = _; rw [z3]
      rw [h7] at h2
      generalize uS (uA (uS Z 11 (nI (c - 1))) 5 f) 19 0 = V at *
      have D : ∀ i, (¬ i = 0 ∧ ¬ i = 1 ∧ ¬ i = 11 ∧ ¬ i = 19) → V.2.1 i = X.2.1 i := fun i z => by rw [S, up_ne z.2.2.2, up_ne z.2.2.1, up_ne z.2.1, up_ne z.1]
      have E : ∀ i, ¬ i = 5 → V.2.2.1 i = X.2.2.1 i := fun i z => by rw [A, up_ne z]
      refine ⟨?_, ⟨(n + 7) % 8, c - 1, Nat.mod_lt _ (by omega), by omega, ?_, ?_, ?_, fun i hi => ?_⟩, r3.same ?_ (D 8 (by decide)) (D 12 (by decide)) (E 8 (by decide)), ?_, ?_, ?_, r7.same (D 2 (by decide)) (D 18 (by decide)) (E 0 (by decide)) (E 10 (by decide)), r8.same (D 4 (by decide)) (D 13 (by decide)) (E 4 (by decide)) (E 9 (by decide))⟩
      · rw [Bq, up_self, A, up_self]
        have hb := i6 (c - 1) (by omega)
        rw [show 3 + (n + 8 - c + (c - 1)) % 8 = 3 + (n + 7) % 8 by omega] at hb
        refine hb.cp.g (fun k hk => ?_)
        rw [h2, if_pos (by omega), show (c - 1) * 129 + (k - 0) = 129 * (c - 1) + k by omega]
      · rw [S, up_ne (by decide), up_ne (by decide), up_ne (by decide), up_self]
      · rw [S, up_ne (by decide), up_ne (by decide), up_self]
      · rw [S, up_ne (by decide), up_self]
      · rw [Bq, up_ne (by omega), E 7 (by decide), show 3 + ((n + 7) % 8 + 8 - (c - 1) + i) % 8 = 3 + (n + 8 - c + i) % 8 by omega]
        exact i6 i (by omega)
      · rw [Bq, up_ne (by decide)]
      · rw [D 9 (by decide), D 15 (by decide)]; exact r4
      · rw [D 10 (by decide), D 16 (by decide)]; exact r5
      · rw [D 7 (by decide), D 14 (by decide)]; exact r6
/-- promise 33 -/
theorem save_ok {X : GS} (R : Rel X) : ∃ Y, m_X8_save (uB (x_X7_save X (X.1 0)) 0 (X.1 0)) = some (r_X7_save (X.1 0), Y) ∧ Y.2.1 19 = 0 ∧ Rel Y := by
  obtain ⟨p, F, L, W, w, B, hS⟩ := R.QB
  obtain ⟨r1, r2, r3, r4, r5, r6, r7, r8⟩ := R
  unfold x_X7_save r_X7_save
  generalize hZ : uB (uS (uB X 2 (cpB (X.1 0) (X.1 2))) 8 1) 0 (X.1 0) = Z
  have z1 : Z.1 = up (up X.1 2 (cpB (X.1 0) (X.1 2))) 0 (X.1 0) := by rw [← hZ]; rfl
  have z2 : Z.2.1 = up X.2.1 8 1 := by rw [← hZ]; rfl
  have z3 : Z.2.2.1 = X.2.2.1 := by rw [← hZ]; rfl
  obtain ⟨f, h1, h2⟩ := copy_132_135 (X := Z) (at0 := 0) (th := 0) (by omega) (by omega)
  have h1' : m_X8_copy_132_135 Z 0 0 = some (uA Z 8 f) := h1
  have e5 : (uA Z 8 f).2.2.1 5 = X.2.2.1 5 := by rw [uA_ne (by decide), z3]
  refine ⟨uS (uS (uA Z 8 f) 12 1) 19 0, ?_, uS_at, ?_⟩
  · unfold m_X8_save
    rw [h1', bnd1_some, done_eq, bnd2_some, e5, B.2.2.1.2.2.1, B.2.1.2.2.1]
  · have S : ∀ i, (uS (uS (uA Z 8 f) 12 1) 19 0).2.1 i = up (up (up X.2.1 8 1) 12 1) 19 0 i := fun i => by show up (up Z.2.1 12 1) 19 0 i = _; rw [z2]
    have A : ∀ i, (uS (uS (uA Z 8 f) 12 1) 19 0).2.2.1 i = up X.2.2.1 8 f i := fun i => by show up Z.2.2.1 8 f i = _; rw [z3]
    have Bq : (uS (uS (uA Z 8 f) 12 1) 19 0).1 = up (up X.1 2 (cpB (X.1 0) (X.1 2))) 0 (X.1 0) := z1
    rw [z3] at h2
    generalize uS (uS (uA Z 8 f) 12 1) 19 0 = V at *
    have D : ∀ i, (¬ i = 8 ∧ ¬ i = 12 ∧ ¬ i = 19) → V.2.1 i = X.2.1 i := fun i z => by rw [S, up_ne z.2.2, up_ne z.2.1, up_ne z.1]
    have E : ∀ i, ¬ i = 8 → V.2.2.1 i = X.2.2.1 i := fun i z => by rw [A, up_ne z]
    refine ⟨?_, r2.same (fun j hj => by rw [Bq, up_ne (by omega), up_ne (by omega)]) (D 0 (by decide)) (D 1 (by decide)) (D 11 (by decide)) (E 7 (by decide)), ⟨?_, Or.inr ⟨?_, ?_⟩⟩, ?_, ?_, ?_, r7.same (D 2 (by decide)) (D 18 (by decide)) (E 0 (by decide)) (E 10 (by decide)), r8.same (D 4 (by decide)) (D 13 (by decide)) (E 4 (by decide)) (E 9 (by decide))⟩
    · rw [Bq, up_self, E 5 (by decide)]; exact r1
    · rw [S, S, up_ne (show ¬ 8 = 19 by decide), up_ne (show ¬ 8 = 12 by decide), up_self, up_ne (show ¬ 12 = 19 by decide), up_self]
    · rw [S, up_ne (show ¬ 12 = 19 by decide), up_self]
    · rw [Bq, up_ne (by decide), up_self, A, up_self]
      refine r1.cp.g (fun k hk => ?_)
      rw [h2, if_pos (by omega), Nat.zero_add, Nat.sub_zero]
    · rw [D 9 (by decide), D 15 (by decide)]; exact r4
    · rw [D 10 (by decide), D 16 (by decide)]; exact r5
    · rw [D 7 (by decide), D 14 (by decide)]; exact r6
/-- promise 34 -/
theorem restore_ok {X : GS} (R : Rel X) (o : Nat → Int64) : (e_X7_restore X = "" ∧ ∃ Y, m_X8_restore (uO (uB (x_X7_restore X) 0 (u_X7_restore X (X.1 0))) o) = some (r_X7_restore X (X.1 0), Y) ∧ Y.2.1 19 = 0 ∧ Y.2.2.2.1 = o ∧ Rel Y) ∨ (e_X7_restore X = "java/lang/IllegalStateException" ∧ x_X7_restore X = X ∧ u_X7_restore X (X.1 0) = X.1 0 ∧ ∀ o, m_X8_restore (uO X o) = some (0, uS (uS (uO X o) 19 1) 17 0)) := by
  obtain ⟨r1, ⟨n, c, i1, i2, i3, i4, i5, i6⟩, ⟨s1, s2⟩, r4, r5, r6, r7, r8⟩ := R
  unfold e_X7_restore x_X7_restore u_X7_restore r_X7_restore
  rw [s1]
  rcases s2 with s2 | ⟨s2, s3⟩
  · right
    rw [s2, if_pos rfl, if_pos rfl, if_pos rfl]
    refine ⟨rfl, rfl, rfl, fun o => ?_⟩
    unfold m_X8_restore
    rw [if_pos (show (uO X o).2.1 12 = 0 from s2), fails_eq, bnd2_some]
  · left
    have h10 : ¬ (1 : Int32) = 0 := by decide
    rw [s2, if_neg h10, if_neg h10, if_neg h10, if_neg h10]
    refine ⟨rfl, ?_⟩
    obtain ⟨p, F, L, W, w, Bs, hS⟩ := s3
    unfold x_X1_clear
    generalize hZ : uO (uB (uS X 1 0) 0 (cpB (X.1 2) (X.1 0))) o = Z
    have z1 : Z.1 = up X.1 0 (cpB (X.1 2) (X.1 0)) := by rw [← hZ]; rfl
    have z2 : Z.2.1 = up X.2.1 1 0 := by rw [← hZ]; rfl
    have z3 : Z.2.2.1 = X.2.2.1 := by rw [← hZ]; rfl
    obtain ⟨f, h1, h2⟩ := copy_135_132 (X := Z) (at0 := 0) (th := 0) (by omega) (by omega)
    have h1' : m_X8_copy_135_132 Z 0 0 = some (uA Z 5 f) := h1
    have e12 : Z.2.1 12 = 1 := by rw [z2, up_ne (by decide)]; exact s2
    rw [z3] at h2
    have hf : ∀ k, k < 129 → f k = X.2.2.1 8 k := fun k hk => by rw [h2, if_pos (by omega), Nat.zero_add, Nat.sub_zero]
    have er : (cpB (X.1 2) (X.1 0)).1 3 = nI L.length := Bs.2.1.2.2.1
    rw [er]
    refine ⟨uS (uS (uA Z 5 f) 11 0) 19 0, ?_, uS_at, (show Z.2.2.2.1 = o by rw [← hZ]; rfl), ?_⟩
    · unfold m_X8_restore
      rw [e12, if_neg h10, h1', bnd1_some, done_eq, bnd2_some, uA_at, hf 64 (by omega), Bs.2.2.1.2.2.1]
    · have S : ∀ i, (uS (uS (uA Z 5 f) 11 0) 19 0).2.1 i = up (up (up X.2.1 1 0) 11 0) 19 0 i := fun i => by show up (up Z.2.1 11 0) 19 0 i = _; rw [z2]
      have A : ∀ i, (uS (uS (uA Z 5 f) 11 0) 19 0).2.2.1 i = up X.2.2.1 5 f i := fun i => by show up Z.2.2.1 5 f i = _; rw [z3]
      have Bq : (uS (uS (uA Z 5 f) 11 0) 19 0).1 = up X.1 0 (cpB (X.1 2) (X.1 0)) := z1
      generalize uS (uS (uA Z 5 f) 11 0) 19 0 = V at *
      have D : ∀ i, (¬ i = 1 ∧ ¬ i = 11 ∧ ¬ i = 19) → V.2.1 i = X.2.1 i := fun i z => by rw [S, up_ne z.2.2, up_ne z.2.1, up_ne z.1]
      have E : ∀ i, ¬ i = 5 → V.2.2.1 i = X.2.2.1 i := fun i z => by rw [A, up_ne z]
      refine ⟨?_, ⟨n, 0, i1, by omega, ?_, ?_, ?_, fun i hi => by omega⟩, SN.same ⟨s1, Or.inr ⟨s2, ⟨p, F, L, W, w, Bs, hS⟩⟩⟩ ?_ (D 8 (by decide)) (D 12 (by decide)) (E 8 (by decide)), ?_, ?_, ?_, r7.same (D 2 (by decide)) (D 18 (by decide)) (E 0 (by decide)) (E 10 (by decide)), r8.same (D 4 (by decide)) (D 13 (by decide)) (E 4 (by decide)) (E 9 (by decide))⟩
      · rw [Bq, up_self, A, up_self]
        exact (show Bd (X.1 2) (X.2.2.1 8) from ⟨p, F, L, W, w, Bs, hS⟩).cp.g hf
      · rw [D 0 (by decide)]; exact i3
      · rw [S, up_ne (by decide), up_ne (by decide), up_self]; rfl
      · rw [S, up_ne (by decide), up_self]; rfl
      · rw [Bq, up_ne (by decide)]
      · rw [D 9 (by decide), D 15 (by decide)]; exact r4
      · rw [D 10 (by decide), D 16 (by decide)]; exact r5
      · rw [D 7 (by decide), D 14 (by decide)]; exact r6
