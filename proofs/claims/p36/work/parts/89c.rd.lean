/-! ===== p36: texts that are read: what is read depends on the text alone ===== -/
def QR (w : Nat) (X Y : GS) : Prop := X.2.1 3 = Y.2.1 3 ∧ X.2.1 4 = Y.2.1 4 ∧ X.2.1 5 = Y.2.1 5 ∧ X.2.1 6 = Y.2.1 6 ∧ (∀ i, i < (Y.2.1 4).toNatClampNeg → X.2.2.1 4 i = Y.2.2.1 4 i) ∧ ∀ k, 1 ≤ k → k ≤ 3 → ∀ i, i < w → X.2.2.1 k i = Y.2.2.1 k i
def FR (X X' : GS) : Prop := X'.1 = X.1 ∧ (∀ k, ¬ k = 5 → ¬ k = 6 → X'.2.1 k = X.2.1 k) ∧ (∀ k, ¬ k = 1 → ¬ k = 2 → ¬ k = 3 → X'.2.2.1 k = X.2.2.1 k) ∧ X'.2.2.2 = X.2.2.2
theorem FR.rf {X : GS} : FR X X := ⟨rfl, fun _ _ _ => rfl, fun _ _ _ _ => rfl, rfl⟩
theorem FR.tr {X Y Z : GS} (h : FR X Y) (h' : FR Y Z) : FR X Z := ⟨h'.1.trans h.1, fun k a b => (h'.2.1 k a b).trans (h.2.1 k a b), fun k a b c => (h'.2.2.1 k a b c).trans (h.2.2.1 k a b c), h'.2.2.2.trans h.2.2.2⟩
theorem FR.s5 (X : GS) (v : Int32) : FR X (uS X 5 v) := ⟨rfl, fun k a _ => up_ne a, fun _ _ _ _ => rfl, rfl⟩
theorem FR.s6 (X : GS) (v : Int32) : FR X (uS X 6 v) := ⟨rfl, fun k _ a => up_ne a, fun _ _ _ _ => rfl, rfl⟩
def RX (w : Nat) (X Y X' Y' : GS) : Prop := QR w X' Y' ∧ FR X X'
theorem ite_R {α β : Type} {P : α → β → Prop} {c : Prop} [Decidable c] {x x' : α} {y y' : β} (h1 : P x y) (h2 : P x' y') : P (if c then x else x') (if c then y else y') := by
  split
  · exact h1
  · exact h2
section
variable {w : Nat} {X Y : GS}
theorem QR.s3 (h : QR w X Y) (v : Int32) : QR w (uS X 3 v) (uS Y 3 v) := ⟨rfl, h.2.1, h.2.2.1, h.2.2.2.1, h.2.2.2.2.1, h.2.2.2.2.2⟩
theorem QR.s5 (h : QR w X Y) (v : Int32) : QR w (uS X 5 v) (uS Y 5 v) := ⟨h.1, h.2.1, rfl, h.2.2.2.1, h.2.2.2.2.1, h.2.2.2.2.2⟩
theorem QR.s6 (h : QR w X Y) (v : Int32) : QR w (uS X 6 v) (uS Y 6 v) := ⟨h.1, h.2.1, h.2.2.1, rfl, h.2.2.2.2.1, h.2.2.2.2.2⟩
theorem QR.mono {w' : Nat} (h : QR w X Y) (hw : w' ≤ w) : QR w' X Y := ⟨h.1, h.2.1, h.2.2.1, h.2.2.2.1, h.2.2.2.2.1, fun k a b i hi => h.2.2.2.2.2 k a b i (Nat.lt_of_lt_of_le hi hw)⟩
theorem lt_clamp {x y : Int32} (h0 : ¬ x < 0) (h : ¬ y ≤ x) : x.toNatClampNeg < y.toNatClampNeg := by
  have h1 : (0 : Int) ≤ x.toInt := by
    have h3 := Int32.le_iff_toInt_le.mp (Int32.not_lt.mp h0)
    simpa using h3
  have h2 := Int32.lt_iff_toInt_lt.mp (Int32.not_le.mp h)
  show x.toInt.toNat < y.toInt.toNat
  omega
theorem q_sign (h : QR w X Y) : r_X4_sign X = r_X4_sign Y := by
  unfold r_X4_sign
  rw [h.2.2.1, h.2.1]
  by_cases h1 : Y.2.1 5 < 0
  · rw [if_pos h1, if_pos h1]
  rw [if_neg h1, if_neg h1]
  by_cases h2 : Y.2.1 4 ≤ Y.2.1 5
  · rw [if_pos h2, if_pos h2]
  rw [if_neg h2, if_neg h2, h.2.2.2.2.1 _ (lt_clamp h1 h2)]
theorem q_dig (h : QR w X Y) : r_X4_readDigit X = r_X4_readDigit Y ∧ QR w (x_X4_readDigit X) (x_X4_readDigit Y) ∧ FR X (x_X4_readDigit X) := by
  refine ⟨by unfold r_X4_readDigit; rw [q_sign h], ?_⟩
  have e : RX w X Y (x_X4_readDigit X) (x_X4_readDigit Y) := by
    unfold x_X4_readDigit
    rw [q_sign h, h.2.2.1]
    exact ite_R (P := RX w X Y) ⟨h, FR.rf⟩ (ite_R (P := RX w X Y) ⟨(h.s6 _).s5 _, (FR.s6 _ _).tr (FR.s5 _ _)⟩ ⟨h, FR.rf⟩)
  exact e
theorem q_num (h : QR w X Y) : r_X4_readNumber X = r_X4_readNumber Y ∧ QR w (x_X4_readNumber X) (x_X4_readNumber Y) ∧ FR X (x_X4_readNumber X) := by
  obtain ⟨d1, d2, d3⟩ := q_dig h
  obtain ⟨g1, g2, g3⟩ := q_dig d2
  refine ⟨by unfold r_X4_readNumber; rw [d1, g1], ?_⟩
  have e : RX w X Y (x_X4_readNumber X) (x_X4_readNumber Y) := by
    unfold x_X4_readNumber
    rw [d1, g1, d2.2.2.2.1, g2.2.2.2.1]
    exact ite_R (P := RX w X Y) ⟨d2, d3⟩ (ite_R (P := RX w X Y) ⟨g2, d3.tr g3⟩ ⟨g2.s6 _, (d3.tr g3).tr (FR.s6 _ _)⟩)
  exact e
theorem q_rs (h : QR w X Y) (due : Int32) : r_X4_readSign X due = r_X4_readSign Y due ∧ QR w (x_X4_readSign X due) (x_X4_readSign Y due) ∧ FR X (x_X4_readSign X due) := by
  refine ⟨by unfold r_X4_readSign; rw [q_sign h], ?_⟩
  have e : RX w X Y (x_X4_readSign X due) (x_X4_readSign Y due) := by
    unfold x_X4_readSign
    rw [q_sign h, h.2.2.1]
    exact ite_R (P := RX w X Y) ⟨h.s5 _, FR.s5 _ _⟩ ⟨h, FR.rf⟩
  exact e
theorem q_put (h : QR w X Y) (hw : w < 20) (k f s : Int32) : QR (w + 1) (x_X4_put X (nI w) k f s) (x_X4_put Y (nI w) k f s) ∧ FR X (x_X4_put X (nI w) k f s) := by
  have h1 : ¬ nI w < 0 := nI_pos (by omega)
  have h2 : ¬ (20 : Int32) ≤ nI w := fun hh => absurd ((nI_leI (a := 20) (b := w) (by decide) (by omega)).mp hh) (by omega)
  unfold x_X4_put
  rw [if_neg h1, if_neg h2, if_neg h1, if_neg h2, nI_clamp (by omega)]
  refine ⟨⟨h.1, h.2.1, h.2.2.1, h.2.2.2.1, h.2.2.2.2.1, fun q a b i hi => ?_⟩, rfl, fun _ _ _ => rfl, fun q a b c => ?_, rfl⟩
  · have ho := h.2.2.2.2.2 q a b i
    rcases (show q = 1 ∨ q = 2 ∨ q = 3 by omega) with rfl | rfl | rfl
    · show up (X.2.2.1 1) w k i = up (Y.2.2.1 1) w k i
      unfold up; split
      · rfl
      · exact ho (by omega)
    · show up (X.2.2.1 2) w f i = up (Y.2.2.1 2) w f i
      unfold up; split
      · rfl
      · exact ho (by omega)
    · show up (X.2.2.1 3) w s i = up (Y.2.2.1 3) w s i
      unfold up; split
      · rfl
      · exact ho (by omega)
  · show up (up (up X.2.2.1 1 _) 2 _) 3 _ q = _
    rw [up_ne c, up_ne b, up_ne a]
/-- an order is read: r says whether it was put -/
theorem q_ord (h : QR w X Y) (hw : w < 20) : r_X4_readOrder X = r_X4_readOrder Y ∧ FR X (x_X4_readOrder X (nI w)) ∧ (r_X4_readOrder Y = 0 → QR w (x_X4_readOrder X (nI w)) (x_X4_readOrder Y (nI w))) ∧ (¬ r_X4_readOrder Y = 0 → QR (w + 1) (x_X4_readOrder X (nI w)) (x_X4_readOrder Y (nI w))) := by
  have e0 := q_sign h
  have hA : QR w (uS X 5 (X.2.1 5 + 1)) (uS Y 5 (Y.2.1 5 + 1)) := by rw [h.2.2.1]; exact h.s5 _
  have fA : FR X (uS X 5 (X.2.1 5 + 1)) := FR.s5 _ _
  obtain ⟨d1, d2, d3⟩ := q_dig hA
  obtain ⟨n1, n2, n3⟩ := q_num hA
  obtain ⟨ds1, ds2, ds3⟩ := q_rs d2 58
  obtain ⟨ns1, ns2, ns3⟩ := q_rs n2 58
  obtain ⟨dn1, dn2, dn3⟩ := q_num ds2
  obtain ⟨nn1, nn2, nn3⟩ := q_num ns2
  have fd := fA.tr d3
  have fn := fA.tr n3
  have pd := fun k f s => q_put d2 hw k f s
  have pn := fun k f s => q_put n2 hw k f s
  have pdn := fun k f s => q_put dn2 hw k f s
  have pnn := fun k f s => q_put nn2 hw k f s
  unfold r_X4_readOrder x_X4_readOrder
  rw [e0, d1, n1, ds1, ns1, dn1, nn1, d2.2.2.2.1, n2.2.2.2.1, dn2.2.2.2.1, nn2.2.2.2.1]
  refine ⟨rfl, ?_⟩
  by_cases c1 : r_X4_isKind (r_X4_sign Y) = 0
  · simp only [if_pos c1]
    exact ⟨FR.rf, fun _ => h, fun hh => absurd trivial hh⟩
  simp only [if_neg c1]
  by_cases c2 : r_X4_sign Y = 119
  · simp only [if_pos c2]
    by_cases c3 : r_X4_readDigit (uS Y 5 (Y.2.1 5 + 1)) = 0
    · simp only [if_pos c3]
      exact ⟨fd, fun _ => d2, fun hh => absurd trivial hh⟩
    simp only [if_neg c3]
    by_cases c4 : r_X4_hasAmount (r_X4_sign Y) = 0
    · simp only [if_pos c4]
      exact ⟨fd.tr (pd _ _ _).2, fun hh => absurd hh (by decide), fun _ => (pd _ _ _).1⟩
    simp only [if_neg c4]
    by_cases c5 : r_X4_readSign (x_X4_readDigit (uS Y 5 (Y.2.1 5 + 1))) 58 = 0
    · simp only [if_pos c5]
      exact ⟨fd.tr ds3, fun _ => ds2, fun hh => absurd trivial hh⟩
    simp only [if_neg c5]
    by_cases c6 : r_X4_readNumber (x_X4_readSign (x_X4_readDigit (uS Y 5 (Y.2.1 5 + 1))) 58) = 0
    · simp only [if_pos c6]
      exact ⟨(fd.tr ds3).tr dn3, fun _ => dn2, fun hh => absurd trivial hh⟩
    simp only [if_neg c6]
    exact ⟨((fd.tr ds3).tr dn3).tr (pdn _ _ _).2, fun hh => absurd hh (by decide), fun _ => (pdn _ _ _).1⟩
  simp only [if_neg c2]
  by_cases c3 : r_X4_readNumber (uS Y 5 (Y.2.1 5 + 1)) = 0
  · simp only [if_pos c3]
    exact ⟨fn, fun _ => n2, fun hh => absurd trivial hh⟩
  simp only [if_neg c3]
  by_cases c4 : r_X4_hasAmount (r_X4_sign Y) = 0
  · simp only [if_pos c4]
    exact ⟨fn.tr (pn _ _ _).2, fun hh => absurd hh (by decide), fun _ => (pn _ _ _).1⟩
  simp only [if_neg c4]
  by_cases c5 : r_X4_readSign (x_X4_readNumber (uS Y 5 (Y.2.1 5 + 1))) 58 = 0
  · simp only [if_pos c5]
    exact ⟨fn.tr ns3, fun _ => ns2, fun hh => absurd trivial hh⟩
  simp only [if_neg c5]
  by_cases c6 : r_X4_readNumber (x_X4_readSign (x_X4_readNumber (uS Y 5 (Y.2.1 5 + 1))) 58) = 0
  · simp only [if_pos c6]
    exact ⟨(fn.tr ns3).tr nn3, fun _ => nn2, fun hh => absurd trivial hh⟩
  simp only [if_neg c6]
  exact ⟨((fn.tr ns3).tr nn3).tr (pnn _ _ _).2, fun hh => absurd hh (by decide), fun _ => (pnn _ _ _).1⟩
end
/-- ... the number of orders, too -/
def FL (X X' : GS) : Prop := X'.1 = X.1 ∧ (∀ k, ¬ k = 3 → ¬ k = 5 → ¬ k = 6 → X'.2.1 k = X.2.1 k) ∧ (∀ k, ¬ k = 1 → ¬ k = 2 → ¬ k = 3 → X'.2.2.1 k = X.2.2.1 k) ∧ X'.2.2.2 = X.2.2.2
theorem FR.l {X X' : GS} (h : FR X X') : FL X X' := ⟨h.1, fun k _ a b => h.2.1 k a b, h.2.2.1, h.2.2.2⟩
theorem FL.tr {X Y Z : GS} (h : FL X Y) (h' : FL Y Z) : FL X Z := ⟨h'.1.trans h.1, fun k a b c => (h'.2.1 k a b c).trans (h.2.1 k a b c), fun k a b c => (h'.2.2.1 k a b c).trans (h.2.2.1 k a b c), h'.2.2.2.trans h.2.2.2⟩
theorem FL.s3 (X : GS) (v : Int32) : FL X (uS X 3 v) := ⟨rfl, fun k a _ _ => up_ne a, fun _ _ _ _ => rfl, rfl⟩
theorem QR.rf {w : Nat} {X : GS} : QR w X X := ⟨rfl, rfl, rfl, rfl, fun _ _ => rfl, fun _ _ _ _ _ => rfl⟩
theorem q_lread : ∀ (j i : Nat) (X Y : GS), i + j = 20 → QR i X Y → Y.2.1 3 = nI i → ∃ w, (lp_X4_read_12 j i X).1 = (lp_X4_read_12 j i Y).1 ∧ QR w (lp_X4_read_12 j i X).2 (lp_X4_read_12 j i Y).2 ∧ FL X (lp_X4_read_12 j i X).2 ∧ w ≤ 20 ∧ (lp_X4_read_12 j i Y).2.2.1 3 = nI w
  | 0, i, X, Y, hj, h, h3 => ⟨i, rfl, h, FR.rf.l, by omega, h3⟩
  | j + 1, i, X, Y, hj, h, h3 => by
    have hi : i < 20 := by omega
    obtain ⟨o1, o2, o3, o4⟩ := q_ord h hi
    obtain ⟨-, y2, -, -⟩ := q_ord (X := Y) (Y := Y) (w := i) QR.rf hi
    unfold lp_X4_read_12
    rw [o1]
    by_cases c1 : r_X4_readOrder Y = 0
    · simp only [if_pos c1]
      have q1 := o3 c1
      exact ⟨i, by rw [q1.2.2.1], q1, o2.l, by omega, by rw [y2.2.1 3 (by decide) (by decide)]; exact h3⟩
    simp only [if_neg c1]
    have q1 := o4 c1
    have q2 := q1.s3 (nI i + 1)
    have f2 := o2.l.tr (FL.s3 (x_X4_readOrder X (nI i)) (nI i + 1))
    obtain ⟨s1, s2, s3⟩ := q_rs q2 59
    obtain ⟨-, -, z3⟩ := q_rs (w := i) (X := uS (x_X4_readOrder Y (nI i)) 3 (nI i + 1)) (Y := uS (x_X4_readOrder Y (nI i)) 3 (nI i + 1)) QR.rf 59
    have e3 : (x_X4_readSign (uS (x_X4_readOrder Y (nI i)) 3 (nI i + 1)) 59).2.1 3 = nI (i + 1) := by
      rw [z3.2.1 3 (by decide) (by decide), ← nI_1]; rfl
    rw [q1.2.2.1, q1.2.1, s1, s2.2.2.1]
    by_cases c2 : (x_X4_readOrder Y (nI i)).2.1 5 = (x_X4_readOrder Y (nI i)).2.1 4
    · simp only [if_pos c2]
      exact ⟨i + 1, trivial, q2, f2, by omega, by rw [← nI_1]; rfl⟩
    simp only [if_neg c2]
    by_cases c3 : r_X4_readSign (uS (x_X4_readOrder Y (nI i)) 3 (nI i + 1)) 59 = 0
    · simp only [if_pos c3]
      exact ⟨i + 1, trivial, s2, f2.tr s3.l, by omega, e3⟩
    simp only [if_neg c3]
    obtain ⟨w, w1, w2, w3, w4, w5⟩ := q_lread j (i + 1) _ _ (by omega) s2 e3
    exact ⟨w, w1, w2, (f2.tr s3.l).tr w3, w4, w5⟩
/-- the whole text is read as a state with the same text reads it -/
theorem q_read {X Y : GS} (h4 : X.2.1 4 = Y.2.1 4) (h6 : X.2.1 6 = Y.2.1 6) (ht : ∀ i, i < (Y.2.1 4).toNatClampNeg → X.2.2.1 4 i = Y.2.2.1 4 i) :
    ∃ w, r_X4_read X = r_X4_read Y ∧ QR w (x_X4_read X) (x_X4_read Y) ∧ FL X (x_X4_read X) ∧ w ≤ 20 ∧ (x_X4_read Y).2.1 3 = nI w := by
  have h0 : QR 0 (uS (uS X 5 0) 3 0) (uS (uS Y 5 0) 3 0) := ⟨rfl, h4, rfl, h6, ht, fun _ _ _ i hi => absurd hi (Nat.not_lt_zero _)⟩
  obtain ⟨w, w1, w2, w3, w4, w5⟩ := q_lread 20 0 _ _ rfl h0 rfl
  have f0 : FL X (uS (uS X 5 0) 3 0) := (FR.s5 X 0).l.tr (FL.s3 _ _)
  refine ⟨w, ?_, ?_, ?_, w4, ?_⟩
  · unfold r_X4_read
    rw [w1, w2.2.2.1]
  · unfold x_X4_read
    simp only [ite_self]
    exact w2
  · unfold x_X4_read
    simp only [ite_self]
    exact f0.tr w3
  · unfold x_X4_read
    simp only [ite_self]
    exact w5
