/-! ===== the pure part, 11: orders: the verdict of the class, and what the reference does ===== -/
/-- v: the verdict, xj: what the verdict writes down, b': the board behind it, r: the answer; m: the reference -/
def OUT (g : Nat → Int32) (b' : BD) (v r : Int32) (xj : GS → GS) (m : GS → Option (Int32 × GS)) (n1 n2 n3 : Int32) : Prop :=
  (v = 0 ∧ (∀ X, xj X = X) ∧ ∀ Y : GS, Y.2.2.1 5 = g → ∃ g', Bd b' g' ∧ m Y = some (r, uS (uA Y 5 g') 19 0)) ∨
  (v = 1 ∧ (∀ X, xj X = X) ∧ ∀ Y : GS, Y.2.2.1 5 = g → m Y = some (0, uS (uS Y 19 n1) 17 0)) ∨
  (v = 2 ∧ (∀ X, xj X = X) ∧ ∀ Y : GS, Y.2.2.1 5 = g → m Y = some (0, uS (uS Y 19 n2) 17 0)) ∨
  (v = 3 ∧ ∃ d1 d2 : Int32, ¬ d1 = 0 ∧ (∀ X, xj X = uS (uS X 9 d1) 10 d2) ∧ ∀ Y : GS, Y.2.2.1 5 = g → ∃ g', m Y = some (0, uS (uS (uS (uS (uA Y 5 g') 15 d1) 16 d2) 19 n3) 17 1))
theorem fails_eq {X : GS} {n : Int32} : m_X8_fails X n = some (0, uS (uS X 19 n) 17 0) := rfl
theorem refused_eq {X : GS} {a d n : Int32} : m_X8_refused X a d n = some (0, uS (uS (uS (uS X 15 a) 16 d) 19 n) 17 1) := rfl
theorem done_eq {X : GS} {v : Int32} : m_X8_done X v = some (v, uS X 19 0) := rfl
theorem uA_self {X : GS} {k : Nat} : uA X k (X.2.2.1 k) = X := by simp only [uA, up_eta]
/-- in a range from 0 on, or not -/
theorem in_cases {x : Int32} {n : Nat} (hn : n < 2 ^ 31) : ((∃ k, k ≤ n ∧ x = nI k) ∧ m_X8_in x 0 (nI n) = some 1) ∨ ((∀ k, k ≤ n → ¬ x = nI k) ∧ m_X8_in x 0 (nI n) = some 0) := by
  unfold m_X8_in
  by_cases h : x < 0
  · rw [if_pos h]
    right
    exact ⟨fun k hk e => by subst e; exact absurd h (nI_pos (by omega)), rfl⟩
  · rw [if_neg h]
    obtain ⟨j, hj, rfl⟩ := nI_of h
    by_cases h2 : j ≤ n
    · rw [if_neg (nI_nlt h2 hn)]
      exact Or.inl ⟨⟨j, h2, rfl⟩, rfl⟩
    · rw [if_pos (nI_lt (by omega) hj)]
      exact Or.inr ⟨fun k hk e => h2 (by have := (nI_eq hj (by omega)).mp e; omega), rfl⟩
theorem name_cases (x : Int32) : ((∃ k, k < 100 ∧ x = nI k) ∧ r_X7_isName x = 1 ∧ m_X8_isName x = some 1) ∨ (r_X7_isName x = 0 ∧ m_X8_isName x = some 0) := by
  unfold m_X8_isName r_X7_isName
  have e : (99 : Int32) = nI 99 := rfl
  rw [e]
  rcases in_cases (x := x) (n := 99) (by omega) with ⟨⟨k, hk, rfl⟩, h⟩ | ⟨h1, h⟩
  · left
    rw [h, if_neg (nI_pos (by omega)), if_neg (nI_nlt hk (by omega))]
    exact ⟨⟨k, by omega, rfl⟩, rfl, rfl⟩
  · right
    rw [h]
    refine ⟨?_, rfl⟩
    by_cases h2 : x < 0
    · rw [if_pos h2]
    · rw [if_neg h2]
      obtain ⟨j, hj, rfl⟩ := nI_of h2
      rw [if_pos (nI_lt (Nat.not_le.mp (fun h => h1 j h rfl)) hj)]
theorem amount_cases (x : Int32) : ((∃ k, 1 ≤ k ∧ k ≤ 64 ∧ x = nI k) ∧ r_X7_isAmount x = 1 ∧ m_X8_isAmount x = some 1) ∨ (r_X7_isAmount x = 0 ∧ m_X8_isAmount x = some 0) := by
  unfold m_X8_isAmount r_X7_isAmount m_X8_in
  by_cases h1 : x < 1
  · right; rw [if_pos h1, if_pos h1]; exact ⟨rfl, rfl⟩
  · rw [if_neg h1, if_neg h1]
    by_cases h2 : 64 < x
    · right; rw [if_pos h2, if_pos h2]; exact ⟨rfl, rfl⟩
    · left
      rw [if_neg h2, if_neg h2]
      have h0 : ¬ x < 0 := fun h => h1 (Int32.lt_trans h (by decide))
      obtain ⟨j, hj, rfl⟩ := nI_of h0
      have e1 : ¬ j < 1 := fun h => h1 (nI_lt (a := j) (b := 1) h (by omega))
      have e2 : ¬ 64 < j := fun h => h2 (nI_lt (a := 64) (b := j) h hj)
      exact ⟨⟨j, by omega, by omega, rfl⟩, rfl, rfl⟩
theorem loan_cases {n : Nat} {X : GS} {b : BD} (hb : b.1 3 = nI n) (hn : n ≤ 16) (hg : X.2.2.1 5 64 = nI n) (x : Int32) : ((∃ k, k < n ∧ x = nI k) ∧ r_X3_has b x = 1 ∧ m_X8_isLoan X x = some 1) ∨ (r_X3_has b x = 0 ∧ m_X8_isLoan X x = some 0) := by
  unfold m_X8_isLoan
  rw [hg]
  cases n with
  | zero =>
    right
    refine ⟨has3_f hb hn (fun l h => by omega), ?_⟩
    unfold m_X8_in
    by_cases h2 : x < 0
    · rw [if_pos h2]; rfl
    · rw [if_neg h2]
      obtain ⟨j, hj, rfl⟩ := nI_of h2
      rw [if_pos (Int32.lt_iff_toInt_lt.mpr (by rw [nI_toInt hj]; have : (nI 0 - 1 : Int32).toInt = -1 := by decide
                                                rw [this]; omega))]
      rfl
  | succ n =>
    rw [nI_pred]
    rcases in_cases (x := x) (n := n) (by omega) with ⟨⟨k, hk, rfl⟩, h⟩ | ⟨h1, h⟩
    · left; rw [h]; exact ⟨⟨k, by omega, rfl⟩, has3_t hb hn (by omega), rfl⟩
    · right; rw [h]; exact ⟨has3_f hb hn (fun l hl => h1 l (by omega)), rfl⟩
theorem place_cases {n : Nat} {b : BD} {hi : Int32} (hb : b.1 4 = nI n) (hn : n ≤ 6) (hg : hi = nI n) (x : Int32) : ((∃ k, k < n ∧ x = nI k) ∧ r_X6_has b x = 1 ∧ m_X8_in x 0 (hi - 1) = some 1) ∨ (r_X6_has b x = 0 ∧ m_X8_in x 0 (hi - 1) = some 0) := by
  rw [hg]
  cases n with
  | zero =>
    right
    refine ⟨has6_f hb hn (fun l h => by omega), ?_⟩
    unfold m_X8_in
    by_cases h2 : x < 0
    · rw [if_pos h2]
    · rw [if_neg h2]
      obtain ⟨j, hj, rfl⟩ := nI_of h2
      rw [if_pos (Int32.lt_iff_toInt_lt.mpr (by rw [nI_toInt hj]; have : (nI 0 - 1 : Int32).toInt = -1 := by decide
                                                rw [this]; omega))]
  | succ n =>
    rw [nI_pred]
    rcases in_cases (x := x) (n := n) (by omega) with ⟨⟨k, hk, rfl⟩, h⟩ | ⟨h1, h⟩
    · left; rw [h]; exact ⟨⟨k, by omega, rfl⟩, has6_t hb hn (by omega), rfl⟩
    · right; rw [h]; exact ⟨has6_f hb hn (fun l hl => h1 l (by omega)), rfl⟩
section
variable {p : Nat → Nat} {F : Nat → Bool} {L : tL} {W : tWt} {w : Nat} {b : BD} {g : Nat → Int32}
theorem BG.at (B : BG p F L W w b g) {Y : GS} (h : Y.2.2.1 5 = g) : BG p F L W w b (Y.2.2.1 5) := by rw [h]; exact B
theorem Sv.more {p' : Nat → Nat} {F' : Nat → Bool} {L' : tL} (h : Sv p F L W) (hL : L.length < 16) (bd : ∀ m, (∀ u, u < 64 → F u = true → p u < m) → ∀ u, u < 64 → F' u = true → p' u < m) : Sv p' F' L' W := by
  intro q hq
  rcases h q hq with h1 | h1
  · omega
  · exact Or.inr (bd _ h1)
/-- promise 2 -/
theorem out_lend (B : Bd b g) (x y : Int32) : OUT g (u_X0_lendTo b x y) (r_X7_judgeLend b x y) (r_X0_lendTo b x y) (fun X => x_X7_judgeLend X b x y) (fun Y => m_X8_lends Y x y) 1 1 2 := by
  obtain ⟨p, F, L, W, w, B, hS⟩ := B
  unfold r_X7_judgeLend x_X7_judgeLend m_X8_lends
  rcases name_cases x with ⟨⟨k, hk, rfl⟩, h1, h2⟩ | ⟨h1, h2⟩
  · rcases amount_cases y with ⟨⟨a, ha1, ha2, rfl⟩, h3, h4⟩ | ⟨h3, h4⟩
    · simp only [h1, h2, h3, h4, bnd1_some, if_neg (show ¬ (1 : Int32) = 0 by decide)]
      have h16 := B.1.2.2.2.2.1
      rw [B.2.1.2.2.1]
      by_cases e : L.length = 16
      · rw [if_neg (nltR (k := 16) (x := 16) rfl (by omega) (by omega))]
        refine Or.inr (Or.inr (Or.inr ⟨rfl, 1, nI L.length, by decide, fun X => ?_, fun Y hY => ⟨g, ?_⟩⟩))
        · simp only [if_neg (nltR (k := 16) (x := 16) rfl (show 16 ≤ L.length by omega) (by omega))]; rfl
        · dsimp only
          rw [if_pos (by rw [hY, B.2.2.1.2.2.1, e]; rfl), refused_eq, bnd2_some, ← hY, uA_self, e]; rfl
      · rw [if_pos (ltR (k := 16) (x := 16) rfl (by omega) (by omega)), need_nI ha1 ha2]
        have hc : ∀ Y : GS, Y.2.2.1 5 = g → ¬ Y.2.2.1 5 64 = 16 := fun Y hY => by rw [hY, B.2.2.1.2.2.1]; exact neL (k := 16) (x := 16) rfl (by omega) (by omega) e
        obtain ⟨M, g1, g2, g3, g4, g5⟩ := greatest_ok (X := uA gs0 5 g) B.1.1 (by rw [uA_at]; exact B.1.RM B.2.2.1) B.2.1.1
        rw [g2]
        have hN := isP_pos (isP_nd a)
        have hN2 := isP_le (isP_nd a)
        by_cases e2 : nd a ≤ M
        · rw [if_pos (nI_le e2 (by omega))]
          have hex : ∃ u, u < 64 ∧ F u = true ∧ nd a ≤ p u := by
            rcases g5 with h | ⟨u, hu, h5, h6⟩
            · omega
            · exact ⟨u, hu, h5, by omega⟩
          refine Or.inl ⟨rfl, fun X => ?_, fun Y hY => ?_⟩
          · simp only [if_pos (ltR (k := 16) (x := 16) rfl (show L.length < 16 by omega) (by omega)), g2, need_nI ha1 ha2, if_pos (nI_le e2 (show M < 2 ^ 31 by omega))]
          · rcases canLend_ok (B.at hY) ha1 ha2 with ⟨c1, c2, c3⟩ | ⟨c1, c2, c3⟩
            · obtain ⟨p', F', a', g', B', l1, l2, l3⟩ := lend_ok (B.at hY) (by omega) hk ha1 ha2 hex
              refine ⟨g', ⟨p', F', _, W, w, B', hS.more (by omega) l3⟩, ?_⟩
              dsimp only
              rw [if_neg (hc Y hY), c3, bnd1_some, if_neg (by decide), l2, bnd2_some, done_eq, bnd2_some, l1]
            · exfalso
              rcases c1 with c1 | c1
              · omega
              · obtain ⟨u, hu, h5, h6⟩ := hex
                have := c1 u hu h5
                omega
        · rw [if_neg (nI_ge (by omega) (by omega))]
          refine Or.inr (Or.inr (Or.inr ⟨rfl, 2, nI M, by decide, fun X => ?_, fun Y hY => ⟨g, ?_⟩⟩))
          · simp only [if_pos (ltR (k := 16) (x := 16) rfl (show L.length < 16 by omega) (by omega)), g2, need_nI ha1 ha2, if_neg (nI_ge (show M < nd a by omega) (show nd a < 2 ^ 31 by omega))]; rfl
          · rcases canLend_ok (B.at hY) ha1 ha2 with ⟨⟨-, u, hu, c4, c5⟩, c2, c3⟩ | ⟨c1, c2, c3⟩
            · have := g4 u hu c4; omega
            · obtain ⟨M', i1, i2, i3, -, -⟩ := greatest_ok (X := Y) B.1.1 (by rw [hY]; exact B.1.RM B.2.2.1) B.2.1.1
              rw [g2] at i2
              dsimp only
              rw [if_neg (hc Y hY), c3, bnd1_some, if_pos rfl, i3, bnd1_some, refused_eq, bnd2_some, ← hY, uA_self, i2]
    · simp only [h1, h2, h3, h4, bnd1_some, if_neg (show ¬ (1 : Int32) = 0 by decide), if_true]
      exact Or.inr (Or.inr (Or.inl ⟨rfl, fun _ => rfl, fun Y _ => rfl⟩))
  · simp only [h1, h2, bnd1_some, if_true]
    exact Or.inr (Or.inr (Or.inl ⟨rfl, fun _ => rfl, fun Y _ => rfl⟩))
end
