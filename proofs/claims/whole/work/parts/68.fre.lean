/-! ===== the pure part, 19: questions of free pieces ===== -/
section
variable {p : Nat → Nat} {F : Nat → Bool} {L : tL} {W : tWt} {w : Nat} {b : BD} {Y : GS}
theorem lp_cntSize (B : BG p F L W w b (Y.2.2.1 5)) {s : Nat} (hs : s ≤ 64) (hs0 : 1 ≤ s) : ∀ (j i a : Nat), i + j = 64 → lp_X5_countOfSize_4 b (nI s) j i (nI a) = nI (a + cnt (fun k => F k && decide (p k = s)) j i) ∧ lp_X8_freeOf_4 Y (nI s) j i (nI a) = some (nI (a + cnt (fun k => F k && decide (p k = s)) j i)) := by
  intro j
  induction j with
  | zero => intro i a hi; exact ⟨rfl, rfl⟩
  | succ j ih =>
    intro i a hi
    have hi64 : i < 64 := by omega
    have hp := B.1.1.ple hi64
    rw [lp_X5_countOfSize_4, lp_X8_freeOf_4, B.2.1.1 i hi64, isFreeAt_nI B.1.1 (B.1.RM B.2.2.1) hi64, bnd1_some]
    unfold cnt
    by_cases c : F i = true
    · rw [if_pos c, if_pos c, if_neg (show ¬ (1 : Int32) = 0 by decide), B.2.2.1.1 i hi64]
      by_cases c2 : p i = s
      · rw [if_pos (show nI (p i) = nI s by rw [c2]), if_pos (show nI (p i) = nI s by rw [c2]), if_pos (show (F i && decide (p i = s)) = true by rw [c, decide_eq_true c2]; rfl), nI_1, show a + (1 + cnt (fun k => F k && decide (p k = s)) j (i + 1)) = a + 1 + cnt (fun k => F k && decide (p k = s)) j (i + 1) by omega]
        exact ih (i + 1) (a + 1) (by omega)
      · rw [if_neg (nI_ne (by omega) (by omega) c2), if_neg (nI_ne (by omega) (by omega) c2), if_neg (show ¬ (F i && decide (p i = s)) = true by rw [c, decide_eq_false c2]; decide), Nat.zero_add, Int32.add_zero]
        exact ih (i + 1) a (by omega)
    · rw [if_neg c, if_neg c, if_pos rfl, if_neg (nI_ne (by omega) (by omega) (by omega)), if_neg (show ¬ (F i && decide (p i = s)) = true by rw [Bool.and_eq_true]; exact fun h => c h.1), Nat.zero_add, Int32.add_zero]
      exact ih (i + 1) a (by omega)
theorem countOfSize_ok (B : BG p F L W w b (Y.2.2.1 5)) {s : Nat} (hs : s ≤ 64) (hs0 : 1 ≤ s) : r_X5_countOfSize b (nI s) = nI (cnt (fun k => F k && decide (p k = s)) 64 0) ∧ m_X8_freeOf Y (nI s) = some (nI (cnt (fun k => F k && decide (p k = s)) 64 0)) := by
  obtain ⟨h1, h2⟩ := lp_cntSize B hs hs0 64 0 0 (by omega)
  rw [Nat.zero_add] at h1 h2
  unfold r_X5_countOfSize m_X8_freeOf
  refine ⟨h1, ?_⟩
  have h2' : lp_X8_freeOf_4 Y (nI s) 64 0 0 = _ := h2
  rw [h2']; rfl
theorem lp_freeP (B : BG p F L W w b (Y.2.2.1 5)) : ∀ (j i a c : Nat), i + j = 64 → a + c = i → lp_X5_countOfSize_4 b 0 j i (nI c) = nI (64 - (a + cnt F j i)) ∧ lp_X8_freePieces_4 Y j i (nI a) = some (nI (a + cnt F j i)) := by
  intro j
  induction j with
  | zero =>
    intro i a c hi hc
    refine ⟨?_, rfl⟩
    show nI c = nI (64 - (a + 0))
    congr 1; omega
  | succ j ih =>
    intro i a c hi hc
    have hi64 : i < 64 := by omega
    have hp := B.1.1.ple hi64
    have hle := cnt_le F j (i + 1)
    rw [lp_X5_countOfSize_4, lp_X8_freePieces_4, B.2.1.1 i hi64, isFreeAt_nI B.1.1 (B.1.RM B.2.2.1) hi64, bnd1_some]
    unfold cnt
    by_cases d : F i = true
    · have h0 := B.1.1.2.2.2.1 i hi64 d
      rw [if_pos d, if_pos d, if_pos d, if_neg (show ¬ (1 : Int32) = 0 by decide), if_neg (nI_ne0 (by omega) (by omega)), nI_1, show a + (1 + cnt F j (i + 1)) = a + 1 + cnt F j (i + 1) by omega]
      exact ih (i + 1) (a + 1) c (by omega) (by omega)
    · rw [if_neg d, if_neg d, if_neg d, if_pos rfl, if_pos (show (nI 0 : Int32) = 0 from rfl), Nat.zero_add, Int32.add_zero, nI_1]
      exact ih (i + 1) a (c + 1) (by omega) (by omega)
theorem freePieces_ok (B : BG p F L W w b (Y.2.2.1 5)) : m_X8_freePieces Y = some (r_X5_countAll b) := by
  obtain ⟨h1, h2⟩ := lp_freeP B 64 0 0 0 (by omega) (by omega)
  have hle := cnt_le F 64 0
  rw [Nat.zero_add] at h1 h2
  have h1' : lp_X5_countOfSize_4 b 0 64 0 0 = nI (64 - cnt F 64 0) := h1
  have h2' : lp_X8_freePieces_4 Y 64 0 0 = some (nI (cnt F 64 0)) := h2
  unfold m_X8_freePieces r_X5_countAll r_X5_countOfSize
  rw [h2', h1', bnd1_some]
  have e : (64 : Int32) - nI (64 - cnt F 64 0) = nI (64 - (64 - cnt F 64 0)) := nI_sub (a := 64) (by omega)
  rw [e, show 64 - (64 - cnt F 64 0) = cnt F 64 0 by omega]
/-- promise 14 -/
theorem q_greatest (B : BG p F L W w b (Y.2.2.1 5)) : QB (e_X7_greatest b) (r_X7_greatest b) nseN "-" Y (m_X8_greatest Y) := by
  obtain ⟨M, g1, g2, g3, g4, g5⟩ := greatest_ok B.1.1 (B.1.RM B.2.2.1) B.2.1.1
  unfold e_X7_greatest r_X7_greatest m_X8_greatest
  rw [g2, g3, bnd1_some]
  by_cases e : nI M = 0
  · simp only [if_pos e]
    exact Or.inr (Or.inl ⟨rfl, rfl⟩)
  · simp only [if_neg e, bnd1_some]
    exact Or.inl ⟨rfl, rfl⟩
theorem size_all : ∀ k, k < 65 → 1 ≤ k → r_X7_isSize (nI k) = if nd k = k then 1 else 0 := by decide +kernel
/-- an amount that there is, or not -/
theorem insist_cases (x : Int32) : ((∃ k, 1 ≤ k ∧ k ≤ 64 ∧ x = nI k) ∧ e_X7_insistOnNeed x = "" ∧ (∃ k, 1 ≤ k ∧ k ≤ 64 ∧ x = nI k ∧ r_X7_insistOnNeed x = nI (nd k)) ∧ m_X8_isAmount x = some 1) ∨ (e_X7_insistOnNeed x = "java/lang/IllegalArgumentException" ∧ m_X8_isAmount x = some 0) := by
  unfold e_X7_insistOnNeed r_X7_insistOnNeed
  rcases amount_cases x with ⟨⟨k, h1, h2, rfl⟩, h3, h4⟩ | ⟨h3, h4⟩
  · left
    rw [h3, if_neg (by decide), if_neg (by decide), need_nI h1 h2]
    exact ⟨⟨k, h1, h2, rfl⟩, rfl, ⟨k, h1, h2, rfl, rfl⟩, h4⟩
  · right
    rw [h3, if_pos rfl]
    exact ⟨rfl, h4⟩
theorem insistP (B : BG p F L W w b (Y.2.2.1 5)) {N : Nat} (h0 : 1 ≤ N) (h64 : N ≤ 64) : (∃ v, v < 64 ∧ F v = true ∧ N ≤ p v ∧ e_X7_insistOnPiece b (nI N) = "" ∧ r_X7_insistOnPiece b (nI N) = nI v ∧ m_X8_finds Y (nI N) = some (nI v)) ∨ (e_X7_insistOnPiece b (nI N) = nseN ∧ m_X8_finds Y (nI N) = some (-1)) := by
  obtain ⟨f1, f2⟩ := find_ok (X := Y) B.1.1 (B.1.RM B.2.2.1) B.2.1.1 B.1.2.2.2.2.2.2.2 B.2.1.2.1 B.2.2.1.2.1 h0 h64
  unfold e_X7_insistOnPiece r_X7_insistOnPiece
  rw [f1]
  rcases f2 with ⟨h, -⟩ | ⟨v, hv, h, h2, h3⟩
  · right
    rw [h, if_neg (by decide)]
    exact ⟨rfl, rfl⟩
  · left
    rw [h, if_pos (nI_pos' (by omega)), if_pos (nI_pos' (by omega))]
    exact ⟨v, hv, h2, h3, rfl, rfl, rfl⟩
/-- promise 15 -/
theorem q_would (B : BG p F L W w b (Y.2.2.1 5)) (x : Int32) : QB (e_X7_would b x) (r_X7_would b x) "java/lang/IllegalArgumentException" nseN Y (m_X8_would Y x) := by
  unfold e_X7_would r_X7_would m_X8_would
  have hw := B.1.2.2.2.2.2.2.2
  rcases insist_cases x with ⟨-, e1, ⟨k, k1, k2, rfl, e2⟩, e3⟩ | ⟨e1, e3⟩
  · have hN := isP_nd k
    have hN0 := isP_pos hN
    have hN1 := isP_le hN
    simp only [e1, if_true, e2, e3, bnd1_some, if_neg (show ¬ (1 : Int32) = 0 by decide), mneed_nI k1 k2]
    rcases insistP B hN0 hN1 with ⟨v, hv, hF, hle, i1, i2, i3⟩ | ⟨i1, i3⟩
    · simp only [i1, i2, i3, if_true, bnd1_some, if_neg (nI_m1 (show v < 2 ^ 31 by omega)), upper_nI B.2.1.2.1 hw, sizeAt_nI hv, B.2.1.1.t hv hF, B.2.2.1.2.1, if_pos (inR_nI (show v < 129 by omega) (show 129 < 2 ^ 31 by omega)), nI_clamp (show v < 2 ^ 31 by omega), B.2.2.1.1 v hv]
      by_cases d : w = 1
      · subst d
        exact Or.inl ⟨rfl, rfl⟩
      · simp only [if_neg d, if_neg (neL (k := 1) (x := 1) rfl (show w < 2 ^ 31 by omega) (by omega) d), if_true]
        exact Or.inl ⟨rfl, rfl⟩
    · simp only [i1, i3, if_neg (show ¬ nseN = "" by decide), bnd1_some, if_true]
      exact Or.inr (Or.inr ⟨rfl, rfl⟩)
  · simp only [e1, e3, if_neg (show ¬ ("java/lang/IllegalArgumentException" : String) = "" by decide), bnd1_some, if_true]
    exact Or.inr (Or.inl ⟨rfl, rfl⟩)
theorem lp_cuts {am N : Nat} (h1 : 1 ≤ am) (h2 : am ≤ 64) (hN : nd am = N) : ∀ (k c f1 f2 : Nat), k < f1 → k < f2 → N * 2 ^ k ≤ 64 → ∃ y z : Int32, lp_X7_cuts_29 (nI am) f1 (nI c) (nI (N * 2 ^ k / 2)) = some (nI (c + k), y) ∧ lp_X8_cuts_43 (nI am) f2 (nI c) (nI (N * 2 ^ k)) = some (nI (c + k), z) := by
  have e0 : r_X7_insistOnNeed (nI am) = nI N := by
    rcases insist_cases (nI am) with ⟨-, -, ⟨k, k1, k2, e, e2⟩, -⟩ | ⟨e, -⟩
    · have := (nI_eq (by omega) (by omega)).mp e
      subst this
      rw [e2, hN]
    · exfalso
      unfold e_X7_insistOnNeed at e
      rcases amount_cases (nI am) with ⟨-, h3, -⟩ | ⟨h3, -⟩
      · rw [h3, if_neg (by decide)] at e; exact absurd e (by decide)
      · unfold r_X7_isAmount at h3
        rw [if_neg (nltR (k := 1) (x := 1) rfl h1 (by omega)), if_neg (nltL (k := 64) (x := 64) rfl h2 (by omega))] at h3
        exact absurd h3 (by decide)
  have hp : isP N := by rw [← hN]; exact isP_nd am
  have hp0 := isP_pos hp
  have hp1 := isP_le hp
  intro k
  induction k with
  | zero =>
    intro c f1 f2 hf1 hf2 hle
    obtain ⟨f1, rfl⟩ : ∃ i, f1 = i + 1 := ⟨f1 - 1, by omega⟩
    obtain ⟨f2, rfl⟩ : ∃ i, f2 = i + 1 := ⟨f2 - 1, by omega⟩
    simp only [Nat.pow_zero, Nat.mul_one, Nat.add_zero]
    refine ⟨nI (N / 2), nI N, ?_, ?_⟩
    · rw [lp_X7_cuts_29, e0, if_pos (nI_lt (by omega) (by omega))]
    · rw [lp_X8_cuts_43, mneed_nI h1 h2, bnd1_some, hN, if_pos (nI_le (Nat.le_refl _) (by omega))]
  | succ k ih =>
    intro c f1 f2 hf1 hf2 hle
    obtain ⟨f1, rfl⟩ : ∃ i, f1 = i + 1 := ⟨f1 - 1, by omega⟩
    obtain ⟨f2, rfl⟩ : ∃ i, f2 = i + 1 := ⟨f2 - 1, by omega⟩
    have e2 : N * 2 ^ (k + 1) = 2 * (N * 2 ^ k) := by rw [Nat.pow_succ, ← Nat.mul_assoc, Nat.mul_comm]
    have hge : N ≤ N * 2 ^ k := Nat.le_mul_of_pos_right _ (Nat.pos_of_ne_zero (by simp))
    rw [e2] at hle ⊢
    obtain ⟨y, z, q1, q2⟩ := ih (c + 1) f1 f2 (by omega) (by omega) (by omega)
    have hd : 2 * (N * 2 ^ k) / 2 = N * 2 ^ k := by omega
    refine ⟨y, z, ?_, ?_⟩
    · rw [hd, lp_X7_cuts_29, e0, if_neg (nI_nlt hge (by omega)), if_neg (nltR (k := 1) (x := 1) rfl (by omega) (by omega)), nI_1, nI_half (by omega), q1, show c + 1 + k = c + (k + 1) by omega]
    · rw [lp_X8_cuts_43, mneed_nI h1 h2, bnd1_some, hN, if_neg (nI_ge (by omega) (by omega)), nI_1, nI_half (by omega), hd, q2, show c + 1 + k = c + (k + 1) by omega]
/-- promise 16 -/
theorem q_cuts (B : BG p F L W w b (Y.2.2.1 5)) (x : Int32) : QB (e_X7_cuts b x) (r_X7_cuts b x) "java/lang/IllegalArgumentException" nseN Y (m_X8_cuts Y x) := by
  unfold e_X7_cuts r_X7_cuts m_X8_cuts
  rcases insist_cases x with ⟨-, e1, ⟨k, k1, k2, rfl, e2⟩, e3⟩ | ⟨e1, e3⟩
  · have hN := isP_nd k
    have hN0 := isP_pos hN
    have hN1 := isP_le hN
    simp only [e1, if_true, e2, e3, bnd1_some, if_neg (show ¬ (1 : Int32) = 0 by decide), mneed_nI k1 k2]
    rcases insistP B hN0 hN1 with ⟨v, hv, hF, hle, i1, i2, i3⟩ | ⟨i1, i3⟩
    · have hpv := B.1.1.ple hv
      have hal := B.1.1.al hv (by omega)
      obtain ⟨m, hm, hmm⟩ := isP_up hN hal.1 hle
      obtain ⟨y, z, q1, q2⟩ := lp_cuts k1 k2 rfl m 0 64 1000 (by omega) (by omega) (by omega)
      have q1' : lp_X7_cuts_29 (nI k) 64 0 (nI (nd k * 2 ^ m / 2)) = _ := q1
      have q2' : lp_X8_cuts_43 (nI k) 1000 0 (nI (nd k * 2 ^ m)) = _ := q2
      simp only [i1, i2, i3, if_true, bnd1_some, if_neg (nI_m1 (show v < 2 ^ 31 by omega)), sizeAt_nI hv, B.2.1.1.t hv hF, if_pos (inR_nI (show v < 129 by omega) (show 129 < 2 ^ 31 by omega)), nI_clamp (show v < 2 ^ 31 by omega), B.2.2.1.1 v hv, nI_half (show nd k * 2 ^ m < 2 ^ 31 by omega), hmm, q1', q2', bnd2_some]
      exact Or.inl ⟨rfl, rfl⟩
    · simp only [i1, i3, if_neg (show ¬ nseN = "" by decide), bnd1_some, if_true]
      exact Or.inr (Or.inr ⟨rfl, rfl⟩)
  · simp only [e1, e3, if_neg (show ¬ ("java/lang/IllegalArgumentException" : String) = "" by decide), bnd1_some, if_true]
    exact Or.inr (Or.inl ⟨rfl, rfl⟩)
theorem lp_fits (B : BG p F L W w b (Y.2.2.1 5)) {k : Nat} (k1 : 1 ≤ k) (k2 : k ≤ 64) : ∀ (j i : Nat) (a : Int32), i + j = 64 → lp_X8_fits_17 Y (nI k) j i a = some (lp_X5_countRoomFor_4 b (nI (nd k)) j i a) := by
  have hN := isP_nd k
  have hN0 := isP_pos hN
  have hN1 := isP_le hN
  intro j
  induction j with
  | zero => intro i a hi; rfl
  | succ j ih =>
    intro i a hi
    have hi64 : i < 64 := by omega
    have hp := B.1.1.ple hi64
    rw [lp_X5_countRoomFor_4, lp_X8_fits_17, B.2.1.1 i hi64, isFreeAt_nI B.1.1 (B.1.RM B.2.2.1) hi64, bnd1_some, if_neg (nltR (k := 1) (x := 1) rfl hN0 (by omega))]
    by_cases c : F i = true
    · rw [if_pos c, if_pos c, if_neg (show ¬ (1 : Int32) = 0 by decide), mneed_nI k1 k2, bnd1_some, if_pos (nI_ne0 hN0 (by omega)), B.2.2.1.1 i hi64]
      exact ih _ _ (by omega)
    · rw [if_neg c, if_neg c, if_pos rfl, nI_div (by omega) (by omega), Nat.zero_div, show (nI 0 : Int32) = 0 from rfl]
      exact ih _ _ (by omega)
/-- promise 17 -/
theorem q_fits (B : BG p F L W w b (Y.2.2.1 5)) (x : Int32) : QB (e_X7_fits x) (r_X7_fits b x) "java/lang/IllegalArgumentException" "-" Y (m_X8_fits Y x) := by
  unfold e_X7_fits r_X7_fits m_X8_fits r_X5_countRoomFor
  rcases insist_cases x with ⟨-, e1, ⟨k, k1, k2, rfl, e2⟩, e3⟩ | ⟨e1, e3⟩
  · simp only [e1, if_true, e2, e3, bnd1_some, if_neg (show ¬ (1 : Int32) = 0 by decide), lp_fits B k1 k2 64 0 0 (by omega)]
    exact Or.inl ⟨rfl, rfl⟩
  · simp only [e1, e3, if_neg (show ¬ ("java/lang/IllegalArgumentException" : String) = "" by decide), bnd1_some, if_true]
    exact Or.inr (Or.inl ⟨rfl, rfl⟩)
theorem lp_hole (B : BG p F L W w b (Y.2.2.1 5)) (x : Int32) : ∀ (j i c : Nat), i + j = 64 → ((lp_X5_startOfPlace_4 b x j i (nI c - 1)).1 = none ∧ ∃ z : Int32, lp_X8_hole_4 x j i (nI c) Y = some (none, z, Y)) ∨ ∃ v, v < 64 ∧ (lp_X5_startOfPlace_4 b x j i (nI c - 1)).1 = some (nI v) ∧ ∃ z : Int32, lp_X8_hole_4 x j i (nI c) Y = some (some (nI v), z, uS Y 19 0) := by
  intro j
  induction j with
  | zero => intro i c hi; exact Or.inl ⟨rfl, nI c, rfl⟩
  | succ j ih =>
    intro i c hi
    have hi64 : i < 64 := by omega
    have hp := B.1.1.ple hi64
    have e : nI c - 1 + 1 = nI c := by rw [Int32.sub_add_cancel]
    rw [lp_X5_startOfPlace_4, lp_X8_hole_4, B.2.1.1 i hi64, isFreeAt_nI B.1.1 (B.1.RM B.2.2.1) hi64, bnd1_some, e]
    by_cases d : F i = true
    · have h0 := B.1.1.2.2.2.1 i hi64 d
      rw [if_pos d, if_pos d, if_neg (show ¬ (1 : Int32) = 0 by decide), if_neg (nI_nle (by omega) (by omega))]
      by_cases d2 : nI c = x
      · rw [if_pos d2, if_pos d2]
        exact Or.inr ⟨i, hi64, rfl, nI c, rfl⟩
      · rw [if_neg d2, if_neg d2, nI_1, ← nI_pred c]
        exact ih (i + 1) (c + 1) (by omega)
    · rw [if_neg d, if_neg d, if_pos rfl, if_pos (show nI 0 ≤ 0 by decide)]
      exact ih (i + 1) c (by omega)
/-- promise 18 -/
theorem q_hole (B : BG p F L W w b (Y.2.2.1 5)) (x : Int32) : QB (e_X7_hole b x) (r_X7_hole b x) nseN "-" Y (m_X8_hole Y x) := by
  unfold e_X7_hole r_X7_hole m_X8_hole r_X5_startOfPlace
  have h := lp_hole B x 64 0 0 (by omega)
  rw [show (nI 0 - 1 : Int32) = -1 by decide, show (nI 0 : Int32) = 0 from rfl] at h
  rcases h with ⟨h1, z, h2⟩ | ⟨v, hv, h1, z, h2⟩
  · rw [h1, h2]
    simp only [if_true, bnd3_some, elseE_n]
    exact Or.inr (Or.inl ⟨rfl, rfl⟩)
  · rw [h1, h2]
    have e : ¬ (some (nI v) : Option Int32) = none := fun h => nomatch h
    simp only [if_neg e, Option.getD_some, if_pos (nI_pos' (show v < 2 ^ 31 by omega)), bnd3_some, elseE_s]
    exact Or.inl ⟨rfl, rfl⟩
theorem lp_inWay (B : BG p F L W w b (Y.2.2.1 5)) {s : Nat} (hs : isP s) : ∀ (d f1 f2 a x : Nat), d < f1 → d < f2 → x + s * d = 64 → ∃ z : Nat, ∃ y1 y2 : Int32, lp_X3_fewestInPart_7 b (nI s) f1 (nI a) (nI x) = some (nI z, y1) ∧ lp_X8_inTheWay_24 Y (nI s) f2 (nI a) (nI x) = some (nI z, y2) := by
  have hs0 := isP_pos hs
  have hs1 := isP_le hs
  have h16 := B.1.2.2.2.2.1
  intro d
  induction d with
  | zero =>
    intro f1 f2 a x h1 h2 hx
    obtain ⟨f1, rfl⟩ : ∃ i, f1 = i + 1 := ⟨f1 - 1, by omega⟩
    obtain ⟨f2, rfl⟩ : ∃ i, f2 = i + 1 := ⟨f2 - 1, by omega⟩
    have : x = 64 := by omega
    subst this
    refine ⟨a, nI 64, nI 64, ?_, ?_⟩
    · rw [lp_X3_fewestInPart_7, if_neg (nltR (k := 1) (x := 1) rfl hs0 (by omega)), if_pos (by decide)]
    · rw [lp_X8_inTheWay_24, if_pos (by decide)]
  | succ d ih =>
    intro f1 f2 a x h1 h2 hx
    obtain ⟨f1, rfl⟩ : ∃ i, f1 = i + 1 := ⟨f1 - 1, by omega⟩
    obtain ⟨f2, rfl⟩ : ∃ i, f2 = i + 1 := ⟨f2 - 1, by omega⟩
    have hmul : s * (d + 1) = s * d + s := Nat.mul_succ s d
    have hx64 : x < 64 := by omega
    obtain ⟨c1, c2⟩ := countIn_ok B hx64 hs1
    have hc := cnt_le (inB L x s) L.length 0
    rw [lp_X3_fewestInPart_7, if_neg (nltR (k := 1) (x := 1) rfl hs0 (by omega)), if_neg (geL (k := 64) (x := 64) rfl hx64 (by omega)), lp_X8_inTheWay_24, if_neg (geL (k := 64) (x := 64) rfl hx64 (by omega)), c2, bnd1_some, c1, bnd1_some, nI_add]
    by_cases e : cnt (inB L x s) L.length 0 < a
    · by_cases ha : a < 2 ^ 31
      · rw [if_pos (nI_lt e ha), if_neg (nI_ge e ha)]
        exact ih f1 f2 _ (x + s) (by omega) (by omega) (by omega)
      · by_cases e3 : nI (cnt (inB L x s) L.length 0) < nI a
        · rw [if_pos e3, if_neg (fun h => absurd e3 (Int32.not_lt.mpr h))]
          exact ih f1 f2 _ (x + s) (by omega) (by omega) (by omega)
        · rw [if_neg e3, if_pos (Int32.not_lt.mp e3)]
          exact ih f1 f2 _ (x + s) (by omega) (by omega) (by omega)
    · rw [if_neg (nI_nlt (by omega) (by omega)), if_pos (nI_le (by omega) (by omega))]
      exact ih f1 f2 _ (x + s) (by omega) (by omega) (by omega)
/-- promise 19 -/
theorem q_inTheWay (B : BG p F L W w b (Y.2.2.1 5)) (x : Int32) : QB (e_X7_inTheWay x) (r_X7_inTheWay b x) "java/lang/IllegalArgumentException" "-" Y (m_X8_inTheWay Y x) := by
  unfold e_X7_inTheWay r_X7_inTheWay m_X8_inTheWay r_X3_fewestInPart
  rcases insist_cases x with ⟨-, e1, ⟨k, k1, k2, rfl, e2⟩, e3⟩ | ⟨e1, e3⟩
  · have hs := isP_nd k
    have hs0 := isP_pos hs
    have hs1 := isP_le hs
    have h16 := B.1.2.2.2.2.1
    obtain ⟨D, hD, hD64⟩ : ∃ D, nd k + nd k * D = 64 ∧ D < 64 := by
      generalize nd k = s at hs
      rcases hs with rfl | rfl | rfl | rfl | rfl | rfl | rfl
      · exact ⟨63, by omega, by omega⟩
      · exact ⟨31, by omega, by omega⟩
      · exact ⟨15, by omega, by omega⟩
      · exact ⟨7, by omega, by omega⟩
      · exact ⟨3, by omega, by omega⟩
      · exact ⟨1, by omega, by omega⟩
      · exact ⟨0, by omega, by omega⟩
    obtain ⟨c1, c2⟩ := countIn_ok B (show 0 < 64 by omega) hs1
    have hc := cnt_le (inB L 0 (nd k)) L.length 0
    obtain ⟨z, y1, y2, q1, q2⟩ := lp_inWay B hs D 99 999 (cnt (inB L 0 (nd k)) L.length 0) (nd k) (by omega) (by omega) hD
    have c1' : r_X3_countIn b 0 (nI (nd k)) = _ := c1
    have c2' : m_X8_loansIn Y 0 (nI (nd k)) = _ := c2
    have a0 : (0 : Int32) + nI (nd k) = nI (nd k) := Int32.zero_add _
    have r1 : lp_X3_fewestInPart_7 b (nI (nd k)) 100 (b.1 3) 0 = some (nI z, y1) := by
      show lp_X3_fewestInPart_7 b (nI (nd k)) (99 + 1) (b.1 3) 0 = _
      rw [lp_X3_fewestInPart_7, if_neg (nltR (k := 1) (x := 1) rfl hs0 (by omega)), if_neg (by decide), c1', a0, B.2.1.2.2.1, ← q1]
      congr 1
      by_cases e : cnt (inB L 0 (nd k)) L.length 0 < L.length
      · rw [if_pos (nI_lt e (by omega))]
      · rw [if_neg (nI_nlt (by omega) (by omega))]
        congr 1
        omega
    have r2 : lp_X8_inTheWay_24 Y (nI (nd k)) 1000 16 0 = some (nI z, y2) := by
      show lp_X8_inTheWay_24 Y (nI (nd k)) (999 + 1) 16 0 = _
      rw [lp_X8_inTheWay_24, if_neg (by decide), c2', bnd1_some, bnd1_some, a0]
      by_cases e : cnt (inB L 0 (nd k)) L.length 0 < 16
      · rw [if_neg (geL (k := 16) (x := 16) rfl e (by omega))]
        exact q2
      · rw [if_pos (leL (k := 16) (x := 16) rfl (by omega) (by omega)), ← q2]
        congr 1
        show nI 16 = _
        congr 1
        omega
    simp only [e1, if_true, e2, e3, bnd1_some, if_neg (show ¬ (1 : Int32) = 0 by decide), mneed_nI k1 k2, r1, r2, bnd2_some]
    exact Or.inl ⟨rfl, rfl⟩
  · simp only [e1, e3, if_neg (show ¬ ("java/lang/IllegalArgumentException" : String) = "" by decide), bnd1_some, if_true]
    exact Or.inr (Or.inl ⟨rfl, rfl⟩)
end
