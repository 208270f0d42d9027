/-! ===== the pure part, 28: run ===== -/
theorem Rel.run {X Y : GS} (h : Rel X) (hBd : Bd (Y.1 0) (Y.2.2.1 5)) (hHR : HR Y.1 Y.2.1 Y.2.2.1) (hB2 : Y.1 2 = X.1 2) (hs : ∀ k, k = 2 ∨ k = 8 ∨ k = 12 ∨ k = 18 → Y.2.1 k = X.2.1 k) (h9 : Y.2.1 9 = Y.2.1 15) (h10 : Y.2.1 10 = Y.2.1 16) (h7 : Y.2.1 7 = Y.2.1 14) (h4 : Y.2.1 4 = 0) (h13 : Y.2.1 13 = 0) (ha : ∀ k, k = 0 ∨ k = 8 ∨ k = 10 → Y.2.2.1 k = X.2.2.1 k) : Rel Y := by
  obtain ⟨R1, R2, R3, R4, R5, R6, R7, R8⟩ := h
  exact ⟨hBd, hHR, R3.same hB2 (hs 8 (by decide)) (hs 12 (by decide)) (ha 8 (by decide)), h9, h10, h7, R7.same (hs 2 (by decide)) (hs 18 (by decide)) (ha 0 (by decide)) (ha 10 (by decide)), ⟨0, by omega, h4, h13, fun i hi => absurd hi (by omega)⟩⟩
theorem read_ok {X M : GS} {t : Nat} (P : PR (uS (uS X 5 0) 3 0) M 0 t) :
    (∃ (p : Nat) (o' : Int32) (M' : GS), p ≤ 60 ∧ r_X4_read X = nI p ∧ lp_X8_run_14 1000 0 1 M = some (o', 0, M') ∧ MF M M' ∧ M'.2.1 20 = nI p ∧ (¬ M'.2.1 21 = 0 ∨ (M'.2.1 21 = 0 ∧ ¬ M'.2.1 13 ≤ M'.2.1 20))) ∨
    (∃ (n : Nat) (M' : GS), n ≤ 20 ∧ 1 ≤ n ∧ r_X4_read X = -1 ∧ (x_X4_read X).2.1 3 = nI n ∧ lp_X8_run_14 1000 0 1 M = some (nI n, 0, M') ∧ MF M M' ∧ M'.2.1 21 = 0 ∧ M'.2.1 13 ≤ M'.2.1 20 ∧ TT (x_X4_read X) M' n) := by
  have ex : x_X4_read X = (lp_X4_read_12 20 0 (uS (uS X 5 0) 3 0)).2 := by unfold x_X4_read; exact ite_self _
  rw [ex]
  unfold r_X4_read
  rcases read_loop (M0 := M) 20 0 0 _ M (by omega) P (by omega) (fun q hq => absurd hq (by omega)) (MF.refl M) 1000 (by omega) with ⟨p, o', M', h1, h2, h3, h4, h5, h6⟩ | ⟨n, C', M', h1, h2, h3, h4, h5, h6, h7, h8, h9⟩
  · exact Or.inl ⟨p, o', M', h1, h2, h3, h4, h5, h6⟩
  · refine Or.inr ⟨n, M', h1, h2, ?_, ?_, h5, h6, h7, h8, ?_⟩
    · rw [h3, if_neg (fun h => by cases h)]; rfl
    · rw [h3]; exact h4
    · rw [h3]; exact h9
def kR (K : GS) (r : Int32) : GS := uS (uS K 7 r) 4 0
def kE (X K : GS) : GS := uB (kR K (-1)) 1 (cpB (X.1 0) (X.1 1))
section
variable {X K : GS}
theorem kR_1 (h : fr4 X K) (r : Int32) : (kR K r).1 = X.1 := h.1
theorem kR_s (g : fr4 X K) {r : Int32} {k : Nat} (h : ¬ k = 3 ∧ ¬ k = 4 ∧ ¬ k = 5 ∧ ¬ k = 6 ∧ ¬ k = 7) : (kR K r).2.1 k = X.2.1 k := by
  unfold kR
  rw [uS_ne h.2.1, uS_ne h.2.2.2.2]
  exact g.2.1 k h.1 h.2.1 h.2.2.1 h.2.2.2.1
theorem kR_4 {r : Int32} : (kR K r).2.1 4 = 0 := uS_at
theorem kR_7 {r : Int32} : (kR K r).2.1 7 = r := by unfold kR; rw [uS_ne (by decide), uS_at]
theorem kR_a (g : fr4 X K) {r : Int32} {k : Nat} (h : ¬ k = 1 ∧ ¬ k = 2 ∧ ¬ k = 3 ∧ ¬ k = 4) : (kR K r).2.2.1 k = X.2.2.1 k := g.2.2.1 k h.1 h.2.1 h.2.2.1 h.2.2.2
theorem m_fail (hK : x_X4_read X = K) {p : Nat} (hp : p ≤ 60) (h : r_X4_read X = nI p) (b : BD) : m_X7_run X b = some ("java/lang/IllegalArgumentException", 0, b, kR K (nI p)) := by
  unfold m_X7_run
  rw [h, hK]
  have e : x_X4_clearText (uS K 7 (nI p)) = kR K (nI p) := rfl
  rw [e, kR_7, if_neg (nI_pos (by omega))]
theorem m_succ (hK : x_X4_read X = K) (g : fr4 X K) (h : r_X4_read X = -1) {v a2 : Int32} {b' : BD} {Y : GS} (hc : lp_X7_run_51 1000 0 0 (X.1 0) (kE X K) = some (v, a2, b', Y)) : m_X7_run X (X.1 0) = some (if v = 0 then ("", (x_X1_keep1 Y).2.1 3, b', x_X1_keep1 Y) else if v = 3 then ("java/lang/UnsupportedOperationException", 0, cpB (Y.1 1) b', Y) else ("java/lang/IllegalArgumentException", 0, cpB (Y.1 1) b', Y)) := by
  unfold m_X7_run
  rw [h, hK]
  have e : x_X4_clearText (uS K 7 (-1)) = kR K (-1) := rfl
  rw [e, kR_7, if_pos (by decide), kR_1 g]
  have e2 : uB (kR K (-1)) 1 (cpB (X.1 0) (X.1 1)) = kE X K := rfl
  rw [e2, hc]
  show (if v = 0 then (if v = 3 then _ else _) else _) = _
  by_cases c : v = 0
  · subst c
    rw [if_pos rfl, if_pos rfl, if_neg (by decide), if_pos rfl]
  · rw [if_neg c, if_neg c]
    by_cases d : v = 3
    · rw [if_pos d, if_pos d, if_neg c]
    · rw [if_neg d, if_neg d, if_neg c]
theorem kE_1 (g : fr4 X K) {j : Nat} (h : ¬ j = 1) : (kE X K).1 j = X.1 j := by
  show up (kR K (-1)).1 1 _ j = _
  rw [up_ne h, kR_1 g]
theorem kE_11 : (kE X K).1 1 = cpB (X.1 0) (X.1 1) := by
  show up (kR K (-1)).1 1 (cpB (X.1 0) (X.1 1)) 1 = _
  rw [up_self]
theorem kE_tt {M : GS} {n : Nat} (h : TT K M n) : TT (kE X K) M n := h.same rfl rfl
theorem kE_3 : (kE X K).2.1 3 = K.2.1 3 := by
  show up (up K.2.1 7 (-1)) 4 0 3 = _
  rw [up_ne (by decide), up_ne (by decide)]
theorem kE_s (g : fr4 X K) {k : Nat} (h : ¬ k = 3 ∧ ¬ k = 4 ∧ ¬ k = 5 ∧ ¬ k = 6 ∧ ¬ k = 7) : (kE X K).2.1 k = X.2.1 k := kR_s g h
theorem kE_4 : (kE X K).2.1 4 = 0 := kR_4
theorem kE_7 : (kE X K).2.1 7 = -1 := kR_7
theorem kE_a (g : fr4 X K) {k : Nat} (h : ¬ k = 1 ∧ ¬ k = 2 ∧ ¬ k = 3 ∧ ¬ k = 4) : (kE X K).2.2.1 k = X.2.2.1 k := kR_a g h
end
theorem keep1_fr (Y : GS) : (x_X1_keep1 Y).2.2.1 = Y.2.2.1 ∧ ∀ k, ¬ k = 0 → ¬ k = 1 → (x_X1_keep1 Y).2.1 k = Y.2.1 k := by
  unfold x_X1_keep1
  by_cases c : 8 ≤ (((uB Y (3 + nx Y) (cpB (Y.1 1) (Y.1 (3 + nx Y)))).2.1 0) + 1)
  · rw [if_pos c]
    exact ⟨rfl, fun k h0 h1 => by rw [uS_ne h1, uS_ne h0]; rfl⟩
  · rw [if_neg c]
    exact ⟨rfl, fun k h0 h1 => by rw [uS_ne h1, uS_ne h0]; rfl⟩
theorem PR.init {X M : GS} {t : Nat} (ht : t ≤ 60) (h4 : X.2.1 4 = nI t) (h13 : X.2.1 13 = nI t) (ha : ∀ i, i < t → X.2.2.1 4 i = X.2.2.1 9 i ∧ Ch (X.2.2.1 4 i)) (m13 : M.2.1 13 = X.2.1 13) (m9 : M.2.2.1 9 = X.2.2.1 9) (m20 : M.2.1 20 = 0) (m21 : M.2.1 21 = 0) : PR (uS (uS X 5 0) 3 0) M 0 t := by
  refine ⟨by omega, ht, by rw [uS_ne (by decide), uS_at]; rfl, m20, by rw [uS_ne (by decide), uS_ne (by decide)]; exact h4, m13.trans h13, m21, fun k hk => ?_⟩
  rw [m9]
  exact ha k hk
theorem run_class {X : GS} (R : Rel X) : ∃ (eo : String) (vo : Int32) (bo : BD) (Xo : GS), m_X7_run X (X.1 0) = some (eo, vo, bo, Xo) ∧ Xo.2.1 13 = X.2.1 13 ∧ Xo.2.2.1 9 = X.2.2.1 9 ∧ Xo.2.2.1 5 = X.2.2.1 5 := by
  obtain ⟨R1, R2, R3, R4, R5, R6, R7, ⟨t, i1, i2, i3, i4⟩⟩ := R
  have g := fr4_read X
  have P := PR.init (M := uS (uS X 20 0) 21 0) i1 i2 i3 i4 rfl rfl (by rw [uS_ne (by decide), uS_at]) uS_at
  have D := read_ok P
  obtain ⟨K, hK⟩ : ∃ K, x_X4_read X = K := ⟨_, rfl⟩
  rw [hK] at g D
  rcases D with ⟨p, o', M', h1, h2, -⟩ | ⟨n, M', h1, h2, h3, h4, h5, h6, h7, h8, h9⟩
  · exact ⟨_, _, _, _, m_fail hK h1 h2 _, kR_s g (by decide), kR_a g (by decide), kR_a g (by decide)⟩
  · have e5 : M'.2.2.1 5 = X.2.2.1 5 := h6.2.2.1 5 (by decide)
    have E := exec_ok h1 n 0 (X.1 0) (kE X K) M' (by omega) (kE_3.trans h4) (kE_tt h9) (by rw [e5]; exact R1) 1000 (by omega)
    have e13 : (kE X K).2.1 13 = X.2.1 13 := kE_s g (by decide)
    have e9 : (kE X K).2.2.1 9 = X.2.2.1 9 := kE_a g (by decide)
    have e5 : (kE X K).2.2.1 5 = X.2.2.1 5 := kE_a g (by decide)
    rcases E with ⟨bb', Z', q1, -⟩ | ⟨v, a2, bb', Z', q0, q1, -⟩ | ⟨d1, d2, a2, bb', Z', q1, -⟩
    · have r := m_succ hK g h3 q1
      rw [if_pos rfl] at r
      obtain ⟨k1, k2⟩ := keep1_fr (kE X K)
      exact ⟨_, _, _, _, r, by rw [k2 13 (by decide) (by decide)]; exact e13, by rw [k1]; exact e9, by rw [k1]; exact e5⟩
    · have r := m_succ hK g h3 q1
      rw [if_neg (show ¬ v = 0 by rcases q0 with rfl | rfl <;> decide), if_neg (show ¬ v = 3 by rcases q0 with rfl | rfl <;> decide)] at r
      exact ⟨_, _, _, _, r, e13, e9, e5⟩
    · have r := m_succ hK g h3 q1
      rw [if_neg (by decide), if_pos rfl] at r
      exact ⟨_, _, _, _, r, by rw [uS_ne (by decide), uS_ne (by decide)]; exact e13, e9, e5⟩
theorem run_ok {X : GS} (R : Rel X) {eo : String} {vo : Int32} {bo : BD} {Xo : GS} (hc : m_X7_run X (X.1 0) = some (eo, vo, bo, Xo)) (f13 : Xo.2.1 13 = X.2.1 13) (f9 : Xo.2.2.1 9 = X.2.2.1 9) (f5 : Xo.2.2.1 5 = X.2.2.1 5) (o : Nat → Int64) :
    ∃ (vb : Int32) (Y : GS), m_X8_run (uO (uB Xo 0 bo) o) = some (vb, Y) ∧ Y.2.2.2.1 = o ∧ Rel Y ∧ ((eo = "" ∧ Y.2.1 19 = 0 ∧ vb = vo) ∨ (eo = "java/lang/IllegalArgumentException" ∧ Y.2.1 19 = 1) ∨ (eo = "java/lang/UnsupportedOperationException" ∧ Y.2.1 19 = 2)) := by
  obtain ⟨R1, ⟨n', c, j1, j2, j3, j4, j5, j6⟩, R3, R4, R5, R6, R7, ⟨t, i1, i2, i3, i4⟩⟩ := id R
  have g := fr4_read X
  have P := PR.init (M := uS (uS (uO (uB Xo 0 bo) o) 20 0) 21 0) i1 i2 i3 i4 f13 f9 (by rw [uS_ne (by decide), uS_at]) uS_at
  have D := read_ok P
  obtain ⟨K, hK⟩ : ∃ K, x_X4_read X = K := ⟨_, rfl⟩
  rw [hK] at g D
  unfold m_X8_run
  rcases D with ⟨p, o', M', h1, h2, h3, h4, h5, h6⟩ | ⟨n, M', h1, h2, h3, h4, h5, h6, h7, h8, h9⟩
  · rw [m_fail hK h1 h2] at hc
    simp only [Option.some.injEq, Prod.mk.injEq] at hc
    obtain ⟨rfl, rfl, rfl, rfl⟩ := hc
    refine ⟨0, uS (uS (uS (uS (uS M' 21 1) 13 0) 14 (nI p)) 19 1) 17 0, ?_, (show M'.2.2.2.1 = o by rw [h4.2.2.2]; rfl), ?_, Or.inr (Or.inl ⟨rfl, ?_⟩)⟩
    · rw [h3, bnd3_some]
      rcases h6 with h6 | ⟨h6, h7⟩
      · rw [if_neg h6, h5]; rfl
      · rw [if_pos h6, if_neg h7, h5]; rfl
    · have S : ∀ k, ¬ k = 20 → ¬ k = 21 → ¬ k = 13 → ¬ k = 14 → ¬ k = 19 → ¬ k = 17 → (uS (uS (uS (uS (uS M' 21 1) 13 0) 14 (nI p)) 19 1) 17 0).2.1 k = (kR K (nI p)).2.1 k := fun k z1 z2 z3 z4 z5 z6 => by
        rw [uS_ne z6, uS_ne z5, uS_ne z4, uS_ne z3, uS_ne z2, h4.2.1 k z1 z2, uS_ne z2, uS_ne z1]; rfl
      have A : ∀ k, ¬ k = 11 → (uS (uS (uS (uS (uS M' 21 1) 13 0) 14 (nI p)) 19 1) 17 0).2.2.1 k = (kR K (nI p)).2.2.1 k := fun k z1 => h4.2.2.1 k z1
      have Bq : (uS (uS (uS (uS (uS M' 21 1) 13 0) 14 (nI p)) 19 1) 17 0).1 = X.1 := by
        show M'.1 = _
        rw [h4.1]
        show up (kR K (nI p)).1 0 (X.1 0) = _
        rw [kR_1 g, up_eta]
      have S13 : (uS (uS (uS (uS (uS M' 21 1) 13 0) 14 (nI p)) 19 1) 17 0).2.1 13 = 0 := by
        rw [uS_ne (by decide), uS_ne (by decide), uS_ne (by decide), uS_at]
      have S14 : (uS (uS (uS (uS (uS M' 21 1) 13 0) 14 (nI p)) 19 1) 17 0).2.1 14 = nI p := by
        rw [uS_ne (by decide), uS_ne (by decide), uS_at]
      generalize uS (uS (uS (uS (uS M' 21 1) 13 0) 14 (nI p)) 19 1) 17 0 = Y at *
      refine Rel.run R ?_ ?_ (by rw [Bq]) (fun k hk => ?_) ?_ ?_ ?_ ?_ S13 (fun k hk => ?_)
      · rw [Bq, A 5 (by decide), kR_a g (by decide)]; exact R1
      · exact HR.same ⟨n', c, j1, j2, j3, j4, j5, j6⟩ (fun j _ => by rw [Bq]) (by rw [S 0 (by decide) (by decide) (by decide) (by decide) (by decide) (by decide), kR_s g (by decide)]) (by rw [S 1 (by decide) (by decide) (by decide) (by decide) (by decide) (by decide), kR_s g (by decide)]) (by rw [S 11 (by decide) (by decide) (by decide) (by decide) (by decide) (by decide), kR_s g (by decide)]) (by rw [A 7 (by decide), kR_a g (by decide)])
      · rw [S k (by omega) (by omega) (by omega) (by omega) (by omega) (by omega), kR_s g (by omega)]
      · rw [S 9 (by decide) (by decide) (by decide) (by decide) (by decide) (by decide), S 15 (by decide) (by decide) (by decide) (by decide) (by decide) (by decide), kR_s g (by decide), kR_s g (by decide)]; exact R4
      · rw [S 10 (by decide) (by decide) (by decide) (by decide) (by decide) (by decide), S 16 (by decide) (by decide) (by decide) (by decide) (by decide) (by decide), kR_s g (by decide), kR_s g (by decide)]; exact R5
      · rw [S 7 (by decide) (by decide) (by decide) (by decide) (by decide) (by decide), S14]; exact kR_7
      · rw [S 4 (by decide) (by decide) (by decide) (by decide) (by decide) (by decide)]; exact kR_4
      · rw [A k (by omega), kR_a g (by omega)]
    · rw [uS_ne (by decide), uS_at]
  · rw [h5, bnd3_some, if_pos h7, if_pos h8]
    have q5 : M'.2.2.1 5 = X.2.2.1 5 := (h6.2.2.1 5 (by decide)).trans f5
    obtain ⟨f, l1, l2⟩ := looks_eq (X := uS (uS (uS M' 21 0) 13 0) 14 (-1))
    have l2' : ∀ i, i < 129 → f i = X.2.2.1 5 i := fun i hi => by rw [l2 i hi]; exact congrFun q5 i
    rw [l1, bnd1_some, nI_clamp (by omega)]
    -- the reference as the orders begin
    have ZS : ∀ k, ¬ k = 20 → ¬ k = 21 → ¬ k = 13 → ¬ k = 14 → (uA (uS (uS (uS M' 21 0) 13 0) 14 (-1)) 6 f).2.1 k = Xo.2.1 k := fun k z1 z2 z3 z4 => by
      show up (up (up M'.2.1 21 0) 13 0) 14 (-1) k = _
      rw [up_ne z4, up_ne z3, up_ne z2, h6.2.1 k z1 z2, uS_ne z2, uS_ne z1]; rfl
    have ZA : ∀ k, ¬ k = 11 → ¬ k = 6 → (uA (uS (uS (uS M' 21 0) 13 0) 14 (-1)) 6 f).2.2.1 k = Xo.2.2.1 k := fun k z1 z2 => by
      rw [uA_ne z2]; exact h6.2.2.1 k z1
    have ZB : (uA (uS (uS (uS M' 21 0) 13 0) 14 (-1)) 6 f).1 = up Xo.1 0 bo := h6.1
    have Z13 : (uA (uS (uS (uS M' 21 0) 13 0) 14 (-1)) 6 f).2.1 13 = 0 := by
      show up (up (up M'.2.1 21 0) 13 0) 14 (-1) 13 = _
      rw [up_ne (by decide), up_self]
    have ZO : (uA (uS (uS (uS M' 21 0) 13 0) 14 (-1)) 6 f).2.2.2.1 = o := by
      show M'.2.2.2.1 = o
      rw [h6.2.2.2]; rfl
    have Z14 : (uA (uS (uS (uS M' 21 0) 13 0) 14 (-1)) 6 f).2.1 14 = -1 := by
      show up (up (up M'.2.1 21 0) 13 0) 14 (-1) 14 = _
      rw [up_self]
    have Z6 : (uA (uS (uS (uS M' 21 0) 13 0) 14 (-1)) 6 f).2.2.1 6 = f := uA_at
    have Z5 : (uA (uS (uS (uS M' 21 0) 13 0) 14 (-1)) 6 f).2.2.1 5 = X.2.2.1 5 := (ZA 5 (by decide) (by decide)).trans f5
    have ZT : TT (kE X K) (uA (uS (uS (uS M' 21 0) 13 0) 14 (-1)) 6 f) n := (kE_tt h9).same rfl (uA_ne (by decide))
    generalize uA (uS (uS (uS M' 21 0) 13 0) 14 (-1)) 6 f = Z at *
    have E := exec_ok h1 n 0 (X.1 0) (kE X K) Z (by omega) (kE_3.trans h4) ZT (by rw [Z5]; exact R1) 1000 (by omega)
    rcases E with ⟨bb', Z', q1, q2, q3, q4, q5, q6⟩ | ⟨v, a2, bb', Z', q0, q1, q2, q3, q4, q5, q6, q7⟩ | ⟨d1, d2, a2, bb', Z', q1, q2, q3, q4, q5, q6, q7⟩
    · have r := m_succ hK g h3 q1
      rw [if_pos rfl] at r
      rw [r] at hc
      simp only [Option.some.injEq, Prod.mk.injEq] at hc
      obtain ⟨rfl, rfl, rfl, rfl⟩ := hc
      have E1 : ∀ j, ¬ j = 1 → (kE X K).1 j = X.1 j := fun j hj => kE_1 g hj
      have E11 : (kE X K).1 1 = cpB (X.1 0) (X.1 1) := kE_11
      have ES : ∀ k, ¬ k = 3 ∧ ¬ k = 4 ∧ ¬ k = 5 ∧ ¬ k = 6 ∧ ¬ k = 7 → (kE X K).2.1 k = X.2.1 k := fun k hk => kE_s g hk
      have E4 : (kE X K).2.1 4 = 0 := kE_4
      have E7 : (kE X K).2.1 7 = -1 := kE_7
      have E3 : (kE X K).2.1 3 = nI n := kE_3.trans h4
      have EA : ∀ k, ¬ k = 1 ∧ ¬ k = 2 ∧ ¬ k = 3 ∧ ¬ k = 4 → (kE X K).2.2.1 k = X.2.2.1 k := fun k hk => kE_a g hk
      clear r q1 ZT h9 h5 h6 P
      generalize kE X K = E at *
      have ke : x_X1_keep1 E = uS (uS (uB E (3 + n') (cpB (E.1 1) (E.1 (3 + n')))) 0 (nI ((n' + 1) % 8))) 1 (nI (if c < 8 then c + 1 else 8)) := by
        rw [keep1_eq, keep0_eq j1 j2 (by rw [ES 0 (by decide)]; exact j3) (by rw [ES 1 (by decide)]; exact j4)]
      rw [ke] at ZS ZA ZB ⊢
      have VS : ∀ k, ¬ k = 20 → ¬ k = 21 → ¬ k = 13 → ¬ k = 14 → ¬ k = 17 → ¬ k = 19 → ¬ k = 0 → ¬ k = 1 → Z'.2.1 k = E.2.1 k := fun k z1 z2 z3 z4 z5 z6 z7 z8 => by
        have : Z'.2.1 k = Z.2.1 k := by
          by_cases d : k = 15
          · subst d; exact q5
          · by_cases d2 : k = 16
            · subst d2; exact q6
            · exact q4.2.1 k d d2 z5 z6
        rw [this, ZS k z1 z2 z3 z4, uS_ne z8, uS_ne z7]; rfl
      have VA : ∀ k, ¬ k = 11 → ¬ k = 6 → ¬ k = 5 → Z'.2.2.1 k = E.2.2.1 k := fun k z1 z2 z3 => by rw [q4.2.2.1 k z3, ZA k z1 z2]; rfl
      have VB : Z'.1 = up (up E.1 (3 + n') (cpB (E.1 1) (E.1 (3 + n')))) 0 bb' := by rw [q4.1, ZB]; rfl
      have V0 : Z'.2.1 0 = nI ((n' + 1) % 8) := by rw [q4.2.1 0 (by decide) (by decide) (by decide) (by decide), ZS 0 (by decide) (by decide) (by decide) (by decide), uS_ne (by decide), uS_at]
      have V1 : Z'.2.1 1 = nI (if c < 8 then c + 1 else 8) := by rw [q4.2.1 1 (by decide) (by decide) (by decide) (by decide), ZS 1 (by decide) (by decide) (by decide) (by decide), uS_at]
      have V13 : Z'.2.1 13 = 0 := by rw [q4.2.1 13 (by decide) (by decide) (by decide) (by decide), Z13]
      have V14 : Z'.2.1 14 = -1 := by rw [q4.2.1 14 (by decide) (by decide) (by decide) (by decide), Z14]
      have V6 : Z'.2.2.1 6 = f := by rw [q4.2.2.1 6 (by decide), Z6]
      obtain ⟨h, k1, k2, k3⟩ := kept_eq (X := uS Z' 19 0) (v := nI n) (c := c) uS_at j2 (by rw [uS_ne (by decide), VS 11 (by decide) (by decide) (by decide) (by decide) (by decide) (by decide) (by decide) (by decide), ES 11 (by decide)]; exact j5)
      have V7 : (uS Z' 19 0).2.2.1 7 = X.2.2.1 7 := (VA 7 (by decide) (by decide) (by decide)).trans (EA 7 (by decide))
      rw [V7] at k2
      have V6' : (uS Z' 19 0).2.2.1 6 = f := V6
      rw [V6'] at k3
      refine ⟨nI n, uS (uA (uS Z' 19 0) 7 h) 11 (nI (if c < 8 then c + 1 else 8)), ?_, (show Z'.2.2.2.1 = o by rw [q4.2.2.2]; exact ZO), ?_, Or.inl ⟨rfl, ?_, ?_⟩⟩
      · rw [q2, bnd2_some]
        show (bnd2 (m_X8_done Z' (nI n)) fun v26 X26 => bnd2 (m_X8_kept X26 v26) fun v27 X27 => some (v27, X27)) = _
        rw [done_eq, bnd2_some, k1, bnd2_some]
      · have WS : ∀ k, ¬ k = 19 → ¬ k = 11 → (uS (uA (uS Z' 19 0) 7 h) 11 (nI (if c < 8 then c + 1 else 8))).2.1 k = Z'.2.1 k := fun k z1 z2 => by rw [uS_ne z2]; exact uS_ne z1
        have WA : ∀ k, ¬ k = 7 → (uS (uA (uS Z' 19 0) 7 h) 11 (nI (if c < 8 then c + 1 else 8))).2.2.1 k = Z'.2.2.1 k := fun k z1 => uA_ne z1
        have W7 : (uS (uA (uS Z' 19 0) 7 h) 11 (nI (if c < 8 then c + 1 else 8))).2.2.1 7 = h := uA_at (X := uS Z' 19 0)
        have W11 : (uS (uA (uS Z' 19 0) 7 h) 11 (nI (if c < 8 then c + 1 else 8))).2.1 11 = nI (if c < 8 then c + 1 else 8) := uS_at
        have WB : (uS (uA (uS Z' 19 0) 7 h) 11 (nI (if c < 8 then c + 1 else 8))).1 = Z'.1 := rfl
        generalize uS (uA (uS Z' 19 0) 7 h) 11 (nI (if c < 8 then c + 1 else 8)) = Y at *
        have YS : ∀ k, (¬ k = 20 ∧ ¬ k = 21 ∧ ¬ k = 13 ∧ ¬ k = 14 ∧ ¬ k = 17 ∧ ¬ k = 19 ∧ ¬ k = 0 ∧ ¬ k = 1 ∧ ¬ k = 11) → Y.2.1 k = E.2.1 k := fun k z => by
          rw [WS k z.2.2.2.2.2.1 z.2.2.2.2.2.2.2.2, VS k z.1 z.2.1 z.2.2.1 z.2.2.2.1 z.2.2.2.2.1 z.2.2.2.2.2.1 z.2.2.2.2.2.2.1 z.2.2.2.2.2.2.2.1]
        have YA : ∀ k, (¬ k = 11 ∧ ¬ k = 6 ∧ ¬ k = 5 ∧ ¬ k = 7) → Y.2.2.1 k = E.2.2.1 k := fun k z => by rw [WA k z.2.2.2, VA k z.1 z.2.1 z.2.2.1]
        refine Rel.run R ?_ (HR.push (B := X.1) (a := X.2.2.1) (g := f) j1 j2 j6 (b := cpB (E.1 1) (E.1 (3 + n'))) ?_ ?_ (fun j h1 h2 => ?_) ?_ ?_ W11 (by rw [W7]; exact k2) (by rw [W7]; exact k3)) ?_ (fun k hk => ?_) ?_ ?_ ?_ ?_ ?_ (fun k hk => ?_)
        · rw [WB, VB, up_self, WA 5 (by decide)]; exact q3
        · rw [E11]; exact R1.cp.cp.g l2'
        · rw [WB, VB, up_ne (by omega), up_self]
        · rw [WB, VB, up_ne (by omega), up_ne h2, E1 j (by omega)]
        · rw [WS 0 (by decide) (by decide), V0]
        · rw [WS 1 (by decide) (by decide), V1]
        · rw [WB, VB, up_ne (by omega), up_ne (by omega), E1 2 (by decide)]
        · rw [YS k (by omega), ES k (by omega)]
        · rw [YS 9 (by decide), YS 15 (by decide), ES 9 (by decide), ES 15 (by decide)]; exact R4
        · rw [YS 10 (by decide), YS 16 (by decide), ES 10 (by decide), ES 16 (by decide)]; exact R5
        · rw [YS 7 (by decide), E7, WS 14 (by decide) (by decide), V14]
        · rw [YS 4 (by decide), E4]
        · rw [WS 13 (by decide) (by decide), V13]
        · rw [YA k (by omega), EA k (by omega)]
      · rw [uS_ne (by decide)]
        show (uS Z' 19 0).2.1 19 = 0
        exact uS_at
      · rw [uS_ne (by decide), uS_ne (by decide)]; exact E3.symm
    · have r := m_succ hK g h3 q1
      rw [if_neg (show ¬ v = 0 by rcases q0 with rfl | rfl <;> decide), if_neg (show ¬ v = 3 by rcases q0 with rfl | rfl <;> decide)] at r
      rw [r] at hc
      simp only [Option.some.injEq, Prod.mk.injEq] at hc
      obtain ⟨rfl, rfl, rfl, rfl⟩ := hc
      refine ⟨0, Z', by rw [q2, bnd2_some]; rfl, (show Z'.2.2.2.1 = o by rw [q5.2.2.2]; exact ZO), ?_, Or.inr (Or.inl ⟨rfl, q4⟩)⟩
      have YS : ∀ k, (¬ k = 20 ∧ ¬ k = 21 ∧ ¬ k = 13 ∧ ¬ k = 14 ∧ ¬ k = 17 ∧ ¬ k = 19) → Z'.2.1 k = (kE X K).2.1 k := fun k z => by
        have : Z'.2.1 k = Z.2.1 k := by
          by_cases d : k = 15
          · subst d; exact q6
          · by_cases d2 : k = 16
            · subst d2; exact q7
            · exact q5.2.1 k d d2 z.2.2.2.2.1 z.2.2.2.2.2
        rw [this, ZS k z.1 z.2.1 z.2.2.1 z.2.2.2.1]
      have YA : ∀ k, (¬ k = 11 ∧ ¬ k = 6 ∧ ¬ k = 5) → Z'.2.2.1 k = (kE X K).2.2.1 k := fun k z => by rw [q5.2.2.1 k z.2.2, ZA k z.1 z.2.1]
      have YB : Z'.1 = up (kE X K).1 0 (cpB ((kE X K).1 1) bb') := by rw [q5.1, ZB]
      refine Rel.run R ?_ (HR.same ⟨n', c, j1, j2, j3, j4, j5, j6⟩ (fun j hj => ?_) ?_ ?_ ?_ ?_) ?_ (fun k hk => ?_) ?_ ?_ ?_ ?_ ?_ (fun k hk => ?_)
      · rw [YB, up_self, kE_11]; exact R1.cp.cp.g (fun i hi => by rw [q3 i hi, Z6, l2' i hi])
      · rw [YB, up_ne (by omega), kE_1 g (by omega)]
      · rw [YS 0 (by decide), kE_s g (by decide)]
      · rw [YS 1 (by decide), kE_s g (by decide)]
      · rw [YS 11 (by decide), kE_s g (by decide)]
      · rw [YA 7 (by decide), kE_a g (by decide)]
      · rw [YB, up_ne (by decide), kE_1 g (by decide)]
      · rw [YS k (by omega), kE_s g (by omega)]
      · rw [YS 9 (by decide), YS 15 (by decide), kE_s g (by decide), kE_s g (by decide)]; exact R4
      · rw [YS 10 (by decide), YS 16 (by decide), kE_s g (by decide), kE_s g (by decide)]; exact R5
      · rw [YS 7 (by decide), kE_7, q5.2.1 14 (by decide) (by decide) (by decide) (by decide), Z14]
      · rw [YS 4 (by decide), kE_4]
      · rw [q5.2.1 13 (by decide) (by decide) (by decide) (by decide), Z13]
      · rw [YA k (by omega), kE_a g (by omega)]
    · have r := m_succ hK g h3 q1
      rw [if_neg (by decide), if_pos rfl] at r
      rw [r] at hc
      simp only [Option.some.injEq, Prod.mk.injEq] at hc
      obtain ⟨rfl, rfl, rfl, rfl⟩ := hc
      refine ⟨0, Z', by rw [q2, bnd2_some]; rfl, (show Z'.2.2.2.1 = o by rw [q5.2.2.2]; exact ZO), ?_, Or.inr (Or.inr ⟨rfl, q4⟩)⟩
      have YS : ∀ k, (¬ k = 20 ∧ ¬ k = 21 ∧ ¬ k = 13 ∧ ¬ k = 14 ∧ ¬ k = 17 ∧ ¬ k = 19 ∧ ¬ k = 15 ∧ ¬ k = 16 ∧ ¬ k = 9 ∧ ¬ k = 10) → Z'.2.1 k = (kE X K).2.1 k := fun k z => by
        rw [q5.2.1 k z.2.2.2.2.2.2.1 z.2.2.2.2.2.2.2.1 z.2.2.2.2.1 z.2.2.2.2.2.1, ZS k z.1 z.2.1 z.2.2.1 z.2.2.2.1, uS_ne z.2.2.2.2.2.2.2.2.2, uS_ne z.2.2.2.2.2.2.2.2.1]
      have YA : ∀ k, (¬ k = 11 ∧ ¬ k = 6 ∧ ¬ k = 5) → Z'.2.2.1 k = (kE X K).2.2.1 k := fun k z => by rw [q5.2.2.1 k z.2.2, ZA k z.1 z.2.1]; rfl
      have YB : Z'.1 = up (kE X K).1 0 (cpB ((kE X K).1 1) bb') := by rw [q5.1, ZB]; rfl
      refine Rel.run R ?_ (HR.same ⟨n', c, j1, j2, j3, j4, j5, j6⟩ (fun j hj => ?_) ?_ ?_ ?_ ?_) ?_ (fun k hk => ?_) ?_ ?_ ?_ ?_ ?_ (fun k hk => ?_)
      · rw [YB, up_self, kE_11]; exact R1.cp.cp.g (fun i hi => by rw [q3 i hi, Z6, l2' i hi])
      · rw [YB, up_ne (by omega), kE_1 g (by omega)]
      · rw [YS 0 (by decide), kE_s g (by decide)]
      · rw [YS 1 (by decide), kE_s g (by decide)]
      · rw [YS 11 (by decide), kE_s g (by decide)]
      · rw [YA 7 (by decide), kE_a g (by decide)]
      · rw [YB, up_ne (by decide), kE_1 g (by decide)]
      · rw [YS k (by omega), kE_s g (by omega)]
      · rw [q5.2.1 9 (by decide) (by decide) (by decide) (by decide), ZS 9 (by decide) (by decide) (by decide) (by decide), uS_ne (by decide), uS_at, q6]
      · rw [q5.2.1 10 (by decide) (by decide) (by decide) (by decide), ZS 10 (by decide) (by decide) (by decide) (by decide), uS_at, q7]
      · rw [YS 7 (by decide), kE_7, q5.2.1 14 (by decide) (by decide) (by decide) (by decide), Z14]
      · rw [YS 4 (by decide), kE_4]
      · rw [q5.2.1 13 (by decide) (by decide) (by decide) (by decide), Z13]
      · rw [YA k (by omega), kE_a g (by omega)]
