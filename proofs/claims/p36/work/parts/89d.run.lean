/-! ===== p36: the runs of the law's texts ===== -/
theorem lrem6_1 : ∀ (j i : Nat) (b : BD), (lp_X6_remove_11 j i b).1 = b.1
  | 0, _, _ => rfl
  | j + 1, i, b => by
    unfold lp_X6_remove_11
    split
    · rfl
    · rw [lrem6_1 j]; rfl
theorem rem6_w (b : BD) (p : Int32) : (u_X6_remove b p).1 0 = b.1 0 := by
  unfold u_X6_remove
  split
  · rfl
  · show (lp_X6_remove_11 _ _ b).1 0 = _
    rw [lrem6_1]
theorem add_w (b : BD) (x y z u : Int32) : (u_X3_add b x y z u).1 0 = b.1 0 := by
  unfold u_X3_add
  split
  · rfl
  · split
    · rfl
    · split
      · exact (px_put _ _ _ _ _).1
      · rfl
theorem lendTo_w (b : BD) (x y : Int32) : (u_X0_lendTo b x y).1 0 = b.1 0 := (add_w _ _ _ _ _).trans (px_take _ _).1
theorem lserve_w : ∀ (j i : Nat) (a : Int32) (b : BD), (lp_X0_serveWaiting_12 j i a b).2.1 0 = b.1 0
  | 0, _, _, _ => rfl
  | j + 1, i, a, b => by
    unfold lp_X0_serveWaiting_12
    split
    · exact lserve_w j _ _ _
    · rw [lserve_w j, rem6_w, lendTo_w]
theorem cw_w (b : BD) (w : Int32) : (u_X0_changeWay b w).1 0 = w := lserve_w _ _ _ _
theorem jw_ok {b : BD} {w : Nat} (hw : w < 3) (h : ¬ b.1 0 = nI w) : r_X7_judgeWay b (nI w) = 0 := by
  have h1 : ¬ nI w < 0 := nI_pos (by omega)
  have h2 : nI w ≤ 2 := nI_le (b := 2) (by omega) (by decide)
  unfold r_X7_judgeWay
  rw [if_neg h1, if_pos h2, if_neg h]
theorem jw_same {b : BD} {w : Nat} (hw : w < 3) (h : b.1 0 = nI w) : r_X7_judgeWay b (nI w) = 3 := by
  have h1 : ¬ nI w < 0 := nI_pos (by omega)
  have h2 : nI w ≤ 2 := nI_le (b := 2) (by omega) (by decide)
  unfold r_X7_judgeWay
  rw [if_neg h1, if_pos h2, if_pos h]
  rfl
theorem xw_ok {X : GS} {b : BD} {w : Nat} (h : ¬ b.1 0 = nI w) : x_X7_judgeWay X b (nI w) = X := by
  unfold x_X7_judgeWay
  rw [if_neg h]
  simp only [ite_self]
theorem xw_same {X : GS} {b : BD} {w : Nat} (hw : w < 3) (h : b.1 0 = nI w) : x_X7_judgeWay X b (nI w) = uS (uS X 9 5) 10 (nI w) := by
  have h1 : ¬ nI w < 0 := nI_pos (by omega)
  have h2 : nI w ≤ 2 := nI_le (b := 2) (by omega) (by decide)
  unfold x_X7_judgeWay
  rw [if_neg h1, if_pos h2, if_pos h]
  rfl
theorem jo_w (b : BD) (x y : Int32) : r_X7_judgeOrder b 119 x y = r_X7_judgeWay b x := rfl
theorem xo_w (X : GS) (b : BD) (x y : Int32) : x_X7_judgeOrder X b 119 x y = x_X7_judgeWay X b x := rfl
theorem co_w (b : BD) (x y : Int32) : u_X7_carryOut b 119 x y = u_X0_changeWay b x := rfl
theorem jo_g (b : BD) (x y : Int32) : r_X7_judgeOrder b 103 x y = r_X7_judgeGive b x := rfl
theorem xo_g (X : GS) (b : BD) (x y : Int32) : x_X7_judgeOrder X b 103 x y = X := rfl
theorem jo_n (b : BD) (x y : Int32) : r_X7_judgeOrder b 110 x y = r_X7_judgeGiveAll b x := rfl
theorem xo_n (X : GS) (b : BD) (x y : Int32) : x_X7_judgeOrder X b 110 x y = x_X7_judgeGiveAll X b x := rfl
/-- the orders that lie in a state -/
def ords (X : GS) (c : Nat) (o : Nat → Int32 × Int32) : Prop := c ≤ 20 ∧ X.2.1 3 = nI c ∧ ∀ i, i < c → X.2.2.1 1 i = (o i).1 ∧ X.2.2.1 2 i = (o i).2
theorem ords_has {X : GS} {c : Nat} {o : Nat → Int32 × Int32} (h : ords X c o) {i : Nat} (hi : i < c) : ¬ r_X4_has X (nI i) = 0 := by
  obtain ⟨h1, h2, -⟩ := h
  unfold r_X4_has
  have g1 : ¬ nI i < 0 := nI_pos (by omega)
  have g2 : ¬ nI c ≤ nI i := nleN hi (by omega)
  have g3 : ¬ (20 : Int32) ≤ nI i := fun hh => absurd ((nI_leI (a := 20) (b := i) (by decide) (by omega)).mp hh) (by omega)
  rw [if_neg g1, h2, if_neg g2, if_neg g3]
  decide
theorem ords_k {X : GS} {c : Nat} {o : Nat → Int32 × Int32} (h : ords X c o) {i : Nat} (hi : i < c) : r_X4_kindAt X (nI i) = (o i).1 ∧ r_X4_firstAt X (nI i) = (o i).2 := by
  have hh := ords_has h hi
  have hc := h.1
  unfold r_X4_kindAt r_X4_firstAt
  rw [if_neg hh, if_neg hh, nI_clamp (by omega)]
  exact h.2.2 i hi
theorem run_end {j : Nat} {a : Int32} {b : BD} {X : GS} {c : Nat} {o : Nat → Int32 × Int32} (h : ords X c o) : lp_X7_run_51 (j + 1) a (nI c) b X = some (a, nI c, b, X) := by
  have h9 : X.2.1 3 ≤ nI c := by rw [h.2.1]; exact Int32.le_refl _
  show (if X.2.1 3 ≤ nI c then some (a, nI c, b, X) else _) = _
  rw [if_pos h9]
theorem run_w {j i : Nat} {b : BD} {X : GS} {c : Nat} {o : Nat → Int32 × Int32} (h : ords X c o) (hi : i < c) {w : Nat} (hw : w < 3) (ho : o i = (119, nI w)) (hb : ¬ b.1 0 = nI w) : lp_X7_run_51 (j + 1) 0 (nI i) b X = lp_X7_run_51 j 0 (nI (i + 1)) (u_X0_changeWay b (nI w)) X := by
  have h9 : ¬ X.2.1 3 ≤ nI i := by rw [h.2.1]; exact nleN hi (by have := h.1; omega)
  obtain ⟨k1, k2⟩ := ords_k h hi
  rw [ho] at k1 k2
  show (if X.2.1 3 ≤ nI i then _ else (if (0 : Int32) = 0 then _ else _)) = _
  rw [if_neg h9, if_pos rfl, k1, k2, jo_w, xo_w, xw_ok hb, k1, k2, co_w, jw_ok hw hb, if_pos rfl, nI_1]
theorem run_stop {j i : Nat} {b : BD} {X X' : GS} {v : Int32} {c : Nat} {o : Nat → Int32 × Int32} (h : ords X c o) (hi : i + 1 = c) (hv : r_X7_judgeOrder b (o i).1 (o i).2 (r_X4_secondAt X (nI i)) = v) (hx : x_X7_judgeOrder X b (o i).1 (o i).2 (r_X4_secondAt X (nI i)) = X') (h0 : ¬ v = 0) (hX' : X'.2.1 3 = X.2.1 3) : lp_X7_run_51 (j + 2) 0 (nI i) b X = some (v, nI c, b, X') := by
  have h9 : ¬ X.2.1 3 ≤ nI i := by rw [h.2.1]; exact nleN (by omega) (by have := h.1; omega)
  obtain ⟨k1, k2⟩ := ords_k h (show i < c by omega)
  show (if X.2.1 3 ≤ nI i then _ else (if (0 : Int32) = 0 then _ else _)) = _
  rw [if_neg h9, if_pos rfl, k1, k2, hv, hx, if_neg h0, nI_1, hi]
  show (if X'.2.1 3 ≤ nI c then some (v, nI c, b, X') else _) = _
  rw [if_pos (by rw [hX', h.2.1]; exact Int32.le_refl _)]
