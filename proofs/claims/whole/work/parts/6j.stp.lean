/-! ===== the pure part, 29: one call of each side ===== -/
theorem OUT.v {g : Nat → Int32} {b' : BD} {v r : Int32} {xj : GS → GS} {m : GS → Option (Int32 × GS)} {n1 n2 n3 : Int32} (O : OUT g b' v r xj m n1 n2 n3) : v = 0 ∨ v = 1 ∨ v = 2 ∨ v = 3 := by
  rcases O with ⟨h, -⟩ | ⟨h, -⟩ | ⟨h, -⟩ | ⟨h, -⟩
  · exact Or.inl h
  · exact Or.inr (Or.inl h)
  · exact Or.inr (Or.inr (Or.inl h))
  · exact Or.inr (Or.inr (Or.inr h))
theorem p_chg {X Z : GS} {b' : BD} {v r r' : Int32} {xj : GS → GS} {m : GS → Option (Int32 × GS)} {n1 n2 n3 : Int32} (R : Rel X) (O : OUT (X.2.2.1 5) b' v r xj m n1 n2 n3) (hn1 : ¬ n1 = 0) (hn2 : ¬ n2 = 0) (hn3 : ¬ n3 = 0)
    (hZ : Z = uB (if v = 0 then x_X1_keep0 (xj X) (X.1 0) else xj X) 0 (if v = 0 then b' else X.1 0)) (hr : v = 0 → r' = r) :
    ∃ (z : Int32) (Z' : GS) (vb : Int32) (Y : GS), ((v = 0 ∧ z = 0 ∧ Z' = uO Z (up Z.2.2.2.1 0 r'.toInt64)) ∨ (v = 1 ∧ z = n1 ∧ Z' = Z) ∨ (v = 2 ∧ z = n2 ∧ Z' = Z) ∨ (v = 3 ∧ z = n3 ∧ Z' = Z)) ∧ mFull m Z' = some (vb, Y) ∧ Y.2.1 19 = z ∧ (z = 0 → vb = r' ∧ Y.2.2.2.1 0 = r'.toInt64) ∧ Rel Y := by
  rcases O.v with h | h | h | h
  · obtain ⟨-, vb, Y, c1, c2, c3, c4, c5⟩ := change_ok R O hn1 hn2 hn3 (up Z.2.2.2.1 0 r'.toInt64)
    rw [← hZ] at c1
    exact ⟨0, _, vb, Y, Or.inl ⟨h, rfl, rfl⟩, c1, by rw [c2, cod, if_pos h], fun _ => ⟨by rw [c3 h, hr h], by rw [c4, up_self]⟩, c5⟩
  · obtain ⟨-, vb, Y, c1, c2, c3, c4, c5⟩ := change_ok R O hn1 hn2 hn3 Z.2.2.2.1
    rw [← hZ] at c1
    exact ⟨n1, Z, vb, Y, Or.inr (Or.inl ⟨h, rfl, rfl⟩), c1, by rw [c2, cod, if_neg (by rw [h]; decide), if_pos h], fun e => absurd e hn1, c5⟩
  · obtain ⟨-, vb, Y, c1, c2, c3, c4, c5⟩ := change_ok R O hn1 hn2 hn3 Z.2.2.2.1
    rw [← hZ] at c1
    exact ⟨n2, Z, vb, Y, Or.inr (Or.inr (Or.inl ⟨h, rfl, rfl⟩)), c1, by rw [c2, cod, if_neg (by rw [h]; decide), if_neg (by rw [h]; decide), if_pos h], fun e => absurd e hn2, c5⟩
  · obtain ⟨-, vb, Y, c1, c2, c3, c4, c5⟩ := change_ok R O hn1 hn2 hn3 Z.2.2.2.1
    rw [← hZ] at c1
    exact ⟨n3, Z, vb, Y, Or.inr (Or.inr (Or.inr ⟨h, rfl, rfl⟩)), c1, by rw [c2, cod, if_neg (by rw [h]; decide), if_neg (by rw [h]; decide), if_neg (by rw [h]; decide)], fun e => absurd e hn3, c5⟩
theorem ins_ite {α : Type} {v : Int32} (h : v = 0 ∨ v = 1 ∨ v = 2 ∨ v = 3) (a b : α) : (if e_X7_insist v = "" then a else b) = if v = 0 then a else b := by
  rcases h with rfl | rfl | rfl | rfl
  · rw [if_pos (by decide), if_pos rfl]
  · rw [if_neg (by decide), if_neg (by decide)]
  · rw [if_neg (by decide), if_neg (by decide)]
  · rw [if_neg (by decide), if_neg (by decide)]
theorem ins_e (v : Int32) : (if e_X7_insist v = "" then "" else e_X7_insist v) = e_X7_insist v := by
  split
  · rename_i h; exact h.symm
  · rfl
theorem p_lend {X : GS} (R : Rel X) (x y : Int32) : ∃ (z : Int32) (Z' : GS) (vb : Int32) (Y : GS), ((e_X7_lend (X.1 0) x y = "" ∧ z = 0 ∧ Z' = uO (uB (x_X7_lend X (X.1 0) x y) 0 (u_X7_lend (X.1 0) x y)) (up (uB (x_X7_lend X (X.1 0) x y) 0 (u_X7_lend (X.1 0) x y)).2.2.2.1 0 (r_X7_lend (X.1 0) x y).toInt64)) ∨ (e_X7_lend (X.1 0) x y = "java/lang/IllegalArgumentException" ∧ z = 1 ∧ Z' = (uB (x_X7_lend X (X.1 0) x y) 0 (u_X7_lend (X.1 0) x y))) ∨ (e_X7_lend (X.1 0) x y = "java/lang/UnsupportedOperationException" ∧ z = 2 ∧ Z' = (uB (x_X7_lend X (X.1 0) x y) 0 (u_X7_lend (X.1 0) x y)))) ∧ m_X8_lend Z' x y = some (vb, Y) ∧ Y.2.1 19 = z ∧ (z = 0 → vb = (r_X7_lend (X.1 0) x y) ∧ Y.2.2.2.1 0 = (r_X7_lend (X.1 0) x y).toInt64) ∧ Rel Y := by
  have O := out_lend R.1 x y
  have g1 : ¬ r_X7_judgeLend (X.1 0) x y = 1 := by
    unfold r_X7_judgeLend
    repeat' split
    all_goals decide
  have hv := O.v
  have hr : r_X7_judgeLend (X.1 0) x y = 0 → (r_X7_lend (X.1 0) x y) = r_X0_lendTo (X.1 0) x y := fun h => by unfold r_X7_lend; rw [ins_ite hv, if_pos h]
  obtain ⟨z, Z', vb, Y, hc, h1, h2, h3, h4⟩ := p_chg (Z := (uB (x_X7_lend X (X.1 0) x y) 0 (u_X7_lend (X.1 0) x y))) R O (by decide) (by decide) (by decide) (by unfold x_X7_lend u_X7_lend; rw [ins_ite hv, ins_ite hv]) hr
  refine ⟨z, Z', vb, Y, ?_, h1, h2, h3, h4⟩
  have he : e_X7_lend (X.1 0) x y = e_X7_insist (r_X7_judgeLend (X.1 0) x y) := ins_e _
  rw [he]
  rcases hc with ⟨a, b, c⟩ | ⟨a, b, c⟩ | ⟨a, b, c⟩ | ⟨a, b, c⟩
  · exact Or.inl ⟨by rw [a]; decide, b, c⟩
  · exact absurd a g1
  · exact Or.inr (Or.inl ⟨by rw [a]; decide, b, c⟩)
  · exact Or.inr (Or.inr (⟨by rw [a]; decide, b, c⟩))
theorem p_ask {X : GS} (R : Rel X) (x y : Int32) : ∃ (z : Int32) (Z' : GS) (vb : Int32) (Y : GS), ((e_X7_ask (X.1 0) x y = "" ∧ z = 0 ∧ Z' = uO (uB (x_X7_ask X (X.1 0) x y) 0 (u_X7_ask (X.1 0) x y)) (up (uB (x_X7_ask X (X.1 0) x y) 0 (u_X7_ask (X.1 0) x y)).2.2.2.1 0 (r_X7_ask (X.1 0) x y).toInt64)) ∨ (e_X7_ask (X.1 0) x y = "java/lang/IllegalArgumentException" ∧ z = 1 ∧ Z' = (uB (x_X7_ask X (X.1 0) x y) 0 (u_X7_ask (X.1 0) x y))) ∨ (e_X7_ask (X.1 0) x y = "java/lang/UnsupportedOperationException" ∧ z = 2 ∧ Z' = (uB (x_X7_ask X (X.1 0) x y) 0 (u_X7_ask (X.1 0) x y)))) ∧ m_X8_ask Z' x y = some (vb, Y) ∧ Y.2.1 19 = z ∧ (z = 0 → vb = (r_X7_ask (X.1 0) x y) ∧ Y.2.2.2.1 0 = (r_X7_ask (X.1 0) x y).toInt64) ∧ Rel Y := by
  have O := out_ask R.1 x y
  have g1 : ¬ r_X7_judgeAsk (X.1 0) x y = 1 := by
    unfold r_X7_judgeAsk
    repeat' split
    all_goals decide
  have hv := O.v
  have hr : r_X7_judgeAsk (X.1 0) x y = 0 → (r_X7_ask (X.1 0) x y) = r_X0_lendOrQueue (X.1 0) x y := fun h => by unfold r_X7_ask; rw [ins_ite hv, if_pos h]
  obtain ⟨z, Z', vb, Y, hc, h1, h2, h3, h4⟩ := p_chg (Z := (uB (x_X7_ask X (X.1 0) x y) 0 (u_X7_ask (X.1 0) x y))) R O (by decide) (by decide) (by decide) (by unfold x_X7_ask u_X7_ask; rw [ins_ite hv, ins_ite hv]) hr
  refine ⟨z, Z', vb, Y, ?_, h1, h2, h3, h4⟩
  have he : e_X7_ask (X.1 0) x y = e_X7_insist (r_X7_judgeAsk (X.1 0) x y) := ins_e _
  rw [he]
  rcases hc with ⟨a, b, c⟩ | ⟨a, b, c⟩ | ⟨a, b, c⟩ | ⟨a, b, c⟩
  · exact Or.inl ⟨by rw [a]; decide, b, c⟩
  · exact absurd a g1
  · exact Or.inr (Or.inl ⟨by rw [a]; decide, b, c⟩)
  · exact Or.inr (Or.inr (⟨by rw [a]; decide, b, c⟩))
theorem p_give {X : GS} (R : Rel X) (x : Int32) : ∃ (z : Int32) (Z' : GS) (vb : Int32) (Y : GS), ((e_X7_give (X.1 0) x = "" ∧ z = 0 ∧ Z' = uO (uB (x_X7_give X (X.1 0) x) 0 (u_X7_give (X.1 0) x)) (up (uB (x_X7_give X (X.1 0) x) 0 (u_X7_give (X.1 0) x)).2.2.2.1 0 (r_X7_give (X.1 0) x).toInt64)) ∨ (e_X7_give (X.1 0) x = "java/lang/IndexOutOfBoundsException" ∧ z = 1 ∧ Z' = (uB (x_X7_give X (X.1 0) x) 0 (u_X7_give (X.1 0) x)))) ∧ m_X8_give Z' x = some (vb, Y) ∧ Y.2.1 19 = z ∧ (z = 0 → vb = (r_X7_give (X.1 0) x) ∧ Y.2.2.2.1 0 = (r_X7_give (X.1 0) x).toInt64) ∧ Rel Y := by
  have O := out_give R.1 x
  have g2 : ¬ r_X7_judgeGive (X.1 0) x = 2 := by
    unfold r_X7_judgeGive
    repeat' split
    all_goals decide
  have g3 : ¬ r_X7_judgeGive (X.1 0) x = 3 := by
    unfold r_X7_judgeGive
    repeat' split
    all_goals decide
  have hv := O.v
  have hr : r_X7_judgeGive (X.1 0) x = 0 → (r_X7_give (X.1 0) x) = r_X0_giveBack (X.1 0) x := fun h => by unfold r_X7_give; rw [ins_ite hv, if_pos h]
  obtain ⟨z, Z', vb, Y, hc, h1, h2, h3, h4⟩ := p_chg (Z := (uB (x_X7_give X (X.1 0) x) 0 (u_X7_give (X.1 0) x))) R O (by decide) (by decide) (by decide) (by unfold x_X7_give u_X7_give; rw [ins_ite hv, ins_ite hv]) hr
  refine ⟨z, Z', vb, Y, ?_, h1, h2, h3, h4⟩
  have he : e_X7_give (X.1 0) x = e_X7_insist (r_X7_judgeGive (X.1 0) x) := ins_e _
  rw [he]
  rcases hc with ⟨a, b, c⟩ | ⟨a, b, c⟩ | ⟨a, b, c⟩ | ⟨a, b, c⟩
  · exact Or.inl ⟨by rw [a]; decide, b, c⟩
  · exact Or.inr (⟨by rw [a]; decide, b, c⟩)
  · exact absurd a g2
  · exact absurd a g3
theorem p_giveAll {X : GS} (R : Rel X) (x : Int32) : ∃ (z : Int32) (Z' : GS) (vb : Int32) (Y : GS), ((e_X7_giveAll (X.1 0) x = "" ∧ z = 0 ∧ Z' = uO (uB (x_X7_giveAll X (X.1 0) x) 0 (u_X7_giveAll (X.1 0) x)) (up (uB (x_X7_giveAll X (X.1 0) x) 0 (u_X7_giveAll (X.1 0) x)).2.2.2.1 0 (r_X7_giveAll (X.1 0) x).toInt64)) ∨ (e_X7_giveAll (X.1 0) x = "java/lang/IllegalArgumentException" ∧ z = 1 ∧ Z' = (uB (x_X7_giveAll X (X.1 0) x) 0 (u_X7_giveAll (X.1 0) x))) ∨ (e_X7_giveAll (X.1 0) x = "java/lang/UnsupportedOperationException" ∧ z = 2 ∧ Z' = (uB (x_X7_giveAll X (X.1 0) x) 0 (u_X7_giveAll (X.1 0) x)))) ∧ m_X8_giveAll Z' x = some (vb, Y) ∧ Y.2.1 19 = z ∧ (z = 0 → vb = (r_X7_giveAll (X.1 0) x) ∧ Y.2.2.2.1 0 = (r_X7_giveAll (X.1 0) x).toInt64) ∧ Rel Y := by
  have O := out_giveAll R.1 x
  have g1 : ¬ r_X7_judgeGiveAll (X.1 0) x = 1 := by
    unfold r_X7_judgeGiveAll
    repeat' split
    all_goals decide
  have hv := O.v
  have hr : r_X7_judgeGiveAll (X.1 0) x = 0 → (r_X7_giveAll (X.1 0) x) = r_X0_giveBackAll (X.1 0) x := fun h => by unfold r_X7_giveAll; rw [ins_ite hv, if_pos h]
  obtain ⟨z, Z', vb, Y, hc, h1, h2, h3, h4⟩ := p_chg (Z := (uB (x_X7_giveAll X (X.1 0) x) 0 (u_X7_giveAll (X.1 0) x))) R O (by decide) (by decide) (by decide) (by unfold x_X7_giveAll u_X7_giveAll; rw [ins_ite hv, ins_ite hv]) hr
  refine ⟨z, Z', vb, Y, ?_, h1, h2, h3, h4⟩
  have he : e_X7_giveAll (X.1 0) x = e_X7_insist (r_X7_judgeGiveAll (X.1 0) x) := ins_e _
  rw [he]
  rcases hc with ⟨a, b, c⟩ | ⟨a, b, c⟩ | ⟨a, b, c⟩ | ⟨a, b, c⟩
  · exact Or.inl ⟨by rw [a]; decide, b, c⟩
  · exact absurd a g1
  · exact Or.inr (Or.inl ⟨by rw [a]; decide, b, c⟩)
  · exact Or.inr (Or.inr (⟨by rw [a]; decide, b, c⟩))
theorem p_resize {X : GS} (R : Rel X) (x y : Int32) : ∃ (z : Int32) (Z' : GS) (vb : Int32) (Y : GS), ((e_X7_resize (X.1 0) x y = "" ∧ z = 0 ∧ Z' = uO (uB (x_X7_resize X (X.1 0) x y) 0 (u_X7_resize (X.1 0) x y)) (up (uB (x_X7_resize X (X.1 0) x y) 0 (u_X7_resize (X.1 0) x y)).2.2.2.1 0 (r_X7_resize (X.1 0) x y).toInt64)) ∨ (e_X7_resize (X.1 0) x y = "java/lang/IndexOutOfBoundsException" ∧ z = 1 ∧ Z' = (uB (x_X7_resize X (X.1 0) x y) 0 (u_X7_resize (X.1 0) x y))) ∨ (e_X7_resize (X.1 0) x y = "java/lang/IllegalArgumentException" ∧ z = 2 ∧ Z' = (uB (x_X7_resize X (X.1 0) x y) 0 (u_X7_resize (X.1 0) x y))) ∨ (e_X7_resize (X.1 0) x y = "java/lang/UnsupportedOperationException" ∧ z = 3 ∧ Z' = (uB (x_X7_resize X (X.1 0) x y) 0 (u_X7_resize (X.1 0) x y)))) ∧ m_X8_resize Z' x y = some (vb, Y) ∧ Y.2.1 19 = z ∧ (z = 0 → vb = (r_X7_resize (X.1 0) x y) ∧ Y.2.2.2.1 0 = (r_X7_resize (X.1 0) x y).toInt64) ∧ Rel Y := by
  have O := out_resize R.1 x y
  have hv := O.v
  have hr : r_X7_judgeResize (X.1 0) x y = 0 → (r_X7_resize (X.1 0) x y) = r_X0_changeAmount (X.1 0) x y := fun h => by unfold r_X7_resize; rw [ins_ite hv, if_pos h]
  obtain ⟨z, Z', vb, Y, hc, h1, h2, h3, h4⟩ := p_chg (Z := (uB (x_X7_resize X (X.1 0) x y) 0 (u_X7_resize (X.1 0) x y))) R O (by decide) (by decide) (by decide) (by unfold x_X7_resize u_X7_resize; rw [ins_ite hv, ins_ite hv]) hr
  refine ⟨z, Z', vb, Y, ?_, h1, h2, h3, h4⟩
  have he : e_X7_resize (X.1 0) x y = e_X7_insist (r_X7_judgeResize (X.1 0) x y) := ins_e _
  rw [he]
  rcases hc with ⟨a, b, c⟩ | ⟨a, b, c⟩ | ⟨a, b, c⟩ | ⟨a, b, c⟩
  · exact Or.inl ⟨by rw [a]; decide, b, c⟩
  · exact Or.inr (Or.inl ⟨by rw [a]; decide, b, c⟩)
  · exact Or.inr (Or.inr (Or.inl ⟨by rw [a]; decide, b, c⟩))
  · exact Or.inr (Or.inr (Or.inr (⟨by rw [a]; decide, b, c⟩)))
theorem p_way {X : GS} (R : Rel X) (x : Int32) : ∃ (z : Int32) (Z' : GS) (vb : Int32) (Y : GS), ((e_X7_way (X.1 0) x = "" ∧ z = 0 ∧ Z' = uO (uB (x_X7_way X (X.1 0) x) 0 (u_X7_way (X.1 0) x)) (up (uB (x_X7_way X (X.1 0) x) 0 (u_X7_way (X.1 0) x)).2.2.2.1 0 (r_X7_way (X.1 0) x).toInt64)) ∨ (e_X7_way (X.1 0) x = "java/lang/IllegalArgumentException" ∧ z = 1 ∧ Z' = (uB (x_X7_way X (X.1 0) x) 0 (u_X7_way (X.1 0) x))) ∨ (e_X7_way (X.1 0) x = "java/lang/UnsupportedOperationException" ∧ z = 2 ∧ Z' = (uB (x_X7_way X (X.1 0) x) 0 (u_X7_way (X.1 0) x)))) ∧ m_X8_way Z' x = some (vb, Y) ∧ Y.2.1 19 = z ∧ (z = 0 → vb = (r_X7_way (X.1 0) x) ∧ Y.2.2.2.1 0 = (r_X7_way (X.1 0) x).toInt64) ∧ Rel Y := by
  have O := out_way R.1 x
  have g1 : ¬ r_X7_judgeWay (X.1 0) x = 1 := by
    unfold r_X7_judgeWay
    repeat' split
    all_goals decide
  have hv := O.v
  have hr : r_X7_judgeWay (X.1 0) x = 0 → (r_X7_way (X.1 0) x) = r_X0_changeWay (X.1 0) := fun h => by unfold r_X7_way; rw [ins_ite hv, if_pos h]
  obtain ⟨z, Z', vb, Y, hc, h1, h2, h3, h4⟩ := p_chg (Z := (uB (x_X7_way X (X.1 0) x) 0 (u_X7_way (X.1 0) x))) R O (by decide) (by decide) (by decide) (by unfold x_X7_way u_X7_way; rw [ins_ite hv, ins_ite hv]) hr
  refine ⟨z, Z', vb, Y, ?_, h1, h2, h3, h4⟩
  have he : e_X7_way (X.1 0) x = e_X7_insist (r_X7_judgeWay (X.1 0) x) := ins_e _
  rw [he]
  rcases hc with ⟨a, b, c⟩ | ⟨a, b, c⟩ | ⟨a, b, c⟩ | ⟨a, b, c⟩
  · exact Or.inl ⟨by rw [a]; decide, b, c⟩
  · exact absurd a g1
  · exact Or.inr (Or.inl ⟨by rw [a]; decide, b, c⟩)
  · exact Or.inr (Or.inr (⟨by rw [a]; decide, b, c⟩))
theorem p_forget {X : GS} (R : Rel X) (x : Int32) : ∃ (z : Int32) (Z' : GS) (vb : Int32) (Y : GS), ((e_X7_forget (X.1 0) x = "" ∧ z = 0 ∧ Z' = uO (uB (x_X7_forget X (X.1 0) x) 0 (u_X7_forget (X.1 0) x)) (up (uB (x_X7_forget X (X.1 0) x) 0 (u_X7_forget (X.1 0) x)).2.2.2.1 0 (r_X7_forget (X.1 0) x).toInt64)) ∨ (e_X7_forget (X.1 0) x = "java/lang/IndexOutOfBoundsException" ∧ z = 1 ∧ Z' = (uB (x_X7_forget X (X.1 0) x) 0 (u_X7_forget (X.1 0) x)))) ∧ m_X8_forget Z' x = some (vb, Y) ∧ Y.2.1 19 = z ∧ (z = 0 → vb = (r_X7_forget (X.1 0) x) ∧ Y.2.2.2.1 0 = (r_X7_forget (X.1 0) x).toInt64) ∧ Rel Y := by
  have O := out_forget R.1 x
  obtain ⟨z, Z', vb, Y, hc, h1, h2, h3, h4⟩ := p_chg (Z := (uB (x_X7_forget X (X.1 0) x) 0 (u_X7_forget (X.1 0) x))) (r' := (r_X7_forget (X.1 0) x)) R O (by decide) (by decide) (by decide) (by
    unfold x_X7_forget u_X7_forget
    by_cases h : r_X6_has (X.1 0) x = 0
    · rw [if_pos h, if_pos h, if_pos h, if_neg (by decide), if_neg (by decide)]
    · rw [if_neg h, if_neg h, if_neg h, if_pos rfl, if_pos rfl]) (fun h => by
    unfold r_X7_forget
    by_cases h9 : r_X6_has (X.1 0) x = 0
    · rw [if_pos h9] at h; exact absurd h (by decide)
    · rw [if_neg h9])
  refine ⟨z, Z', vb, Y, ?_, h1, h2, h3, h4⟩
  unfold e_X7_forget
  rcases hc with ⟨a, b, c⟩ | ⟨a, b, c⟩ | ⟨a, b, c⟩ | ⟨a, b, c⟩
  · left; refine ⟨?_, b, c⟩
    by_cases h : r_X6_has (X.1 0) x = 0
    · rw [if_pos h] at a; exact absurd a (by decide)
    · rw [if_neg h]
  · right; refine ⟨?_, b, c⟩
    by_cases h : r_X6_has (X.1 0) x = 0
    · rw [if_pos h]
    · rw [if_neg h] at a; exact absurd a (by decide)
  · exfalso; revert a; split <;> decide
  · exfalso; revert a; split <;> decide
theorem p_qry {X : GS} (R : Rel X) {e : String} {r : Int32} {E1 E2 : String} {m : GS → Option (Int32 × GS)} (hE1 : ¬ E1 = "") (hE2 : ¬ E2 = "") (h : ∀ o, QB e r E1 E2 (uO X o) (m (uO X o))) :
    ∃ (z : Int32) (Z' : GS) (vb : Int32) (Y : GS), ((e = "" ∧ z = 0 ∧ Z' = uO X (up X.2.2.2.1 0 r.toInt64)) ∨ (e = E1 ∧ z = 1 ∧ Z' = X) ∨ (e = E2 ∧ z = 2 ∧ Z' = X)) ∧ m Z' = some (vb, Y) ∧ Y.2.1 19 = z ∧ (z = 0 → vb = r ∧ Y.2.2.2.1 0 = r.toInt64) ∧ Rel Y := by
  have h0 := h X.2.2.2.1
  have hX : uO X X.2.2.2.1 = X := rfl
  rw [hX] at h0
  rcases h0 with ⟨k1, k2⟩ | ⟨k1, k2⟩ | ⟨k1, k2⟩
  · rcases h (up X.2.2.2.1 0 r.toInt64) with ⟨h1, h2⟩ | ⟨h1, -⟩ | ⟨h1, -⟩
    · refine ⟨0, uO X (up X.2.2.2.1 0 r.toInt64), r, uS (uO X (up X.2.2.2.1 0 r.toInt64)) 19 0, Or.inl ⟨h1, rfl, rfl⟩, h2, uS_at, fun _ => ⟨rfl, ?_⟩, (Rel.q (R.o _) 0 0).1⟩
      show up X.2.2.2.1 0 r.toInt64 0 = _
      rw [up_self]
    · exact absurd (h1.symm.trans k1) hE1
    · exact absurd (h1.symm.trans k1) hE2
  · exact ⟨1, X, 0, uS (uS X 19 1) 17 0, Or.inr (Or.inl ⟨k1, rfl, rfl⟩), k2, by rw [uS_ne (by decide), uS_at], fun e => absurd e (by decide), (Rel.q R 1 0).2⟩
  · exact ⟨2, X, 0, uS (uS X 19 2) 17 0, Or.inr (Or.inr ⟨k1, rfl, rfl⟩), k2, by rw [uS_ne (by decide), uS_at], fun e => absurd e (by decide), (Rel.q R 2 0).2⟩
theorem p_loanOf {X : GS} (R : Rel X) (x y : Int32) : ∃ (z : Int32) (Z' : GS) (vb : Int32) (Y : GS), ((e_X7_loanOf (X.1 0) x y = "" ∧ z = 0 ∧ Z' = uO X (up X.2.2.2.1 0 (r_X7_loanOf (X.1 0) x y).toInt64)) ∨ (e_X7_loanOf (X.1 0) x y = "java/lang/IndexOutOfBoundsException" ∧ z = 1 ∧ Z' = X) ∨ (e_X7_loanOf (X.1 0) x y = "java/lang/IllegalArgumentException" ∧ z = 2 ∧ Z' = X)) ∧ m_X8_loanOf Z' x y = some (vb, Y) ∧ Y.2.1 19 = z ∧ (z = 0 → vb = (r_X7_loanOf (X.1 0) x y) ∧ Y.2.2.2.1 0 = (r_X7_loanOf (X.1 0) x y).toInt64) ∧ Rel Y := by
  obtain ⟨p, F, L, W, w, B, S⟩ := R.QB
  exact p_qry R (by decide) (by decide) (fun o => q_loanOf (Y := uO X o) B x y)
theorem p_nameOf {X : GS} (R : Rel X) (x y : Int32) : ∃ (z : Int32) (Z' : GS) (vb : Int32) (Y : GS), ((e_X7_nameOf x y = "" ∧ z = 0 ∧ Z' = uO X (up X.2.2.2.1 0 (r_X7_nameOf (X.1 0) x y).toInt64)) ∨ (e_X7_nameOf x y = "java/lang/IllegalArgumentException" ∧ z = 1 ∧ Z' = X) ∨ (e_X7_nameOf x y = "java/lang/IndexOutOfBoundsException" ∧ z = 2 ∧ Z' = X)) ∧ m_X8_nameOf Z' x y = some (vb, Y) ∧ Y.2.1 19 = z ∧ (z = 0 → vb = (r_X7_nameOf (X.1 0) x y) ∧ Y.2.2.2.1 0 = (r_X7_nameOf (X.1 0) x y).toInt64) ∧ Rel Y := by
  obtain ⟨p, F, L, W, w, B, S⟩ := R.QB
  exact p_qry R (by decide) (by decide) (fun o => q_nameOf (Y := uO X o) B x y)
theorem p_waitingOf {X : GS} (R : Rel X) (x y : Int32) : ∃ (z : Int32) (Z' : GS) (vb : Int32) (Y : GS), ((e_X7_waitingOf (X.1 0) x y = "" ∧ z = 0 ∧ Z' = uO X (up X.2.2.2.1 0 (r_X7_waitingOf (X.1 0) x y).toInt64)) ∨ (e_X7_waitingOf (X.1 0) x y = nseN ∧ z = 1 ∧ Z' = X) ∨ (e_X7_waitingOf (X.1 0) x y = "java/lang/IllegalArgumentException" ∧ z = 2 ∧ Z' = X)) ∧ m_X8_waitingOf Z' x y = some (vb, Y) ∧ Y.2.1 19 = z ∧ (z = 0 → vb = (r_X7_waitingOf (X.1 0) x y) ∧ Y.2.2.2.1 0 = (r_X7_waitingOf (X.1 0) x y).toInt64) ∧ Rel Y := by
  obtain ⟨p, F, L, W, w, B, S⟩ := R.QB
  exact p_qry R (by decide) (by decide) (fun o => q_waitingOf (Y := uO X o) B x y)
theorem p_pieceOf {X : GS} (R : Rel X) (x y : Int32) : ∃ (z : Int32) (Z' : GS) (vb : Int32) (Y : GS), ((e_X7_pieceOf (X.1 0) x y = "" ∧ z = 0 ∧ Z' = uO X (up X.2.2.2.1 0 (r_X7_pieceOf (X.1 0) x y).toInt64)) ∨ (e_X7_pieceOf (X.1 0) x y = "java/lang/IndexOutOfBoundsException" ∧ z = 1 ∧ Z' = X) ∨ (e_X7_pieceOf (X.1 0) x y = "java/lang/IllegalArgumentException" ∧ z = 2 ∧ Z' = X)) ∧ m_X8_pieceOf Z' x y = some (vb, Y) ∧ Y.2.1 19 = z ∧ (z = 0 → vb = (r_X7_pieceOf (X.1 0) x y) ∧ Y.2.2.2.1 0 = (r_X7_pieceOf (X.1 0) x y).toInt64) ∧ Rel Y := by
  obtain ⟨p, F, L, W, w, B, S⟩ := R.QB
  exact p_qry R (by decide) (by decide) (fun o => q_pieceOf (Y := uO X o) B x y)
theorem p_would {X : GS} (R : Rel X) (x : Int32) : ∃ (z : Int32) (Z' : GS) (vb : Int32) (Y : GS), ((e_X7_would (X.1 0) x = "" ∧ z = 0 ∧ Z' = uO X (up X.2.2.2.1 0 (r_X7_would (X.1 0) x).toInt64)) ∨ (e_X7_would (X.1 0) x = "java/lang/IllegalArgumentException" ∧ z = 1 ∧ Z' = X) ∨ (e_X7_would (X.1 0) x = nseN ∧ z = 2 ∧ Z' = X)) ∧ m_X8_would Z' x = some (vb, Y) ∧ Y.2.1 19 = z ∧ (z = 0 → vb = (r_X7_would (X.1 0) x) ∧ Y.2.2.2.1 0 = (r_X7_would (X.1 0) x).toInt64) ∧ Rel Y := by
  obtain ⟨p, F, L, W, w, B, S⟩ := R.QB
  exact p_qry R (by decide) (by decide) (fun o => q_would (Y := uO X o) B x)
theorem p_cuts {X : GS} (R : Rel X) (x : Int32) : ∃ (z : Int32) (Z' : GS) (vb : Int32) (Y : GS), ((e_X7_cuts (X.1 0) x = "" ∧ z = 0 ∧ Z' = uO X (up X.2.2.2.1 0 (r_X7_cuts (X.1 0) x).toInt64)) ∨ (e_X7_cuts (X.1 0) x = "java/lang/IllegalArgumentException" ∧ z = 1 ∧ Z' = X) ∨ (e_X7_cuts (X.1 0) x = nseN ∧ z = 2 ∧ Z' = X)) ∧ m_X8_cuts Z' x = some (vb, Y) ∧ Y.2.1 19 = z ∧ (z = 0 → vb = (r_X7_cuts (X.1 0) x) ∧ Y.2.2.2.1 0 = (r_X7_cuts (X.1 0) x).toInt64) ∧ Rel Y := by
  obtain ⟨p, F, L, W, w, B, S⟩ := R.QB
  exact p_qry R (by decide) (by decide) (fun o => q_cuts (Y := uO X o) B x)
theorem p_free {X : GS} (R : Rel X) (x y : Int32) : ∃ (z : Int32) (Z' : GS) (vb : Int32) (Y : GS), ((e_X7_free x y = "" ∧ z = 0 ∧ Z' = uO X (up X.2.2.2.1 0 (r_X7_free (X.1 0) x y).toInt64)) ∨ (e_X7_free x y = "java/lang/IllegalArgumentException" ∧ z = 1 ∧ Z' = X)) ∧ m_X8_free Z' x = some (vb, Y) ∧ Y.2.1 19 = z ∧ (z = 0 → vb = (r_X7_free (X.1 0) x y) ∧ Y.2.2.2.1 0 = (r_X7_free (X.1 0) x y).toInt64) ∧ Rel Y := by
  obtain ⟨p, F, L, W, w, B, S⟩ := R.QB
  have hne : ¬ e_X7_free x y = "-" := by
    unfold e_X7_free
    skip
    repeat' split
    all_goals first | decide | (rename_i h9 _; revert h9; split <;> decide) | skip
  obtain ⟨z, Z', vb, Y, hc, h1, h2, h3, h4⟩ := p_qry (m := fun Z' => m_X8_free Z' x) R (by decide) (by decide) (fun o => q_free (Y := uO X o) B x y)
  refine ⟨z, Z', vb, Y, ?_, h1, h2, h3, h4⟩
  rcases hc with a | a | a
  · exact Or.inl a
  · exact Or.inr a
  · exact absurd a.1 hne
theorem p_greatest {X : GS} (R : Rel X) : ∃ (z : Int32) (Z' : GS) (vb : Int32) (Y : GS), ((e_X7_greatest (X.1 0) = "" ∧ z = 0 ∧ Z' = uO X (up X.2.2.2.1 0 (r_X7_greatest (X.1 0)).toInt64)) ∨ (e_X7_greatest (X.1 0) = nseN ∧ z = 1 ∧ Z' = X)) ∧ m_X8_greatest Z' = some (vb, Y) ∧ Y.2.1 19 = z ∧ (z = 0 → vb = (r_X7_greatest (X.1 0)) ∧ Y.2.2.2.1 0 = (r_X7_greatest (X.1 0)).toInt64) ∧ Rel Y := by
  obtain ⟨p, F, L, W, w, B, S⟩ := R.QB
  have hne : ¬ e_X7_greatest (X.1 0) = "-" := by
    unfold e_X7_greatest
    skip
    repeat' split
    all_goals first | decide | (rename_i h9 _; revert h9; split <;> decide) | skip
  obtain ⟨z, Z', vb, Y, hc, h1, h2, h3, h4⟩ := p_qry (m := fun Z' => m_X8_greatest Z') R (by decide) (by decide) (fun o => q_greatest (Y := uO X o) B )
  refine ⟨z, Z', vb, Y, ?_, h1, h2, h3, h4⟩
  rcases hc with a | a | a
  · exact Or.inl a
  · exact Or.inr a
  · exact absurd a.1 hne
theorem p_fits {X : GS} (R : Rel X) (x : Int32) : ∃ (z : Int32) (Z' : GS) (vb : Int32) (Y : GS), ((e_X7_fits x = "" ∧ z = 0 ∧ Z' = uO X (up X.2.2.2.1 0 (r_X7_fits (X.1 0) x).toInt64)) ∨ (e_X7_fits x = "java/lang/IllegalArgumentException" ∧ z = 1 ∧ Z' = X)) ∧ m_X8_fits Z' x = some (vb, Y) ∧ Y.2.1 19 = z ∧ (z = 0 → vb = (r_X7_fits (X.1 0) x) ∧ Y.2.2.2.1 0 = (r_X7_fits (X.1 0) x).toInt64) ∧ Rel Y := by
  obtain ⟨p, F, L, W, w, B, S⟩ := R.QB
  have hne : ¬ e_X7_fits x = "-" := by
    unfold e_X7_fits
    unfold e_X7_insistOnNeed
    repeat' split
    all_goals first | decide | (rename_i h9 _; revert h9; split <;> decide) | skip
  obtain ⟨z, Z', vb, Y, hc, h1, h2, h3, h4⟩ := p_qry (m := fun Z' => m_X8_fits Z' x) R (by decide) (by decide) (fun o => q_fits (Y := uO X o) B x)
  refine ⟨z, Z', vb, Y, ?_, h1, h2, h3, h4⟩
  rcases hc with a | a | a
  · exact Or.inl a
  · exact Or.inr a
  · exact absurd a.1 hne
theorem p_hole {X : GS} (R : Rel X) (x : Int32) : ∃ (z : Int32) (Z' : GS) (vb : Int32) (Y : GS), ((e_X7_hole (X.1 0) x = "" ∧ z = 0 ∧ Z' = uO X (up X.2.2.2.1 0 (r_X7_hole (X.1 0) x).toInt64)) ∨ (e_X7_hole (X.1 0) x = nseN ∧ z = 1 ∧ Z' = X)) ∧ m_X8_hole Z' x = some (vb, Y) ∧ Y.2.1 19 = z ∧ (z = 0 → vb = (r_X7_hole (X.1 0) x) ∧ Y.2.2.2.1 0 = (r_X7_hole (X.1 0) x).toInt64) ∧ Rel Y := by
  obtain ⟨p, F, L, W, w, B, S⟩ := R.QB
  have hne : ¬ e_X7_hole (X.1 0) x = "-" := by
    unfold e_X7_hole
    skip
    repeat' split
    all_goals first | decide | (rename_i h9 _; revert h9; split <;> decide) | skip
  obtain ⟨z, Z', vb, Y, hc, h1, h2, h3, h4⟩ := p_qry (m := fun Z' => m_X8_hole Z' x) R (by decide) (by decide) (fun o => q_hole (Y := uO X o) B x)
  refine ⟨z, Z', vb, Y, ?_, h1, h2, h3, h4⟩
  rcases hc with a | a | a
  · exact Or.inl a
  · exact Or.inr a
  · exact absurd a.1 hne
theorem p_inTheWay {X : GS} (R : Rel X) (x : Int32) : ∃ (z : Int32) (Z' : GS) (vb : Int32) (Y : GS), ((e_X7_inTheWay x = "" ∧ z = 0 ∧ Z' = uO X (up X.2.2.2.1 0 (r_X7_inTheWay (X.1 0) x).toInt64)) ∨ (e_X7_inTheWay x = "java/lang/IllegalArgumentException" ∧ z = 1 ∧ Z' = X)) ∧ m_X8_inTheWay Z' x = some (vb, Y) ∧ Y.2.1 19 = z ∧ (z = 0 → vb = (r_X7_inTheWay (X.1 0) x) ∧ Y.2.2.2.1 0 = (r_X7_inTheWay (X.1 0) x).toInt64) ∧ Rel Y := by
  obtain ⟨p, F, L, W, w, B, S⟩ := R.QB
  have hne : ¬ e_X7_inTheWay x = "-" := by
    unfold e_X7_inTheWay
    unfold e_X7_insistOnNeed
    repeat' split
    all_goals first | decide | (rename_i h9 _; revert h9; split <;> decide) | skip
  obtain ⟨z, Z', vb, Y, hc, h1, h2, h3, h4⟩ := p_qry (m := fun Z' => m_X8_inTheWay Z' x) R (by decide) (by decide) (fun o => q_inTheWay (Y := uO X o) B x)
  refine ⟨z, Z', vb, Y, ?_, h1, h2, h3, h4⟩
  rcases hc with a | a | a
  · exact Or.inl a
  · exact Or.inr a
  · exact absurd a.1 hne
theorem p_ranked {X : GS} (R : Rel X) (x : Int32) : ∃ (z : Int32) (Z' : GS) (vb : Int32) (Y : GS), ((e_X7_ranked (X.1 0) x = "" ∧ z = 0 ∧ Z' = uO X (up X.2.2.2.1 0 (r_X7_ranked (X.1 0) x).toInt64)) ∨ (e_X7_ranked (X.1 0) x = nseN ∧ z = 1 ∧ Z' = X)) ∧ m_X8_ranked Z' x = some (vb, Y) ∧ Y.2.1 19 = z ∧ (z = 0 → vb = (r_X7_ranked (X.1 0) x) ∧ Y.2.2.2.1 0 = (r_X7_ranked (X.1 0) x).toInt64) ∧ Rel Y := by
  obtain ⟨p, F, L, W, w, B, S⟩ := R.QB
  have hne : ¬ e_X7_ranked (X.1 0) x = "-" := by
    unfold e_X7_ranked
    skip
    repeat' split
    all_goals first | decide | (rename_i h9 _; revert h9; split <;> decide) | skip
  obtain ⟨z, Z', vb, Y, hc, h1, h2, h3, h4⟩ := p_qry (m := fun Z' => m_X8_ranked Z' x) R (by decide) (by decide) (fun o => q_ranked (Y := uO X o) B x)
  refine ⟨z, Z', vb, Y, ?_, h1, h2, h3, h4⟩
  rcases hc with a | a | a
  · exact Or.inl a
  · exact Or.inr a
  · exact absurd a.1 hne
theorem p_refusal {X : GS} (R : Rel X) (x : Int32) : ∃ (z : Int32) (Z' : GS) (vb : Int32) (Y : GS), ((e_X7_refusal X x = "" ∧ z = 0 ∧ Z' = uO X (up X.2.2.2.1 0 (r_X7_refusal X x).toInt64)) ∨ (e_X7_refusal X x = nseN ∧ z = 1 ∧ Z' = X)) ∧ m_X8_refusal Z' x = some (vb, Y) ∧ Y.2.1 19 = z ∧ (z = 0 → vb = (r_X7_refusal X x) ∧ Y.2.2.2.1 0 = (r_X7_refusal X x).toInt64) ∧ Rel Y := by
  obtain ⟨p, F, L, W, w, B, S⟩ := R.QB
  have hne : ¬ e_X7_refusal X x = "-" := by
    unfold e_X7_refusal
    skip
    repeat' split
    all_goals first | decide | (rename_i h9 _; revert h9; split <;> decide) | skip
  obtain ⟨z, Z', vb, Y, hc, h1, h2, h3, h4⟩ := p_qry (e := e_X7_refusal X x) (r := r_X7_refusal X x) (E1 := nseN) (E2 := "-") (m := fun Z' => m_X8_refusal Z' x) R (by decide) (by decide) (fun o => q_refusal (X := uO X o) (R.o o) x)
  refine ⟨z, Z', vb, Y, ?_, h1, h2, h3, h4⟩
  rcases hc with a | a | a
  · exact Or.inl a
  · exact Or.inr a
  · exact absurd a.1 hne
theorem p_account {X : GS} (R : Rel X) (x : Int32) : ∃ (z : Int32) (Z' : GS) (vb : Int32) (Y : GS), ((e_X7_account x = "" ∧ z = 0 ∧ Z' = uO X (up X.2.2.2.1 0 (r_X7_account X (X.1 0) x).toInt64)) ∨ (e_X7_account x = "java/lang/IllegalArgumentException" ∧ z = 1 ∧ Z' = X)) ∧ m_X8_account Z' x = some (vb, Y) ∧ Y.2.1 19 = z ∧ (z = 0 → vb = (r_X7_account X (X.1 0) x) ∧ Y.2.2.2.1 0 = (r_X7_account X (X.1 0) x).toInt64) ∧ Rel Y := by
  obtain ⟨p, F, L, W, w, B, S⟩ := R.QB
  have hne : ¬ e_X7_account x = "-" := by
    unfold e_X7_account
    skip
    repeat' split
    all_goals first | decide | (rename_i h9 _; revert h9; split <;> decide) | skip
  obtain ⟨z, Z', vb, Y, hc, h1, h2, h3, h4⟩ := p_qry (e := e_X7_account x) (r := r_X7_account X (X.1 0) x) (E1 := "java/lang/IllegalArgumentException") (E2 := "-") (m := fun Z' => m_X8_account Z' x) R (by decide) (by decide) (fun o => q_account (X := uO X o) (R.o o) x)
  refine ⟨z, Z', vb, Y, ?_, h1, h2, h3, h4⟩
  rcases hc with a | a | a
  · exact Or.inl a
  · exact Or.inr a
  · exact absurd a.1 hne
theorem p_character {X : GS} (R : Rel X) (x : Int32) : ∃ (z : Int32) (Z' : GS) (vb : Int32) (Y : GS), ((e_X7_character X x = "" ∧ z = 0 ∧ Z' = uO X (up X.2.2.2.1 0 (r_X7_character X x).toInt64)) ∨ (e_X7_character X x = "java/lang/IndexOutOfBoundsException" ∧ z = 1 ∧ Z' = X)) ∧ m_X8_character Z' x = some (vb, Y) ∧ Y.2.1 19 = z ∧ (z = 0 → vb = (r_X7_character X x) ∧ Y.2.2.2.1 0 = (r_X7_character X x).toInt64) ∧ Rel Y := by
  rcases q_character R x with ⟨h1, h2⟩ | ⟨h1, h2⟩
  · rcases q_character (R.o (up X.2.2.2.1 0 (r_X7_character X x).toInt64)) x with ⟨k1, k2⟩ | ⟨k1, -⟩
    · refine ⟨0, uO X (up X.2.2.2.1 0 (r_X7_character X x).toInt64), r_X7_character X x, uS (uO X (up X.2.2.2.1 0 (r_X7_character X x).toInt64)) 19 0, Or.inl ⟨h1, rfl, rfl⟩, k2, uS_at, fun _ => ⟨rfl, ?_⟩, (Rel.q (R.o _) 0 0).1⟩
      show up X.2.2.2.1 0 (r_X7_character X x).toInt64 0 = _
      rw [up_self]
    · have k1' : e_X7_character X x = "java/lang/IndexOutOfBoundsException" := k1
      rw [h1] at k1'
      exact absurd k1' (by decide)
  · exact ⟨1, X, 0, uS X 19 1, Or.inr ⟨h1, rfl, rfl⟩, h2, uS_at, fun e => absurd e (by decide), (Rel.q R 0 1).1⟩
theorem p_append {X : GS} (R : Rel X) (x : Int32) (hx : Ch x) : ∃ (z : Int32) (Z' : GS) (vb : Int32) (Y : GS), ((e_X7_append X = "" ∧ z = 0 ∧ Z' = uO (uB (x_X7_append X x) 0 (X.1 0)) (up (uB (x_X7_append X x) 0 (X.1 0)).2.2.2.1 0 (r_X7_append X x).toInt64)) ∨ (e_X7_append X = "java/lang/IllegalStateException" ∧ z = 1 ∧ Z' = (uB (x_X7_append X x) 0 (X.1 0)))) ∧ m_X8_append Z' x = some (vb, Y) ∧ Y.2.1 19 = z ∧ (z = 0 → vb = (r_X7_append X x) ∧ Y.2.2.2.1 0 = (r_X7_append X x).toInt64) ∧ Rel Y := by
  have eB : uB (x_X7_append X x) 0 (X.1 0) = x_X7_append X x := by
    have : (x_X7_append X x).1 = X.1 := by
      unfold x_X7_append x_X4_addSign
      repeat' split
      all_goals rfl
    rw [← this, uB_eta]
  rw [eB]
  rcases append_ok R hx (up (x_X7_append X x).2.2.2.1 0 (r_X7_append X x).toInt64) with ⟨h1, Y, h2, h3, h4, h5⟩ | ⟨h1, h2, h3⟩
  · exact ⟨0, _, _, Y, Or.inl ⟨h1, rfl, rfl⟩, h2, h3, fun _ => ⟨rfl, by rw [h4, up_self]⟩, h5⟩
  · rw [h2]
    exact ⟨1, X, 0, uS (uS X 19 1) 17 0, Or.inr ⟨h1, rfl, rfl⟩, h3 X.2.2.2.1, by rw [uS_ne (by decide), uS_at], fun e => absurd e (by decide), (Rel.q R 1 0).2⟩
theorem p_undo {X : GS} (R : Rel X) : ∃ (z : Int32) (Z' : GS) (vb : Int32) (Y : GS), ((e_X7_undo X = "" ∧ z = 0 ∧ Z' = uO (uB (x_X7_undo X) 0 (u_X7_undo X (X.1 0))) (up (uB (x_X7_undo X) 0 (u_X7_undo X (X.1 0))).2.2.2.1 0 (r_X7_undo X).toInt64)) ∨ (e_X7_undo X = "java/lang/IllegalStateException" ∧ z = 1 ∧ Z' = (uB (x_X7_undo X) 0 (u_X7_undo X (X.1 0))))) ∧ m_X8_undo Z' = some (vb, Y) ∧ Y.2.1 19 = z ∧ (z = 0 → vb = (r_X7_undo X) ∧ Y.2.2.2.1 0 = (r_X7_undo X).toInt64) ∧ Rel Y := by
  rcases undo_ok R (up (uB (x_X7_undo X) 0 (u_X7_undo X (X.1 0))).2.2.2.1 0 (r_X7_undo X).toInt64) with ⟨h1, Y, h2, h3, h4, h5⟩ | ⟨h1, h2, h3, h4⟩
  · exact ⟨0, _, _, Y, Or.inl ⟨h1, rfl, rfl⟩, h2, h3, fun _ => ⟨rfl, by rw [h4, up_self]⟩, h5⟩
  · rw [h2, h3, uB_eta]
    exact ⟨1, X, 0, uS (uS X 19 1) 17 0, Or.inr ⟨h1, rfl, rfl⟩, h4 X.2.2.2.1, by rw [uS_ne (by decide), uS_at], fun e => absurd e (by decide), (Rel.q R 1 0).2⟩
theorem p_restore {X : GS} (R : Rel X) : ∃ (z : Int32) (Z' : GS) (vb : Int32) (Y : GS), ((e_X7_restore X = "" ∧ z = 0 ∧ Z' = uO (uB (x_X7_restore X) 0 (u_X7_restore X (X.1 0))) (up (uB (x_X7_restore X) 0 (u_X7_restore X (X.1 0))).2.2.2.1 0 (r_X7_restore X (X.1 0)).toInt64)) ∨ (e_X7_restore X = "java/lang/IllegalStateException" ∧ z = 1 ∧ Z' = (uB (x_X7_restore X) 0 (u_X7_restore X (X.1 0))))) ∧ m_X8_restore Z' = some (vb, Y) ∧ Y.2.1 19 = z ∧ (z = 0 → vb = (r_X7_restore X (X.1 0)) ∧ Y.2.2.2.1 0 = (r_X7_restore X (X.1 0)).toInt64) ∧ Rel Y := by
  rcases restore_ok R (up (uB (x_X7_restore X) 0 (u_X7_restore X (X.1 0))).2.2.2.1 0 (r_X7_restore X (X.1 0)).toInt64) with ⟨h1, Y, h2, h3, h4, h5⟩ | ⟨h1, h2, h3, h4⟩
  · exact ⟨0, _, _, Y, Or.inl ⟨h1, rfl, rfl⟩, h2, h3, fun _ => ⟨rfl, by rw [h4, up_self]⟩, h5⟩
  · rw [h2, h3, uB_eta]
    exact ⟨1, X, 0, uS (uS X 19 1) 17 0, Or.inr ⟨h1, rfl, rfl⟩, h4 X.2.2.2.1, by rw [uS_ne (by decide), uS_at], fun e => absurd e (by decide), (Rel.q R 1 0).2⟩
theorem p_run {X : GS} (R : Rel X) : ∃ (eo : String) (vo : Int32) (bo : BD) (Xo : GS), m_X7_run X (X.1 0) = some (eo, vo, bo, Xo) ∧ ∃ (z : Int32) (Z' : GS) (vb : Int32) (Y : GS), ((eo = "" ∧ z = 0 ∧ Z' = uO (uB Xo 0 bo) (up (uB Xo 0 bo).2.2.2.1 0 vo.toInt64)) ∨ (eo = "java/lang/IllegalArgumentException" ∧ z = 1 ∧ Z' = uB Xo 0 bo) ∨ (eo = "java/lang/UnsupportedOperationException" ∧ z = 2 ∧ Z' = uB Xo 0 bo)) ∧ m_X8_run Z' = some (vb, Y) ∧ Y.2.1 19 = z ∧ (z = 0 → vb = vo ∧ Y.2.2.2.1 0 = vo.toInt64) ∧ Rel Y := by
  obtain ⟨eo, vo, bo, Xo, h, f1, f2, f3⟩ := run_class R
  refine ⟨eo, vo, bo, Xo, h, ?_⟩
  by_cases he : eo = ""
  · obtain ⟨vb, Y, c1, c2, c3, c4⟩ := run_ok R h f1 f2 f3 (up (uB Xo 0 bo).2.2.2.1 0 vo.toInt64)
    rcases c4 with ⟨-, c5, c6⟩ | ⟨c5, -⟩ | ⟨c5, -⟩
    · exact ⟨0, _, vb, Y, Or.inl ⟨he, rfl, rfl⟩, c1, c5, fun _ => ⟨c6, by rw [c2, up_self]⟩, c3⟩
    · rw [he] at c5; exact absurd c5 (by decide)
    · rw [he] at c5; exact absurd c5 (by decide)
  · obtain ⟨vb, Y, c1, c2, c3, c4⟩ := run_ok R h f1 f2 f3 (uB Xo 0 bo).2.2.2.1
    rcases c4 with ⟨c5, -⟩ | ⟨c5, c6⟩ | ⟨c5, c6⟩
    · exact absurd c5 he
    · exact ⟨1, uB Xo 0 bo, vb, Y, Or.inr (Or.inl ⟨c5, rfl, rfl⟩), c1, c6, fun e => absurd e (by decide), c3⟩
    · exact ⟨2, uB Xo 0 bo, vb, Y, Or.inr (Or.inr ⟨c5, rfl, rfl⟩), c1, c6, fun e => absurd e (by decide), c3⟩
