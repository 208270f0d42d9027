/-! ===== p36: x's texts, undo, save, restore; y's ways ===== -/
def setR : Option (Int32 × Int32) → GS → GS
  | none, Z => Z
  | some (r, d), Z => uS (uS Z 9 r) 10 d
theorem setR_1 (rd : Option (Int32 × Int32)) (Z : GS) : (setR rd Z).1 = Z.1 := by cases rd <;> rfl
theorem setR_2 (rd : Option (Int32 × Int32)) (Z : GS) {k : Nat} (h1 : ¬ k = 9) (h2 : ¬ k = 10) : (setR rd Z).2.1 k = Z.2.1 k := by
  cases rd with
  | none => rfl
  | some q => show up (up Z.2.1 9 q.1) 10 q.2 k = _; rw [up_ne h2, up_ne h1]
theorem x_end {B0 b1 : BD} {S : GS} {t : List Int32} {n6 n6' v : Int32} {c : Nat} {o : List (Int32 × Int32)} {rd : Option (Int32 × Int32)} (hS : XS B0 n6 S) (h : rdK t n6 (-1) n6' c o = true) (hl : t.length ≤ 60) (hv0 : ¬ v = 0)
    (hloop : ∀ Z1 : GS, ords Z1 c (fun i => o.getD i (0, 0)) → lp_X7_run_51 1000 0 0 (S.1 0) Z1 = some (v, nI c, b1, setR rd Z1)) :
    okI ((typ t S).2.1 0) ∧ (m_X7_run (typ t S) ((typ t S).1 0)).isSome = true ∧ (rnQ (typ t S)).1 = (if v = 3 then "java/lang/UnsupportedOperationException" else "java/lang/IllegalArgumentException") ∧ r_X7_errorPosition (rnS (typ t S)) = -1 ∧ XS B0 n6' (rnS (typ t S)) ∧
      ∀ r d : Int32, rd = some (r, d) → (rnS (typ t S)).2.1 9 = r ∧ (rnS (typ t S)).2.1 10 = d := by
  obtain ⟨Z, z1, z2, z3, z4⟩ := rd_run h hS.2.2.1 hS.2.2.2.1 hl
  obtain ⟨⟨f1, f2, f3, f4⟩, -, -⟩ := typ_f t S 0 hS.2.2.1 (by omega)
  have z5 : ords (uB Z 1 (cpB (S.1 0) (Z.1 1))) c (fun i => o.getD i (0, 0)) := z4
  have er : m_X7_run (typ t S) ((typ t S).1 0) = some ((if v = 3 then "java/lang/UnsupportedOperationException" else "java/lang/IllegalArgumentException"), 0, cpB ((setR rd (uB Z 1 (cpB (S.1 0) (Z.1 1)))).1 1) b1, setR rd (uB Z 1 (cpB (S.1 0) (Z.1 1)))) := by
    rw [run_eq z1 z2.2.2.2.2.1, f1, hloop _ z5]
    show (if v = 0 then _ else if v = 3 then _ else _) = _
    rw [if_neg hv0]
    by_cases c3 : v = 3
    · rw [if_pos c3, if_pos c3]
    · rw [if_neg c3, if_neg c3]
  have eb : (setR rd (uB Z 1 (cpB (S.1 0) (Z.1 1)))).1 1 = cpB (S.1 0) (Z.1 1) := by rw [setR_1]; exact uB_s
  rw [eb] at er
  have eq : rnQ (typ t S) = ((if v = 3 then "java/lang/UnsupportedOperationException" else "java/lang/IllegalArgumentException"), 0, cpB (cpB (S.1 0) (Z.1 1)) b1, setR rd (uB Z 1 (cpB (S.1 0) (Z.1 1)))) := by unfold rnQ; rw [er]; rfl
  have es : rnS (typ t S) = uB (setR rd (uB Z 1 (cpB (S.1 0) (Z.1 1)))) 0 (cpB (cpB (S.1 0) (Z.1 1)) b1) := by unfold rnS; rw [eq]
  refine ⟨by rw [f2 0 (by decide)]; exact hS.2.1.okI, by rw [er]; rfl, by rw [eq], ?_, ?_, ?_⟩
  · rw [es]
    show (setR rd (uB Z 1 (cpB (S.1 0) (Z.1 1)))).2.1 7 = -1
    rw [setR_2 _ _ (by decide) (by decide)]
    exact z2.2.2.2.2.1
  · rw [es]
    refine xs_fz hS z2 ((ag_cpB _ _).tr ((ag_cpB _ _).tr hS.1)) ?_ (fun k a b => ?_)
    · rw [setR_1]
      show up Z.1 1 (cpB (S.1 0) (Z.1 1)) 2 = Z.1 2
      exact up_ne (by decide)
    · rw [setR_2 _ _ a b]; rfl
  · intro r d hrd
    subst hrd
    rw [es]
    exact ⟨rfl, rfl⟩
theorem ords_0 {X : GS} {c : Nat} {o : Nat → Int32 × Int32} (h : ords X c o) : (0 : Int32) = nI 0 := rfl
/-- 'w o;w o' -/
theorem x_ww {B0 : BD} {S : GS} {t : List Int32} {n6 n6' : Int32} {o : Nat} (hS : XS B0 n6 S) (h : rdK t n6 (-1) n6' 2 [(119, nI o), (119, nI o)] = true) (hl : t.length ≤ 60) (ho : o < 3) (hb : ¬ B0.1 0 = nI o) :
    okI ((typ t S).2.1 0) ∧ (m_X7_run (typ t S) ((typ t S).1 0)).isSome = true ∧ (rnQ (typ t S)).1 = "java/lang/UnsupportedOperationException" ∧ r_X7_errorPosition (rnS (typ t S)) = -1 ∧ XS B0 n6' (rnS (typ t S)) ∧ (rnS (typ t S)).2.1 9 = 5 ∧ (rnS (typ t S)).2.1 10 = nI o := by
  have hb0 : ¬ (S.1 0).1 0 = nI o := by rw [hS.1.1 0 (by decide)]; exact hb
  obtain ⟨a1, a2, a3, a4, a5, a6⟩ := x_end (v := 3) (b1 := u_X0_changeWay (S.1 0) (nI o)) (rd := some (5, nI o)) hS h hl (by decide) (fun Z1 hZ => by
    have e1 := run_w (j := 999) (i := 0) (b := S.1 0) hZ (by decide) ho rfl hb0
    rw [show (0 : Int32) = nI 0 from rfl]
    rw [show (lp_X7_run_51 1000 (nI 0) (nI 0) (S.1 0) Z1) = lp_X7_run_51 (999 + 1) 0 (nI 0) (S.1 0) Z1 from rfl, e1]
    exact run_stop (j := 997) (i := 1) hZ rfl (by show r_X7_judgeOrder _ 119 (nI o) _ = 3; rw [jo_w]; exact jw_same ho (cw_w _ _)) (by show x_X7_judgeOrder _ _ 119 (nI o) _ = _; rw [xo_w]; exact xw_same ho (cw_w _ _)) (by decide) rfl)
  exact ⟨a1, a2, a3, a4, a5, a6 5 (nI o) rfl⟩
theorem jg_99 (b : BD) : r_X7_judgeGive b 99 = 1 := by
  have h : r_X3_has b 99 = 0 := by
    unfold r_X3_has
    rw [if_neg (by decide)]
    by_cases c1 : b.1 3 ≤ 99
    · rw [if_pos c1]
    · rw [if_neg c1, if_pos (by decide)]
  unfold r_X7_judgeGive
  rw [if_pos h]
/-- 'w o;g99' -/
theorem x_wg {B0 : BD} {S : GS} {t : List Int32} {n6 n6' : Int32} {o : Nat} (hS : XS B0 n6 S) (h : rdK t n6 (-1) n6' 2 [(119, nI o), (103, 99)] = true) (hl : t.length ≤ 60) (ho : o < 3) (hb : ¬ B0.1 0 = nI o) :
    okI ((typ t S).2.1 0) ∧ (m_X7_run (typ t S) ((typ t S).1 0)).isSome = true ∧ (rnQ (typ t S)).1 = "java/lang/IllegalArgumentException" ∧ r_X7_errorPosition (rnS (typ t S)) = -1 ∧ XS B0 n6' (rnS (typ t S)) := by
  have hb0 : ¬ (S.1 0).1 0 = nI o := by rw [hS.1.1 0 (by decide)]; exact hb
  obtain ⟨a1, a2, a3, a4, a5, a6⟩ := x_end (v := 1) (b1 := u_X0_changeWay (S.1 0) (nI o)) (rd := none) hS h hl (by decide) (fun Z1 hZ => by
    have e1 := run_w (j := 999) (i := 0) (b := S.1 0) hZ (by decide) ho rfl hb0
    rw [show (lp_X7_run_51 1000 0 0 (S.1 0) Z1) = lp_X7_run_51 (999 + 1) 0 (nI 0) (S.1 0) Z1 from rfl, e1]
    exact run_stop (j := 997) (i := 1) hZ rfl (by show r_X7_judgeOrder _ 103 99 _ = 1; rw [jo_g]; exact jg_99 _) (by show x_X7_judgeOrder _ _ 103 99 _ = _; rw [xo_g]; rfl) (by decide) rfl)
  exact ⟨a1, a2, a3, a4, a5⟩
/-- 'w3' -/
theorem x_w3 {B0 : BD} {S : GS} {t : List Int32} {n6 n6' : Int32} (hS : XS B0 n6 S) (h : rdK t n6 (-1) n6' 1 [(119, 3)] = true) (hl : t.length ≤ 60) :
    okI ((typ t S).2.1 0) ∧ (m_X7_run (typ t S) ((typ t S).1 0)).isSome = true ∧ (rnQ (typ t S)).1 = "java/lang/IllegalArgumentException" ∧ r_X7_errorPosition (rnS (typ t S)) = -1 ∧ XS B0 n6' (rnS (typ t S)) := by
  obtain ⟨a1, a2, a3, a4, a5, a6⟩ := x_end (v := 2) (b1 := S.1 0) (rd := none) hS h hl (by decide) (fun Z1 hZ => by
    rw [show (lp_X7_run_51 1000 0 0 (S.1 0) Z1) = lp_X7_run_51 (998 + 2) 0 (nI 0) (S.1 0) Z1 from rfl]
    exact run_stop (j := 998) (i := 0) hZ rfl (by show r_X7_judgeOrder _ 119 3 _ = 2; rw [jo_w]; rfl) (by show x_X7_judgeOrder _ _ 119 3 _ = _; rw [xo_w]; rfl) (by decide) rfl)
  exact ⟨a1, a2, a3, a4, a5⟩
/-- 'n77' -/
theorem x_n77 {B0 : BD} {S : GS} {t : List Int32} {n6 n6' : Int32} (hI : IB B0) (hS : XS B0 n6 S) (h : rdK t n6 (-1) n6' 1 [(110, 77)] = true) (hl : t.length ≤ 60) :
    okI ((typ t S).2.1 0) ∧ (m_X7_run (typ t S) ((typ t S).1 0)).isSome = true ∧ (rnQ (typ t S)).1 = "java/lang/UnsupportedOperationException" ∧ r_X7_errorPosition (rnS (typ t S)) = -1 ∧ XS B0 n6' (rnS (typ t S)) ∧ (rnS (typ t S)).2.1 9 = 4 ∧ (rnS (typ t S)).2.1 10 = 0 := by
  have e3 : r_X3_countOf (S.1 0) 77 = 0 := by rw [ag_c3 hS.1]; exact no77_3 hI
  have e6 : r_X6_countOf (S.1 0) 77 = 0 := by rw [ag_c6 hS.1]; exact no77_6 hI
  obtain ⟨a1, a2, a3, a4, a5, a6⟩ := x_end (v := 3) (b1 := S.1 0) (rd := some (4, 0)) hS h hl (by decide) (fun Z1 hZ => by
    rw [show (lp_X7_run_51 1000 0 0 (S.1 0) Z1) = lp_X7_run_51 (998 + 2) 0 (nI 0) (S.1 0) Z1 from rfl]
    refine run_stop (j := 998) (i := 0) hZ rfl ?_ ?_ (by decide) rfl
    · show r_X7_judgeOrder _ 110 77 _ = 3
      rw [jo_n]
      unfold r_X7_judgeGiveAll
      rw [e3]
      rfl
    · show x_X7_judgeOrder _ _ 110 77 _ = _
      rw [xo_n]
      unfold x_X7_judgeGiveAll
      rw [e3, e6]
      rfl)
  exact ⟨a1, a2, a3, a4, a5, a6 4 0 rfl⟩
