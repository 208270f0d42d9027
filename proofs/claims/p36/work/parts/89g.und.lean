/-! ===== p36: the first text of x, y's ways, undo, save, restore ===== -/
theorem keep1_eq {X : GS} {n c : Nat} (h : X.2.1 0 = nI n) (hn : n < 8) (h2 : X.2.1 1 = nI c) (hc : c ≤ 8) :
    x_X1_keep1 X = uS (uS (uB X (3 + n) (cpB (X.1 1) (X.1 (3 + n)))) 0 (nI ((n + 1) % 8))) 1 (nI (if c < 8 then c + 1 else 8)) := keep0_eq (X.1 1) h hn h2 hc
/-- a change is taken back -/
theorem undo_eq {S : GS} {n c : Nat} (hn : n < 8) (h0 : S.2.1 0 = nI ((n + 1) % 8)) (h1 : S.2.1 1 = nI c) (hc0 : 0 < c) (hc : c ≤ 8) :
    e_X7_undo S = "" ∧ r_X7_undo S = nI (c - 1) ∧ sUndo S = uB (uS (uS S 0 (nI n)) 1 (nI (c - 1))) 0 (cpB (S.1 (3 + n)) (S.1 0)) := by
  have p1 : (0 : Int32) < S.2.1 1 := by rw [h1]; exact nI_lt (a := 0) hc0 (by omega)
  have p2 : ¬ S.2.1 1 ≤ 0 := by rw [h1]; exact nI_nle hc0 (by omega)
  have p3 : nI c - 1 = nI (c - 1) := nI_pd hc0
  have et : x_X1_takeBack S = uS (uS S 0 (nI n)) 1 (nI (c - 1)) ∧ u_X1_takeBack S (S.1 0) = cpB (S.1 (3 + n)) (S.1 0) := by
    unfold x_X1_takeBack u_X1_takeBack
    by_cases h7 : n = 7
    · subst h7
      have p4 : S.2.1 0 ≤ 0 := by rw [h0]; decide
      rw [if_pos p4, if_neg p2, if_pos p4, if_neg p2, h1, p3]
      exact ⟨rfl, rfl⟩
    · have e1 : (n + 1) % 8 = n + 1 := Nat.mod_eq_of_lt (by omega)
      rw [e1] at h0
      have p4 : ¬ S.2.1 0 ≤ 0 := by rw [h0]; exact nI_nle (by omega) (by omega)
      have p5 : nx S = n + 1 := by unfold nx; rw [h0, nI_clamp (by omega)]
      have p6 : nI (n + 1) - 1 = nI n := nI_pd (by omega)
      rw [if_neg p4, if_neg p2, if_neg p4, if_neg p2, h1, p3, p5, h0, p6]
      exact ⟨rfl, rfl⟩
  refine ⟨by unfold e_X7_undo; rw [if_pos p1], ?_, ?_⟩
  · unfold r_X7_undo
    rw [if_pos p1, et.1]
    rfl
  · unfold sUndo x_X7_undo u_X7_undo
    rw [if_pos p1, if_pos p1, et.1, et.2]
/-- a way is changed -/
theorem way_eq {X : GS} {w : Nat} (hw : w < 3) (hb : ¬ (X.1 0).1 0 = nI w) : e_X7_way (X.1 0) (nI w) = "" ∧ r_X7_way (X.1 0) (nI w) = (X.1 0).1 0 ∧ sWay X (nI w) = uB (x_X1_keep0 X (X.1 0)) 0 (u_X0_changeWay (X.1 0) (nI w)) := by
  have e0 : e_X7_insist (r_X7_judgeWay (X.1 0) (nI w)) = "" := by rw [jw_ok hw hb]; rfl
  refine ⟨by unfold e_X7_way; rw [if_pos e0], by unfold r_X7_way; rw [if_pos e0]; rfl, ?_⟩
  unfold sWay x_X7_way u_X7_way
  rw [if_pos e0, if_pos e0, xw_ok hb]
theorem bd_ne {X : GS} {j k : Nat} {b : BD} (h : ¬ k = j) : (uB X j b).1 k = X.1 k := up_ne h
theorem bd2 {Z : GS} {A B : BD} {n : Nat} {C D : Int32} (hn : n < 8) : (uS (uS (uB (uB Z 1 A) (3 + n) B) 0 C) 1 D).1 2 = Z.1 2 := by
  show (uB (uB Z 1 A) (3 + n) B).1 2 = _
  rw [bd_ne (by omega), bd_ne (by decide)]
/-- the first text: three ways; then undo -/
theorem x_three {B0 : BD} {S : GS} {t : List Int32} {n6 n6' : Int32} {o v : Nat} (hS : XS B0 n6 S) (hS0 : S.1 0 = B0) (h : rdK t n6 (-1) n6' 3 [(119, nI o), (119, nI v), (119, nI o)] = true) (hl : t.length ≤ 60) (ho : o < 3) (hv : v < 3) (hov : ¬ o = v) (hb : B0.1 0 = nI v) :
    okI ((typ t S).2.1 0) ∧ (m_X7_run (typ t S) ((typ t S).1 0)).isSome = true ∧ (rnQ (typ t S)).1 = "" ∧ (rnQ (typ t S)).2.1 = 3 ∧ (rnS (typ t S)).1 0 = u_X0_changeWay (u_X0_changeWay (u_X0_changeWay B0 (nI o)) (nI v)) (nI o) ∧ (rnS (typ t S)).2.1 4 = 0 ∧ r_X7_errorPosition (rnS (typ t S)) = -1 ∧
      ∃ c, 0 < c ∧ c ≤ 8 ∧ (rnS (typ t S)).2.1 1 = nI c ∧ e_X7_undo (rnS (typ t S)) = "" ∧ r_X7_undo (rnS (typ t S)) = nI (c - 1) ∧ XS B0 n6' (sUndo (rnS (typ t S))) := by
  have nov : ¬ nI o = nI v := fun hh => hov ((nI_eq (by omega) (by omega)).mp hh)
  have hS' := hS
  obtain ⟨s1, ⟨n, c, s2, s3, s4, s5⟩, s6, s7, s8, s9⟩ := hS'
  obtain ⟨Z, z1, z2, z3, z4⟩ := rd_run h s6 s7 hl
  obtain ⟨⟨f1, f2, f3, f4⟩, -, -⟩ := typ_f t S 0 s6 (by omega)
  have z5 : ords (uB Z 1 (cpB B0 (Z.1 1))) 3 (fun i => [(119, nI o), (119, nI v), (119, nI o)].getD i (0, 0)) := z4
  have hb0 : ¬ B0.1 0 = nI o := by rw [hb]; exact fun hh => nov hh.symm
  have el : lp_X7_run_51 1000 0 0 B0 (uB Z 1 (cpB B0 (Z.1 1))) = some (0, nI 3, u_X0_changeWay (u_X0_changeWay (u_X0_changeWay B0 (nI o)) (nI v)) (nI o), uB Z 1 (cpB B0 (Z.1 1))) := by
    rw [show (lp_X7_run_51 1000 0 0 B0 (uB Z 1 (cpB B0 (Z.1 1)))) = lp_X7_run_51 (999 + 1) 0 (nI 0) B0 (uB Z 1 (cpB B0 (Z.1 1))) from rfl]
    rw [run_w (j := 999) (i := 0) (b := B0) z5 (by decide) ho rfl hb0]
    rw [show (lp_X7_run_51 999 0 (nI (0 + 1)) (u_X0_changeWay B0 (nI o)) (uB Z 1 (cpB B0 (Z.1 1)))) = lp_X7_run_51 (998 + 1) 0 (nI 1) (u_X0_changeWay B0 (nI o)) (uB Z 1 (cpB B0 (Z.1 1))) from rfl]
    rw [run_w (j := 998) (i := 1) z5 (by decide) hv rfl (by rw [cw_w]; exact nov)]
    rw [show (lp_X7_run_51 998 0 (nI (1 + 1)) (u_X0_changeWay (u_X0_changeWay B0 (nI o)) (nI v)) (uB Z 1 (cpB B0 (Z.1 1)))) = lp_X7_run_51 (997 + 1) 0 (nI 2) (u_X0_changeWay (u_X0_changeWay B0 (nI o)) (nI v)) (uB Z 1 (cpB B0 (Z.1 1))) from rfl]
    rw [run_w (j := 997) (i := 2) z5 (by decide) ho rfl (by rw [cw_w]; exact fun hh => nov hh.symm)]
    exact run_end (j := 996) z5
  have g0 : Z.2.1 0 = nI n := by rw [z2.2.1 0 (by decide) (by decide) (by decide) (by decide) (by decide)]; exact s4
  have g1 : Z.2.1 1 = nI c := by rw [z2.2.1 1 (by decide) (by decide) (by decide) (by decide) (by decide)]; exact s5
  have ek := keep1_eq (X := uB Z 1 (cpB B0 (Z.1 1))) g0 s2 g1 s3
  rw [show (uB Z 1 (cpB B0 (Z.1 1))).1 1 = cpB B0 (Z.1 1) from uB_s] at ek
  generalize hK : x_X1_keep1 (uB Z 1 (cpB B0 (Z.1 1))) = K at ek
  have er : m_X7_run (typ t S) ((typ t S).1 0) = some ("", K.2.1 3, u_X0_changeWay (u_X0_changeWay (u_X0_changeWay B0 (nI o)) (nI v)) (nI o), K) := by
    rw [run_eq z1 z2.2.2.2.2.1, f1, hS0, el, ← hK]
    rfl
  have eq : rnQ (typ t S) = ("", K.2.1 3, u_X0_changeWay (u_X0_changeWay (u_X0_changeWay B0 (nI o)) (nI v)) (nI o), K) := by unfold rnQ; rw [er]; rfl
  have es : rnS (typ t S) = uB K 0 (u_X0_changeWay (u_X0_changeWay (u_X0_changeWay B0 (nI o)) (nI v)) (nI o)) := by unfold rnS; rw [eq]
  have hc1 : 0 < (if c < 8 then c + 1 else 8) := by split <;> omega
  have hc2 : (if c < 8 then c + 1 else 8) ≤ 8 := by split <;> omega
  generalize (if c < 8 then c + 1 else 8) = c' at ek hc1 hc2
  have k4 : K.2.1 4 = 0 := by rw [ek]; exact z2.2.2.1
  have k7 : K.2.1 7 = -1 := by rw [ek]; exact z2.2.2.2.2.1
  have k3 : K.2.1 3 = 3 := by rw [ek]; exact z4.2.1
  have ko : okI ((typ t S).2.1 0) := by rw [f2 0 (by decide)]; exact hS.2.1.okI
  have ks : (m_X7_run (typ t S) ((typ t S).1 0)).isSome = true := by rw [er]; rfl
  have kq1 : (rnQ (typ t S)).1 = "" := by rw [eq]
  have kq2 : (rnQ (typ t S)).2.1 = 3 := by rw [eq]; exact k3
  clear er eq z1
  generalize rnS (typ t S) = R at es ⊢
  generalize u_X0_changeWay (u_X0_changeWay (u_X0_changeWay B0 (nI o)) (nI v)) (nI o) = b3 at es ⊢
  obtain ⟨u1, u2, u3⟩ := undo_eq (S := R) (n := n) (c := c') s2 (by rw [es, ek]; rfl) (by rw [es, ek]; rfl) hc1 hc2
  refine ⟨ko, ks, kq1, kq2, by rw [es]; exact uB_s, by rw [es]; exact k4, by rw [es]; exact k7, c', hc1, hc2, by rw [es, ek]; rfl, u1, u2, ?_⟩
  rw [u3]
  refine ⟨?_, ⟨n, c' - 1, s2, by omega, rfl, rfl⟩, ?_, ?_, ?_, ?_⟩
  · rw [uB_s]
    refine (ag_cpB _ _).tr ?_
    have e9 : R.1 (3 + n) = cpB (cpB B0 (Z.1 1)) ((uB Z 1 (cpB B0 (Z.1 1))).1 (3 + n)) := by
      rw [es, ek]
      show up (up (up Z.1 1 _) (3 + n) _) 0 _ (3 + n) = _
      rw [up_ne (by omega), up_self]
    rw [e9]
    exact (ag_cpB _ _).tr (ag_cpB _ _)
  · show R.2.1 4 = 0
    rw [es]; exact k4
  · show R.2.1 6 = _
    rw [es, ek]; exact z2.2.2.2.1
  · have e8 : (uB (uS (uS R 0 (nI n)) 1 (nI (c' - 1))) 0 (cpB (R.1 (3 + n)) (R.1 0))).1 2 = R.1 2 := bd_ne (by decide)
    rw [e8, es, bd_ne (by decide), ek, bd2 s2, z2.1 2 (by decide)]
    exact s8
  · show R.2.1 8 = 1
    rw [es, ek]
    show Z.2.1 8 = 1
    rw [z2.2.1 8 (by decide) (by decide) (by decide) (by decide) (by decide)]
    exact s9
/-- what a way leaves -/
theorem way_st {X : GS} {n c w : Nat} (hn : n < 8) (hc : c ≤ 8) (h0 : X.2.1 0 = nI n) (h1 : X.2.1 1 = nI c) (hw : w < 3) (hb : ¬ (X.1 0).1 0 = nI w) :
    (sWay X (nI w)).1 0 = u_X0_changeWay (X.1 0) (nI w) ∧ (sWay X (nI w)).2.1 0 = nI ((n + 1) % 8) ∧ (sWay X (nI w)).2.1 1 = nI (if c < 8 then c + 1 else 8) ∧ (∃ q, (sWay X (nI w)).1 (3 + n) = cpB (X.1 0) q) ∧ ∀ k, ¬ k = 0 → ¬ k = 3 + n → (sWay X (nI w)).1 k = X.1 k := by
  rw [(way_eq hw hb).2.2, keep0_eq _ h0 hn h1 hc]
  refine ⟨uB_s, rfl, rfl, ⟨X.1 (3 + n), ?_⟩, fun k k1 k2 => ?_⟩
  · show up (up X.1 (3 + n) _) 0 _ (3 + n) = _
    rw [up_ne (by omega), up_self]
  · show up (up X.1 (3 + n) _) 0 _ k = _
    rw [up_ne k1, up_ne k2]
/-- what undo leaves -/
theorem undo_st {S : GS} {n c : Nat} (hn : n < 8) (h0 : S.2.1 0 = nI ((n + 1) % 8)) (h1 : S.2.1 1 = nI c) (hc0 : 0 < c) (hc : c ≤ 8) :
    (e_X7_undo S = "" ∧ r_X7_undo S = nI (c - 1)) ∧ (sUndo S).2.1 0 = nI n ∧ (sUndo S).2.1 1 = nI (c - 1) ∧ (sUndo S).1 0 = cpB (S.1 (3 + n)) (S.1 0) ∧ ∀ k, ¬ k = 0 → (sUndo S).1 k = S.1 k := by
  obtain ⟨u1, u2, u3⟩ := undo_eq hn h0 h1 hc0 hc
  rw [u3]
  exact ⟨⟨u1, u2⟩, rfl, rfl, uB_s, fun k hk => up_ne hk⟩
/-- y's three ways, and back -/
theorem y_ways {B0 : BD} {Y : GS} {o v : Nat} (hY : IX Y) (hY0 : Y.1 0 = B0) (ho : o < 3) (hv : v < 3) (hov : ¬ o = v) (hb : B0.1 0 = nI v) :
    e_X7_way (Y.1 0) (nI o) = "" ∧ r_X7_way (Y.1 0) (nI o) = nI v ∧ okI ((sWay Y (nI o)).2.1 0) ∧
    e_X7_way ((sWay Y (nI o)).1 0) (nI v) = "" ∧ r_X7_way ((sWay Y (nI o)).1 0) (nI v) = nI o ∧ okI ((sWay (sWay Y (nI o)) (nI v)).2.1 0) ∧
    e_X7_way ((sWay (sWay Y (nI o)) (nI v)).1 0) (nI o) = "" ∧ r_X7_way ((sWay (sWay Y (nI o)) (nI v)).1 0) (nI o) = nI v ∧
    (sWay (sWay (sWay Y (nI o)) (nI v)) (nI o)).1 0 = u_X0_changeWay (u_X0_changeWay (u_X0_changeWay B0 (nI o)) (nI v)) (nI o) ∧
    ∃ c, 3 ≤ c ∧ c ≤ 8 ∧ (e_X7_undo (sWay (sWay (sWay Y (nI o)) (nI v)) (nI o)) = "" ∧ r_X7_undo (sWay (sWay (sWay Y (nI o)) (nI v)) (nI o)) = nI (c - 1)) ∧
      (e_X7_undo (sUndo (sWay (sWay (sWay Y (nI o)) (nI v)) (nI o))) = "" ∧ r_X7_undo (sUndo (sWay (sWay (sWay Y (nI o)) (nI v)) (nI o))) = nI (c - 2)) ∧
      (e_X7_undo (sUndo (sUndo (sWay (sWay (sWay Y (nI o)) (nI v)) (nI o)))) = "" ∧ r_X7_undo (sUndo (sUndo (sWay (sWay (sWay Y (nI o)) (nI v)) (nI o)))) = nI (c - 3)) ∧
      ag ((sUndo (sUndo (sUndo (sWay (sWay (sWay Y (nI o)) (nI v)) (nI o))))).1 0) B0 := by
  have nov : ¬ nI o = nI v := fun hh => hov ((nI_eq (by omega) (by omega)).mp hh)
  obtain ⟨-, ⟨n, c, n8, c8, i0, i1⟩, -⟩ := hY
  have hb0 : ¬ (Y.1 0).1 0 = nI o := by rw [hY0, hb]; exact fun hh => nov hh.symm
  obtain ⟨a1, a2, a3⟩ := way_eq (X := Y) ho hb0
  obtain ⟨p1, p2, p3, ⟨q, p4⟩, p5⟩ := way_st (X := Y) n8 c8 i0 i1 ho hb0
  generalize sWay Y (nI o) = Y1 at p1 p2 p3 p4 p5 ⊢
  have hb1 : ¬ (Y1.1 0).1 0 = nI v := by rw [p1, cw_w]; exact nov
  obtain ⟨b1, b2, b3⟩ := way_eq (X := Y1) hv hb1
  have m1 : (n + 1) % 8 < 8 := Nat.mod_lt _ (by decide)
  have d1 : (if c < 8 then c + 1 else 8) ≤ 8 ∧ 1 ≤ (if c < 8 then c + 1 else 8) ∧ (c ≤ (if c < 8 then c + 1 else 8)) := by split <;> omega
  generalize (if c < 8 then c + 1 else 8) = c1 at p3 d1
  obtain ⟨r1, r2, r3, -, r5⟩ := way_st (X := Y1) m1 d1.1 p2 p3 hv hb1
  generalize sWay Y1 (nI v) = Y2 at r1 r2 r3 r5 ⊢
  have hb2 : ¬ (Y2.1 0).1 0 = nI o := by rw [r1, cw_w]; exact fun hh => nov hh.symm
  obtain ⟨e1, e2, e3⟩ := way_eq (X := Y2) ho hb2
  have m2 : ((n + 1) % 8 + 1) % 8 < 8 := Nat.mod_lt _ (by decide)
  have d2 : (if c1 < 8 then c1 + 1 else 8) ≤ 8 ∧ 2 ≤ (if c1 < 8 then c1 + 1 else 8) := by split <;> omega
  generalize (if c1 < 8 then c1 + 1 else 8) = c2 at r3 d2
  obtain ⟨s1, s2, s3, -, s5⟩ := way_st (X := Y2) m2 d2.1 r2 r3 ho hb2
  generalize sWay Y2 (nI o) = Y3 at s1 s2 s3 s5 ⊢
  have d3 : (if c2 < 8 then c2 + 1 else 8) ≤ 8 ∧ 3 ≤ (if c2 < 8 then c2 + 1 else 8) := by split <;> omega
  generalize (if c2 < 8 then c2 + 1 else 8) = c3 at s3 d3
  obtain ⟨u1, u2, u3, u4, u5⟩ := undo_st (S := Y3) m2 s2 s3 (by omega) d3.1
  generalize sUndo Y3 = S1 at u2 u3 u4 u5 ⊢
  obtain ⟨v1, v2, v3, v4, v5⟩ := undo_st (S := S1) m1 u2 u3 (by omega) (by omega)
  generalize sUndo S1 = S2 at v2 v3 v4 v5 ⊢
  obtain ⟨x1, x2, x3, x4, x5⟩ := undo_st (S := S2) n8 v2 v3 (by omega) (by omega)
  refine ⟨a1, by rw [a2, hY0, hb], by rw [p2]; exact ⟨nI_pos (by omega), nI_lt8 m1⟩, b1, by rw [b2, p1, cw_w], by rw [r2]; exact ⟨nI_pos (by omega), nI_lt8 m2⟩, e1, by rw [e2, r1, cw_w], by rw [s1, r1, p1, hY0], c3, d3.2, d3.1, u1, v1, x1, ?_⟩
  rw [x4, v5 (3 + n) (by omega), u5 (3 + n) (by omega), s5 (3 + n) (by omega) (by omega), r5 (3 + n) (by omega) (by omega), p4, hY0]
  exact (ag_cpB _ _).tr (ag_cpB _ _)
/-- after save -/
theorem x_save {X : GS} (h : IX X) : XS (X.1 0) 0 (sSave X) ∧ (sSave X).1 0 = X.1 0 := by
  obtain ⟨-, h2, h3, h4⟩ := h
  have e1 : (sSave X).1 0 = X.1 0 := uB_s
  refine ⟨⟨by rw [e1]; exact ag.rf, h2, h3, h4, ?_, rfl⟩, e1⟩
  show ag (up (up X.1 2 (cpB (X.1 0) (X.1 2))) 0 (X.1 0) 2) (X.1 0)
  rw [up_ne (by decide), up_self]
  exact ag_cpB _ _
/-- after restore -/
theorem x_rest {B0 : BD} {n6 : Int32} {S : GS} (h : XS B0 n6 S) : e_X7_restore S = "" ∧ r_X7_restore S (S.1 0) = B0.1 3 ∧ (sRestore S).2.1 1 = 0 ∧ ag ((sRestore S).1 0) B0 := by
  obtain ⟨h1, h2, h3, h4, h5, h6⟩ := h
  have n0 : ¬ S.2.1 8 = 0 := by rw [h6]; decide
  refine ⟨by unfold e_X7_restore; rw [if_neg n0], ?_, ?_, ?_⟩
  · unfold r_X7_restore
    rw [if_neg n0]
    exact ((ag_cpB _ _).tr h5).1 3 (by decide)
  · unfold sRestore x_X7_restore
    rw [if_neg n0]
    rfl
  · unfold sRestore u_X7_restore
    rw [uB_s, if_neg n0]
    exact (ag_cpB _ _).tr h5
