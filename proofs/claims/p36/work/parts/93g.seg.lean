/-! ===== p36: the law, 7: x's part as one ===== -/
theorem rk_t1 : ∀ o, o < 3 → ∀ v, v < 3 → rdK (tW3 o v) 0 (-1) (nI o) 3 [(119, nI o), (119, nI v), (119, nI o)] = true := by decide +kernel
theorem rk_t2 : ∀ o, o < 3 → rdK (tWW o) (nI o) (-1) (nI o) 2 [(119, nI o), (119, nI o)] = true := by decide +kernel
theorem rk_t3 : ∀ o, o < 3 → rdK (tWG o) (nI o) (-1) 99 2 [(119, nI o), (103, 99)] = true := by decide +kernel
theorem rk_t4 : rdK (cds "w3") 99 (-1) 3 1 [(119, 3)] = true := by decide +kernel
theorem rk_t5 : rdK (cds "n77") 3 (-1) 77 1 [(110, 77)] = true := by decide +kernel
theorem ln_t1 : ∀ o, o < 3 → ∀ v, v < 3 → (tW3 o v).length ≤ 60 := by decide +kernel
theorem ln_t2 : ∀ o, o < 3 → (tWW o).length ≤ 60 := by decide +kernel
theorem ln_t3 : ∀ o, o < 3 → (tWG o).length ≤ 60 := by decide +kernel
theorem x_three_ok {B0 : BD} {S : GS} {t : List Int32} {n6 n6' : Int32} {o v : Nat} (hS : XS B0 n6 S) (hS0 : S.1 0 = B0) (h : rdK t n6 (-1) n6' 3 [(119, nI o), (119, nI v), (119, nI o)] = true) (hl : t.length ≤ 60) (ho : o < 3) (hv : v < 3) (hov : ¬ o = v) (hb : B0.1 0 = nI v) :
    okI ((rnS (typ t S)).2.1 0) := by
  have nov : ¬ nI o = nI v := fun hh => hov ((nI_eq (by omega) (by omega)).mp hh)
  have hS' := hS
  obtain ⟨s1, ⟨n, c, s2, s3, s4, s5⟩, s6, s7, s8, s9⟩ := hS'
  obtain ⟨Z, z1, z2, z3, z4⟩ := rd_run h s6 s7 hl
  obtain ⟨⟨f1, f2, f3, f4⟩, -, -⟩ := typ_f t S 0 s6 (by omega)
  have z5 : ords (uB Z 1 (cpB B0 (Z.1 1))) 3 (fun i => [(119, nI o), (119, nI v), (119, nI o)].getD i (0, 0)) := z4
  have hb0 : ¬ B0.1 0 = nI o := by rw [hb]; exact fun hh => nov hh.symm
  have el : lp_X7_run_51 1000 0 0 B0 (uB Z 1 (cpB B0 (Z.1 1))) = some (0, nI 3, u_X0_changeWay (u_X0_changeWay (u_X0_changeWay B0 (nI o)) (nI v)) (nI o), uB Z 1 (cpB B0 (Z.1 1))) := by
    rw [show (lp_X7_run_51 1000 0 0 B0 (uB Z 1 (cpB B0 (Z.1 1)))) = lp_X7_run_51 (999 + 1) 0 (nI 0) B0 (uB Z 1 (cpB B0 (Z.1 1))) from rfl]
    rw [run_w (j := 999) (i := 0) (b := B0) z5 (by decide) ho rfl hb0]
    rw [show (lp_X7_run_51 999 0 (nI (0 + 1)) (u_X0_changeWay B0 (nI o)) (uB Z 1 (cpB B0 (Z.1 1)))) = lp_X7_run_51 (998 + 1) 0 (nI 1) (u_X0_changeWay B0 (nI o)) (uB Z 1 (cpB B0 (Z.1 1))) from rfl]
    rw [run_w (j := 998) (i := 1) z5 (by decide) hv rfl (by rw [cw_w]; exact nov)]
    rw [show (lp_X7_run_51 998 0 (nI (1 + 1)) (u_X0_changeWay (u_X0_changeWay B0 (nI o)) (nI v)) (uB Z 1 (cpB B0 (Z.1 1)))) = lp_X7_run_51 (997 + 1) 0 (nI 2) (u_X0_changeWay (u_X0_changeWay B0 (nI o)) (nI v)) (uB Z 1 (cpB B0 (Z.1 1))) from rfl]
    rw [run_w (j := 997) (i := 2) z5 (by decide) ho rfl (by rw [cw_w]; exact fun hh => nov hh.symm)]
    exact run_end (j := 996) z5
  have g0 : Z.2.1 0 = nI n := by rw [z2.2.1 0 (by decide) (by decide) (by decide) (by decide) (by decide)]; exact s4
  have g1 : Z.2.1 1 = nI c := by rw [z2.2.1 1 (by decide) (by decide) (by decide) (by decide) (by decide)]; exact s5
  have ek := keep1_eq (X := uB Z 1 (cpB B0 (Z.1 1))) g0 s2 g1 s3
  generalize hK : x_X1_keep1 (uB Z 1 (cpB B0 (Z.1 1))) = K at ek
  have er : m_X7_run (typ t S) ((typ t S).1 0) = some ("", K.2.1 3, u_X0_changeWay (u_X0_changeWay (u_X0_changeWay B0 (nI o)) (nI v)) (nI o), K) := by
    rw [run_eq z1 z2.2.2.2.2.1, f1, hS0, el, ← hK]
    rfl
  have eq : rnQ (typ t S) = ("", K.2.1 3, u_X0_changeWay (u_X0_changeWay (u_X0_changeWay B0 (nI o)) (nI v)) (nI o), K) := by unfold rnQ; rw [er]; rfl
  have es : rnS (typ t S) = uB K 0 (u_X0_changeWay (u_X0_changeWay (u_X0_changeWay B0 (nI o)) (nI v)) (nI o)) := by unfold rnS; rw [eq]
  rw [es]
  have k0 : K.2.1 0 = nI ((n + 1) % 8) := by rw [ek]; rfl
  show okI (K.2.1 0)
  rw [k0]
  exact ⟨nI_pos (by omega), nI_lt8 (Nat.mod_lt _ (by decide))⟩
theorem o_of {v : Nat} (h : v < 3) : ∃ o, o < 3 ∧ ¬ o = v ∧ nI v + 1 - (nI v + 1) / 3 * 3 = nI o := by
  rcases (show v = 0 ∨ v = 1 ∨ v = 2 by omega) with rfl | rfl | rfl
  · exact ⟨1, by decide, by decide, by decide⟩
  · exact ⟨2, by decide, by decide, by decide⟩
  · exact ⟨0, by decide, by decide, by decide⟩
section
variable {F : FxT} {kc ks : Nat} {Wk : lW} {k n : Nat}
theorem seg_X (C : CoL [] F RL cL_law 12 20 kc ks Wk) (hL : F.1 ≤ 260) (hk : k + 16000 ≤ kc) (hn : n + 160000 ≤ ks)
    (kk : ∀ (ax : Nat) (S : GS) (B0 : BD) (nl nw : Nat) (jn : Int32) (L2 L5 L6 : Option Value) (j7 : Int32), XS B0 0 S → B0.1 3 = nI nl → nl ≤ 16 → B0.1 4 = nI nw → nw ≤ 6 → (∀ Z : GS, ag (Z.1 0) B0 → stH Z nl nw = jn) →
      Wk (k + 16000) (n + 160000) 517 [some (.ref (F.2.2.1 + 1000)), some (.ref (ax + 1000)), L2, some (.int (nI nl)), some (.int jn), L5, L6, some (.int j7), none, none, none, none] [] [(ax, mkH S)]) :
    Wk k n 0 [some (.ref (F.2.2.1 + 1000)), none, none, none, none, none, none, none, none, none, none, none] [] [] := by
  have hI := ix_bld (atX F.2.1 F.1)
  generalize hX : bld (atX F.2.1 F.1) = X at hI
  obtain ⟨⟨nl, h16, h3⟩, ⟨nw, h6, h4⟩, ⟨v, hv, h0⟩, -⟩ := hI.1
  obtain ⟨o, ho, hov, hoe⟩ := o_of hv
  refine seg_A C hL hX.symm h3 h16 h4 h6 h0 hoe (by omega) (by omega) (fun ax ay => ?_)
  obtain ⟨hS, hS0⟩ := x_save hI
  have hIB := hI.1
  have sj : ∀ Z : GS, ag (Z.1 0) (X.1 0) → stH Z nl nw = stH X nl nw := fun Z hZ => ag_stH hZ nl nw
  obtain ⟨y1, y2, y3, y4, y5, y6, y7, y8, yB, c3, c31, c32, ⟨e1, e2⟩, ⟨e3, e4⟩, ⟨e5, e6⟩, eag⟩ := y_ways hI rfl ho hv hov h0
  have nov : ¬ nI o = nI v := fun hh => hov ((nI_eq (by omega) (by omega)).mp hh)
  have i1 : IHs (sWay X (nI o)) := way_ihs hI.2.1 ho (by rw [h0]; exact fun hh => nov hh.symm)
  have b1 : (sWay X (nI o)).1 0 = u_X0_changeWay (X.1 0) (nI o) := by
    obtain ⟨n, c, n8, c8, i0, i1⟩ := hI.2.1
    exact (way_st n8 c8 i0 i1 ho (by rw [h0]; exact fun hh => nov hh.symm)).1
  have i2 : IHs (sWay (sWay X (nI o)) (nI v)) := way_ihs i1 hv (by rw [b1, cw_w]; exact nov)
  have b2 : (sWay (sWay X (nI o)) (nI v)).1 0 = u_X0_changeWay (u_X0_changeWay (X.1 0) (nI o)) (nI v) := by
    obtain ⟨n, c, n8, c8, j0, j1⟩ := i1
    rw [(way_st n8 c8 j0 j1 hv (by rw [b1, cw_w]; exact nov)).1, b1]
  have i3 : IHs (sWay (sWay (sWay X (nI o)) (nI v)) (nI o)) := way_ihs i2 ho (by rw [b2, cw_w]; exact fun hh => nov hh.symm)
  obtain ⟨x1, x2, x3, x4, xB, x5, x6, cx, cx1, cx2, x7, x8, x9, hU⟩ := x_three hS hS0 (rk_t1 o ho v hv) (ln_t1 o ho v hv) ho hv hov h0
  have xk := x_three_ok hS hS0 (rk_t1 o ho v hv) (ln_t1 o ho v hv) ho hv hov h0
  have ibW : IB (u_X0_changeWay (u_X0_changeWay (u_X0_changeWay (X.1 0) (nI o)) (nI v)) (nI o)) := ib_way (ib_way (ib_way hIB ho) hv) ho
  rw [← xB] at ibW
  obtain ⟨⟨nl', g16, g3⟩, ⟨nw', g6, g4⟩, -⟩ := ibW
  have hm4 : (sSave X).2.1 4 = nI 0 := hS.2.2.1
  refine seg_B (m4 := 0) (now := 0) C ho hv hm4 x1 x2 x3 x4 hI.2.1.okI y1 y2 y3 y4 y5 y6 y7 y8 rfl rfl (xB.trans yB.symm) g3 g16 g4 g6 x5 x6 (by omega) (by omega) ?_
  generalize rnS (typ (tW3 o v) (sSave X)) = S1 at *
  generalize sWay (sWay (sWay X (nI o)) (nI v)) (nI o) = Y3 at *
  have i4 := undo_ihs i3 e1
  have i5 := undo_ihs i4 e3
  refine seg_C C xk x7 cx1 x8 x9 rfl (by rw [hU.1.1 3 (by decide)]; exact h3) h16 (by rw [hU.1.1 4 (by decide)]; exact h4) h6 (sj _ hU.1)
    i3.okI e1 (by rw [e2]; exact nI_pos (by omega)) rfl i4.okI e3 (by rw [e4]; exact nI_pos (by omega)) rfl i5.okI e5 (by rw [e6]; exact nI_pos (by omega)) rfl
    (by rw [eag.1 3 (by decide)]; exact h3) (by rw [eag.1 4 (by decide)]; exact h4) (sj _ eag) (by omega) (by omega) ?_
  generalize sUndo S1 = U at *
  have hb : ¬ (X.1 0).1 0 = nI o := by rw [h0]; exact fun hh => nov hh.symm
  have v3 : ∀ {n6 : Int32} {Z : GS}, XS (X.1 0) n6 Z → (Z.1 0).1 3 = nI nl := fun h => by rw [h.1.1 3 (by decide)]; exact h3
  have v4 : ∀ {n6 : Int32} {Z : GS}, XS (X.1 0) n6 Z → (Z.1 0).1 4 = nI nw := fun h => by rw [h.1.1 4 (by decide)]; exact h4
  obtain ⟨p1, p2, p3, p4, p5, p6, p7⟩ := x_ww hU (rk_t2 o ho) (ln_t2 o ho) ho hb
  refine seg_D C ho hU.2.2.1 p1 p2 p3 rfl p6 p7 p4 (v3 p5) h16 (v4 p5) h6 (sj _ p5.1) (by omega) (by omega) ?_
  generalize rnS (typ (tWW o) U) = S2 at *
  obtain ⟨q1, q2, q3, q4, q5⟩ := x_wg p5 (rk_t3 o ho) (ln_t3 o ho) ho hb
  refine seg_E C ho p5.2.2.1 q1 q2 q3 rfl q4 (v3 q5) h16 (v4 q5) h6 (sj _ q5.1) (by omega) (by omega) ?_
  generalize rnS (typ (tWG o) S2) = S3 at *
  obtain ⟨r1, r2, r3, r4, r5⟩ := x_w3 q5 rk_t4 (by decide)
  refine seg_F (nl := 0) (nw := 0) C ho q5.2.2.1 r1 r2 r3 rfl r4 (by omega) (by omega) ?_
  generalize rnS (typ (cds "w3") S3) = S4 at *
  obtain ⟨t1, t2, t3, t4, t5, t6, t7⟩ := x_n77 hIB r5 rk_t5 (by decide)
  refine seg_G C ho r5.2.2.1 t1 t2 t3 rfl t6 t7 (v3 t5) h16 (v4 t5) h6 (sj _ t5.1) (by omega) (by omega) ?_
  generalize rnS (typ (cds "n77") S4) = S5 at *
  refine seg_H C t5 h3 h16 h4 h6 sj (by omega) (by omega) (fun S6 hS6 => ?_)
  exact C.wd (by omega) (by omega) (kk ax S6 (X.1 0) nl nw _ _ _ _ _ hS6 h3 h16 h4 h6 sj)
end
