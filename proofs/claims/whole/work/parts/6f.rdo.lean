/-! ===== the pure part, 25: one order is read ===== -/
theorem figs_thrown {X : GS} {most : Int32} (h : ¬ X.2.1 21 = 0) : m_X8_figures X most = some (0, uS X 21 1) := by
  unfold m_X8_figures
  rw [if_neg h]
  show (bnd3 (lp_X8_figures_34 most (999 + 1) 0 0 (uS X 21 1)) fun a _ X => some (a, X)) = _
  rw [lp_X8_figures_34, if_neg (show ¬ (uS X 21 1).2.1 21 = 0 by rw [uS_at]; decide), bnd3_some]
def MF (M M' : GS) : Prop := M'.1 = M.1 ∧ (∀ k, ¬ k = 20 → ¬ k = 21 → M'.2.1 k = M.2.1 k) ∧ (∀ k, ¬ k = 11 → M'.2.2.1 k = M.2.2.1 k) ∧ M'.2.2.2 = M.2.2.2
theorem MF.refl (M : GS) : MF M M := ⟨rfl, fun _ _ _ => rfl, fun _ _ => rfl, rfl⟩
theorem MF.trans {C D E : GS} (h : MF C D) (g : MF D E) : MF C E := ⟨g.1.trans h.1, fun k h1 h2 => (g.2.1 k h1 h2).trans (h.2.1 k h1 h2), fun k h1 => (g.2.2.1 k h1).trans (h.2.2.1 k h1), g.2.2.2.trans h.2.2.2⟩
theorem MF.s20 {C D : GS} (h : MF C D) (v : Int32) : MF C (uS D 20 v) := h.trans ⟨rfl, fun k h1 _ => up_ne h1, fun _ _ => rfl, rfl⟩
theorem MF.s21 {C D : GS} (h : MF C D) (v : Int32) : MF C (uS D 21 v) := h.trans ⟨rfl, fun k _ h1 => up_ne h1, fun _ _ => rfl, rfl⟩
theorem MF.a11 {C D : GS} (h : MF C D) (v : Nat → Int32) : MF C (uA D 11 v) := h.trans ⟨rfl, fun _ _ _ => rfl, fun k h1 => up_ne h1, rfl⟩
section
variable {X Y Z : GS} {v w k : Int32}
theorem rsA_thrown (h : m_X8_figures X 2 = some (v, Y)) (hY : ¬ Y.2.1 21 = 0) (h1 : inR (k + 1) 180) (h2 : inR (k + 2) 180) : ∃ M', rsA X k = some M' ∧ ¬ M'.2.1 21 = 0 ∧ M'.2.1 20 = Y.2.1 20 ∧ MF Y M' := by
  unfold rsA
  rw [h, bnd2_some, if_pos h1, if_neg hY, figs_thrown (by rw [uS_ne (by decide), uS_at]; decide), bnd2_some, if_pos h2]
  refine ⟨_, rfl, ?_, ?_, ?_⟩
  · show ¬ up (up (up Y.2.1 21 1) 20 (Y.2.1 20 + 0)) 21 1 21 = 0
    rw [up_self]; decide
  · show up (up (up Y.2.1 21 1) 20 (Y.2.1 20 + 0)) 21 1 20 = _
    rw [up_ne (by decide), up_self, Int32.add_zero]
  · exact (((((MF.refl Y).a11 _).s21 _).s20 _).s21 _).a11 _
theorem rsA_none (h : m_X8_figures X 2 = some (v, Y)) (hY : Y.2.1 21 = 0) (h1 : inR (k + 1) 180) (h2 : inR (k + 2) 180) (hw : m_X8_here (uA Y 11 (up (Y.2.2.1 11) (k + 1).toNatClampNeg v)) = some w) (hw2 : ¬ w = 58) : ∃ M', rsA X k = some M' ∧ ¬ M'.2.1 21 = 0 ∧ M'.2.1 20 = Y.2.1 20 ∧ MF Y M' := by
  unfold rsA
  rw [h, bnd2_some, if_pos h1, if_pos hY, hw, bnd1_some, if_neg hw2, figs_thrown (by rw [uS_ne (by decide), uS_at]; decide), bnd2_some, if_pos h2]
  refine ⟨_, rfl, ?_, ?_, ?_⟩
  · show ¬ up (up (up Y.2.1 21 1) 20 (Y.2.1 20 + 0)) 21 1 21 = 0
    rw [up_self]; decide
  · show up (up (up Y.2.1 21 1) 20 (Y.2.1 20 + 0)) 21 1 20 = _
    rw [up_ne (by decide), up_self, Int32.add_zero]
  · exact (((((MF.refl Y).a11 _).s21 _).s20 _).s21 _).a11 _
theorem rsA_some (h : m_X8_figures X 2 = some (v, Y)) (hY : Y.2.1 21 = 0) (h1 : inR (k + 1) 180) (h2 : inR (k + 2) 180) (hw : m_X8_here (uA Y 11 (up (Y.2.2.1 11) (k + 1).toNatClampNeg v)) = some 58) (hf : m_X8_figures (uS (uS (uA Y 11 (up (Y.2.2.1 11) (k + 1).toNatClampNeg v)) 21 0) 20 (Y.2.1 20 + 1)) 2 = some (w, Z)) : rsA X k = some (uA Z 11 (up (Z.2.2.1 11) (k + 2).toNatClampNeg w)) := by
  unfold rsA
  rw [h, bnd2_some, if_pos h1, if_pos hY, hw, bnd1_some, if_pos rfl, hf, bnd2_some, if_pos h2]
theorem rsB_some {most : Int32} (h : m_X8_figures X most = some (v, Y)) (h1 : inR (k + 1) 180) : rsB X k most = some (uA Y 11 (up (Y.2.2.1 11) (k + 1).toNatClampNeg v)) := by
  unfold rsB
  rw [h, bnd2_some, if_pos h1]
end
def kA (v : Int32) : Prop := v = 108 ∨ v = 113 ∨ v = 114
def kB (v : Int32) : Prop := v = 103 ∨ v = 110
def cA (C : GS) : GS := uS C 5 (C.2.1 5 + 1)
theorem cl_A {C : GS} {v : Int32} (hs : r_X4_sign C = v) (hv : kA v) (o : Int32) :
    r_X4_readOrder C = (if r_X4_readNumber (cA C) = 0 then 0 else if r_X4_readSign (x_X4_readNumber (cA C)) 58 = 0 then 0 else if r_X4_readNumber (x_X4_readSign (x_X4_readNumber (cA C)) 58) = 0 then 0 else 1) ∧
    x_X4_readOrder C o = (if r_X4_readNumber (cA C) = 0 then x_X4_readNumber (cA C) else if r_X4_readSign (x_X4_readNumber (cA C)) 58 = 0 then x_X4_readSign (x_X4_readNumber (cA C)) 58 else if r_X4_readNumber (x_X4_readSign (x_X4_readNumber (cA C)) 58) = 0 then x_X4_readNumber (x_X4_readSign (x_X4_readNumber (cA C)) 58) else x_X4_put (x_X4_readNumber (x_X4_readSign (x_X4_readNumber (cA C)) 58)) o v ((x_X4_readNumber (cA C)).2.1 6) ((x_X4_readNumber (x_X4_readSign (x_X4_readNumber (cA C)) 58)).2.1 6)) := by
  unfold r_X4_readOrder x_X4_readOrder cA
  have e1 : ¬ r_X4_isKind v = 0 := by rcases hv with rfl | rfl | rfl <;> decide
  have e2 : ¬ v = 119 := by rcases hv with rfl | rfl | rfl <;> decide
  have e3 : ¬ r_X4_hasAmount v = 0 := by rcases hv with rfl | rfl | rfl <;> decide
  rw [hs, if_neg e1, if_neg e1, if_neg e2, if_neg e2, if_neg e3, if_neg e3]
  exact ⟨rfl, rfl⟩
theorem cl_B {C : GS} {v : Int32} (hs : r_X4_sign C = v) (hv : kB v) (o : Int32) :
    r_X4_readOrder C = (if r_X4_readNumber (cA C) = 0 then 0 else 1) ∧
    x_X4_readOrder C o = (if r_X4_readNumber (cA C) = 0 then x_X4_readNumber (cA C) else x_X4_put (x_X4_readNumber (cA C)) o v ((x_X4_readNumber (cA C)).2.1 6) 0) := by
  unfold r_X4_readOrder x_X4_readOrder cA
  have e1 : ¬ r_X4_isKind v = 0 := by rcases hv with rfl | rfl <;> decide
  have e2 : ¬ v = 119 := by rcases hv with rfl | rfl <;> decide
  have e3 : r_X4_hasAmount v = 0 := by rcases hv with rfl | rfl <;> decide
  rw [hs, if_neg e1, if_neg e1, if_neg e2, if_neg e2, if_pos e3, if_pos e3]
  exact ⟨rfl, rfl⟩
theorem cl_W {C : GS} (hs : r_X4_sign C = 119) (o : Int32) :
    r_X4_readOrder C = (if r_X4_readDigit (cA C) = 0 then 0 else 1) ∧
    x_X4_readOrder C o = (if r_X4_readDigit (cA C) = 0 then x_X4_readDigit (cA C) else x_X4_put (x_X4_readDigit (cA C)) o 119 ((x_X4_readDigit (cA C)).2.1 6) 0) := by
  unfold r_X4_readOrder x_X4_readOrder cA
  rw [hs, if_neg (show ¬ r_X4_isKind 119 = 0 by decide), if_neg (show ¬ r_X4_isKind 119 = 0 by decide), if_pos rfl, if_pos rfl, if_pos (show r_X4_hasAmount 119 = 0 by decide), if_pos (show r_X4_hasAmount 119 = 0 by decide)]
  exact ⟨rfl, rfl⟩
theorem cl_N {C : GS} {v : Int32} (hs : r_X4_sign C = v) (h1 : ¬ v = 103) (h2 : ¬ v = 108) (h3 : ¬ v = 110) (h4 : ¬ v = 113) (h5 : ¬ v = 114) (h6 : ¬ v = 119) (o : Int32) : r_X4_readOrder C = 0 ∧ x_X4_readOrder C o = C := by
  have e : r_X4_isKind v = 0 := by
    unfold r_X4_isKind r_X4_hasAmount
    rw [if_neg h2, if_neg h4, if_neg h5, if_pos rfl, if_neg h1, if_neg h3, if_neg h6]
  unfold r_X4_readOrder x_X4_readOrder
  rw [hs, if_pos e, if_pos e]
  exact ⟨rfl, rfl⟩
def TA (C C' M M' : GS) (o : Nat) : Prop := ∃ k f s : Int32, C'.2.2.1 1 = up (C.2.2.1 1) o k ∧ C'.2.2.1 2 = up (C.2.2.1 2) o f ∧ C'.2.2.1 3 = up (C.2.2.1 3) o s ∧ C'.2.1 3 = C.2.1 3 ∧ M'.2.2.1 11 (3 * o) = k ∧ M'.2.2.1 11 (3 * o + 1) = f ∧ (kA k → M'.2.2.1 11 (3 * o + 2) = s) ∧ (∀ z, z < 3 * o → M'.2.2.1 11 z = M.2.2.1 11 z) ∧ (kA k ∨ kB k ∨ k = 119)
theorem put_eq {Y : GS} {o : Nat} (ho : o < 20) {k f s : Int32} : x_X4_put Y (nI o) k f s = uA (uA (uA Y 1 (up (Y.2.2.1 1) o k)) 2 (up (Y.2.2.1 2) o f)) 3 (up (Y.2.2.1 3) o s) := by
  unfold x_X4_put
  rw [if_neg (nI_pos (by omega)), if_neg (geL (k := 20) (x := 20) rfl ho (by omega)), nI_clamp (by omega)]
theorem PR.put {C M : GS} {i t : Nat} (P : PR C M i t) {a1 a2 a3 : Nat → Int32} : PR (uA (uA (uA C 1 a1) 2 a2) 3 a3) M i t := by
  obtain ⟨h1, h2, h3, h4, h5', h6, h7, h8⟩ := P
  refine ⟨h1, h2, h3, h4, h5', h6, h7, fun k hk => ?_⟩
  rw [uA_ne (by decide), uA_ne (by decide), uA_ne (by decide)]
  exact h8 k hk
theorem PR.rs {C M : GS} {i t : Nat} (P : PR C M i t) : (r_X4_readSign C 58 = 0 ∧ x_X4_readSign C 58 = C ∧ ∃ w, m_X8_here M = some w ∧ ¬ w = 58) ∨ (r_X4_readSign C 58 = 1 ∧ i < t ∧ x_X4_readSign C 58 = uS C 5 (nI (i + 1)) ∧ m_X8_here M = some 58) := by
  unfold r_X4_readSign x_X4_readSign
  by_cases c : r_X4_sign C = 58
  · right
    rw [if_pos c, if_pos c]
    have hi : i < t := by
      rcases P.sign.2 with ⟨-, h⟩ | ⟨h, -⟩
      · rw [h] at c; exact absurd c (by decide)
      · exact h
    exact ⟨rfl, hi, by rw [(P.step hi).1], by rw [← c]; exact P.sign.1⟩
  · left
    rw [if_neg c, if_neg c]
    exact ⟨rfl, rfl, _, P.sign.1, c⟩

theorem TA.mk3 {C Y M M' : GS} {o : Nat} {v f s : Int32} (hc : CF C Y) (ho : o < 20) (hm : M'.2.2.1 11 = up (up (up (M.2.2.1 11) (3 * o) v) (3 * o + 1) f) (3 * o + 2) s) (hk : kA v) : TA C (x_X4_put Y (nI o) v f s) M M' o := by
  rw [put_eq ho, hc.2.2]
  refine ⟨v, f, s, ?_, ?_, ?_, hc.2.1 3 (by decide) (by decide), ?_, ?_, fun _ => ?_, fun z hz => ?_, Or.inl hk⟩
  · rw [uA_ne (by decide), uA_ne (by decide), uA_at]
  · rw [uA_ne (by decide), uA_at]
  · rw [uA_at]
  · rw [hm, up_ne (by omega), up_ne (by omega), up_self]
  · rw [hm, up_ne (by omega), up_self]
  · rw [hm, up_self]
  · rw [hm, up_ne (by omega), up_ne (by omega), up_ne (by omega)]
theorem TA.mk2 {C Y M M' : GS} {o : Nat} {v f s : Int32} (hc : CF C Y) (ho : o < 20) (hm : M'.2.2.1 11 = up (up (M.2.2.1 11) (3 * o) v) (3 * o + 1) f) (hk : kB v ∨ v = 119) : TA C (x_X4_put Y (nI o) v f s) M M' o := by
  rw [put_eq ho, hc.2.2]
  refine ⟨v, f, s, ?_, ?_, ?_, hc.2.1 3 (by decide) (by decide), ?_, ?_, fun h => ?_, fun z hz => ?_, Or.inr hk⟩
  · rw [uA_ne (by decide), uA_ne (by decide), uA_at]
  · rw [uA_ne (by decide), uA_at]
  · rw [uA_at]
  · rw [hm, up_ne (by omega), up_self]
  · rw [hm, up_self]
  · exfalso
    rcases hk with (h1 | h1) | h1 <;> subst h1 <;> rcases h with h | h | h <;> exact absurd h (by decide)
  · rw [hm, up_ne (by omega), up_ne (by omega)]
theorem order_ok {C M : GS} {i t o : Nat} (P : PR C M i t) (ho : o < 20) :
    (r_X4_readOrder C = 0 ∧ ∃ M' j, m_X8_readsOrder M (nI (3 * o)) = some M' ∧ ¬ M'.2.1 21 = 0 ∧ j ≤ 60 ∧ M'.2.1 20 = nI j ∧ (x_X4_readOrder C (nI o)).2.1 5 = nI j ∧ MF M M') ∨
    (r_X4_readOrder C = 1 ∧ ∃ M' j, m_X8_readsOrder M (nI (3 * o)) = some M' ∧ i + 2 ≤ j ∧ j ≤ t ∧ PR (x_X4_readOrder C (nI o)) M' j t ∧ MF M M' ∧ TA C (x_X4_readOrder C (nI o)) M M' o) := by
  obtain ⟨v, hs⟩ : ∃ v, r_X4_sign C = v := ⟨_, rfl⟩
  have hh : m_X8_here M = some v := by rw [← hs]; exact P.sign.1
  have hk : inR (nI (3 * o)) 180 := inR_nI (by omega) (by omega)
  have hk1 : inR (nI (3 * o) + 1) 180 := by rw [nI_1]; exact inR_nI (by omega) (by omega)
  have e2 : nI (3 * o) + 2 = nI (3 * o + 2) := (Int32.ofNat_add (3 * o) 2).symm
  have hk2 : inR (nI (3 * o) + 2) 180 := by rw [e2]; exact inR_nI (by omega) (by omega)
  have c0 : (nI (3 * o)).toNatClampNeg = 3 * o := nI_clamp (by omega)
  have c1 : (nI (3 * o) + 1).toNatClampNeg = 3 * o + 1 := by rw [nI_1, nI_clamp (by omega)]
  have c2 : (nI (3 * o) + 2).toNatClampNeg = 3 * o + 2 := by rw [e2, nI_clamp (by omega)]
  obtain ⟨R1, R2, R3, R4⟩ := rd_eq (k := nI (3 * o)) hh hk
  rw [c0] at R1 R2 R3
  by_cases hN : kA v ∨ kB v ∨ v = 119
  · have hi : i < t := by
      rcases P.sign.2 with ⟨-, h⟩ | ⟨h, -⟩
      · rw [hs] at h; subst h
        rcases hN with (h | h | h) | (h | h) | h <;> exact absurd h (by decide)
      · exact h
    obtain ⟨s1, s2, P1'⟩ := P.step hi
    have eC : cA C = uS C 5 (nI (i + 1)) := by unfold cA; rw [s1]
    rw [s2] at R1 R2 R3
    have P1 := P1'.told (up ((uS M 20 (nI (i + 1))).2.2.1 11) (3 * o) v)
    have F1 : MF M (uA (uS M 20 (nI (i + 1))) 11 (up ((uS M 20 (nI (i + 1))).2.2.1 11) (3 * o) v)) := ((MF.refl M).s20 _).a11 _
    have D1 : CF C (uS C 5 (nI (i + 1))) := CF.s5 _ _
    have A1 : (uA (uS M 20 (nI (i + 1))) 11 (up ((uS M 20 (nI (i + 1))).2.2.1 11) (3 * o) v)).2.2.1 11 = up (M.2.2.1 11) (3 * o) v := uA_at
    have R1' : kA v → m_X8_readsOrder M (nI (3 * o)) = rsA (uA (uS M 20 (nI (i + 1))) 11 (up ((uS M 20 (nI (i + 1))).2.2.1 11) (3 * o) v)) (nI (3 * o)) := R1
    have R2' : kB v → m_X8_readsOrder M (nI (3 * o)) = rsB (uA (uS M 20 (nI (i + 1))) 11 (up ((uS M 20 (nI (i + 1))).2.2.1 11) (3 * o) v)) (nI (3 * o)) 2 := R2
    have R3' : v = 119 → m_X8_readsOrder M (nI (3 * o)) = rsB (uA (uS M 20 (nI (i + 1))) 11 (up ((uS M 20 (nI (i + 1))).2.2.1 11) (3 * o) v)) (nI (3 * o)) 1 := R3
    clear R1 R2 R3 R4
    generalize uA (uS M 20 (nI (i + 1))) 11 (up ((uS M 20 (nI (i + 1))).2.2.1 11) (3 * o) v) = M1 at *
    generalize uS C 5 (nI (i + 1)) = C1 at *
    have h60 := P.2.1
    rcases hN with hA | hB
    · obtain ⟨q1, q2⟩ := cl_A hs hA (nI o)
      rw [eC] at q1 q2
      rw [R1' hA]
      rcases fig2_ok P1 with ⟨f1, f2, f3⟩ | ⟨f1, j, f2, f3, f4, f5, f6⟩
      · left
        rw [if_pos f1] at q1 q2
        obtain ⟨M', m1, m2, m3, m4⟩ := rsA_thrown f3 (by rw [uS_at]; decide) hk1 hk2
        refine ⟨q1, M', i + 1, m1, m2, by omega, ?_, ?_, F1.trans (((MF.refl M1).s21 1).trans m4)⟩
        · rw [m3, uS_ne (by decide)]; exact P1.2.2.2.1
        · rw [q2, f2]; exact P1.2.2.1
      · have f1' : ¬ r_X4_readNumber C1 = 0 := by rw [f1]; decide
        rw [if_neg f1'] at q1 q2
        have hY := f6.2.2.2.2.2.2.1
        have P2 := f6.told (up ((uS M1 20 (nI j)).2.2.1 11) (nI (3 * o) + 1).toNatClampNeg ((x_X4_readNumber C1).2.1 6))
        rcases P2.rs with ⟨g1, g2, w, g3, g4⟩ | ⟨g1, g2, g3, g4⟩
        · left
          rw [if_pos g1] at q1 q2
          obtain ⟨M', m1, m2, m3, m4⟩ := rsA_none f5 hY hk1 hk2 g3 g4
          refine ⟨q1, M', j, m1, m2, by omega, ?_, ?_, F1.trans (((MF.refl M1).s20 _).trans m4)⟩
          · rw [m3]; exact f6.2.2.2.1
          · rw [q2, g2]; exact f6.2.2.1
        · have g1' : ¬ r_X4_readSign (x_X4_readNumber C1) 58 = 0 := by rw [g1]; decide
          rw [if_neg g1', g3] at q1 q2
          obtain ⟨t1, t2, P3⟩ := P2.step g2
          have hm := P2.m21
          have D3 : CF C (uS (x_X4_readNumber C1) 5 (nI (j + 1))) := (D1.trans f4).trans (CF.s5 _ _)
          have F3 : MF M (uS (uA (uS M1 20 (nI j)) 11 (up ((uS M1 20 (nI j)).2.2.1 11) (nI (3 * o) + 1).toNatClampNeg ((x_X4_readNumber C1).2.1 6))) 20 (nI (j + 1))) := ((F1.s20 _).a11 _).s20 _
          have A3 : (uS (uA (uS M1 20 (nI j)) 11 (up ((uS M1 20 (nI j)).2.2.1 11) (nI (3 * o) + 1).toNatClampNeg ((x_X4_readNumber C1).2.1 6))) 20 (nI (j + 1))).2.2.1 11 = up (up (M.2.2.1 11) (3 * o) v) (3 * o + 1) ((x_X4_readNumber C1).2.1 6) := by
            rw [c1]
            show up M1.2.2.1 11 (up (M1.2.2.1 11) (3 * o + 1) ((x_X4_readNumber C1).2.1 6)) 11 = _
            rw [up_self, A1]
          have ef : ∀ w Z, m_X8_figures (uS (uA (uS M1 20 (nI j)) 11 (up ((uS M1 20 (nI j)).2.2.1 11) (nI (3 * o) + 1).toNatClampNeg ((x_X4_readNumber C1).2.1 6))) 20 (nI (j + 1))) 2 = some (w, Z) → rsA M1 (nI (3 * o)) = some (uA Z 11 (up (Z.2.2.1 11) (nI (3 * o) + 2).toNatClampNeg w)) := fun w Z hf => by
            refine rsA_some f5 hY hk1 hk2 g4 ?_
            rw [hm]
            have t2' : (uS M1 20 (nI j)).2.1 20 + 1 = nI (j + 1) := t2
            rw [t2']
            exact hf
          generalize uS (uA (uS M1 20 (nI j)) 11 (up ((uS M1 20 (nI j)).2.2.1 11) (nI (3 * o) + 1).toNatClampNeg ((x_X4_readNumber C1).2.1 6))) 20 (nI (j + 1)) = M3 at *
          generalize uS (x_X4_readNumber C1) 5 (nI (j + 1)) = C3 at *
          rcases fig2_ok P3 with ⟨a1, a2, a3⟩ | ⟨a1, j2, a2, a3, a4, a5, a6⟩
          · left
            rw [if_pos a1] at q1 q2
            refine ⟨q1, _, j + 1, ef _ _ a3, ?_, by omega, ?_, ?_, (F3.s21 _).a11 _⟩
            · show ¬ (uS M3 21 1).2.1 21 = 0
              rw [uS_at]; decide
            · show (uS M3 21 1).2.1 20 = _
              rw [uS_ne (by decide)]; exact P3.2.2.2.1
            · rw [q2, a2]; exact P3.2.2.1
          · right
            have a1' : ¬ r_X4_readNumber C3 = 0 := by rw [a1]; decide
            rw [if_neg a1'] at q1 q2
            refine ⟨q1, _, j2, ef _ _ a5, by omega, by omega, ?_, (F3.s20 _).a11 _, ?_⟩
            · rw [q2, put_eq ho]
              exact (a6.told _).put
            · rw [q2]
              refine TA.mk3 (D3.trans a4) ho ?_ hA
              rw [c2]
              show up M3.2.2.1 11 (up (M3.2.2.1 11) (3 * o + 2) _) 11 = _
              rw [up_self, A3]
    · have K : ∀ (r : Int32) (Y : GS) (j : Nat) (most : Int32), m_X8_readsOrder M (nI (3 * o)) = rsB M1 (nI (3 * o)) most → ((r = 0 ∧ Y = C1 ∧ m_X8_figures M1 most = some (0, uS M1 21 1)) ∨ (r = 1 ∧ i + 1 < j ∧ j ≤ t ∧ CF C1 Y ∧ m_X8_figures M1 most = some (Y.2.1 6, uS M1 20 (nI j)) ∧ PR Y (uS M1 20 (nI j)) j t)) → r_X4_readOrder C = (if r = 0 then 0 else 1) → x_X4_readOrder C (nI o) = (if r = 0 then Y else x_X4_put Y (nI o) v (Y.2.1 6) 0) → (r_X4_readOrder C = 0 ∧ ∃ M' j, m_X8_readsOrder M (nI (3 * o)) = some M' ∧ ¬ M'.2.1 21 = 0 ∧ j ≤ 60 ∧ M'.2.1 20 = nI j ∧ (x_X4_readOrder C (nI o)).2.1 5 = nI j ∧ MF M M') ∨ (r_X4_readOrder C = 1 ∧ ∃ M' j, m_X8_readsOrder M (nI (3 * o)) = some M' ∧ i + 2 ≤ j ∧ j ≤ t ∧ PR (x_X4_readOrder C (nI o)) M' j t ∧ MF M M' ∧ TA C (x_X4_readOrder C (nI o)) M M' o) := by
        intro r Y j most hr hf q1 q2
        rw [hr]
        rcases hf with ⟨f1, f2, f3⟩ | ⟨f1, f2, f3, f4, f5, f6⟩
        · left
          rw [if_pos f1] at q1 q2
          refine ⟨q1, _, i + 1, rsB_some f3 hk1, ?_, by omega, ?_, ?_, (F1.s21 _).a11 _⟩
          · show ¬ (uS M1 21 1).2.1 21 = 0
            rw [uS_at]; decide
          · show (uS M1 21 1).2.1 20 = _
            rw [uS_ne (by decide)]; exact P1.2.2.2.1
          · rw [q2, f2]; exact P1.2.2.1
        · right
          have f1' : ¬ r = 0 := by rw [f1]; decide
          rw [if_neg f1'] at q1 q2
          refine ⟨q1, _, j, rsB_some f5 hk1, by omega, f3, ?_, (F1.s20 _).a11 _, ?_⟩
          · rw [q2, put_eq ho]
            exact (f6.told _).put
          · rw [q2]
            refine TA.mk2 (D1.trans f4) ho ?_ hB
            rw [c1]
            show up M1.2.2.1 11 (up (M1.2.2.1 11) (3 * o + 1) _) 11 = _
            rw [up_self, A1]
      rcases hB with hB | hW
      · obtain ⟨q1, q2⟩ := cl_B hs hB (nI o)
        rw [eC] at q1 q2
        rcases fig2_ok P1 with ⟨f1, f2, f3⟩ | ⟨f1, j, f2, f3, f4, f5, f6⟩
        · exact K _ _ 0 _ (R2' hB) (Or.inl ⟨f1, f2, f3⟩) q1 q2
        · exact K _ _ j _ (R2' hB) (Or.inr ⟨f1, f2, f3, f4, f5, f6⟩) q1 q2
      · subst hW
        obtain ⟨q1, q2⟩ := cl_W hs (nI o)
        rw [eC] at q1 q2
        rcases fig1_ok P1 with ⟨f1, f2, f3⟩ | ⟨f1, f2, f3, f4, f5⟩
        · exact K _ _ 0 _ (R3' rfl) (Or.inl ⟨f1, f2, f3⟩) q1 q2
        · exact K _ _ (i + 1 + 1) _ (R3' rfl) (Or.inr ⟨f1, by omega, by omega, f3, f4, f5⟩) q1 q2
  · have h1 : ¬ v = 103 := fun h => hN (Or.inr (Or.inl (Or.inl h)))
    have h2 : ¬ v = 108 := fun h => hN (Or.inl (Or.inl h))
    have h3 : ¬ v = 110 := fun h => hN (Or.inr (Or.inl (Or.inr h)))
    have h4 : ¬ v = 113 := fun h => hN (Or.inl (Or.inr (Or.inl h)))
    have h5 : ¬ v = 114 := fun h => hN (Or.inl (Or.inr (Or.inr h)))
    have h6 : ¬ v = 119 := fun h => hN (Or.inr (Or.inr h))
    left
    obtain ⟨k1, k2⟩ := cl_N hs h1 h2 h3 h4 h5 h6 (nI o)
    refine ⟨k1, _, i, R4 h1 h2 h3 h4 h5 h6, ?_, ?_, ?_, ?_, ?_⟩
    · show ¬ up (up (up M.2.1 20 (M.2.1 20 + 1)) 21 1) 20 (M.2.1 20 + 1 - 1) 21 = 0
      rw [up_ne (by decide), up_self]; decide
    · have := P.1; have := P.2.1; omega
    · show up (up (up M.2.1 20 (M.2.1 20 + 1)) 21 1) 20 (M.2.1 20 + 1 - 1) 20 = _
      rw [up_self, P.2.2.2.1, nI_1, show (1 : Int32) = nI 1 from rfl, nI_sub (by omega)]
      rfl
    · rw [k2]; exact P.2.2.1
    · exact ((((MF.refl M).s20 _).a11 _).s21 _).s20 _
