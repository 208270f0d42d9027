/-! ===== p36: the law, 3: undo on both ===== -/
theorem way_ihs {X : GS} {w : Nat} (h : IHs X) (hw : w < 3) (hb : ¬ (X.1 0).1 0 = nI w) : IHs (sWay X (nI w)) := by
  obtain ⟨n, c, h1, h2, h3, h4⟩ := h
  obtain ⟨-, p2, p3, -, -⟩ := way_st h1 h2 h3 h4 hw hb
  exact ⟨_, _, Nat.mod_lt _ (by decide), by split <;> omega, p2, p3⟩
theorem undo_ihs {X : GS} (h : IHs X) (he : e_X7_undo X = "") : IHs (sUndo X) := by
  obtain ⟨n, c, h1, h2, h3, h4⟩ := h
  have hc : 0 < c := by
    refine Nat.pos_of_ne_zero (fun h0 => ?_)
    unfold e_X7_undo at he
    rw [h4, h0] at he
    exact absurd he (by decide)
  have e9 : ((n + 7) % 8 + 1) % 8 = n := by omega
  obtain ⟨-, u2, u3, -, -⟩ := undo_st (S := X) (n := (n + 7) % 8) (c := c) (Nat.mod_lt _ (by decide)) (by rw [e9]; exact h3) h4 hc h2
  exact ⟨_, _, Nat.mod_lt _ (by decide), by omega, u2, u3⟩
section
variable {F : FxT} {kc ks : Nat} {Wk : lW} {k n : Nat}
theorem seg_C (C : CoL [] F RL cL_law 12 20 kc ks Wk) {S1 Y3 U W1 W2 W3 : GS} {ax ay o v many nl nw c : Nat} {jn : Int32} {L0 : Option Value}
    (x1 : okI (S1.2.1 0)) (x2 : S1.2.1 1 = nI c) (x3 : 0 < c) (x4 : e_X7_undo S1 = "") (x5 : r_X7_undo S1 = nI (c - 1)) (eU : sUndo S1 = U) (u3 : (U.1 0).1 3 = nI nl) (h16 : nl ≤ 16) (u4 : (U.1 0).1 4 = nI nw) (h6 : nw ≤ 6) (uj : stH U nl nw = jn)
    (y1 : okI (Y3.2.1 0)) (y2 : e_X7_undo Y3 = "") (y3 : ¬ r_X7_undo Y3 < 0) (e1 : sUndo Y3 = W1) (z1 : okI (W1.2.1 0)) (z2 : e_X7_undo W1 = "") (z3 : ¬ r_X7_undo W1 < 0) (e2 : sUndo W1 = W2) (w1 : okI (W2.2.1 0)) (w2 : e_X7_undo W2 = "") (w3 : ¬ r_X7_undo W2 < 0) (e3 : sUndo W2 = W3)
    (v3 : (W3.1 0).1 3 = nI nl) (v4 : (W3.1 0).1 4 = nI nw) (vj : stH W3 nl nw = jn) (hk : k + 2000 ≤ kc) (hn : n + 20000 ≤ ks)
    (kk : Wk (k + 2000) (n + 20000) 212 [L0, some (.ref (ax + 1000)), some (.ref (ay + 1000)), some (.int (nI many)), some (.int jn), some (.int (nI v)), some (.int (nI o)), some (.int (nI c)), none, none, none, none] [] [(ax, mkH U)]) :
    Wk k n 152 [L0, some (.ref (ax + 1000)), some (.ref (ay + 1000)), some (.int (nI many)), some (.int jn), some (.int (nI v)), some (.int (nI o)), none, none, none, none, none] [] [(ax, mkH S1), (ay, mkH Y3)] := by
  have k1 := c7_undo x1 x4
  rw [x5, eU] at k1
  have k2 := c7_undo y1 y2
  rw [e1] at k2
  have k3 := c7_undo z1 z2
  rw [e2] at k3
  have k4 := c7_undo w1 w2
  rw [e3] at k4
  refine goW (ws' := [] ++ (ax, mkH S1) :: [(ay, mkH Y3)]) rfl ?_
  refine C.aload_n (q := 153) dL_law_152 rfl rfl ?_
  refine C.bipush (q := 155) (v := 10) dL_law_153 rfl (by decide) ?_
  refine C.cV (w1 := []) (S := []) (av := [.int 10]) (q := 158) prT_ok src_0 (unFc unF0) rfl rfl mkX7_account mw_L_63 (Ct.g (c7_account S1 10 rfl)) rfl (fix1 _) (fix1 _) rfl (by decide) rfl (Nat.le_of_ble_eq_true rfl) (by omega) (by omega) dL_law_155 rfl ?_
  have e10 : r_X7_account S1 (S1.1 0) 10 = nI c := x2
  rw [e10]
  refine C.istore (i := 7) (q := 160) dL_law_158 rfl (by decide) rfl ?_
  refine C.aload_n (q := 161) dL_law_160 rfl rfl ?_
  refine C.cV (w1 := []) (S := []) (av := []) (q := 164) prT_ok src_0 (unFc unF0) rfl rfl mkX7_undo mw_L_170 (Ct.g k1) rfl fix0 (fix1 _) rfl (by decide) rfl (Nat.le_of_ble_eq_true rfl) (by omega) (by omega) dL_law_161 rfl ?_
  refine C.iload (q := 166) dL_law_164 rfl rfl ?_
  refine C.iconst (q := 167) (v := 1) dL_law_166 rfl (by decide) ?_
  refine C.isub (q := 168) dL_law_167 rfl ?_
  refine C.icmp_ne (q := 171) (tgt := 210) dL_law_168 rfl (by decide) (fun h => absurd (nI_pd x3).symm h) (fun _ => ?_)
  refine C.aload_n (q := 172) dL_law_171 rfl rfl ?_
  refine C.cS (w1 := []) (S := []) (av := []) (q := 175) prT_ok src_0 (unFc unF0) rfl rfl mkL_state mw_L_139 (Ct.g (L_state U u3 h16 u4 h6)) fix0 (fix1 _) rfl (by decide) rfl (Nat.le_of_ble_eq_true rfl) (by omega) (by omega) dL_law_172 rfl ?_
  refine C.iload (q := 177) dL_law_175 rfl rfl ?_
  refine C.icmp_ne (q := 180) (tgt := 210) dL_law_177 rfl (by decide) (fun h => absurd uj h) (fun _ => ?_)
  refine goW (ws' := [(ax, mkH U)] ++ (ay, mkH Y3) :: []) rfl ?_
  refine C.aload_n (q := 181) dL_law_180 rfl rfl ?_
  refine C.cV (w1 := [(ax, mkH U)]) (S := []) (av := []) (q := 184) prT_ok src_0 (unFc unF0) rfl rfl mkX7_undo mw_L_170 (Ct.g k2) rfl fix0 (fix1 _) rfl (by decide) rfl (Nat.le_of_ble_eq_true rfl) (by omega) (by omega) dL_law_181 rfl ?_
  refine C.if_lt (q := 187) (tgt := 210) dL_law_184 rfl (by decide) (fun h => absurd h y3) (fun _ => ?_)
  refine C.aload_n (q := 188) dL_law_187 rfl rfl ?_
  refine C.cV (w1 := [(ax, mkH U)]) (S := []) (av := []) (q := 191) prT_ok src_0 (unFc unF0) rfl rfl mkX7_undo mw_L_170 (Ct.g k3) rfl fix0 (fix1 _) rfl (by decide) rfl (Nat.le_of_ble_eq_true rfl) (by omega) (by omega) dL_law_188 rfl ?_
  refine C.if_lt (q := 194) (tgt := 210) dL_law_191 rfl (by decide) (fun h => absurd h z3) (fun _ => ?_)
  refine C.aload_n (q := 195) dL_law_194 rfl rfl ?_
  refine C.cV (w1 := [(ax, mkH U)]) (S := []) (av := []) (q := 198) prT_ok src_0 (unFc unF0) rfl rfl mkX7_undo mw_L_170 (Ct.g k4) rfl fix0 (fix1 _) rfl (by decide) rfl (Nat.le_of_ble_eq_true rfl) (by omega) (by omega) dL_law_195 rfl ?_
  refine C.if_lt (q := 201) (tgt := 210) dL_law_198 rfl (by decide) (fun h => absurd h w3) (fun _ => ?_)
  refine C.aload_n (q := 202) dL_law_201 rfl rfl ?_
  refine C.cS (w1 := [(ax, mkH U)]) (S := []) (av := []) (q := 205) prT_ok src_0 (unFc unF0) rfl rfl mkL_state mw_L_139 (Ct.g (L_state W3 v3 h16 v4 h6)) fix0 (fix1 _) rfl (by decide) rfl (Nat.le_of_ble_eq_true rfl) (by omega) (by omega) dL_law_202 rfl ?_
  refine C.iload (q := 207) dL_law_205 rfl rfl ?_
  refine C.icmp_eq (q := 210) (tgt := 212) dL_law_207 rfl (by decide) (fun _ => ?_) (fun h => absurd vj h)
  refine C.rm ?_
  exact C.wd (by omega) (by omega) kk
end
