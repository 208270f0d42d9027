/-! ===== p36: the law, 2: the first text; y's ways ===== -/
theorem okT_lw : ∀ q ∈ lwS, okT (cds q.2) := by
  unfold okT
  decide +kernel
theorem cch_lw : ∀ q ∈ lwS, ∀ c ∈ cds q.2, cch c = c := by decide +kernel
theorem okT_app {t u : List Int32} (h1 : okT t) (h2 : okT u) : okT (t ++ u) := fun x hx => by
  rcases List.mem_append.mp hx with h | h
  · exact h1 x h
  · exact h2 x h
theorem okT_dg : ∀ v, v < 100 → okT (dgs v) := by
  unfold okT
  decide +kernel
theorem cch_dg : ∀ v, v < 100 → ∀ c ∈ dgs v, cch c = c := by decide +kernel
theorem cch_app {t u : List Int32} (h1 : ∀ c ∈ t, cch c = c) (h2 : ∀ c ∈ u, cch c = c) : ∀ c ∈ t ++ u, cch c = c := fun x hx => by
  rcases List.mem_append.mp hx with h | h
  · exact h1 x h
  · exact h2 x h
/-- 'w o;w v;w o' -/
def tW3 (o v : Nat) : List Int32 := [] ++ cds "w" ++ dgs o ++ cds ";w" ++ dgs v ++ cds ";w" ++ dgs o
theorem rT_0 {e : String} {r : Option Value} (h : e = "") : rT e r = .inl r := if_pos h
theorem c7_errP (X : GS) (hd : Nat) : True := trivial
theorem c7_undo {X : GS} (hN : okI (X.2.1 0)) (he : e_X7_undo X = "") : Ct 6 1 6 yX7_undo (.code yX7_undo cX7_undo 1 (some (.int))) [.ref 0] (mkH X) (.inl (some (.int (r_X7_undo X)))) (mkH (sUndo X)) := by
  have h := s_X7_undo X (X.1 0) hN
  rw [uB_eta, rT_0 he] at h
  exact h
section
variable {F : FxT} {kc ks : Nat} {Wk : lW} {k n : Nat}
theorem seg_B (C : CoL [] F RL cL_law 12 20 kc ks Wk) {S Y : GS} {ax ay o v many now m4 nl nw : Nat} {jn : Int32} {L0 : Option Value} (ho : o < 3) (hv : v < 3)
    (hm4 : S.2.1 4 = nI 0) (r1 : okI ((typ (tW3 o v) S).2.1 0)) (r2 : (m_X7_run (typ (tW3 o v) S) ((typ (tW3 o v) S).1 0)).isSome = true) (r3 : (rnQ (typ (tW3 o v) S)).1 = "") (r4 : (rnQ (typ (tW3 o v) S)).2.1 = 3)
    (y1 : okI (Y.2.1 0)) (y2 : e_X7_way (Y.1 0) (nI o) = "") (y3 : r_X7_way (Y.1 0) (nI o) = nI v) (y4 : okI ((sWay Y (nI o)).2.1 0)) (y5 : e_X7_way ((sWay Y (nI o)).1 0) (nI v) = "") (y6 : r_X7_way ((sWay Y (nI o)).1 0) (nI v) = nI o)
    (y7 : okI ((sWay (sWay Y (nI o)) (nI v)).2.1 0)) (y8 : e_X7_way ((sWay (sWay Y (nI o)) (nI v)).1 0) (nI o) = "") (y9 : r_X7_way ((sWay (sWay Y (nI o)) (nI v)).1 0) (nI o) = nI v)
    {S1 Y3 : GS} (eS1 : rnS (typ (tW3 o v) S) = S1) (eY3 : sWay (sWay (sWay Y (nI o)) (nI v)) (nI o) = Y3) (hb : S1.1 0 = Y3.1 0) (h3 : (S1.1 0).1 3 = nI nl) (h16 : nl ≤ 16) (h4 : (S1.1 0).1 4 = nI nw) (h6 : nw ≤ 6) (s4 : S1.2.1 4 = 0) (s7 : r_X7_errorPosition S1 = -1)
    (hk : k + 2000 ≤ kc) (hn : n + 20000 ≤ ks)
    (kk : Wk (k + 2000) (n + 20000) 152 [L0, some (.ref (ax + 1000)), some (.ref (ay + 1000)), some (.int (nI many)), some (.int jn), some (.int (nI v)), some (.int (nI o)), none, none, none, none, none] [] [(ax, mkH S1), (ay, mkH Y3)]) :
    Wk k n 37 [L0, some (.ref (ax + 1000)), some (.ref (ay + 1000)), some (.int (nI many)), some (.int jn), some (.int (nI v)), some (.int (nI o)), none, none, none, none, none] [] [(ax, mkH S), (ay, mkH Y)] := by
  have lo : dgn o = 1 := if_pos (by omega)
  have lv : dgn v = 1 := if_pos (by omega)
  have l1 : (cds "w").length = 1 := rfl
  have l2 : (cds ";w").length = 2 := rfl
  have u2 : unF [(ax, mkH S), (ay, mkH Y)] := unFc (unFc unF0)
  have q1 : (146, "w") ∈ lwS := by decide
  have q2 : (154, ";w") ∈ lwS := by decide
  refine C.aload_n (q := 38) dL_law_37 rfl rfl ?_
  refine C.sbNew u2 (by decide) (Nat.le_of_ble_eq_true rfl) (by omega) (by omega) dL_law_38 dL_law_41 dL_law_42 (fun B => ?_)
  refine C.sbStr q1 u2 (by decide) (Nat.le_of_ble_eq_true rfl) (by omega) (by omega) (okT_lw _ q1) (by decide) (by decide) (by simp only [List.length_append, List.length_nil, dgs_len, l1, l2, lo, lv]; decide) dL_law_45 dL_law_47 ?_
  refine C.iload (q := 52) dL_law_50 rfl rfl ?_
  refine C.sbInt (by omega) u2 (by decide) (Nat.le_of_ble_eq_true rfl) (by omega) (by omega) (by decide) (by decide) (by simp only [List.length_append, List.length_nil, dgs_len, l1, l2, lo, lv]; decide) dL_law_52 ?_
  refine C.sbStr q2 u2 (by decide) (Nat.le_of_ble_eq_true rfl) (by omega) (by omega) (okT_lw _ q2) (by decide) (by decide) (by simp only [List.length_append, List.length_nil, dgs_len, l1, l2, lo, lv]; decide) dL_law_55 dL_law_57 ?_
  refine C.iload (q := 62) dL_law_60 rfl rfl ?_
  refine C.sbInt (by omega) u2 (by decide) (Nat.le_of_ble_eq_true rfl) (by omega) (by omega) (by decide) (by decide) (by simp only [List.length_append, List.length_nil, dgs_len, l1, l2, lo, lv]; decide) dL_law_62 ?_
  refine C.sbStr q2 u2 (by decide) (Nat.le_of_ble_eq_true rfl) (by omega) (by omega) (okT_lw _ q2) (by decide) (by decide) (by simp only [List.length_append, List.length_nil, dgs_len, l1, l2, lo, lv]; decide) dL_law_65 dL_law_67 ?_
  refine C.iload (q := 72) dL_law_70 rfl rfl ?_
  refine C.sbInt (by omega) u2 (by decide) (Nat.le_of_ble_eq_true rfl) (by omega) (by omega) (by decide) (by decide) (by simp only [List.length_append, List.length_nil, dgs_len, l1, l2, lo, lv]; decide) dL_law_72 ?_
  have eT : [] ++ cds "w" ++ dgs o ++ cds ";w" ++ dgs v ++ cds ";w" ++ dgs o = tW3 o v := rfl
  rw [eT]
  have lT : (tW3 o v).length = 8 := by rw [← eT]; simp only [List.length_append, List.length_nil, dgs_len, l1, l2, lo, lv]
  have oT : okT (tW3 o v) := okT_app (okT_app (okT_app (okT_app (okT_app (okT_app (fun _ h => absurd h List.not_mem_nil) (okT_lw _ q1)) (okT_dg o (by omega))) (okT_lw _ q2)) (okT_dg v (by omega))) (okT_lw _ q2)) (okT_dg o (by omega))
  have cT : ∀ c ∈ tW3 o v, cch c = c := cch_app (cch_app (cch_app (cch_app (cch_app (cch_app (fun _ h => absurd h List.not_mem_nil) (cch_lw _ q1)) (cch_dg o (by omega))) (cch_lw _ q2)) (cch_dg v (by omega))) (cch_lw _ q2)) (cch_dg o (by omega))
  generalize tW3 o v = t at *
  refine C.sbEnd u2 (by decide) (Nat.le_of_ble_eq_true rfl) (by omega) (by omega) (by decide) (by decide) (by omega) (by omega) oT dL_law_75 ?_
  refine goW (ws' := [] ++ (ax, mkH S) :: ([(ay, mkH Y)] ++ [(B, (false, (bs [] 16 t).length + 2, (hp (bs [] 16 t ++ [stO 3, arB t.length (ft t)])).2.2))])) rfl ?_
  refine C.cSv (w1 := []) (S := []) (av := [.ref (B + 2 + 1000)]) (q := 81) (Pr := PrS (B + 2) (B + (2 + 1)) t) prS_ok (src_top (w1 := []) (i := 2) rfl rfl rfl rfl (Nat.le_of_ble_eq_true rfl) (by omega)) (unFc (unFf unF0)) rfl rfl mkL_put mw_L_160 (L_put cT hm4 (by omega)) (fixR _) rfl (by decide) rfl (Nat.le_of_ble_eq_true rfl) (by omega) (by omega) dL_law_78 rfl ?_
  refine goW (ws' := [(ax, mkH (typ t S)), (ay, mkH Y)] ++ (B, (false, (bs [] 16 t).length + 2, (hp (bs [] 16 t ++ [stO 3, arB t.length (ft t)])).2.2)) :: []) rfl ?_
  refine C.rm ?_
  refine goW (ws' := [] ++ (ax, mkH (typ t S)) :: [(ay, mkH Y)]) rfl ?_
  refine C.aload_n (q := 82) dL_law_81 rfl rfl ?_
  have cr := c7_run r1 r2
  rw [rT_0 r3, r4, eS1] at cr
  refine C.cV (w1 := []) (S := []) (av := []) (q := 85) prT_ok src_0 (unFc unF0) rfl rfl mkX7_run mw_L_164 (Ct.g cr) rfl fix0 (fix1 _) rfl (by decide) rfl (Nat.le_of_ble_eq_true rfl) (by omega) (by omega) dL_law_82 rfl ?_
  refine C.iconst (q := 86) (v := 3) dL_law_85 rfl (by decide) ?_
  refine C.icmp_ne (q := 89) (tgt := 150) dL_law_86 rfl (by decide) (fun h => absurd rfl h) (fun _ => ?_)
  refine goW (ws' := [(ax, mkH S1)] ++ (ay, mkH Y) :: []) rfl ?_
  have w1 := c7_way y1 (nI o) 0
  rw [rT_0 y2, y3] at w1
  have w2 := c7_way y4 (nI v) 0
  rw [rT_0 y5, y6] at w2
  have w3 := c7_way y7 (nI o) 0
  rw [rT_0 y8, y9, eY3] at w3
  refine C.aload_n (q := 90) dL_law_89 rfl rfl ?_
  refine C.iload (q := 92) dL_law_90 rfl rfl ?_
  refine C.cV (w1 := [(ax, mkH S1)]) (S := []) (av := [.int (nI o)]) (q := 95) prT_ok src_0 (unFc unF0) rfl rfl mkX7_way mw_L_51 (Ct.g w1) rfl (fix1 _) (fix1 _) rfl (by decide) rfl (Nat.le_of_ble_eq_true rfl) (by omega) (by omega) dL_law_92 rfl ?_
  refine C.iload (q := 97) dL_law_95 rfl rfl ?_
  refine C.icmp_ne (q := 100) (tgt := 150) dL_law_97 rfl (by decide) (fun h => absurd rfl h) (fun _ => ?_)
  refine C.aload_n (q := 101) dL_law_100 rfl rfl ?_
  refine C.iload (q := 103) dL_law_101 rfl rfl ?_
  refine C.cV (w1 := [(ax, mkH S1)]) (S := []) (av := [.int (nI v)]) (q := 106) prT_ok src_0 (unFc unF0) rfl rfl mkX7_way mw_L_51 (Ct.g w2) rfl (fix1 _) (fix1 _) rfl (by decide) rfl (Nat.le_of_ble_eq_true rfl) (by omega) (by omega) dL_law_103 rfl ?_
  refine C.iload (q := 108) dL_law_106 rfl rfl ?_
  refine C.icmp_ne (q := 111) (tgt := 150) dL_law_108 rfl (by decide) (fun h => absurd rfl h) (fun _ => ?_)
  refine C.aload_n (q := 112) dL_law_111 rfl rfl ?_
  refine C.iload (q := 114) dL_law_112 rfl rfl ?_
  refine C.cV (w1 := [(ax, mkH S1)]) (S := []) (av := [.int (nI o)]) (q := 117) prT_ok src_0 (unFc unF0) rfl rfl mkX7_way mw_L_51 (Ct.g w3) rfl (fix1 _) (fix1 _) rfl (by decide) rfl (Nat.le_of_ble_eq_true rfl) (by omega) (by omega) dL_law_114 rfl ?_
  refine C.iload (q := 119) dL_law_117 rfl rfl ?_
  refine C.icmp_ne (q := 122) (tgt := 150) dL_law_119 rfl (by decide) (fun h => absurd rfl h) (fun _ => ?_)
  refine goW (ws' := [] ++ (ax, mkH S1) :: [(ay, mkH Y3)]) rfl ?_
  refine C.aload_n (q := 123) dL_law_122 rfl rfl ?_
  refine C.cS (w1 := []) (S := []) (av := []) (q := 126) prT_ok src_0 (unFc unF0) rfl rfl mkL_state mw_L_139 (Ct.g (L_state S1 h3 h16 h4 h6)) fix0 (fix1 _) rfl (by decide) rfl (Nat.le_of_ble_eq_true rfl) (by omega) (by omega) dL_law_123 rfl ?_
  refine goW (ws' := [(ax, mkH S1)] ++ (ay, mkH Y3) :: []) rfl ?_
  refine C.aload_n (q := 127) dL_law_126 rfl rfl ?_
  refine C.cS (w1 := [(ax, mkH S1)]) (S := [.int (stH S1 nl nw)]) (av := []) (q := 130) prT_ok src_0 (unFc unF0) rfl rfl mkL_state mw_L_139 (Ct.g (L_state Y3 (by rw [← hb]; exact h3) h16 (by rw [← hb]; exact h4) h6)) fix0 (fix1 _) rfl (by decide) rfl (Nat.le_of_ble_eq_true rfl) (by omega) (by omega) dL_law_127 rfl ?_
  have eH : stH S1 nl nw = stH Y3 nl nw := ag_stH (by rw [hb]; exact ag.rf) nl nw
  refine C.icmp_ne (q := 133) (tgt := 150) dL_law_130 rfl (by decide) (fun h => absurd eH h) (fun _ => ?_)
  refine goW (ws' := [] ++ (ax, mkH S1) :: [(ay, mkH Y3)]) rfl ?_
  refine C.aload_n (q := 134) dL_law_133 rfl rfl ?_
  refine C.bipush (q := 136) (v := 9) dL_law_134 rfl (by decide) ?_
  refine C.cV (w1 := []) (S := []) (av := [.int 9]) (q := 139) prT_ok src_0 (unFc unF0) rfl rfl mkX7_account mw_L_63 (Ct.g (c7_account S1 9 rfl)) rfl (fix1 _) (fix1 _) rfl (by decide) rfl (Nat.le_of_ble_eq_true rfl) (by omega) (by omega) dL_law_136 rfl ?_
  have e9 : r_X7_account S1 (S1.1 0) 9 = 0 := s4
  rw [e9]
  refine C.if_ne (q := 142) (tgt := 150) dL_law_139 rfl (by decide) (fun h => absurd rfl h) (fun _ => ?_)
  refine C.aload_n (q := 143) dL_law_142 rfl rfl ?_
  refine C.cV (w1 := []) (S := []) (av := []) (q := 146) prT_ok src_0 (unFc unF0) rfl rfl mkX7_errorPosition mw_L_167 (Ct.g (c7_err S1)) rfl fix0 (fix1 _) rfl (by decide) rfl (Nat.le_of_ble_eq_true rfl) (by omega) (by omega) dL_law_143 rfl ?_
  rw [s7]
  refine C.iconst (q := 147) (v := -1) dL_law_146 rfl (by decide) ?_
  refine C.icmp_eq (q := 150) (tgt := 152) dL_law_147 rfl (by decide) (fun _ => ?_) (fun h => absurd rfl h)
  exact C.wd (by omega) (by omega) kk
end
