/-! ===== p36: the law, 4: texts that are refused ===== -/
theorem c7_refusal (X : GS) (d : Int32) (h : e_X7_refusal X d = "") : Ct 6 1 6 yX7_refusal (.code yX7_refusal cX7_refusal 2 (some (.int))) [.ref 0, .int d] (mkH X) (.inl (some (.int (r_X7_refusal X d)))) (mkH X) := by
  have h2 := s_X7_refusal X (X.1 0) d
  rw [uB_eta, rT_0 h] at h2
  exact h2
theorem rf_of {X : GS} {r : Int32} (h : X.2.1 9 = r) (h0 : ¬ r = 0) : (e_X7_refusal X 0 = "" ∧ r_X7_refusal X 0 = r) ∧ e_X7_refusal X 1 = "" ∧ r_X7_refusal X 1 = X.2.1 10 := by
  unfold e_X7_refusal r_X7_refusal
  rw [h, if_neg h0, if_neg h0, if_neg h0, if_neg h0]
  exact ⟨⟨rfl, rfl⟩, rfl, rfl⟩
/-- 'w o;w o' -/
def tWW (o : Nat) : List Int32 := [] ++ cds "w" ++ dgs o ++ cds ";w" ++ dgs o
/-- 'w o;g99' -/
def tWG (o : Nat) : List Int32 := [] ++ cds "w" ++ dgs o ++ cds ";g99"
section
variable {F : FxT} {kc ks : Nat} {Wk : lW} {k n : Nat}
theorem seg_D (C : CoL [] F RL cL_law 12 20 kc ks Wk) {S S1 : GS} {ax o nl nw : Nat} {jn : Int32} {L0 L2 L3 L5 L7 : Option Value} (ho : o < 3)
    (hm4 : S.2.1 4 = nI 0) (r1 : okI ((typ (tWW o) S).2.1 0)) (r2 : (m_X7_run (typ (tWW o) S) ((typ (tWW o) S).1 0)).isSome = true) (r3 : (rnQ (typ (tWW o) S)).1 = "java/lang/UnsupportedOperationException") (eS1 : rnS (typ (tWW o) S) = S1) (s9 : S1.2.1 9 = 5) (s10 : S1.2.1 10 = nI o) (s7 : r_X7_errorPosition S1 = -1) (v3 : (S1.1 0).1 3 = nI nl) (h16 : nl ≤ 16) (v4 : (S1.1 0).1 4 = nI nw) (h6 : nw ≤ 6) (vj : stH S1 nl nw = jn) (hk : k + 2000 ≤ kc) (hn : n + 20000 ≤ ks)
    (kk : Wk (k + 2000) (n + 20000) 293 [L0, some (.ref (ax + 1000)), L2, L3, some (.int jn), L5, some (.int (nI o)), L7, none, none, none, none] [] [(ax, mkH S1)]) : Wk k n 212 [L0, some (.ref (ax + 1000)), L2, L3, some (.int jn), L5, some (.int (nI o)), L7, none, none, none, none] [] [(ax, mkH S)] := by
  have lo : dgn o = 1 := if_pos (by omega)
  have l1 : (cds "w").length = 1 := rfl
  have u2 : unF [(ax, mkH S)] := unFc unF0
  have q1 : (146, "w") ∈ lwS := by decide
  have l2 : (cds ";w").length = 2 := rfl
  have q2 : (154, ";w") ∈ lwS := by decide
  refine C.aload_n (q := 213) dL_law_212 rfl rfl ?_
  refine C.sbNew u2 (by decide) (Nat.le_of_ble_eq_true rfl) (by omega) (by omega) dL_law_213 dL_law_216 dL_law_217 (fun B => ?_)
  refine C.sbStr q1 u2 (by decide) (Nat.le_of_ble_eq_true rfl) (by omega) (by omega) (okT_lw _ q1) (by decide) (by decide) (by simp only [List.length_append, List.length_nil, dgs_len, l1, l2, lo]; decide) dL_law_220 dL_law_222 ?_
  refine C.iload (q := 227) dL_law_225 rfl rfl ?_
  refine C.sbInt (by omega) u2 (by decide) (Nat.le_of_ble_eq_true rfl) (by omega) (by omega) (by decide) (by decide) (by simp only [List.length_append, List.length_nil, dgs_len, l1, l2, lo]; decide) dL_law_227 ?_
  refine C.sbStr q2 u2 (by decide) (Nat.le_of_ble_eq_true rfl) (by omega) (by omega) (okT_lw _ q2) (by decide) (by decide) (by simp only [List.length_append, List.length_nil, dgs_len, l1, l2, lo]; decide) dL_law_230 dL_law_232 ?_
  refine C.iload (q := 237) dL_law_235 rfl rfl ?_
  refine C.sbInt (by omega) u2 (by decide) (Nat.le_of_ble_eq_true rfl) (by omega) (by omega) (by decide) (by decide) (by simp only [List.length_append, List.length_nil, dgs_len, l1, l2, lo]; decide) dL_law_237 ?_
  have eT : [] ++ cds "w" ++ dgs o ++ cds ";w" ++ dgs o = tWW o := rfl
  rw [eT]
  have lT : (tWW o).length = 5 := by rw [← eT]; simp only [List.length_append, List.length_nil, dgs_len, l1, l2, lo]
  have oT : okT (tWW o) := okT_app (okT_app (okT_app (okT_app (fun _ h => absurd h List.not_mem_nil) (okT_lw _ q1)) (okT_dg o (by omega))) (okT_lw _ q2)) (okT_dg o (by omega))
  have cT : ∀ c ∈ tWW o, cch c = c := cch_app (cch_app (cch_app (cch_app (fun _ h => absurd h List.not_mem_nil) (cch_lw _ q1)) (cch_dg o (by omega))) (cch_lw _ q2)) (cch_dg o (by omega))
  generalize tWW o = t at *
  refine C.sbEnd u2 (by decide) (Nat.le_of_ble_eq_true rfl) (by omega) (by omega) (by decide) (by decide) (by omega) (by omega) oT dL_law_240 ?_
  refine goW (ws' := [] ++ (ax, mkH S) :: ([] ++ [(B, (false, (bs [] 16 t).length + 2, (hp (bs [] 16 t ++ [stO 3, arB t.length (ft t)])).2.2))])) rfl ?_
  refine C.cSv (w1 := []) (S := []) (av := [.ref (B + 2 + 1000)]) (q := 246) (Pr := PrS (B + 2) (B + (2 + 1)) t) prS_ok (src_top (w1 := []) (i := 2) rfl rfl rfl rfl (Nat.le_of_ble_eq_true rfl) (by omega)) (unFf unF0) rfl rfl mkL_put mw_L_160 (L_put cT hm4 (by omega)) (fixR _) rfl (by decide) rfl (Nat.le_of_ble_eq_true rfl) (by omega) (by omega) dL_law_243 rfl ?_
  refine goW (ws' := [(ax, mkH (typ t S))] ++ (B, (false, (bs [] 16 t).length + 2, (hp (bs [] 16 t ++ [stO 3, arB t.length (ft t)])).2.2)) :: []) rfl ?_
  refine C.rm ?_
  refine goW (ws' := [] ++ (ax, mkH (typ t S)) :: []) rfl ?_
  refine C.aload_n (q := 247) dL_law_246 rfl rfl ?_
  have cr := L_runs_u r1 r2 r3
  rw [eS1] at cr
  refine C.cSX (w1 := []) (S := []) (av := []) (q := 250) prT_ok src_0 unF0 rfl rfl mkL_runs owL_runs swL_runs (by decide) mw_L_173 (Ct.g cr) fix0 (fix1 _) rfl (by decide) rfl (Nat.le_of_ble_eq_true rfl) (by omega) (by omega) dL_law_247 rfl ?_
  refine C.bipush (q := 252) (v := -2) dL_law_250 rfl (by decide) ?_
  refine C.icmp_ne (q := 255) (tgt := 291) dL_law_252 rfl (by decide) (fun h => absurd rfl h) (fun _ => ?_)
  have f1 := (rf_of s9 (by decide)).1
  obtain ⟨f2, f3⟩ := (rf_of s9 (by decide)).2
  refine C.aload_n (q := 256) dL_law_255 rfl rfl ?_
  refine C.iconst (q := 257) (v := 0) dL_law_256 rfl (by decide) ?_
  refine C.cV (w1 := []) (S := []) (av := [.int 0]) (q := 260) prT_ok src_0 unF0 rfl rfl mkX7_refusal mw_L_176 (Ct.g (c7_refusal S1 0 f1.1)) rfl (fix1 _) (fix1 _) rfl (by decide) rfl (Nat.le_of_ble_eq_true rfl) (by omega) (by omega) dL_law_257 rfl ?_
  rw [f1.2]
  refine C.iconst (q := 261) (v := 5) dL_law_260 rfl (by decide) ?_
  refine C.icmp_ne (q := 264) (tgt := 291) dL_law_261 rfl (by decide) (fun h => absurd rfl h) (fun _ => ?_)
  refine C.aload_n (q := 265) dL_law_264 rfl rfl ?_
  refine C.iconst (q := 266) (v := 1) dL_law_265 rfl (by decide) ?_
  refine C.cV (w1 := []) (S := []) (av := [.int 1]) (q := 269) prT_ok src_0 unF0 rfl rfl mkX7_refusal mw_L_176 (Ct.g (c7_refusal S1 1 f2)) rfl (fix1 _) (fix1 _) rfl (by decide) rfl (Nat.le_of_ble_eq_true rfl) (by omega) (by omega) dL_law_266 rfl ?_
  rw [f3, s10]
  refine C.iload (q := 271) dL_law_269 rfl rfl ?_
  refine C.icmp_ne (q := 274) (tgt := 291) dL_law_271 rfl (by decide) (fun h => absurd rfl h) (fun _ => ?_)
  refine C.aload_n (q := 275) dL_law_274 rfl rfl ?_
  refine C.cV (w1 := []) (S := []) (av := []) (q := 278) prT_ok src_0 unF0 rfl rfl mkX7_errorPosition mw_L_167 (Ct.g (c7_err S1)) rfl fix0 (fix1 _) rfl (by decide) rfl (Nat.le_of_ble_eq_true rfl) (by omega) (by omega) dL_law_275 rfl ?_
  rw [s7]
  refine C.iconst (q := 279) (v := -1) dL_law_278 rfl (by decide) ?_
  refine C.icmp_ne (q := 282) (tgt := 291) dL_law_279 rfl (by decide) (fun h => absurd rfl h) (fun _ => ?_)
  refine C.aload_n (q := 283) dL_law_282 rfl rfl ?_
  refine C.cS (w1 := []) (S := []) (av := []) (q := 286) prT_ok src_0 unF0 rfl rfl mkL_state mw_L_139 (Ct.g (L_state S1 v3 h16 v4 h6)) fix0 (fix1 _) rfl (by decide) rfl (Nat.le_of_ble_eq_true rfl) (by omega) (by omega) dL_law_283 rfl ?_
  refine C.iload (q := 288) dL_law_286 rfl rfl ?_
  refine C.icmp_eq (q := 291) (tgt := 293) dL_law_288 rfl (by decide) (fun _ => ?_) (fun h => absurd vj h)
  exact C.wd (by omega) (by omega) kk
theorem seg_E (C : CoL [] F RL cL_law 12 20 kc ks Wk) {S S1 : GS} {ax o nl nw : Nat} {jn : Int32} {L0 L2 L3 L5 L7 : Option Value} (ho : o < 3)
    (hm4 : S.2.1 4 = nI 0) (r1 : okI ((typ (tWG o) S).2.1 0)) (r2 : (m_X7_run (typ (tWG o) S) ((typ (tWG o) S).1 0)).isSome = true) (r3 : (rnQ (typ (tWG o) S)).1 = "java/lang/IllegalArgumentException") (eS1 : rnS (typ (tWG o) S) = S1) (s7 : r_X7_errorPosition S1 = -1) (v3 : (S1.1 0).1 3 = nI nl) (h16 : nl ≤ 16) (v4 : (S1.1 0).1 4 = nI nw) (h6 : nw ≤ 6) (vj : stH S1 nl nw = jn) (hk : k + 2000 ≤ kc) (hn : n + 20000 ≤ ks)
    (kk : Wk (k + 2000) (n + 20000) 349 [L0, some (.ref (ax + 1000)), L2, L3, some (.int jn), L5, some (.int (nI o)), L7, none, none, none, none] [] [(ax, mkH S1)]) : Wk k n 293 [L0, some (.ref (ax + 1000)), L2, L3, some (.int jn), L5, some (.int (nI o)), L7, none, none, none, none] [] [(ax, mkH S)] := by
  have lo : dgn o = 1 := if_pos (by omega)
  have l1 : (cds "w").length = 1 := rfl
  have u2 : unF [(ax, mkH S)] := unFc unF0
  have q1 : (146, "w") ∈ lwS := by decide
  have l2 : (cds ";g99").length = 4 := rfl
  have q2 : (180, ";g99") ∈ lwS := by decide
  refine C.aload_n (q := 294) dL_law_293 rfl rfl ?_
  refine C.sbNew u2 (by decide) (Nat.le_of_ble_eq_true rfl) (by omega) (by omega) dL_law_294 dL_law_297 dL_law_298 (fun B => ?_)
  refine C.sbStr q1 u2 (by decide) (Nat.le_of_ble_eq_true rfl) (by omega) (by omega) (okT_lw _ q1) (by decide) (by decide) (by simp only [List.length_append, List.length_nil, dgs_len, l1, l2, lo]; decide) dL_law_301 dL_law_303 ?_
  refine C.iload (q := 308) dL_law_306 rfl rfl ?_
  refine C.sbInt (by omega) u2 (by decide) (Nat.le_of_ble_eq_true rfl) (by omega) (by omega) (by decide) (by decide) (by simp only [List.length_append, List.length_nil, dgs_len, l1, l2, lo]; decide) dL_law_308 ?_
  refine C.sbStr q2 u2 (by decide) (Nat.le_of_ble_eq_true rfl) (by omega) (by omega) (okT_lw _ q2) (by decide) (by decide) (by simp only [List.length_append, List.length_nil, dgs_len, l1, l2, lo]; decide) dL_law_311 dL_law_313 ?_
  have eT : [] ++ cds "w" ++ dgs o ++ cds ";g99" = tWG o := rfl
  rw [eT]
  have lT : (tWG o).length = 6 := by rw [← eT]; simp only [List.length_append, List.length_nil, dgs_len, l1, l2, lo]
  have oT : okT (tWG o) := okT_app (okT_app (okT_app (fun _ h => absurd h List.not_mem_nil) (okT_lw _ q1)) (okT_dg o (by omega))) (okT_lw _ q2)
  have cT : ∀ c ∈ tWG o, cch c = c := cch_app (cch_app (cch_app (fun _ h => absurd h List.not_mem_nil) (cch_lw _ q1)) (cch_dg o (by omega))) (cch_lw _ q2)
  generalize tWG o = t at *
  refine C.sbEnd u2 (by decide) (Nat.le_of_ble_eq_true rfl) (by omega) (by omega) (by decide) (by decide) (by omega) (by omega) oT dL_law_316 ?_
  refine goW (ws' := [] ++ (ax, mkH S) :: ([] ++ [(B, (false, (bs [] 16 t).length + 2, (hp (bs [] 16 t ++ [stO 3, arB t.length (ft t)])).2.2))])) rfl ?_
  refine C.cSv (w1 := []) (S := []) (av := [.ref (B + 2 + 1000)]) (q := 322) (Pr := PrS (B + 2) (B + (2 + 1)) t) prS_ok (src_top (w1 := []) (i := 2) rfl rfl rfl rfl (Nat.le_of_ble_eq_true rfl) (by omega)) (unFf unF0) rfl rfl mkL_put mw_L_160 (L_put cT hm4 (by omega)) (fixR _) rfl (by decide) rfl (Nat.le_of_ble_eq_true rfl) (by omega) (by omega) dL_law_319 rfl ?_
  refine goW (ws' := [(ax, mkH (typ t S))] ++ (B, (false, (bs [] 16 t).length + 2, (hp (bs [] 16 t ++ [stO 3, arB t.length (ft t)])).2.2)) :: []) rfl ?_
  refine C.rm ?_
  refine goW (ws' := [] ++ (ax, mkH (typ t S)) :: []) rfl ?_
  refine C.aload_n (q := 323) dL_law_322 rfl rfl ?_
  have cr := L_runs_a r1 r2 r3
  rw [eS1] at cr
  refine C.cSX (w1 := []) (S := []) (av := []) (q := 326) prT_ok src_0 unF0 rfl rfl mkL_runs owL_runs swL_runs (by decide) mw_L_173 (Ct.g cr) fix0 (fix1 _) rfl (by decide) rfl (Nat.le_of_ble_eq_true rfl) (by omega) (by omega) dL_law_323 rfl ?_
  refine C.iconst (q := 327) (v := -1) dL_law_326 rfl (by decide) ?_
  refine C.icmp_ne (q := 330) (tgt := 347) dL_law_327 rfl (by decide) (fun h => absurd rfl h) (fun _ => ?_)
  refine C.aload_n (q := 331) dL_law_330 rfl rfl ?_
  refine C.cV (w1 := []) (S := []) (av := []) (q := 334) prT_ok src_0 unF0 rfl rfl mkX7_errorPosition mw_L_167 (Ct.g (c7_err S1)) rfl fix0 (fix1 _) rfl (by decide) rfl (Nat.le_of_ble_eq_true rfl) (by omega) (by omega) dL_law_331 rfl ?_
  rw [s7]
  refine C.iconst (q := 335) (v := -1) dL_law_334 rfl (by decide) ?_
  refine C.icmp_ne (q := 338) (tgt := 347) dL_law_335 rfl (by decide) (fun h => absurd rfl h) (fun _ => ?_)
  refine C.aload_n (q := 339) dL_law_338 rfl rfl ?_
  refine C.cS (w1 := []) (S := []) (av := []) (q := 342) prT_ok src_0 unF0 rfl rfl mkL_state mw_L_139 (Ct.g (L_state S1 v3 h16 v4 h6)) fix0 (fix1 _) rfl (by decide) rfl (Nat.le_of_ble_eq_true rfl) (by omega) (by omega) dL_law_339 rfl ?_
  refine C.iload (q := 344) dL_law_342 rfl rfl ?_
  refine C.icmp_eq (q := 347) (tgt := 349) dL_law_344 rfl (by decide) (fun _ => ?_) (fun h => absurd vj h)
  exact C.wd (by omega) (by omega) kk
end
