/-! ===== p36: the law, 5: texts that are refused, texts with errors ===== -/
section
variable {F : FxT} {kc ks : Nat} {Wk : lW} {k n : Nat}
theorem seg_F (C : CoL [] F RL cL_law 12 20 kc ks Wk) {S S1 : GS} {ax o nl nw : Nat} {jn : Int32} {L0 L2 L3 L5 L7 : Option Value} (ho : o < 3)
    (hm4 : S.2.1 4 = nI 0) (r1 : okI ((typ (cds "w3") S).2.1 0)) (r2 : (m_X7_run (typ (cds "w3") S) ((typ (cds "w3") S).1 0)).isSome = true) (r3 : (rnQ (typ (cds "w3") S)).1 = "java/lang/IllegalArgumentException") (eS1 : rnS (typ (cds "w3") S) = S1) (s7 : r_X7_errorPosition S1 = -1) (hk : k + 2000 ≤ kc) (hn : n + 20000 ≤ ks)
    (kk : Wk (k + 2000) (n + 20000) 373 [L0, some (.ref (ax + 1000)), L2, L3, some (.int jn), L5, some (.int (nI o)), L7, none, none, none, none] [] [(ax, mkH S1)]) : Wk k n 349 [L0, some (.ref (ax + 1000)), L2, L3, some (.int jn), L5, some (.int (nI o)), L7, none, none, none, none] [] [(ax, mkH S)] := by
  have q1 : (182, "w3") ∈ lwS := by decide
  have cT := cch_lw _ q1
  have lT : (cds "w3").length ≤ 60 := by decide
  refine C.aload_n (q := 350) dL_law_349 rfl rfl ?_
  refine C.ldcs q1 dL_law_350 rfl (fun sa sd C1 => ?_)
  simp only at cT
  generalize cds "w3" = t at *
  refine goW (ws' := [] ++ (ax, mkH S) :: []) rfl ?_
  refine C1.cSv (w1 := []) (S := []) (av := [.ref (sa + 1000)]) (q := 355) (Pr := PrS sa sd t) prS_ok (src_S (q := (sa, sd, t)) List.mem_cons_self) unF0 rfl rfl mkL_put mw_L_160 (L_put cT hm4 (by omega)) (fixR _) rfl (by decide) rfl (Nat.le_of_ble_eq_true rfl) (by omega) (by omega) dL_law_352 rfl ?_
  refine C.aload_n (q := 356) dL_law_355 rfl rfl ?_
  have cr := L_runs_a r1 r2 r3
  rw [eS1] at cr
  refine C.cSX (w1 := []) (S := []) (av := []) (q := 359) prT_ok src_0 unF0 rfl rfl mkL_runs owL_runs swL_runs (by decide) mw_L_173 (Ct.g cr) fix0 (fix1 _) rfl (by decide) rfl (Nat.le_of_ble_eq_true rfl) (by omega) (by omega) dL_law_356 rfl ?_
  refine C.iconst (q := 360) (v := -1) dL_law_359 rfl (by decide) ?_
  refine C.icmp_ne (q := 363) (tgt := 371) dL_law_360 rfl (by decide) (fun h => absurd rfl h) (fun _ => ?_)
  refine C.aload_n (q := 364) dL_law_363 rfl rfl ?_
  refine C.cV (w1 := []) (S := []) (av := []) (q := 367) prT_ok src_0 unF0 rfl rfl mkX7_errorPosition mw_L_167 (Ct.g (c7_err S1)) rfl fix0 (fix1 _) rfl (by decide) rfl (Nat.le_of_ble_eq_true rfl) (by omega) (by omega) dL_law_364 rfl ?_
  rw [s7]
  refine C.iconst (q := 368) (v := -1) dL_law_367 rfl (by decide) ?_
  refine C.icmp_eq (q := 371) (tgt := 373) dL_law_368 rfl (by decide) (fun _ => ?_) (fun h => absurd rfl h)
  exact C.wd (by omega) (by omega) kk
theorem seg_G (C : CoL [] F RL cL_law 12 20 kc ks Wk) {S S1 : GS} {ax o nl nw : Nat} {jn : Int32} {L0 L2 L3 L5 L7 : Option Value} (ho : o < 3)
    (hm4 : S.2.1 4 = nI 0) (r1 : okI ((typ (cds "n77") S).2.1 0)) (r2 : (m_X7_run (typ (cds "n77") S) ((typ (cds "n77") S).1 0)).isSome = true) (r3 : (rnQ (typ (cds "n77") S)).1 = "java/lang/UnsupportedOperationException") (eS1 : rnS (typ (cds "n77") S) = S1) (s9 : S1.2.1 9 = 4) (s10 : S1.2.1 10 = 0) (v3 : (S1.1 0).1 3 = nI nl) (h16 : nl ≤ 16) (v4 : (S1.1 0).1 4 = nI nw) (h6 : nw ≤ 6) (vj : stH S1 nl nw = jn) (hk : k + 2000 ≤ kc) (hn : n + 20000 ≤ ks)
    (kk : Wk (k + 2000) (n + 20000) 416 [L0, some (.ref (ax + 1000)), L2, L3, some (.int jn), L5, some (.int (nI o)), L7, none, none, none, none] [] [(ax, mkH S1)]) : Wk k n 373 [L0, some (.ref (ax + 1000)), L2, L3, some (.int jn), L5, some (.int (nI o)), L7, none, none, none, none] [] [(ax, mkH S)] := by
  have q1 : (184, "n77") ∈ lwS := by decide
  have cT := cch_lw _ q1
  have lT : (cds "n77").length ≤ 60 := by decide
  refine C.aload_n (q := 374) dL_law_373 rfl rfl ?_
  refine C.ldcs q1 dL_law_374 rfl (fun sa sd C1 => ?_)
  simp only at cT
  generalize cds "n77" = t at *
  refine goW (ws' := [] ++ (ax, mkH S) :: []) rfl ?_
  refine C1.cSv (w1 := []) (S := []) (av := [.ref (sa + 1000)]) (q := 379) (Pr := PrS sa sd t) prS_ok (src_S (q := (sa, sd, t)) List.mem_cons_self) unF0 rfl rfl mkL_put mw_L_160 (L_put cT hm4 (by omega)) (fixR _) rfl (by decide) rfl (Nat.le_of_ble_eq_true rfl) (by omega) (by omega) dL_law_376 rfl ?_
  refine C.aload_n (q := 380) dL_law_379 rfl rfl ?_
  have cr := L_runs_u r1 r2 r3
  rw [eS1] at cr
  refine C.cSX (w1 := []) (S := []) (av := []) (q := 383) prT_ok src_0 unF0 rfl rfl mkL_runs owL_runs swL_runs (by decide) mw_L_173 (Ct.g cr) fix0 (fix1 _) rfl (by decide) rfl (Nat.le_of_ble_eq_true rfl) (by omega) (by omega) dL_law_380 rfl ?_
  refine C.bipush (q := 385) (v := -2) dL_law_383 rfl (by decide) ?_
  refine C.icmp_ne (q := 388) (tgt := 414) dL_law_385 rfl (by decide) (fun h => absurd rfl h) (fun _ => ?_)
  have f1 := (rf_of s9 (by decide)).1
  obtain ⟨f2, f3⟩ := (rf_of s9 (by decide)).2
  refine C.aload_n (q := 389) dL_law_388 rfl rfl ?_
  refine C.iconst (q := 390) (v := 0) dL_law_389 rfl (by decide) ?_
  refine C.cV (w1 := []) (S := []) (av := [.int 0]) (q := 393) prT_ok src_0 unF0 rfl rfl mkX7_refusal mw_L_176 (Ct.g (c7_refusal S1 0 f1.1)) rfl (fix1 _) (fix1 _) rfl (by decide) rfl (Nat.le_of_ble_eq_true rfl) (by omega) (by omega) dL_law_390 rfl ?_
  rw [f1.2]
  refine C.iconst (q := 394) (v := 4) dL_law_393 rfl (by decide) ?_
  refine C.icmp_ne (q := 397) (tgt := 414) dL_law_394 rfl (by decide) (fun h => absurd rfl h) (fun _ => ?_)
  refine C.aload_n (q := 398) dL_law_397 rfl rfl ?_
  refine C.iconst (q := 399) (v := 1) dL_law_398 rfl (by decide) ?_
  refine C.cV (w1 := []) (S := []) (av := [.int 1]) (q := 402) prT_ok src_0 unF0 rfl rfl mkX7_refusal mw_L_176 (Ct.g (c7_refusal S1 1 f2)) rfl (fix1 _) (fix1 _) rfl (by decide) rfl (Nat.le_of_ble_eq_true rfl) (by omega) (by omega) dL_law_399 rfl ?_
  rw [f3, s10]
  refine C.if_ne (q := 405) (tgt := 414) dL_law_402 rfl (by decide) (fun h => absurd rfl h) (fun _ => ?_)
  refine C.aload_n (q := 406) dL_law_405 rfl rfl ?_
  refine C.cS (w1 := []) (S := []) (av := []) (q := 409) prT_ok src_0 unF0 rfl rfl mkL_state mw_L_139 (Ct.g (L_state S1 v3 h16 v4 h6)) fix0 (fix1 _) rfl (by decide) rfl (Nat.le_of_ble_eq_true rfl) (by omega) (by omega) dL_law_406 rfl ?_
  refine C.iload (q := 411) dL_law_409 rfl rfl ?_
  refine C.icmp_eq (q := 414) (tgt := 416) dL_law_411 rfl (by decide) (fun _ => ?_) (fun h => absurd vj h)
  exact C.wd (by omega) (by omega) kk
theorem flt1 (C : CoL [] F RL cL_law 12 20 kc ks Wk) {B0 : BD} {S : GS} {tx : String} {n6 n6' e : Int32} {c idx p ax : Nat} {o : List (Int32 × Int32)} {off : Int} {L : List (Option Value)} (hq0 : (idx, tx) ∈ lwS) (hS : XS B0 n6 S) (h : rdK (cds tx) n6 e n6' c o = true) (hl : (cds tx).length ≤ 60) (he : ¬ e < 0)
    (hL : L[1]? = some (some (.ref (ax + 1000)))) (d0 : decode cL_law p = .ok (.aload_n 1, 1)) (d1 : decode cL_law (p + 1) = .ok (.ldc idx, 2)) {z : Int} (d2 : decode cL_law (p + 3) = .ok (.iconst z, 1)) (hz : Int32.ofInt z = e) (d3 : decode cL_law (p + 4) = .ok (.invokestatic 188, 3)) (d4 : decode cL_law (p + 7) = .ok (.ifCond .eq off, 3)) (ht : ((p + 7 : Nat) : Int) + off = (515 : Nat))
    (hk : k + 61 ≤ kc) (hn : n + 366 ≤ ks) (kk : ∀ S1 : GS, XS B0 n6' S1 → Wk (k + 61) (n + 366) (p + 10) L [] [(ax, mkH S1)]) : Wk k n p L [] [(ax, mkH S)] := by
  have cT := cch_lw _ hq0
  simp only at cT
  refine C.aload_n (q := p + 1) d0 rfl hL ?_
  refine C.ldcs hq0 d1 rfl (fun sa sd C1 => ?_)
  generalize cds tx = t at *
  obtain ⟨a1, a2, a3, a4, a5⟩ := x_flt hS h hl he
  refine C1.iconst (q := p + 4) (v := e) d2 rfl hz ?_
  refine goW (ws' := [] ++ (ax, mkH S) :: []) rfl ?_
  refine C1.cS (w1 := []) (S := []) (av := [.ref (sa + 1000), .int e]) (q := p + 7) (Pr := PrS sa sd t) prS_ok (src_S (q := (sa, sd, t)) List.mem_cons_self) unF0 rfl rfl mkL_faults mw_L_188 (L_faults cT hS.2.2.1 hl a1 a2 a3 a4) (fixRI _ _) (fix1 _) rfl (by decide) rfl (Nat.le_of_ble_eq_true rfl) (by omega) (by omega) d3 rfl ?_
  refine C.if_eq (q := p + 10) (tgt := 515) d4 rfl ht (fun h => absurd h (by decide)) (fun _ => ?_)
  exact kk _ a5
end
