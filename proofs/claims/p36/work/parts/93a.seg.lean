/-! ===== p36: the law, 1: x and y are built ===== -/
theorem c7_save (X : GS) : Ct 4 0 0 yX7_save (.code yX7_save cX7_save 1 (some (.int))) [.ref 0] (mkH X) (.inl (some (.int (r_X7_save (X.1 0))))) (mkH (sSave X)) := by
  have h := s_X7_save X (X.1 0)
  rw [uB_eta] at h
  exact h
section
variable {F : FxT} {kc ks : Nat} {Wk : lW} {k n : Nat}
theorem seg_A (C : CoL [] F RL cL_law 12 20 kc ks Wk) (hL : F.1 ≤ 260) {X : GS} (hX : X = bld (atX F.2.1 F.1)) {nl nw v o : Nat} (h3 : (X.1 0).1 3 = nI nl) (h16 : nl ≤ 16) (h4 : (X.1 0).1 4 = nI nw) (h6 : nw ≤ 6) (h0 : (X.1 0).1 0 = nI v) (ho : nI v + 1 - (nI v + 1) / 3 * 3 = nI o) (hk : k + 1000 ≤ kc) (hn : n + 10000 ≤ ks)
    (kk : ∀ ax ay : Nat, Wk (k + 1000) (n + 10000) 37 [some (.ref (F.2.2.1 + 1000)), some (.ref (ax + 1000)), some (.ref (ay + 1000)), some (.int (nI nl)), some (.int (stH X nl nw)), some (.int (nI v)), some (.int (nI o)), none, none, none, none, none] [] [(ax, mkH (sSave X)), (ay, mkH X)]) :
    Wk k n 0 [some (.ref (F.2.2.1 + 1000)), none, none, none, none, none, none, none, none, none, none, none] [] [] := by
  have eS : stH (sSave X) nl nw = stH X nl nw := ag_stH (by rw [show (sSave X).1 0 = X.1 0 from uB_s]; exact ag.rf) nl nw
  have s3 : ((sSave X).1 0).1 3 = nI nl := by rw [show (sSave X).1 0 = X.1 0 from uB_s]; exact h3
  have s4 : ((sSave X).1 0).1 4 = nI nw := by rw [show (sSave X).1 0 = X.1 0 from uB_s]; exact h4
  have s0 : r_X7_account (sSave X) ((sSave X).1 0) 8 = nI v := by rw [show (sSave X).1 0 = X.1 0 from uB_s]; exact h0
  have sv : r_X7_save (X.1 0) = nI nl := h3
  refine C.aload_n (q := 1) dL_law_0 rfl rfl ?_
  refine C.tB (ws := []) (S := []) (av := [.ref (F.2.2.1 + 1000)]) (q := 4) prX_ok (fun B => src_X) unF0 (Nat.succ_pos 130) mkL_build mw_L_132 (L_build hL) (fixR _) rfl (by decide) rfl (Nat.le_of_ble_eq_true rfl) (by omega) (by omega) dL_law_1 rfl (fun ax => ?_)
  rw [← hX]
  refine C.astore_n (i := 1) (q := 5) dL_law_4 rfl rfl (by decide) rfl ?_
  refine C.aload_n (q := 6) dL_law_5 rfl rfl ?_
  refine C.tB (S := []) (av := [.ref (F.2.2.1 + 1000)]) (q := 9) prX_ok (fun B => src_X) (unFc unF0) (Nat.succ_pos 130) mkL_build mw_L_132 (L_build hL) (fixR _) rfl (by decide) rfl (Nat.le_of_ble_eq_true rfl) (by omega) (by omega) dL_law_6 rfl (fun ay => ?_)
  rw [← hX]
  refine C.astore_n (i := 2) (q := 10) dL_law_9 rfl rfl (by decide) rfl ?_
  refine goW (ws' := [] ++ (ax, mkH X) :: [(ay, mkH X)]) rfl ?_
  refine C.aload_n (q := 11) dL_law_10 rfl rfl ?_
  refine C.cV (w1 := []) (S := []) (q := 14) prT_ok src_0 (unFc unF0) rfl rfl mkX7_save mw_L_136 (Ct.g (c7_save X)) rfl fix0 (fix1 _) rfl (by decide) rfl (Nat.le_of_ble_eq_true rfl) (by omega) (by omega) dL_law_11 rfl ?_
  rw [sv]
  refine C.istore_n (i := 3) (q := 15) dL_law_14 rfl rfl (by decide) rfl ?_
  refine C.aload_n (q := 16) dL_law_15 rfl rfl ?_
  refine C.cS (w1 := []) (S := []) (av := []) (q := 19) prT_ok src_0 (unFc unF0) rfl rfl mkL_state mw_L_139 (Ct.g (L_state (sSave X) s3 h16 s4 h6)) fix0 (fix1 _) rfl (by decide) rfl (Nat.le_of_ble_eq_true rfl) (by omega) (by omega) dL_law_16 rfl ?_
  rw [eS]
  refine C.istore (i := 4) (q := 21) dL_law_19 rfl (by decide) rfl ?_
  refine C.aload_n (q := 22) dL_law_21 rfl rfl ?_
  refine C.bipush (q := 24) (v := 8) dL_law_22 rfl (by decide) ?_
  refine C.cV (w1 := []) (S := []) (av := [.int 8]) (q := 27) prT_ok src_0 (unFc unF0) rfl rfl mkX7_account mw_L_63 (Ct.g (c7_account (sSave X) 8 rfl)) rfl (fix1 _) (fix1 _) rfl (by decide) rfl (Nat.le_of_ble_eq_true rfl) (by omega) (by omega) dL_law_24 rfl ?_
  rw [s0]
  refine C.istore (i := 5) (q := 29) dL_law_27 rfl (by decide) rfl ?_
  refine C.iload (q := 31) dL_law_29 rfl rfl ?_
  refine C.iconst (q := 32) (v := 1) dL_law_31 rfl (by decide) ?_
  refine C.iadd (q := 33) dL_law_32 rfl ?_
  refine C.iconst (q := 34) (v := 3) dL_law_33 rfl (by decide) ?_
  refine C.irem (q := 35) dL_law_34 rfl (by decide) ?_
  rw [ho]
  refine C.istore (i := 6) (q := 37) dL_law_35 rfl (by decide) rfl ?_
  exact C.wd (by omega) (by omega) (kk ax ay)
end
