/-! ===== p36: the state's sum ===== -/
theorem c7_account (X : GS) (w : Int32) (hw : e_X7_account w = "") : Ct 6 1 6 yX7_account (.code yX7_account cX7_account 2 (some (.int))) [.ref 0, .int w] (mkH X) (.inl (some (.int (r_X7_account X (X.1 0) w)))) (mkH X) := by
  have h := ct_ok (s_X7_account X (X.1 0) w) hw
  rw [uB_eta] at h
  exact h
theorem c7_loanOf (X : GS) (l w : Int32) (hw : e_X7_loanOf (X.1 0) l w = "") : Ct 6 1 6 yX7_loanOf (.code yX7_loanOf cX7_loanOf 4 (some (.int))) [.ref 0, .int l, .int w] (mkH X) (.inl (some (.int (r_X7_loanOf (X.1 0) l w)))) (mkH X) := by
  have h := ct_ok (s_X7_loanOf X (X.1 0) l w) hw
  rw [uB_eta] at h
  exact h
theorem c7_waitingOf (X : GS) (l w : Int32) (hw : e_X7_waitingOf (X.1 0) l w = "") : Ct 6 1 6 yX7_waitingOf (.code yX7_waitingOf cX7_waitingOf 3 (some (.int))) [.ref 0, .int l, .int w] (mkH X) (.inl (some (.int (r_X7_waitingOf (X.1 0) l w)))) (mkH X) := by
  have h := ct_ok (s_X7_waitingOf X (X.1 0) l w) hw
  rw [uB_eta] at h
  exact h
theorem c7_pieceOf (X : GS) (u w : Int32) (hw : e_X7_pieceOf (X.1 0) u w = "") : Ct 6 1 6 yX7_pieceOf (.code yX7_pieceOf cX7_pieceOf 6 (some (.int))) [.ref 0, .int u, .int w] (mkH X) (.inl (some (.int (r_X7_pieceOf (X.1 0) u w)))) (mkH X) := by
  have h := ct_ok (s_X7_pieceOf X (X.1 0) u w) hw
  rw [uB_eta] at h
  exact h
theorem e_acc {k : Nat} (h : k < 9) : e_X7_account (nI k) = "" := by
  rcases (show k = 0 ∨ k = 1 ∨ k = 2 ∨ k = 3 ∨ k = 4 ∨ k = 5 ∨ k = 6 ∨ k = 7 ∨ k = 8 by omega) with rfl | rfl | rfl | rfl | rfl | rfl | rfl | rfl | rfl <;> decide
theorem has3_in {b : BD} {l n : Nat} (hn : b.1 3 = nI n) (h16 : n ≤ 16) (hl : l < n) : ¬ r_X3_has b (nI l) = 0 := by
  unfold r_X3_has
  rw [if_neg (nI_pos (by omega)), hn, if_neg (nleN hl (by omega)), if_neg (show ¬ (16 : Int32) ≤ nI l from nleN (b := 16) (by omega) (by decide))]
  decide
theorem has6_in {b : BD} {l n : Nat} (hn : b.1 4 = nI n) (h6 : n ≤ 6) (hl : l < n) : ¬ r_X6_has b (nI l) = 0 := by
  unfold r_X6_has
  rw [if_neg (nI_pos (by omega)), hn, if_neg (nleN hl (by omega)), if_neg (show ¬ (6 : Int32) ≤ nI l from nleN (b := 6) (by omega) (by decide))]
  decide
theorem e_loan {b : BD} {l n k : Nat} (hn : b.1 3 = nI n) (h16 : n ≤ 16) (hl : l < n) (hk : k < 4) : e_X7_loanOf b (nI l) (nI k) = "" := by
  unfold e_X7_loanOf
  rw [if_neg (has3_in hn h16 hl)]
  rcases (show k = 0 ∨ k = 1 ∨ k = 2 ∨ k = 3 by omega) with rfl | rfl | rfl | rfl <;> decide
theorem e_wait {b : BD} {l n k : Nat} (hn : b.1 4 = nI n) (h6 : n ≤ 6) (hl : l < n) (hk : k < 2) : e_X7_waitingOf b (nI l) (nI k) = "" := by
  unfold e_X7_waitingOf
  rw [if_neg (has6_in hn h6 hl)]
  rcases (show k = 0 ∨ k = 1 by omega) with rfl | rfl <;> decide
theorem e_piece {b : BD} {u : Nat} (hu : u < 64) : e_X7_pieceOf b (nI u) 1 = "" := by
  unfold e_X7_pieceOf
  have h : ¬ r_X7_isUnit (nI u) = 0 := by
    unfold r_X7_isUnit
    rw [if_neg (nI_pos (by omega)), if_neg (show ¬ (64 : Int32) ≤ nI u from nleN (b := 64) (by omega) (by decide))]
    decide
  rw [if_neg h, if_neg (by decide), if_pos rfl]
set_option maxRecDepth 20000 in
set_option maxHeartbeats 2000000 in
theorem L_state (X : GS) {nl nw : Nat} (hL : (X.1 0).1 3 = nI nl) (h16 : nl ≤ 16) (hW : (X.1 0).1 4 = nI nw) (h6 : nw ≤ 6) : Ct 7 400 2400 yL_state (.code yL_state cL_state 4 (some (.int))) [.ref 0] (mkH X) (.inl (some (.int (stH X nl nw)))) (mkH X) := by
  refine Ct.of (LL := [some (.ref 0), none, none, none]) mkL_state.1 owL_state rfl (Nat.le_of_ble_eq_true rfl) rfl (fun Wk C => ?_)
  have K := C.core
  have a0 : r_X7_account X (X.1 0) 0 = nI nl := hL
  have a4 : r_X7_account X (X.1 0) 4 = nI nw := hW
  obtain ⟨R, hR⟩ : ∃ R : Int32, R = stH X nl nw := ⟨_, rfl⟩
  rw [← hR] at C
  obtain ⟨G4, hG4⟩ : ∃ G : Int32 → Int32, ∀ v, G v = st4 (X.1 0) 64 0 v := ⟨_, fun _ => rfl⟩
  obtain ⟨G3, hG3⟩ : ∃ G : Int32 → Int32, ∀ v, G v = G4 (st3 (X.1 0) nw 0 v) := ⟨_, fun _ => rfl⟩
  obtain ⟨G2, hG2⟩ : ∃ G : Int32 → Int32, ∀ v, G v = G3 (st2 (X.1 0) nl 0 v) := ⟨_, fun _ => rfl⟩
  have hR2 : R = G2 (st1 X 9 0 0) := by rw [hR, stH, hG2, hG3, hG4]
  clear hR
  have L4 : ∀ (j u : Nat) (v : Int32) (k n : Nat), u + j = 64 → k + j ≤ 400 → n + 6 * j ≤ 2400 → (R = st4 (X.1 0) j u v) → Wk k n 113 [some (.ref 0), some (.int v), some (.int (nI u)), none] [] (mkH X) := by
    intro j
    induction j with
    | zero =>
      intro u v k n hu hk hn he
      have huu : u = 64 := by omega
      subst huu
      rw [st4] at he
      refine K.iload_n (q := 114) dL_state_113 rfl rfl ?_
      refine K.bipush (q := 116) (v := 64) dL_state_114 rfl (by decide) ?_
      refine K.icmp_ge (q := 119) (tgt := 137) dL_state_116 rfl (by decide) (fun _ => ?_) (fun h => absurd (show (64 : Int32) ≤ nI 64 by decide) h)
      refine K.iload_n (q := 138) dL_state_137 rfl rfl ?_
      exact C.iret rfl rfl (by rw [he]) rfl (by omega) (by omega) dL_state_138
    | succ j ih =>
      intro u v k n hu hk hn he
      rw [st4] at he
      refine K.iload_n (q := 114) dL_state_113 rfl rfl ?_
      refine K.bipush (q := 116) (v := 64) dL_state_114 rfl (by decide) ?_
      refine K.icmp_ge (q := 119) (tgt := 137) dL_state_116 rfl (by decide) (fun h => absurd h (nleN (show u < 64 by omega) (by decide))) (fun _ => ?_)
      refine K.bipush (q := 121) (v := 31) dL_state_119 rfl (by decide) ?_
      refine K.iload_n (q := 122) dL_state_121 rfl rfl ?_
      refine K.imul (q := 123) dL_state_122 rfl ?_
      refine K.aload_n (q := 124) dL_state_123 rfl rfl ?_
      refine K.iload_n (q := 125) dL_state_124 rfl rfl ?_
      refine K.iconst (q := 126) (v := 1) dL_state_125 rfl (by decide) ?_
      refine K.callV (q := 129) mkX7_pieceOf mw_L_72 (c7_pieceOf X _ _ (e_piece (by omega))) rfl (by decide) rfl (lt141 (by decide)) rx0 (Nat.le_of_ble_eq_true rfl) (by omega) (by omega) dL_state_126 rfl ?_
      refine K.iadd (q := 130) dL_state_129 rfl ?_
      refine K.istore_n (q := 131) (i := 1) dL_state_130 rfl rfl (by decide) rfl ?_
      refine K.iinc (q := 134) (v := nI (u + 1)) dL_state_131 rfl rfl (nI_inc _) (by decide) rfl ?_
      refine K.goto (tgt := 113) dL_state_134 (by decide) ?_
      exact ih (u + 1) _ (k + 1) (n + 6) (by omega) (by omega) (by omega) he
  have L3 : ∀ (j l : Nat) (v : Int32) (k n : Nat) (x3 : Option Value), l + j = nw → k + 3 * j + 1 + 70 ≤ 400 → n + 6 * (3 * j + 1 + 70) ≤ 2400 → (R = G4 (st3 (X.1 0) j l v)) → Wk k n 71 [some (.ref 0), some (.int v), some (.int (nI l)), x3] [] (mkH X) := by
    intro j
    induction j with
    | zero =>
      intro l v k n x3 hu hk hn he
      have hll : l = nw := by omega
      subst hll
      rw [st3] at he
      refine K.iload_n (q := 72) dL_state_71 rfl rfl ?_
      refine K.aload_n (q := 73) dL_state_72 rfl rfl ?_
      refine K.iconst (q := 74) (v := 4) dL_state_73 rfl (by decide) ?_
      refine K.callV (S := [.int (nI l)]) (q := 77) mkX7_account mw_L_63 (c7_account X _ (by decide)) rfl (by decide) rfl (lt141 (by decide)) rx0 (Nat.le_of_ble_eq_true rfl) (by omega) (by omega) dL_state_74 rfl ?_
      rw [a4]
      refine K.icmp_ge (q := 80) (tgt := 111) dL_state_77 rfl (by decide) (fun _ => ?_) (fun h => absurd (nI_le (Nat.le_refl _) (by omega)) h)
      refine K.iconst (q := 112) (v := 0) dL_state_111 rfl (by decide) ?_
      refine K.istore_n (q := 113) (i := 2) dL_state_112 rfl rfl (by decide) rfl ?_
      refine K.drop 3 ?_
      exact L4 64 0 _ _ _ (by omega) (by omega) (by omega) (by rw [he, hG4])
    | succ j ih =>
      intro l v k n x3 hu hk hn he
      rw [st3] at he
      refine K.iload_n (q := 72) dL_state_71 rfl rfl ?_
      refine K.aload_n (q := 73) dL_state_72 rfl rfl ?_
      refine K.iconst (q := 74) (v := 4) dL_state_73 rfl (by decide) ?_
      refine K.callV (S := [.int (nI l)]) (q := 77) mkX7_account mw_L_63 (c7_account X _ (by decide)) rfl (by decide) rfl (lt141 (by decide)) rx0 (Nat.le_of_ble_eq_true rfl) (by omega) (by omega) dL_state_74 rfl ?_
      rw [a4]
      refine K.icmp_ge (q := 80) (tgt := 111) dL_state_77 rfl (by decide) (fun h => absurd h (nleN (show l < nw by omega) (by omega))) (fun _ => ?_)
      refine K.iconst (q := 81) (v := 0) dL_state_80 rfl (by decide) ?_
      refine K.istore_n (q := 82) (i := 3) dL_state_81 rfl rfl (by decide) rfl ?_
      have Li : ∀ (i c : Nat) (w : Int32) (k1 n1 : Nat), c + i = 2 → k1 + i + 3 * j + 1 + 70 ≤ 400 → n1 + 6 * (i + 3 * j + 1 + 70) ≤ 2400 → (R = G4 (st3 (X.1 0) j (l + 1) (st3i (X.1 0) l i c w))) → Wk k1 n1 82 [some (.ref 0), some (.int w), some (.int (nI l)), some (.int (nI c))] [] (mkH X) := by
        intro i
        induction i with
        | zero =>
          intro c w k1 n1 hc hk1 hn1 he1
          have hcc : c = 2 := by omega
          subst hcc
          rw [st3i] at he1
          refine K.iload_n (q := 83) dL_state_82 rfl rfl ?_
          refine K.iconst (q := 84) (v := 2) dL_state_83 rfl (by decide) ?_
          refine K.icmp_ge (q := 87) (tgt := 105) dL_state_84 rfl (by decide) (fun _ => ?_) (fun h => absurd (nI_le (Nat.le_refl _) (by decide)) h)
          refine K.iinc (q := 108) (v := nI (l + 1)) dL_state_105 rfl rfl (nI_inc _) (by decide) rfl ?_
          refine K.goto (tgt := 71) dL_state_108 (by decide) ?_
          exact ih (l + 1) _ _ _ _ (by omega) (by omega) (by omega) he1
        | succ i ihi =>
          intro c w k1 n1 hc hk1 hn1 he1
          rw [st3i] at he1
          refine K.iload_n (q := 83) dL_state_82 rfl rfl ?_
          refine K.iconst (q := 84) (v := 2) dL_state_83 rfl (by decide) ?_
          refine K.icmp_ge (q := 87) (tgt := 105) dL_state_84 rfl (by decide) (fun h => absurd h (nleN (show c < 2 by omega) (by decide))) (fun _ => ?_)
          refine K.bipush (q := 89) (v := 31) dL_state_87 rfl (by decide) ?_
          refine K.iload_n (q := 90) dL_state_89 rfl rfl ?_
          refine K.imul (q := 91) dL_state_90 rfl ?_
          refine K.aload_n (q := 92) dL_state_91 rfl rfl ?_
          refine K.iload_n (q := 93) dL_state_92 rfl rfl ?_
          refine K.iload_n (q := 94) dL_state_93 rfl rfl ?_
          refine K.callV (S := [.int (31 * w)]) (q := 97) mkX7_waitingOf mw_L_69 (c7_waitingOf X _ _ (e_wait hW h6 (by omega) (by omega))) rfl (by decide) rfl (lt141 (by decide)) rx0 (Nat.le_of_ble_eq_true rfl) (by omega) (by omega) dL_state_94 rfl ?_
          refine K.iadd (q := 98) dL_state_97 rfl ?_
          refine K.istore_n (q := 99) (i := 1) dL_state_98 rfl rfl (by decide) rfl ?_
          refine K.iinc (q := 102) (v := nI (c + 1)) dL_state_99 rfl rfl (nI_inc _) (by decide) rfl ?_
          refine K.goto (tgt := 82) dL_state_102 (by decide) ?_
          exact ihi (c + 1) _ _ _ (by omega) (by omega) (by omega) he1
      exact Li 2 0 v _ _ (by omega) (by omega) (by omega) he
  have L2 : ∀ (j l : Nat) (v : Int32) (k n : Nat) (x3 : Option Value), l + j = nl → k + 5 * j + 1 + 100 ≤ 400 → n + 6 * (5 * j + 1 + 100) ≤ 2400 → (R = G3 (st2 (X.1 0) j l v)) → Wk k n 29 [some (.ref 0), some (.int v), some (.int (nI l)), x3] [] (mkH X) := by
    intro j
    induction j with
    | zero =>
      intro l v k n x3 hu hk hn he
      have hll : l = nl := by omega
      subst hll
      rw [st2] at he
      refine K.iload_n (q := 30) dL_state_29 rfl rfl ?_
      refine K.aload_n (q := 31) dL_state_30 rfl rfl ?_
      refine K.iconst (q := 32) (v := 0) dL_state_31 rfl (by decide) ?_
      refine K.callV (S := [.int (nI l)]) (q := 35) mkX7_account mw_L_63 (c7_account X _ (by decide)) rfl (by decide) rfl (lt141 (by decide)) rx0 (Nat.le_of_ble_eq_true rfl) (by omega) (by omega) dL_state_32 rfl ?_
      rw [a0]
      refine K.icmp_ge (q := 38) (tgt := 69) dL_state_35 rfl (by decide) (fun _ => ?_) (fun h => absurd (nI_le (Nat.le_refl _) (by omega)) h)
      refine K.iconst (q := 70) (v := 0) dL_state_69 rfl (by decide) ?_
      refine K.istore_n (q := 71) (i := 2) dL_state_70 rfl rfl (by decide) rfl ?_
      exact L3 nw 0 _ _ _ _ (by omega) (by omega) (by omega) (by rw [he, hG3])
    | succ j ih =>
      intro l v k n x3 hu hk hn he
      rw [st2] at he
      refine K.iload_n (q := 30) dL_state_29 rfl rfl ?_
      refine K.aload_n (q := 31) dL_state_30 rfl rfl ?_
      refine K.iconst (q := 32) (v := 0) dL_state_31 rfl (by decide) ?_
      refine K.callV (S := [.int (nI l)]) (q := 35) mkX7_account mw_L_63 (c7_account X _ (by decide)) rfl (by decide) rfl (lt141 (by decide)) rx0 (Nat.le_of_ble_eq_true rfl) (by omega) (by omega) dL_state_32 rfl ?_
      rw [a0]
      refine K.icmp_ge (q := 38) (tgt := 69) dL_state_35 rfl (by decide) (fun h => absurd h (nleN (show l < nl by omega) (by omega))) (fun _ => ?_)
      refine K.iconst (q := 39) (v := 0) dL_state_38 rfl (by decide) ?_
      refine K.istore_n (q := 40) (i := 3) dL_state_39 rfl rfl (by decide) rfl ?_
      have Li : ∀ (i c : Nat) (w : Int32) (k1 n1 : Nat), c + i = 4 → k1 + i + 5 * j + 1 + 100 ≤ 400 → n1 + 6 * (i + 5 * j + 1 + 100) ≤ 2400 → (R = G3 (st2 (X.1 0) j (l + 1) (st2i (X.1 0) l i c w))) → Wk k1 n1 40 [some (.ref 0), some (.int w), some (.int (nI l)), some (.int (nI c))] [] (mkH X) := by
        intro i
        induction i with
        | zero =>
          intro c w k1 n1 hc hk1 hn1 he1
          have hcc : c = 4 := by omega
          subst hcc
          rw [st2i] at he1
          refine K.iload_n (q := 41) dL_state_40 rfl rfl ?_
          refine K.iconst (q := 42) (v := 4) dL_state_41 rfl (by decide) ?_
          refine K.icmp_ge (q := 45) (tgt := 63) dL_state_42 rfl (by decide) (fun _ => ?_) (fun h => absurd (nI_le (Nat.le_refl _) (by decide)) h)
          refine K.iinc (q := 66) (v := nI (l + 1)) dL_state_63 rfl rfl (nI_inc _) (by decide) rfl ?_
          refine K.goto (tgt := 29) dL_state_66 (by decide) ?_
          exact ih (l + 1) _ _ _ _ (by omega) (by omega) (by omega) he1
        | succ i ihi =>
          intro c w k1 n1 hc hk1 hn1 he1
          rw [st2i] at he1
          refine K.iload_n (q := 41) dL_state_40 rfl rfl ?_
          refine K.iconst (q := 42) (v := 4) dL_state_41 rfl (by decide) ?_
          refine K.icmp_ge (q := 45) (tgt := 63) dL_state_42 rfl (by decide) (fun h => absurd h (nleN (show c < 4 by omega) (by decide))) (fun _ => ?_)
          refine K.bipush (q := 47) (v := 31) dL_state_45 rfl (by decide) ?_
          refine K.iload_n (q := 48) dL_state_47 rfl rfl ?_
          refine K.imul (q := 49) dL_state_48 rfl ?_
          refine K.aload_n (q := 50) dL_state_49 rfl rfl ?_
          refine K.iload_n (q := 51) dL_state_50 rfl rfl ?_
          refine K.iload_n (q := 52) dL_state_51 rfl rfl ?_
          refine K.callV (S := [.int (31 * w)]) (q := 55) mkX7_loanOf mw_L_66 (c7_loanOf X _ _ (e_loan hL h16 (by omega) (by omega))) rfl (by decide) rfl (lt141 (by decide)) rx0 (Nat.le_of_ble_eq_true rfl) (by omega) (by omega) dL_state_52 rfl ?_
          refine K.iadd (q := 56) dL_state_55 rfl ?_
          refine K.istore_n (q := 57) (i := 1) dL_state_56 rfl rfl (by decide) rfl ?_
          refine K.iinc (q := 60) (v := nI (c + 1)) dL_state_57 rfl rfl (nI_inc _) (by decide) rfl ?_
          refine K.goto (tgt := 40) dL_state_60 (by decide) ?_
          exact ihi (c + 1) _ _ _ (by omega) (by omega) (by omega) he1
      exact Li 4 0 v _ _ (by omega) (by omega) (by omega) he
  have L1 : ∀ (j c : Nat) (v : Int32) (k n : Nat), c + j = 9 → k + j + 200 ≤ 400 → n + 6 * (j + 200) ≤ 2400 → (R = G2 (st1 X j c v)) → Wk k n 4 [some (.ref 0), some (.int v), some (.int (nI c)), none] [] (mkH X) := by
    intro j
    induction j with
    | zero =>
      intro c v k n hc hk hn he
      have hcc : c = 9 := by omega
      subst hcc
      rw [st1] at he
      refine K.iload_n (q := 5) dL_state_4 rfl rfl ?_
      refine K.bipush (q := 7) (v := 9) dL_state_5 rfl (by decide) ?_
      refine K.icmp_ge (q := 10) (tgt := 27) dL_state_7 rfl (by decide) (fun _ => ?_) (fun h => absurd (nI_le (Nat.le_refl _) (by decide)) h)
      refine K.iconst (q := 28) (v := 0) dL_state_27 rfl (by decide) ?_
      refine K.istore_n (q := 29) (i := 2) dL_state_28 rfl rfl (by decide) rfl ?_
      exact L2 nl 0 _ _ _ _ (by omega) (by omega) (by omega) (by rw [he, hG2])
    | succ j ih =>
      intro c v k n hc hk hn he
      rw [st1] at he
      refine K.iload_n (q := 5) dL_state_4 rfl rfl ?_
      refine K.bipush (q := 7) (v := 9) dL_state_5 rfl (by decide) ?_
      refine K.icmp_ge (q := 10) (tgt := 27) dL_state_7 rfl (by decide) (fun h => absurd h (nleN (show c < 9 by omega) (by decide))) (fun _ => ?_)
      refine K.bipush (q := 12) (v := 31) dL_state_10 rfl (by decide) ?_
      refine K.iload_n (q := 13) dL_state_12 rfl rfl ?_
      refine K.imul (q := 14) dL_state_13 rfl ?_
      refine K.aload_n (q := 15) dL_state_14 rfl rfl ?_
      refine K.iload_n (q := 16) dL_state_15 rfl rfl ?_
      refine K.callV (S := [.int (31 * v)]) (q := 19) mkX7_account mw_L_63 (c7_account X _ (e_acc (by omega))) rfl (by decide) rfl (lt141 (by decide)) rx0 (Nat.le_of_ble_eq_true rfl) (by omega) (by omega) dL_state_16 rfl ?_
      refine K.iadd (q := 20) dL_state_19 rfl ?_
      refine K.istore_n (q := 21) (i := 1) dL_state_20 rfl rfl (by decide) rfl ?_
      refine K.iinc (q := 24) (v := nI (c + 1)) dL_state_21 rfl rfl (nI_inc _) (by decide) rfl ?_
      refine K.goto (tgt := 4) dL_state_24 (by decide) ?_
      exact ih (c + 1) _ _ _ (by omega) (by omega) (by omega) he
  refine K.iconst (q := 1) (v := 0) dL_state_0 rfl (by decide) ?_
  refine K.istore_n (q := 2) (i := 1) dL_state_1 rfl rfl (by decide) rfl ?_
  refine K.iconst (q := 3) (v := 0) dL_state_2 rfl (by decide) ?_
  refine K.istore_n (q := 4) (i := 2) dL_state_3 rfl rfl (by decide) rfl ?_
  exact L1 9 0 0 0 0 (by omega) (by omega) (by omega) hR2
