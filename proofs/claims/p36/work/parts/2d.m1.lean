def lp_X7_run_51 : Nat → Int32 → Int32 → BD → GS → Option (Int32 × Int32 × BD × GS)
  | 0, _, _, _, _ => none
  | j51 + 1, a1_51, a2_51, bb51, XX51 => (if (XX51.2.1 3) ≤ a2_51 then (some (a1_51, a2_51, bb51, XX51)) else (if a1_51 = 0 then (if (r_X7_judgeOrder bb51 (r_X4_kindAt XX51 a2_51) (r_X4_firstAt XX51 a2_51) (r_X4_secondAt XX51 a2_51)) = 0 then (lp_X7_run_51 j51 (r_X7_judgeOrder bb51 (r_X4_kindAt XX51 a2_51) (r_X4_firstAt XX51 a2_51) (r_X4_secondAt XX51 a2_51)) (a2_51 + 1) (u_X7_carryOut bb51 (r_X4_kindAt (x_X7_judgeOrder XX51 bb51 (r_X4_kindAt XX51 a2_51) (r_X4_firstAt XX51 a2_51) (r_X4_secondAt XX51 a2_51)) a2_51) (r_X4_firstAt (x_X7_judgeOrder XX51 bb51 (r_X4_kindAt XX51 a2_51) (r_X4_firstAt XX51 a2_51) (r_X4_secondAt XX51 a2_51)) a2_51) (r_X4_secondAt (x_X7_judgeOrder XX51 bb51 (r_X4_kindAt XX51 a2_51) (r_X4_firstAt XX51 a2_51) (r_X4_secondAt XX51 a2_51)) a2_51)) (x_X7_judgeOrder XX51 bb51 (r_X4_kindAt XX51 a2_51) (r_X4_firstAt XX51 a2_51) (r_X4_secondAt XX51 a2_51))) else (lp_X7_run_51 j51 (r_X7_judgeOrder bb51 (r_X4_kindAt XX51 a2_51) (r_X4_firstAt XX51 a2_51) (r_X4_secondAt XX51 a2_51)) (a2_51 + 1) bb51 (x_X7_judgeOrder XX51 bb51 (r_X4_kindAt XX51 a2_51) (r_X4_firstAt XX51 a2_51) (r_X4_secondAt XX51 a2_51)))) else (some (a1_51, a2_51, bb51, XX51))))

def m_X7_run (X : GS) (b : BD) : Option (String × Int32 × BD × GS) := (if ((x_X4_clearText (uS (x_X4_read X) 7 (r_X4_read X))).2.1 7) < 0 then (bnd4 (lp_X7_run_51 1000 0 0 b (uB (x_X4_clearText (uS (x_X4_read X) 7 (r_X4_read X))) 1 (cpB b ((x_X4_clearText (uS (x_X4_read X) 7 (r_X4_read X))).1 1)))) fun (a1_51_5 : Int32) (a2_51_5 : Int32) (bb51_5 : BD) (XX51_5 : GS) => (if a1_51_5 = 0 then (if a1_51_5 = 3 then (some ("java/lang/UnsupportedOperationException", 0, bb51_5, XX51_5)) else (if a1_51_5 = 0 then (some ("", ((x_X1_keep1 XX51_5).2.1 3), bb51_5, (x_X1_keep1 XX51_5))) else (some ("java/lang/IllegalArgumentException", 0, bb51_5, XX51_5)))) else (if a1_51_5 = 3 then (some ("java/lang/UnsupportedOperationException", 0, (cpB (XX51_5.1 1) bb51_5), XX51_5)) else (if a1_51_5 = 0 then (some ("", ((x_X1_keep1 XX51_5).2.1 3), (cpB (XX51_5.1 1) bb51_5), (x_X1_keep1 XX51_5))) else (some ("java/lang/IllegalArgumentException", 0, (cpB (XX51_5.1 1) bb51_5), XX51_5)))))) else (some ("java/lang/IllegalArgumentException", 0, b, (x_X4_clearText (uS (x_X4_read X) 7 (r_X4_read X))))))

theorem lp_run_n0 : ∀ (j : Nat) (a1 a2 : Int32) (bb : BD) (XX : GS) (r1 r2 : Int32) (rb : BD) (rX : GS), lp_X7_run_51 j a1 a2 bb XX = some (r1, r2, rb, rX) → rX.2.1 0 = XX.2.1 0 := by
  intro j
  induction j with
  | zero => intro a1 a2 bb XX r1 r2 rb rX h; rw [lp_X7_run_51] at h; cases h
  | succ j ih =>
    intro a1 a2 bb XX r1 r2 rb rX h
    rw [lp_X7_run_51] at h
    split at h
    · obtain ⟨-, -, -, rfl⟩ := ret4_inv h; rfl
    · split at h
      · split at h
        · rw [ih _ _ _ _ _ _ _ _ h, n0_X7_judgeOrder]
        · rw [ih _ _ _ _ _ _ _ _ h, n0_X7_judgeOrder]
      · obtain ⟨-, -, -, rfl⟩ := ret4_inv h; rfl
theorem run_okI {X : GS} {j : Nat} {a1 a2 r1 r2 : Int32} {b c rb : BD} {rX : GS} (h : lp_X7_run_51 j a1 a2 b (uB (x_X4_clearText (uS (x_X4_read X) 7 (r_X4_read X))) 1 c) = some (r1, r2, rb, rX)) (hN : okI (X.2.1 0)) : okI (rX.2.1 0) := by
  rw [lp_run_n0 _ _ _ _ _ _ _ _ _ h]
  have e : (x_X4_read X).2.1 0 = X.2.1 0 := (fr4_read X).2.1 0 (by decide) (by decide) (by decide) (by decide)
  generalize x_X4_read X = Z at e
  generalize r_X4_read X = z
  have e2 : (uB (x_X4_clearText (uS Z 7 z)) 1 c).2.1 0 = Z.2.1 0 := by
    show up (up Z.2.1 7 z) 4 0 0 = _
    rw [up_ne (by decide), up_ne (by decide)]
  rw [e2, e]
  exact hN
set_option maxRecDepth 20000 in
set_option maxHeartbeats 1000000 in
theorem s_X7_run (X : GS) (b : BD) {eo : String} {vo : Int32} {bo : BD} {Xo : GS} (hN : okI (X.2.1 0)) (h : m_X7_run X b = some (eo, vo, bo, Xo)) : Ct 8 1 6 yX7_run (.code yX7_run cX7_run 3 (some (.int))) [.ref 0] (mkH (uB X 0 b)) (rT eo (some (.int vo))) (mkH (uB Xo 0 bo)) := by
  refine Ct.of (LL := [some (.ref 0), none, none]) mkX7_run.1 owX7_run rfl (Nat.le_of_ble_eq_true rfl) rfl (fun Wk C => ?_)
  have K := C.core
  rw [m_X7_run] at h
  refine K.aload_n (q := 1) dX7_run_0 rfl rfl ?_
  refine K.aload_n (q := 2) dX7_run_1 rfl rfl ?_
  refine K.getf (q := 5) (v := .ref 126) fo_X7_39.r rx0b (lt141 (by decide)) rfl dX7_run_2 rfl ?_
  refine K.callV0 (q := 8) mkX4_read mw_X7_273 (s_X4_read _ _) rfl (by decide) rfl (lt141 (by decide)) rx126b (Nat.le_of_ble_eq_true rfl) (Nat.le_of_ble_eq_true rfl) (Nat.le_of_ble_eq_true rfl) dX7_run_5 rfl ?_
  refine K.putf (q := 11) fo_X7_43 rx0b (lt141 (by decide)) (Nat.le_of_ble_eq_true rfl) (fun _ => rfl) (fun _ => rfl) pxs7b dX7_run_8 rfl ?_
  refine K.aload_n (q := 12) dX7_run_11 rfl rfl ?_
  refine K.getf (q := 15) (v := .ref 126) fo_X7_39.r rx0b (lt141 (by decide)) rfl dX7_run_12 rfl ?_
  refine K.callVv0 (q := 18) mkX4_clearText mw_X7_276 (s_X4_clearText _ _) rfl (by decide) rfl (lt141 (by decide)) rx126b (Nat.le_of_ble_eq_true rfl) (Nat.le_of_ble_eq_true rfl) (Nat.le_of_ble_eq_true rfl) dX7_run_15 rfl ?_
  refine K.aload_n (q := 19) dX7_run_18 rfl rfl ?_
  refine K.getf (q := 22) (v := .int ((x_X4_clearText (uS (x_X4_read X) 7 (r_X4_read X))).2.1 7)) fo_X7_43.r rx0b (lt141 (by decide)) rfl dX7_run_19 rfl ?_
  refine K.if_lt (q := 25) (tgt := 36) dX7_run_22 rfl (by decide) (fun c_22_1 => ?_) (fun c_22_1 => ?_)
  · rw [if_pos c_22_1] at h
    refine K.aload_n (q := 37) dX7_run_36 rfl rfl ?_
    refine K.getf (q := 40) (v := .ref 12) fo_X7_16.r rx0b (lt141 (by decide)) rfl dX7_run_37 rfl ?_
    refine K.aload_n (q := 41) dX7_run_40 rfl rfl ?_
    refine K.getf (q := 44) (v := .ref 1) fo_X7_12.r rx0b (lt141 (by decide)) rfl dX7_run_41 rfl ?_
    refine K.callVv0 (q := 47) mkX0_copyFrom mw_X7_281 (s_copy10 (x_X4_clearText (uS (x_X4_read X) 7 (r_X4_read X))) b) rfl (by decide) rfl (lt141 (by decide)) rd12 (Nat.le_of_ble_eq_true rfl) (Nat.le_of_ble_eq_true rfl) (Nat.le_of_ble_eq_true rfl) dX7_run_44 rfl ?_
    refine K.iconst (q := 48) (v := 0) dX7_run_47 rfl (by decide) ?_
    refine K.istore_n (q := 49) (i := 1) dX7_run_48 rfl rfl (by decide) rfl ?_
    refine K.iconst (q := 50) (v := 0) dX7_run_49 rfl (by decide) ?_
    refine K.istore_n (q := 51) (i := 2) dX7_run_50 rfl rfl (by decide) rfl ?_
    have L51 : ∀ (j51 : Nat) (a1_51 : Int32) (a2_51 : Int32) (bb51 : BD) (XX51 : GS) (a1_51r : Int32) (a2_51r : Int32) (bb51r : BD) (XX51r : GS), lp_X7_run_51 j51 a1_51 a2_51 bb51 XX51 = some (a1_51r, a2_51r, bb51r, XX51r) → (Wk 0 0 133 [some (.ref 0), some (.int a1_51r), some (.int a2_51r)] [] (mkH (uB XX51r 0 bb51r))) → Wk 0 0 51 [some (.ref 0), some (.int a1_51), some (.int a2_51)] [] (mkH (uB XX51 0 bb51)) := by
      intro j51
      induction j51 with
      | zero =>
        intro a1_51 a2_51 bb51 XX51 a1_51r a2_51r bb51r XX51r h hx
        rw [lp_X7_run_51] at h
        cases h
      | succ j51 ih =>
        intro a1_51 a2_51 bb51 XX51 a1_51r a2_51r bb51r XX51r h hx
        rw [lp_X7_run_51] at h
        refine K.iload_n (q := 52) dX7_run_51 rfl rfl ?_
        refine K.aload_n (q := 53) dX7_run_52 rfl rfl ?_
        refine K.getf (q := 56) (v := .ref 126) fo_X7_39.r rx0b (lt141 (by decide)) rfl dX7_run_53 rfl ?_
        refine K.getf (q := 59) (v := .int (XX51.2.1 3)) fo_X7_284.r rx126b (lt141 (by decide)) rfl dX7_run_56 rfl ?_
        refine K.icmp_ge (q := 62) (tgt := 133) dX7_run_59 rfl (by decide) (fun c_59_2 => ?_) (fun c_59_2 => ?_)
        · rw [if_pos c_59_2] at h
          obtain ⟨q0, q1, q2, q3⟩ := ret4_inv h
          subst q0; subst q1; subst q2; subst q3
          exact hx
        · rw [if_neg c_59_2] at h
          refine K.iload_n (q := 63) dX7_run_62 rfl rfl ?_
          refine K.if_ne (q := 66) (tgt := 133) dX7_run_63 rfl (by decide) (fun c_63_3 => ?_) (fun c_63_3 => ?_)
          · rw [if_neg c_63_3] at h
            obtain ⟨q0, q1, q2, q3⟩ := ret4_inv h
            subst q0; subst q1; subst q2; subst q3
            exact hx
          · rw [if_pos c_63_3] at h
            refine K.aload_n (q := 67) dX7_run_66 rfl rfl ?_
            refine K.aload_n (q := 68) dX7_run_67 rfl rfl ?_
            refine K.getf (q := 71) (v := .ref 126) fo_X7_39.r rx0b (lt141 (by decide)) rfl dX7_run_68 rfl ?_
            refine K.iload_n (q := 72) dX7_run_71 rfl rfl ?_
            refine K.callV0 (q := 75) mkX4_kindAt mw_X7_285 (s_X4_kindAt _ _ _) rfl (by decide) rfl (lt141 (by decide)) rx126b (Nat.le_of_ble_eq_true rfl) (Nat.le_of_ble_eq_true rfl) (Nat.le_of_ble_eq_true rfl) dX7_run_72 rfl ?_
            refine K.aload_n (q := 76) dX7_run_75 rfl rfl ?_
            refine K.getf (q := 79) (v := .ref 126) fo_X7_39.r rx0b (lt141 (by decide)) rfl dX7_run_76 rfl ?_
            refine K.iload_n (q := 80) dX7_run_79 rfl rfl ?_
            refine K.callV0 (q := 83) mkX4_firstAt mw_X7_288 (s_X4_firstAt _ _ _) rfl (by decide) rfl (lt141 (by decide)) rx126b (Nat.le_of_ble_eq_true rfl) (Nat.le_of_ble_eq_true rfl) (Nat.le_of_ble_eq_true rfl) dX7_run_80 rfl ?_
            refine K.aload_n (q := 84) dX7_run_83 rfl rfl ?_
            refine K.getf (q := 87) (v := .ref 126) fo_X7_39.r rx0b (lt141 (by decide)) rfl dX7_run_84 rfl ?_
            refine K.iload_n (q := 88) dX7_run_87 rfl rfl ?_
            refine K.callV0 (q := 91) mkX4_secondAt mw_X7_291 (s_X4_secondAt _ _ _) rfl (by decide) rfl (lt141 (by decide)) rx126b (Nat.le_of_ble_eq_true rfl) (Nat.le_of_ble_eq_true rfl) (Nat.le_of_ble_eq_true rfl) dX7_run_88 rfl ?_
            refine K.callV0 (q := 94) mkX7_judgeOrder mw_X7_294 (s_X7_judgeOrder _ _ _ _ _) rfl (by decide) rfl (lt141 (by decide)) rx0b (Nat.le_of_ble_eq_true rfl) (Nat.le_of_ble_eq_true rfl) (Nat.le_of_ble_eq_true rfl) dX7_run_91 rfl ?_
            refine K.istore_n (q := 95) (i := 1) dX7_run_94 rfl rfl (by decide) rfl ?_
            refine K.iload_n (q := 96) dX7_run_95 rfl rfl ?_
            refine K.if_ne (q := 99) (tgt := 127) dX7_run_96 rfl (by decide) (fun c_96_4 => ?_) (fun c_96_4 => ?_)
            · rw [if_neg c_96_4] at h
              refine K.iinc (q := 130) (v := (a2_51 + 1)) dX7_run_127 rfl rfl rfl (by decide) rfl ?_
              refine K.goto (tgt := 51) dX7_run_130 (by decide) ?_
              exact ih (r_X7_judgeOrder bb51 (r_X4_kindAt XX51 a2_51) (r_X4_firstAt XX51 a2_51) (r_X4_secondAt XX51 a2_51)) (a2_51 + 1) bb51 (x_X7_judgeOrder XX51 bb51 (r_X4_kindAt XX51 a2_51) (r_X4_firstAt XX51 a2_51) (r_X4_secondAt XX51 a2_51)) _ _ _ _ h hx
            · rw [if_pos c_96_4] at h
              refine K.aload_n (q := 100) dX7_run_99 rfl rfl ?_
              refine K.aload_n (q := 101) dX7_run_100 rfl rfl ?_
              refine K.getf (q := 104) (v := .ref 126) fo_X7_39.r rx0b (lt141 (by decide)) rfl dX7_run_101 rfl ?_
              refine K.iload_n (q := 105) dX7_run_104 rfl rfl ?_
              refine K.callV0 (q := 108) mkX4_kindAt mw_X7_285 (s_X4_kindAt _ _ _) rfl (by decide) rfl (lt141 (by decide)) rx126b (Nat.le_of_ble_eq_true rfl) (Nat.le_of_ble_eq_true rfl) (Nat.le_of_ble_eq_true rfl) dX7_run_105 rfl ?_
              refine K.aload_n (q := 109) dX7_run_108 rfl rfl ?_
              refine K.getf (q := 112) (v := .ref 126) fo_X7_39.r rx0b (lt141 (by decide)) rfl dX7_run_109 rfl ?_
              refine K.iload_n (q := 113) dX7_run_112 rfl rfl ?_
              refine K.callV0 (q := 116) mkX4_firstAt mw_X7_288 (s_X4_firstAt _ _ _) rfl (by decide) rfl (lt141 (by decide)) rx126b (Nat.le_of_ble_eq_true rfl) (Nat.le_of_ble_eq_true rfl) (Nat.le_of_ble_eq_true rfl) dX7_run_113 rfl ?_
              refine K.aload_n (q := 117) dX7_run_116 rfl rfl ?_
              refine K.getf (q := 120) (v := .ref 126) fo_X7_39.r rx0b (lt141 (by decide)) rfl dX7_run_117 rfl ?_
              refine K.iload_n (q := 121) dX7_run_120 rfl rfl ?_
              refine K.callV0 (q := 124) mkX4_secondAt mw_X7_291 (s_X4_secondAt _ _ _) rfl (by decide) rfl (lt141 (by decide)) rx126b (Nat.le_of_ble_eq_true rfl) (Nat.le_of_ble_eq_true rfl) (Nat.le_of_ble_eq_true rfl) dX7_run_121 rfl ?_
              refine K.callVv0 (q := 127) mkX7_carryOut mw_X7_298 (s_X7_carryOut _ _ _ _ _) rfl (by decide) rfl (lt141 (by decide)) rx0b (Nat.le_of_ble_eq_true rfl) (Nat.le_of_ble_eq_true rfl) (Nat.le_of_ble_eq_true rfl) dX7_run_124 rfl ?_
              refine K.iinc (q := 130) (v := (a2_51 + 1)) dX7_run_127 rfl rfl rfl (by decide) rfl ?_
              refine K.goto (tgt := 51) dX7_run_130 (by decide) ?_
              exact ih (r_X7_judgeOrder bb51 (r_X4_kindAt XX51 a2_51) (r_X4_firstAt XX51 a2_51) (r_X4_secondAt XX51 a2_51)) (a2_51 + 1) (u_X7_carryOut bb51 (r_X4_kindAt (x_X7_judgeOrder XX51 bb51 (r_X4_kindAt XX51 a2_51) (r_X4_firstAt XX51 a2_51) (r_X4_secondAt XX51 a2_51)) a2_51) (r_X4_firstAt (x_X7_judgeOrder XX51 bb51 (r_X4_kindAt XX51 a2_51) (r_X4_firstAt XX51 a2_51) (r_X4_secondAt XX51 a2_51)) a2_51) (r_X4_secondAt (x_X7_judgeOrder XX51 bb51 (r_X4_kindAt XX51 a2_51) (r_X4_firstAt XX51 a2_51) (r_X4_secondAt XX51 a2_51)) a2_51)) (x_X7_judgeOrder XX51 bb51 (r_X4_kindAt XX51 a2_51) (r_X4_firstAt XX51 a2_51) (r_X4_secondAt XX51 a2_51)) _ _ _ _ h hx
    obtain ⟨a1_51_5, a2_51_5, bb51_5, XX51_5, h9_5, h⟩ := bnd4_inv h
    refine L51 1000 0 0 b (uB (x_X4_clearText (uS (x_X4_read X) 7 (r_X4_read X))) 1 (cpB b ((x_X4_clearText (uS (x_X4_read X) 7 (r_X4_read X))).1 1))) _ _ _ _ h9_5 ?_
    refine K.iload_n (q := 134) dX7_run_133 rfl rfl ?_
    refine K.if_eq (q := 137) (tgt := 148) dX7_run_134 rfl (by decide) (fun c_134_6 => ?_) (fun c_134_6 => ?_)
    · rw [if_pos c_134_6] at h
      refine K.iload_n (q := 149) dX7_run_148 rfl rfl ?_
      refine K.iconst (q := 150) (v := 3) dX7_run_149 rfl (by decide) ?_
      refine K.icmp_ne (q := 153) (tgt := 164) dX7_run_150 rfl (by decide) (fun c_150_7 => ?_) (fun c_150_7 => ?_)
      · rw [if_neg c_150_7] at h
        refine K.iload_n (q := 165) dX7_run_164 rfl rfl ?_
        refine K.if_eq (q := 168) (tgt := 179) dX7_run_165 rfl (by decide) (fun c_165_8 => ?_) (fun c_165_8 => ?_)
        · rw [if_pos c_165_8] at h
          refine K.aload_n (q := 180) dX7_run_179 rfl rfl ?_
          refine K.getf (q := 183) (v := .ref 34) fo_X7_25.r rx0b (lt141 (by decide)) rfl dX7_run_180 rfl ?_
          refine K.aload_n (q := 184) dX7_run_183 rfl rfl ?_
          refine K.getf (q := 187) (v := .ref 12) fo_X7_16.r rx0b (lt141 (by decide)) rfl dX7_run_184 rfl ?_
          refine K.callVv0 (q := 190) mkX1_keep mw_X7_65 (s_X1_keep1 _ _ (run_okI h9_5 hN)) rfl (by decide) rfl (lt141 (by decide)) rx34b (Nat.le_of_ble_eq_true rfl) (Nat.le_of_ble_eq_true rfl) (Nat.le_of_ble_eq_true rfl) dX7_run_187 rfl ?_
          refine K.aload_n (q := 191) dX7_run_190 rfl rfl ?_
          refine K.getf (q := 194) (v := .ref 126) fo_X7_39.r rx0b (lt141 (by decide)) rfl dX7_run_191 rfl ?_
          refine K.getf (q := 197) (v := .int ((x_X1_keep1 XX51_5).2.1 3)) fo_X7_284.r rx126b (lt141 (by decide)) rfl dX7_run_194 rfl ?_
          obtain ⟨e_eo, e_vo, e_bo, e_Xo⟩ := ret4_inv h
          exact C.iret rfl rfl (rT_ok e_eo (congrArg (fun z => some (Value.int z)) e_vo)) (mkH_uB e_Xo e_bo) (Nat.le_of_ble_eq_true rfl) (Nat.le_of_ble_eq_true rfl) dX7_run_197
        · rw [if_neg c_165_8] at h
          obtain ⟨e_eo, e_vo, e_bo, e_Xo⟩ := ret4_inv h
          exact (C.cast (rT_ex e_eo (by decide)) (mkH_uB e_Xo.symm e_bo.symm)).throwSW (is := 307) (text := "an order cannot be carried out") tok_IAE (by decide) rfl (by decide) (Nat.le_of_ble_eq_true rfl) (Nat.le_of_ble_eq_true rfl) (Nat.le_of_ble_eq_true rfl) dX7_run_168 dX7_run_171 dX7_run_172 dX7_run_175 dX7_run_178
      · rw [if_pos c_150_7] at h
        obtain ⟨e_eo, e_vo, e_bo, e_Xo⟩ := ret4_inv h
        exact (C.cast (rT_ex e_eo (by decide)) (mkH_uB e_Xo.symm e_bo.symm)).throwSW (is := 304) (text := "an order is refused") tok_UOE (by decide) rfl (by decide) (Nat.le_of_ble_eq_true rfl) (Nat.le_of_ble_eq_true rfl) (Nat.le_of_ble_eq_true rfl) dX7_run_153 dX7_run_156 dX7_run_157 dX7_run_160 dX7_run_163
    · rw [if_neg c_134_6] at h
      refine K.aload_n (q := 138) dX7_run_137 rfl rfl ?_
      refine K.getf (q := 141) (v := .ref 1) fo_X7_12.r rx0b (lt141 (by decide)) rfl dX7_run_138 rfl ?_
      refine K.aload_n (q := 142) dX7_run_141 rfl rfl ?_
      refine K.getf (q := 145) (v := .ref 12) fo_X7_16.r rx0b (lt141 (by decide)) rfl dX7_run_142 rfl ?_
      refine K.callVv0 (q := 148) mkX0_copyFrom mw_X7_281 (s_copy01 XX51_5 bb51_5) rfl (by decide) rfl (lt141 (by decide)) rb1 (Nat.le_of_ble_eq_true rfl) (Nat.le_of_ble_eq_true rfl) (Nat.le_of_ble_eq_true rfl) dX7_run_145 rfl ?_
      refine K.iload_n (q := 149) dX7_run_148 rfl rfl ?_
      refine K.iconst (q := 150) (v := 3) dX7_run_149 rfl (by decide) ?_
      refine K.icmp_ne (q := 153) (tgt := 164) dX7_run_150 rfl (by decide) (fun c_150_9 => ?_) (fun c_150_9 => ?_)
      · rw [if_neg c_150_9] at h
        refine K.iload_n (q := 165) dX7_run_164 rfl rfl ?_
        refine K.if_eq (q := 168) (tgt := 179) dX7_run_165 rfl (by decide) (fun c_165_10 => ?_) (fun c_165_10 => ?_)
        · rw [if_pos c_165_10] at h
          refine K.aload_n (q := 180) dX7_run_179 rfl rfl ?_
          refine K.getf (q := 183) (v := .ref 34) fo_X7_25.r rx0b (lt141 (by decide)) rfl dX7_run_180 rfl ?_
          refine K.aload_n (q := 184) dX7_run_183 rfl rfl ?_
          refine K.getf (q := 187) (v := .ref 12) fo_X7_16.r rx0b (lt141 (by decide)) rfl dX7_run_184 rfl ?_
          refine K.callVv0 (q := 190) mkX1_keep mw_X7_65 (s_X1_keep1 _ _ (run_okI h9_5 hN)) rfl (by decide) rfl (lt141 (by decide)) rx34b (Nat.le_of_ble_eq_true rfl) (Nat.le_of_ble_eq_true rfl) (Nat.le_of_ble_eq_true rfl) dX7_run_187 rfl ?_
          refine K.aload_n (q := 191) dX7_run_190 rfl rfl ?_
          refine K.getf (q := 194) (v := .ref 126) fo_X7_39.r rx0b (lt141 (by decide)) rfl dX7_run_191 rfl ?_
          refine K.getf (q := 197) (v := .int ((x_X1_keep1 XX51_5).2.1 3)) fo_X7_284.r rx126b (lt141 (by decide)) rfl dX7_run_194 rfl ?_
          obtain ⟨e_eo, e_vo, e_bo, e_Xo⟩ := ret4_inv h
          exact C.iret rfl rfl (rT_ok e_eo (congrArg (fun z => some (Value.int z)) e_vo)) (mkH_uB e_Xo e_bo) (Nat.le_of_ble_eq_true rfl) (Nat.le_of_ble_eq_true rfl) dX7_run_197
        · rw [if_neg c_165_10] at h
          obtain ⟨e_eo, e_vo, e_bo, e_Xo⟩ := ret4_inv h
          exact (C.cast (rT_ex e_eo (by decide)) (mkH_uB e_Xo.symm e_bo.symm)).throwSW (is := 307) (text := "an order cannot be carried out") tok_IAE (by decide) rfl (by decide) (Nat.le_of_ble_eq_true rfl) (Nat.le_of_ble_eq_true rfl) (Nat.le_of_ble_eq_true rfl) dX7_run_168 dX7_run_171 dX7_run_172 dX7_run_175 dX7_run_178
      · rw [if_pos c_150_9] at h
        obtain ⟨e_eo, e_vo, e_bo, e_Xo⟩ := ret4_inv h
        exact (C.cast (rT_ex e_eo (by decide)) (mkH_uB e_Xo.symm e_bo.symm)).throwSW (is := 304) (text := "an order is refused") tok_UOE (by decide) rfl (by decide) (Nat.le_of_ble_eq_true rfl) (Nat.le_of_ble_eq_true rfl) (Nat.le_of_ble_eq_true rfl) dX7_run_153 dX7_run_156 dX7_run_157 dX7_run_160 dX7_run_163
  · rw [if_neg c_22_1] at h
    obtain ⟨e_eo, e_vo, e_bo, e_Xo⟩ := ret4_inv h
    exact (C.cast (rT_ex e_eo (by decide)) (mkH_uB e_Xo.symm e_bo.symm)).throwSW (is := 279) (text := "the text has an error") tok_IAE (by decide) rfl (by decide) (Nat.le_of_ble_eq_true rfl) (Nat.le_of_ble_eq_true rfl) (Nat.le_of_ble_eq_true rfl) dX7_run_25 dX7_run_28 dX7_run_29 dX7_run_32 dX7_run_35
