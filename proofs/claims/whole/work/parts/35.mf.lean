def m_X8_here (X : GS) : Option (Int32) := (if (X.2.1 13) ≤ (X.2.1 20) then (some (-1)) else (if inR (X.2.1 20) 60 then (some ((X.2.2.1 9) ((X.2.1 20).toNatClampNeg))) else none))
set_option maxRecDepth 20000 in
set_option maxHeartbeats 1000000 in
theorem s_X8_here (X : GS) {vo : Int32} (h : m_X8_here X = some vo) : Ct 1 0 0 yX8_here (.code yX8_here cX8_here 1 (some (.int))) [.ref 131] (mkH X) (.inl (some (.int vo))) (mkH X) := by
  refine Ct.of (LL := [some (.ref 131)]) mkX8_here.1 owX8_here rfl (Nat.le_of_ble_eq_true rfl) rfl (fun Wk C => ?_)
  have K := C.core
  rw [m_X8_here] at h
  refine K.aload_n (q := 1) dX8_here_0 rfl rfl ?_
  refine K.getf (q := 4) (v := .int (X.2.1 20)) fo_X8_184.r rx131 (lt141 (by decide)) rfl dX8_here_1 rfl ?_
  refine K.aload_n (q := 5) dX8_here_4 rfl rfl ?_
  refine K.getf (q := 8) (v := .int (X.2.1 13)) fo_X8_181.r rx131 (lt141 (by decide)) rfl dX8_here_5 rfl ?_
  refine K.icmp_ge (q := 11) (tgt := 23) dX8_here_8 rfl (by decide) (fun c_8_1 => ?_) (fun c_8_1 => ?_)
  · rw [if_pos c_8_1] at h
    refine K.iconst (q := 24) (v := (-1)) dX8_here_23 rfl (by decide) ?_
    obtain e_vo := ret1_inv h
    exact C.iret rfl rfl (congrArg (fun z => Sum.inl (some (Value.int z))) e_vo.symm) rfl (Nat.le_of_ble_eq_true rfl) (Nat.le_of_ble_eq_true rfl) dX8_here_24
  · rw [if_neg c_8_1] at h
    refine K.aload_n (q := 12) dX8_here_11 rfl rfl ?_
    refine K.getf (q := 15) (v := .ref 136) fo_X8_22.r rx131 (lt141 (by decide)) rfl dX8_here_12 rfl ?_
    refine K.aload_n (q := 16) dX8_here_15 rfl rfl ?_
    refine K.getf (q := 19) (v := .int (X.2.1 20)) fo_X8_184.r rx131 (lt141 (by decide)) rfl dX8_here_16 rfl ?_
    obtain ⟨k_2, h⟩ := chk_inv h
    refine K.cal (q := 20) (f := (X.2.2.1 9)) (m := ((X.2.1 20).toNatClampNeg)) rx136 (lt141 (by decide)) (cl_nI k_2.1) k_2.2 (by decide) dX8_here_19 rfl ?_
    refine K.goto (tgt := 24) dX8_here_20 (by decide) ?_
    obtain e_vo := ret1_inv h
    exact C.iret rfl rfl (congrArg (fun z => Sum.inl (some (Value.int z))) e_vo.symm) rfl (Nat.le_of_ble_eq_true rfl) (Nat.le_of_ble_eq_true rfl) dX8_here_24

def lp_X8_figures_34 (most : Int32) : Nat → Int32 → Int32 → GS → Option (Int32 × Int32 × GS)
  | 0, _, _, _ => none
  | j34 + 1, a2_34, a3_34, XX34 => (if (XX34.2.1 21) = 0 then (if most ≤ a3_34 then (some (a2_34, a3_34, XX34)) else (bnd1 (m_X8_here XX34) fun (v4 : Int32) => (bnd1 (m_X8_in v4 48 57) fun (v5 : Int32) => (if v5 = 0 then (some (a2_34, a3_34, XX34)) else (bnd1 (m_X8_here XX34) fun (v7 : Int32) => (lp_X8_figures_34 most j34 (((10 * a2_34) + v7) - 48) (a3_34 + 1) (uS XX34 20 ((XX34.2.1 20) + 1)))))))) else (some (a2_34, a3_34, XX34)))

def m_X8_figures (X : GS) (most : Int32) : Option (Int32 × GS) := (if (X.2.1 21) = 0 then (bnd1 (m_X8_here X) fun (v9 : Int32) => (bnd1 (m_X8_in v9 48 57) fun (v10 : Int32) => (if v10 = 0 then (bnd3 (lp_X8_figures_34 most 1000 0 0 (uS X 21 1)) fun (a2_34_25 : Int32) (a3_34_25 : Int32) (XX34_25 : GS) => (some (a2_34_25, XX34_25))) else (bnd3 (lp_X8_figures_34 most 1000 0 0 (uS X 21 0)) fun (a2_34_18 : Int32) (a3_34_18 : Int32) (XX34_18 : GS) => (some (a2_34_18, XX34_18)))))) else (bnd3 (lp_X8_figures_34 most 1000 0 0 (uS X 21 1)) fun (a2_34_8 : Int32) (a3_34_8 : Int32) (XX34_8 : GS) => (some (a2_34_8, XX34_8))))
set_option maxRecDepth 20000 in
set_option maxHeartbeats 1000000 in
theorem s_X8_figures (X : GS) (most : Int32) {vo : Int32} {Xo : GS} (h : m_X8_figures X most = some (vo, Xo)) : Ct 2 0 0 yX8_figures (.code yX8_figures cX8_figures 4 (some (.int))) [.ref 131, .int most] (mkH X) (.inl (some (.int vo))) (mkH Xo) := by
  refine Ct.of (LL := [some (.ref 131), some (.int most), none, none]) mkX8_figures.1 owX8_figures rfl (Nat.le_of_ble_eq_true rfl) rfl (fun Wk C => ?_)
  have K := C.core
  rw [m_X8_figures] at h
  refine K.aload_n (q := 1) dX8_figures_0 rfl rfl ?_
  refine K.aload_n (q := 2) dX8_figures_1 rfl rfl ?_
  refine K.getf (q := 5) (v := .int (X.2.1 21)) fo_X8_187.r rx131 (lt141 (by decide)) rfl dX8_figures_2 rfl ?_
  refine K.if_ne (q := 8) (tgt := 22) dX8_figures_5 rfl (by decide) (fun c_5_1 => ?_) (fun c_5_1 => ?_)
  · rw [if_neg c_5_1] at h
    refine K.iconst (q := 23) (v := 1) dX8_figures_22 rfl (by decide) ?_
    refine K.goto (tgt := 27) dX8_figures_23 (by decide) ?_
    refine K.putf (q := 30) fo_X8_187 rx131 (lt141 (by decide)) (Nat.le_of_ble_eq_true rfl) (fun _ => rfl) (fun _ => rfl) pxs21 dX8_figures_27 rfl ?_
    refine K.iconst (q := 31) (v := 0) dX8_figures_30 rfl (by decide) ?_
    refine K.istore_n (q := 32) (i := 2) dX8_figures_31 rfl rfl (by decide) rfl ?_
    refine K.iconst (q := 33) (v := 0) dX8_figures_32 rfl (by decide) ?_
    refine K.istore_n (q := 34) (i := 3) dX8_figures_33 rfl rfl (by decide) rfl ?_
    have L34 : ∀ (j34 : Nat) (a2_34 : Int32) (a3_34 : Int32) (XX34 : GS) (a2_34r : Int32) (a3_34r : Int32) (XX34r : GS), lp_X8_figures_34 most j34 a2_34 a3_34 XX34 = some (a2_34r, a3_34r, XX34r) → (Wk 0 0 89 [some (.ref 131), some (.int most), some (.int a2_34r), some (.int a3_34r)] [] (mkH XX34r)) → Wk 0 0 34 [some (.ref 131), some (.int most), some (.int a2_34), some (.int a3_34)] [] (mkH XX34) := by
      intro j34
      induction j34 with
      | zero =>
        intro a2_34 a3_34 XX34 a2_34r a3_34r XX34r h hx
        rw [lp_X8_figures_34] at h
        cases h
      | succ j34 ih =>
        intro a2_34 a3_34 XX34 a2_34r a3_34r XX34r h hx
        rw [lp_X8_figures_34] at h
        refine K.aload_n (q := 35) dX8_figures_34 rfl rfl ?_
        refine K.getf (q := 38) (v := .int (XX34.2.1 21)) fo_X8_187.r rx131 (lt141 (by decide)) rfl dX8_figures_35 rfl ?_
        refine K.if_ne (q := 41) (tgt := 89) dX8_figures_38 rfl (by decide) (fun c_38_2 => ?_) (fun c_38_2 => ?_)
        · rw [if_neg c_38_2] at h
          obtain ⟨q0, q1, q2⟩ := ret3_inv h
          subst q0; subst q1; subst q2
          exact hx
        · rw [if_pos c_38_2] at h
          refine K.iload_n (q := 42) dX8_figures_41 rfl rfl ?_
          refine K.iload_n (q := 43) dX8_figures_42 rfl rfl ?_
          refine K.icmp_ge (q := 46) (tgt := 89) dX8_figures_43 rfl (by decide) (fun c_43_3 => ?_) (fun c_43_3 => ?_)
          · rw [if_pos c_43_3] at h
            obtain ⟨q0, q1, q2⟩ := ret3_inv h
            subst q0; subst q1; subst q2
            exact hx
          · rw [if_neg c_43_3] at h
            refine K.aload_n (q := 47) dX8_figures_46 rfl rfl ?_
            obtain ⟨v4, h9_4, h⟩ := bnd1_inv h
            refine K.callV0 (q := 50) mkX8_here mw_X8_190 (s_X8_here _ h9_4) rfl (by decide) rfl (lt141 (by decide)) rx131 (Nat.le_of_ble_eq_true rfl) (Nat.le_of_ble_eq_true rfl) (Nat.le_of_ble_eq_true rfl) dX8_figures_47 rfl ?_
            refine K.bipush (q := 52) (v := 48) dX8_figures_50 rfl (by decide) ?_
            refine K.bipush (q := 54) (v := 57) dX8_figures_52 rfl (by decide) ?_
            obtain ⟨v5, h9_5, h⟩ := bnd1_inv h
            refine K.callS0 (q := 57) mkX8_in mw_X8_56 (s_X8_in _ _ _ _ h9_5) rfl (by decide) rfl (Nat.le_of_ble_eq_true rfl) (Nat.le_of_ble_eq_true rfl) (Nat.le_of_ble_eq_true rfl) dX8_figures_54 rfl ?_
            refine K.if_eq (q := 60) (tgt := 89) dX8_figures_57 rfl (by decide) (fun c_57_6 => ?_) (fun c_57_6 => ?_)
            · rw [if_pos c_57_6] at h
              obtain ⟨q0, q1, q2⟩ := ret3_inv h
              subst q0; subst q1; subst q2
              exact hx
            · rw [if_neg c_57_6] at h
              refine K.bipush (q := 62) (v := 10) dX8_figures_60 rfl (by decide) ?_
              refine K.iload_n (q := 63) dX8_figures_62 rfl rfl ?_
              refine K.imul (q := 64) dX8_figures_63 rfl ?_
              refine K.aload_n (q := 65) dX8_figures_64 rfl rfl ?_
              obtain ⟨v7, h9_7, h⟩ := bnd1_inv h
              refine K.callV0 (q := 68) mkX8_here mw_X8_190 (s_X8_here _ h9_7) rfl (by decide) rfl (lt141 (by decide)) rx131 (Nat.le_of_ble_eq_true rfl) (Nat.le_of_ble_eq_true rfl) (Nat.le_of_ble_eq_true rfl) dX8_figures_65 rfl ?_
              refine K.iadd (q := 69) dX8_figures_68 rfl ?_
              refine K.bipush (q := 71) (v := 48) dX8_figures_69 rfl (by decide) ?_
              refine K.isub (q := 72) dX8_figures_71 rfl ?_
              refine K.istore_n (q := 73) (i := 2) dX8_figures_72 rfl rfl (by decide) rfl ?_
              refine K.aload_n (q := 74) dX8_figures_73 rfl rfl ?_
              refine K.dup (q := 75) dX8_figures_74 rfl rfl ?_
              refine K.getf (q := 78) (v := .int (XX34.2.1 20)) fo_X8_184.r rx131 (lt141 (by decide)) rfl dX8_figures_75 rfl ?_
              refine K.iconst (q := 79) (v := 1) dX8_figures_78 rfl (by decide) ?_
              refine K.iadd (q := 80) dX8_figures_79 rfl ?_
              refine K.putf (q := 83) fo_X8_184 rx131 (lt141 (by decide)) (Nat.le_of_ble_eq_true rfl) (fun _ => rfl) (fun _ => rfl) pxs20 dX8_figures_80 rfl ?_
              refine K.iinc (q := 86) (v := (a3_34 + 1)) dX8_figures_83 rfl rfl rfl (by decide) rfl ?_
              refine K.goto (tgt := 34) dX8_figures_86 (by decide) ?_
              exact ih (((10 * a2_34) + v7) - 48) (a3_34 + 1) (uS XX34 20 ((XX34.2.1 20) + 1)) _ _ _ h hx
    obtain ⟨a2_34_8, a3_34_8, XX34_8, h9_8, h⟩ := bnd3_inv h
    refine L34 1000 0 0 (uS X 21 1) _ _ _ h9_8 ?_
    refine K.iload_n (q := 90) dX8_figures_89 rfl rfl ?_
    obtain ⟨e_vo, e_Xo⟩ := ret2_inv h
    exact C.iret rfl rfl (congrArg (fun z => Sum.inl (some (Value.int z))) e_vo.symm) (congrArg mkH e_Xo) (Nat.le_of_ble_eq_true rfl) (Nat.le_of_ble_eq_true rfl) dX8_figures_90
  · rw [if_pos c_5_1] at h
    refine K.aload_n (q := 9) dX8_figures_8 rfl rfl ?_
    obtain ⟨v9, h9_9, h⟩ := bnd1_inv h
    refine K.callV0 (q := 12) mkX8_here mw_X8_190 (s_X8_here _ h9_9) rfl (by decide) rfl (lt141 (by decide)) rx131 (Nat.le_of_ble_eq_true rfl) (Nat.le_of_ble_eq_true rfl) (Nat.le_of_ble_eq_true rfl) dX8_figures_9 rfl ?_
    refine K.bipush (q := 14) (v := 48) dX8_figures_12 rfl (by decide) ?_
    refine K.bipush (q := 16) (v := 57) dX8_figures_14 rfl (by decide) ?_
    obtain ⟨v10, h9_10, h⟩ := bnd1_inv h
    refine K.callS0 (q := 19) mkX8_in mw_X8_56 (s_X8_in _ _ _ _ h9_10) rfl (by decide) rfl (Nat.le_of_ble_eq_true rfl) (Nat.le_of_ble_eq_true rfl) (Nat.le_of_ble_eq_true rfl) dX8_figures_16 rfl ?_
    refine K.if_ne (q := 22) (tgt := 26) dX8_figures_19 rfl (by decide) (fun c_19_11 => ?_) (fun c_19_11 => ?_)
    · rw [if_neg c_19_11] at h
      refine K.iconst (q := 27) (v := 0) dX8_figures_26 rfl (by decide) ?_
      refine K.putf (q := 30) fo_X8_187 rx131 (lt141 (by decide)) (Nat.le_of_ble_eq_true rfl) (fun _ => rfl) (fun _ => rfl) pxs21 dX8_figures_27 rfl ?_
      refine K.iconst (q := 31) (v := 0) dX8_figures_30 rfl (by decide) ?_
      refine K.istore_n (q := 32) (i := 2) dX8_figures_31 rfl rfl (by decide) rfl ?_
      refine K.iconst (q := 33) (v := 0) dX8_figures_32 rfl (by decide) ?_
      refine K.istore_n (q := 34) (i := 3) dX8_figures_33 rfl rfl (by decide) rfl ?_
      have L34 : ∀ (j34 : Nat) (a2_34 : Int32) (a3_34 : Int32) (XX34 : GS) (a2_34r : Int32) (a3_34r : Int32) (XX34r : GS), lp_X8_figures_34 most j34 a2_34 a3_34 XX34 = some (a2_34r, a3_34r, XX34r) → (Wk 0 0 89 [some (.ref 131), some (.int most), some (.int a2_34r), some (.int a3_34r)] [] (mkH XX34r)) → Wk 0 0 34 [some (.ref 131), some (.int most), some (.int a2_34), some (.int a3_34)] [] (mkH XX34) := by
        intro j34
        induction j34 with
        | zero =>
          intro a2_34 a3_34 XX34 a2_34r a3_34r XX34r h hx
          rw [lp_X8_figures_34] at h
          cases h
        | succ j34 ih =>
          intro a2_34 a3_34 XX34 a2_34r a3_34r XX34r h hx
          rw [lp_X8_figures_34] at h
          refine K.aload_n (q := 35) dX8_figures_34 rfl rfl ?_
          refine K.getf (q := 38) (v := .int (XX34.2.1 21)) fo_X8_187.r rx131 (lt141 (by decide)) rfl dX8_figures_35 rfl ?_
          refine K.if_ne (q := 41) (tgt := 89) dX8_figures_38 rfl (by decide) (fun c_38_12 => ?_) (fun c_38_12 => ?_)
          · rw [if_neg c_38_12] at h
            obtain ⟨q0, q1, q2⟩ := ret3_inv h
            subst q0; subst q1; subst q2
            exact hx
          · rw [if_pos c_38_12] at h
            refine K.iload_n (q := 42) dX8_figures_41 rfl rfl ?_
            refine K.iload_n (q := 43) dX8_figures_42 rfl rfl ?_
            refine K.icmp_ge (q := 46) (tgt := 89) dX8_figures_43 rfl (by decide) (fun c_43_13 => ?_) (fun c_43_13 => ?_)
            · rw [if_pos c_43_13] at h
              obtain ⟨q0, q1, q2⟩ := ret3_inv h
              subst q0; subst q1; subst q2
              exact hx
            · rw [if_neg c_43_13] at h
              refine K.aload_n (q := 47) dX8_figures_46 rfl rfl ?_
              obtain ⟨v14, h9_14, h⟩ := bnd1_inv h
              refine K.callV0 (q := 50) mkX8_here mw_X8_190 (s_X8_here _ h9_14) rfl (by decide) rfl (lt141 (by decide)) rx131 (Nat.le_of_ble_eq_true rfl) (Nat.le_of_ble_eq_true rfl) (Nat.le_of_ble_eq_true rfl) dX8_figures_47 rfl ?_
              refine K.bipush (q := 52) (v := 48) dX8_figures_50 rfl (by decide) ?_
              refine K.bipush (q := 54) (v := 57) dX8_figures_52 rfl (by decide) ?_
              obtain ⟨v15, h9_15, h⟩ := bnd1_inv h
              refine K.callS0 (q := 57) mkX8_in mw_X8_56 (s_X8_in _ _ _ _ h9_15) rfl (by decide) rfl (Nat.le_of_ble_eq_true rfl) (Nat.le_of_ble_eq_true rfl) (Nat.le_of_ble_eq_true rfl) dX8_figures_54 rfl ?_
              refine K.if_eq (q := 60) (tgt := 89) dX8_figures_57 rfl (by decide) (fun c_57_16 => ?_) (fun c_57_16 => ?_)
              · rw [if_pos c_57_16] at h
                obtain ⟨q0, q1, q2⟩ := ret3_inv h
                subst q0; subst q1; subst q2
                exact hx
              · rw [if_neg c_57_16] at h
                refine K.bipush (q := 62) (v := 10) dX8_figures_60 rfl (by decide) ?_
                refine K.iload_n (q := 63) dX8_figures_62 rfl rfl ?_
                refine K.imul (q := 64) dX8_figures_63 rfl ?_
                refine K.aload_n (q := 65) dX8_figures_64 rfl rfl ?_
                obtain ⟨v17, h9_17, h⟩ := bnd1_inv h
                refine K.callV0 (q := 68) mkX8_here mw_X8_190 (s_X8_here _ h9_17) rfl (by decide) rfl (lt141 (by decide)) rx131 (Nat.le_of_ble_eq_true rfl) (Nat.le_of_ble_eq_true rfl) (Nat.le_of_ble_eq_true rfl) dX8_figures_65 rfl ?_
                refine K.iadd (q := 69) dX8_figures_68 rfl ?_
                refine K.bipush (q := 71) (v := 48) dX8_figures_69 rfl (by decide) ?_
                refine K.isub (q := 72) dX8_figures_71 rfl ?_
                refine K.istore_n (q := 73) (i := 2) dX8_figures_72 rfl rfl (by decide) rfl ?_
                refine K.aload_n (q := 74) dX8_figures_73 rfl rfl ?_
                refine K.dup (q := 75) dX8_figures_74 rfl rfl ?_
                refine K.getf (q := 78) (v := .int (XX34.2.1 20)) fo_X8_184.r rx131 (lt141 (by decide)) rfl dX8_figures_75 rfl ?_
                refine K.iconst (q := 79) (v := 1) dX8_figures_78 rfl (by decide) ?_
                refine K.iadd (q := 80) dX8_figures_79 rfl ?_
                refine K.putf (q := 83) fo_X8_184 rx131 (lt141 (by decide)) (Nat.le_of_ble_eq_true rfl) (fun _ => rfl) (fun _ => rfl) pxs20 dX8_figures_80 rfl ?_
                refine K.iinc (q := 86) (v := (a3_34 + 1)) dX8_figures_83 rfl rfl rfl (by decide) rfl ?_
                refine K.goto (tgt := 34) dX8_figures_86 (by decide) ?_
                exact ih (((10 * a2_34) + v17) - 48) (a3_34 + 1) (uS XX34 20 ((XX34.2.1 20) + 1)) _ _ _ h hx
      obtain ⟨a2_34_18, a3_34_18, XX34_18, h9_18, h⟩ := bnd3_inv h
      refine L34 1000 0 0 (uS X 21 0) _ _ _ h9_18 ?_
      refine K.iload_n (q := 90) dX8_figures_89 rfl rfl ?_
      obtain ⟨e_vo, e_Xo⟩ := ret2_inv h
      exact C.iret rfl rfl (congrArg (fun z => Sum.inl (some (Value.int z))) e_vo.symm) (congrArg mkH e_Xo) (Nat.le_of_ble_eq_true rfl) (Nat.le_of_ble_eq_true rfl) dX8_figures_90
    · rw [if_pos c_19_11] at h
      refine K.iconst (q := 23) (v := 1) dX8_figures_22 rfl (by decide) ?_
      refine K.goto (tgt := 27) dX8_figures_23 (by decide) ?_
      refine K.putf (q := 30) fo_X8_187 rx131 (lt141 (by decide)) (Nat.le_of_ble_eq_true rfl) (fun _ => rfl) (fun _ => rfl) pxs21 dX8_figures_27 rfl ?_
      refine K.iconst (q := 31) (v := 0) dX8_figures_30 rfl (by decide) ?_
      refine K.istore_n (q := 32) (i := 2) dX8_figures_31 rfl rfl (by decide) rfl ?_
      refine K.iconst (q := 33) (v := 0) dX8_figures_32 rfl (by decide) ?_
      refine K.istore_n (q := 34) (i := 3) dX8_figures_33 rfl rfl (by decide) rfl ?_
      have L34 : ∀ (j34 : Nat) (a2_34 : Int32) (a3_34 : Int32) (XX34 : GS) (a2_34r : Int32) (a3_34r : Int32) (XX34r : GS), lp_X8_figures_34 most j34 a2_34 a3_34 XX34 = some (a2_34r, a3_34r, XX34r) → (Wk 0 0 89 [some (.ref 131), some (.int most), some (.int a2_34r), some (.int a3_34r)] [] (mkH XX34r)) → Wk 0 0 34 [some (.ref 131), some (.int most), some (.int a2_34), some (.int a3_34)] [] (mkH XX34) := by
        intro j34
        induction j34 with
        | zero =>
          intro a2_34 a3_34 XX34 a2_34r a3_34r XX34r h hx
          rw [lp_X8_figures_34] at h
          cases h
        | succ j34 ih =>
          intro a2_34 a3_34 XX34 a2_34r a3_34r XX34r h hx
          rw [lp_X8_figures_34] at h
          refine K.aload_n (q := 35) dX8_figures_34 rfl rfl ?_
          refine K.getf (q := 38) (v := .int (XX34.2.1 21)) fo_X8_187.r rx131 (lt141 (by decide)) rfl dX8_figures_35 rfl ?_
          refine K.if_ne (q := 41) (tgt := 89) dX8_figures_38 rfl (by decide) (fun c_38_19 => ?_) (fun c_38_19 => ?_)
          · rw [if_neg c_38_19] at h
            obtain ⟨q0, q1, q2⟩ := ret3_inv h
            subst q0; subst q1; subst q2
            exact hx
          · rw [if_pos c_38_19] at h
            refine K.iload_n (q := 42) dX8_figures_41 rfl rfl ?_
            refine K.iload_n (q := 43) dX8_figures_42 rfl rfl ?_
            refine K.icmp_ge (q := 46) (tgt := 89) dX8_figures_43 rfl (by decide) (fun c_43_20 => ?_) (fun c_43_20 => ?_)
            · rw [if_pos c_43_20] at h
              obtain ⟨q0, q1, q2⟩ := ret3_inv h
              subst q0; subst q1; subst q2
              exact hx
            · rw [if_neg c_43_20] at h
              refine K.aload_n (q := 47) dX8_figures_46 rfl rfl ?_
              obtain ⟨v21, h9_21, h⟩ := bnd1_inv h
              refine K.callV0 (q := 50) mkX8_here mw_X8_190 (s_X8_here _ h9_21) rfl (by decide) rfl (lt141 (by decide)) rx131 (Nat.le_of_ble_eq_true rfl) (Nat.le_of_ble_eq_true rfl) (Nat.le_of_ble_eq_true rfl) dX8_figures_47 rfl ?_
              refine K.bipush (q := 52) (v := 48) dX8_figures_50 rfl (by decide) ?_
              refine K.bipush (q := 54) (v := 57) dX8_figures_52 rfl (by decide) ?_
              obtain ⟨v22, h9_22, h⟩ := bnd1_inv h
              refine K.callS0 (q := 57) mkX8_in mw_X8_56 (s_X8_in _ _ _ _ h9_22) rfl (by decide) rfl (Nat.le_of_ble_eq_true rfl) (Nat.le_of_ble_eq_true rfl) (Nat.le_of_ble_eq_true rfl) dX8_figures_54 rfl ?_
              refine K.if_eq (q := 60) (tgt := 89) dX8_figures_57 rfl (by decide) (fun c_57_23 => ?_) (fun c_57_23 => ?_)
              · rw [if_pos c_57_23] at h
                obtain ⟨q0, q1, q2⟩ := ret3_inv h
                subst q0; subst q1; subst q2
                exact hx
              · rw [if_neg c_57_23] at h
                refine K.bipush (q := 62) (v := 10) dX8_figures_60 rfl (by decide) ?_
                refine K.iload_n (q := 63) dX8_figures_62 rfl rfl ?_
                refine K.imul (q := 64) dX8_figures_63 rfl ?_
                refine K.aload_n (q := 65) dX8_figures_64 rfl rfl ?_
                obtain ⟨v24, h9_24, h⟩ := bnd1_inv h
                refine K.callV0 (q := 68) mkX8_here mw_X8_190 (s_X8_here _ h9_24) rfl (by decide) rfl (lt141 (by decide)) rx131 (Nat.le_of_ble_eq_true rfl) (Nat.le_of_ble_eq_true rfl) (Nat.le_of_ble_eq_true rfl) dX8_figures_65 rfl ?_
                refine K.iadd (q := 69) dX8_figures_68 rfl ?_
                refine K.bipush (q := 71) (v := 48) dX8_figures_69 rfl (by decide) ?_
                refine K.isub (q := 72) dX8_figures_71 rfl ?_
                refine K.istore_n (q := 73) (i := 2) dX8_figures_72 rfl rfl (by decide) rfl ?_
                refine K.aload_n (q := 74) dX8_figures_73 rfl rfl ?_
                refine K.dup (q := 75) dX8_figures_74 rfl rfl ?_
                refine K.getf (q := 78) (v := .int (XX34.2.1 20)) fo_X8_184.r rx131 (lt141 (by decide)) rfl dX8_figures_75 rfl ?_
                refine K.iconst (q := 79) (v := 1) dX8_figures_78 rfl (by decide) ?_
                refine K.iadd (q := 80) dX8_figures_79 rfl ?_
                refine K.putf (q := 83) fo_X8_184 rx131 (lt141 (by decide)) (Nat.le_of_ble_eq_true rfl) (fun _ => rfl) (fun _ => rfl) pxs20 dX8_figures_80 rfl ?_
                refine K.iinc (q := 86) (v := (a3_34 + 1)) dX8_figures_83 rfl rfl rfl (by decide) rfl ?_
                refine K.goto (tgt := 34) dX8_figures_86 (by decide) ?_
                exact ih (((10 * a2_34) + v24) - 48) (a3_34 + 1) (uS XX34 20 ((XX34.2.1 20) + 1)) _ _ _ h hx
      obtain ⟨a2_34_25, a3_34_25, XX34_25, h9_25, h⟩ := bnd3_inv h
      refine L34 1000 0 0 (uS X 21 1) _ _ _ h9_25 ?_
      refine K.iload_n (q := 90) dX8_figures_89 rfl rfl ?_
      obtain ⟨e_vo, e_Xo⟩ := ret2_inv h
      exact C.iret rfl rfl (congrArg (fun z => Sum.inl (some (Value.int z))) e_vo.symm) (congrArg mkH e_Xo) (Nat.le_of_ble_eq_true rfl) (Nat.le_of_ble_eq_true rfl) dX8_figures_90

def m_X8_readsOrder (X : GS) (k : Int32) : Option (GS) := (bnd1 (m_X8_here X) fun (v1 : Int32) => (if inR k 180 then (if v1 = 103 then (bnd2 (m_X8_figures (uA (uS X 20 ((X.2.1 20) + 1)) 11 (up (X.2.2.1 11) (k.toNatClampNeg) v1)) 2) fun (v4 : Int32) (X4 : GS) => (if inR (k + 1) 180 then (some (uA X4 11 (up (X4.2.2.1 11) ((k + 1).toNatClampNeg) v4))) else none)) else (if v1 = 104 then (some (uS (uS (uA (uS X 20 ((X.2.1 20) + 1)) 11 (up (X.2.2.1 11) (k.toNatClampNeg) v1)) 21 1) 20 (((X.2.1 20) + 1) - 1))) else (if v1 = 105 then (some (uS (uS (uA (uS X 20 ((X.2.1 20) + 1)) 11 (up (X.2.2.1 11) (k.toNatClampNeg) v1)) 21 1) 20 (((X.2.1 20) + 1) - 1))) else (if v1 = 106 then (some (uS (uS (uA (uS X 20 ((X.2.1 20) + 1)) 11 (up (X.2.2.1 11) (k.toNatClampNeg) v1)) 21 1) 20 (((X.2.1 20) + 1) - 1))) else (if v1 = 107 then (some (uS (uS (uA (uS X 20 ((X.2.1 20) + 1)) 11 (up (X.2.2.1 11) (k.toNatClampNeg) v1)) 21 1) 20 (((X.2.1 20) + 1) - 1))) else (if v1 = 108 then (bnd2 (m_X8_figures (uA (uS X 20 ((X.2.1 20) + 1)) 11 (up (X.2.2.1 11) (k.toNatClampNeg) v1)) 2) fun (v11 : Int32) (X11 : GS) => (if inR (k + 1) 180 then (if (X11.2.1 21) = 0 then (bnd1 (m_X8_here (uA X11 11 (up (X11.2.2.1 11) ((k + 1).toNatClampNeg) v11))) fun (v17 : Int32) => (if v17 = 58 then (bnd2 (m_X8_figures (uS (uS (uA X11 11 (up (X11.2.2.1 11) ((k + 1).toNatClampNeg) v11)) 21 0) 20 ((X11.2.1 20) + 1)) 2) fun (v20 : Int32) (X20 : GS) => (if inR (k + 2) 180 then (some (uA X20 11 (up (X20.2.2.1 11) ((k + 2).toNatClampNeg) v20))) else none)) else (bnd2 (m_X8_figures (uS (uS (uA X11 11 (up (X11.2.2.1 11) ((k + 1).toNatClampNeg) v11)) 21 1) 20 ((X11.2.1 20) + 0)) 2) fun (v23 : Int32) (X23 : GS) => (if inR (k + 2) 180 then (some (uA X23 11 (up (X23.2.2.1 11) ((k + 2).toNatClampNeg) v23))) else none)))) else (bnd2 (m_X8_figures (uS (uS (uA X11 11 (up (X11.2.2.1 11) ((k + 1).toNatClampNeg) v11)) 21 1) 20 ((X11.2.1 20) + 0)) 2) fun (v15 : Int32) (X15 : GS) => (if inR (k + 2) 180 then (some (uA X15 11 (up (X15.2.2.1 11) ((k + 2).toNatClampNeg) v15))) else none))) else none)) else (if v1 = 109 then (some (uS (uS (uA (uS X 20 ((X.2.1 20) + 1)) 11 (up (X.2.2.1 11) (k.toNatClampNeg) v1)) 21 1) 20 (((X.2.1 20) + 1) - 1))) else (if v1 = 110 then (bnd2 (m_X8_figures (uA (uS X 20 ((X.2.1 20) + 1)) 11 (up (X.2.2.1 11) (k.toNatClampNeg) v1)) 2) fun (v27 : Int32) (X27 : GS) => (if inR (k + 1) 180 then (some (uA X27 11 (up (X27.2.2.1 11) ((k + 1).toNatClampNeg) v27))) else none)) else (if v1 = 111 then (some (uS (uS (uA (uS X 20 ((X.2.1 20) + 1)) 11 (up (X.2.2.1 11) (k.toNatClampNeg) v1)) 21 1) 20 (((X.2.1 20) + 1) - 1))) else (if v1 = 112 then (some (uS (uS (uA (uS X 20 ((X.2.1 20) + 1)) 11 (up (X.2.2.1 11) (k.toNatClampNeg) v1)) 21 1) 20 (((X.2.1 20) + 1) - 1))) else (if v1 = 113 then (bnd2 (m_X8_figures (uA (uS X 20 ((X.2.1 20) + 1)) 11 (up (X.2.2.1 11) (k.toNatClampNeg) v1)) 2) fun (v32 : Int32) (X32 : GS) => (if inR (k + 1) 180 then (if (X32.2.1 21) = 0 then (bnd1 (m_X8_here (uA X32 11 (up (X32.2.2.1 11) ((k + 1).toNatClampNeg) v32))) fun (v38 : Int32) => (if v38 = 58 then (bnd2 (m_X8_figures (uS (uS (uA X32 11 (up (X32.2.2.1 11) ((k + 1).toNatClampNeg) v32)) 21 0) 20 ((X32.2.1 20) + 1)) 2) fun (v41 : Int32) (X41 : GS) => (if inR (k + 2) 180 then (some (uA X41 11 (up (X41.2.2.1 11) ((k + 2).toNatClampNeg) v41))) else none)) else (bnd2 (m_X8_figures (uS (uS (uA X32 11 (up (X32.2.2.1 11) ((k + 1).toNatClampNeg) v32)) 21 1) 20 ((X32.2.1 20) + 0)) 2) fun (v44 : Int32) (X44 : GS) => (if inR (k + 2) 180 then (some (uA X44 11 (up (X44.2.2.1 11) ((k + 2).toNatClampNeg) v44))) else none)))) else (bnd2 (m_X8_figures (uS (uS (uA X32 11 (up (X32.2.2.1 11) ((k + 1).toNatClampNeg) v32)) 21 1) 20 ((X32.2.1 20) + 0)) 2) fun (v36 : Int32) (X36 : GS) => (if inR (k + 2) 180 then (some (uA X36 11 (up (X36.2.2.1 11) ((k + 2).toNatClampNeg) v36))) else none))) else none)) else (if v1 = 114 then (bnd2 (m_X8_figures (uA (uS X 20 ((X.2.1 20) + 1)) 11 (up (X.2.2.1 11) (k.toNatClampNeg) v1)) 2) fun (v47 : Int32) (X47 : GS) => (if inR (k + 1) 180 then (if (X47.2.1 21) = 0 then (bnd1 (m_X8_here (uA X47 11 (up (X47.2.2.1 11) ((k + 1).toNatClampNeg) v47))) fun (v53 : Int32) => (if v53 = 58 then (bnd2 (m_X8_figures (uS (uS (uA X47 11 (up (X47.2.2.1 11) ((k + 1).toNatClampNeg) v47)) 21 0) 20 ((X47.2.1 20) + 1)) 2) fun (v56 : Int32) (X56 : GS) => (if inR (k + 2) 180 then (some (uA X56 11 (up (X56.2.2.1 11) ((k + 2).toNatClampNeg) v56))) else none)) else (bnd2 (m_X8_figures (uS (uS (uA X47 11 (up (X47.2.2.1 11) ((k + 1).toNatClampNeg) v47)) 21 1) 20 ((X47.2.1 20) + 0)) 2) fun (v59 : Int32) (X59 : GS) => (if inR (k + 2) 180 then (some (uA X59 11 (up (X59.2.2.1 11) ((k + 2).toNatClampNeg) v59))) else none)))) else (bnd2 (m_X8_figures (uS (uS (uA X47 11 (up (X47.2.2.1 11) ((k + 1).toNatClampNeg) v47)) 21 1) 20 ((X47.2.1 20) + 0)) 2) fun (v51 : Int32) (X51 : GS) => (if inR (k + 2) 180 then (some (uA X51 11 (up (X51.2.2.1 11) ((k + 2).toNatClampNeg) v51))) else none))) else none)) else (if v1 = 115 then (some (uS (uS (uA (uS X 20 ((X.2.1 20) + 1)) 11 (up (X.2.2.1 11) (k.toNatClampNeg) v1)) 21 1) 20 (((X.2.1 20) + 1) - 1))) else (if v1 = 116 then (some (uS (uS (uA (uS X 20 ((X.2.1 20) + 1)) 11 (up (X.2.2.1 11) (k.toNatClampNeg) v1)) 21 1) 20 (((X.2.1 20) + 1) - 1))) else (if v1 = 117 then (some (uS (uS (uA (uS X 20 ((X.2.1 20) + 1)) 11 (up (X.2.2.1 11) (k.toNatClampNeg) v1)) 21 1) 20 (((X.2.1 20) + 1) - 1))) else (if v1 = 118 then (some (uS (uS (uA (uS X 20 ((X.2.1 20) + 1)) 11 (up (X.2.2.1 11) (k.toNatClampNeg) v1)) 21 1) 20 (((X.2.1 20) + 1) - 1))) else (if v1 = 119 then (bnd2 (m_X8_figures (uA (uS X 20 ((X.2.1 20) + 1)) 11 (up (X.2.2.1 11) (k.toNatClampNeg) v1)) 1) fun (v66 : Int32) (X66 : GS) => (if inR (k + 1) 180 then (some (uA X66 11 (up (X66.2.2.1 11) ((k + 1).toNatClampNeg) v66))) else none)) else (some (uS (uS (uA (uS X 20 ((X.2.1 20) + 1)) 11 (up (X.2.2.1 11) (k.toNatClampNeg) v1)) 21 1) 20 (((X.2.1 20) + 1) - 1)))))))))))))))))))) else none))
set_option maxRecDepth 20000 in
set_option maxHeartbeats 1000000 in
theorem s_X8_readsOrder (X : GS) (k : Int32) {Xo : GS} (h : m_X8_readsOrder X k = some Xo) : Ct 3 0 0 yX8_readsOrder (.code yX8_readsOrder cX8_readsOrder 3 none) [.ref 131, .int k] (mkH X) (.inl none) (mkH Xo) := by
  refine Ct.of (LL := [some (.ref 131), some (.int k), none]) mkX8_readsOrder.1 owX8_readsOrder rfl (Nat.le_of_ble_eq_true rfl) rfl (fun Wk C => ?_)
  have K := C.core
  rw [m_X8_readsOrder] at h
  refine K.aload_n (q := 1) dX8_readsOrder_0 rfl rfl ?_
  obtain ⟨v1, h9_1, h⟩ := bnd1_inv h
  refine K.callV0 (q := 4) mkX8_here mw_X8_190 (s_X8_here _ h9_1) rfl (by decide) rfl (lt141 (by decide)) rx131 (Nat.le_of_ble_eq_true rfl) (Nat.le_of_ble_eq_true rfl) (Nat.le_of_ble_eq_true rfl) dX8_readsOrder_1 rfl ?_
  refine K.istore_n (q := 5) (i := 2) dX8_readsOrder_4 rfl rfl (by decide) rfl ?_
  refine K.aload_n (q := 6) dX8_readsOrder_5 rfl rfl ?_
  refine K.dup (q := 7) dX8_readsOrder_6 rfl rfl ?_
  refine K.getf (q := 10) (v := .int (X.2.1 20)) fo_X8_184.r rx131 (lt141 (by decide)) rfl dX8_readsOrder_7 rfl ?_
  refine K.iconst (q := 11) (v := 1) dX8_readsOrder_10 rfl (by decide) ?_
  refine K.iadd (q := 12) dX8_readsOrder_11 rfl ?_
  refine K.putf (q := 15) fo_X8_184 rx131 (lt141 (by decide)) (Nat.le_of_ble_eq_true rfl) (fun _ => rfl) (fun _ => rfl) pxs20 dX8_readsOrder_12 rfl ?_
  refine K.aload_n (q := 16) dX8_readsOrder_15 rfl rfl ?_
  refine K.getf (q := 19) (v := .ref 138) fo_X8_33.r rx131 (lt141 (by decide)) rfl dX8_readsOrder_16 rfl ?_
  refine K.iload_n (q := 20) dX8_readsOrder_19 rfl rfl ?_
  refine K.iload_n (q := 21) dX8_readsOrder_20 rfl rfl ?_
  obtain ⟨k_2, h⟩ := chk_inv h
  refine K.ias (q := 22) (f := (X.2.2.1 11)) (m := (k.toNatClampNeg)) rx138 (lt141 (by decide)) (cl_nI k_2.1) k_2.2 (by decide) pxa11 dX8_readsOrder_21 rfl ?_
  refine K.iload_n (q := 23) dX8_readsOrder_22 rfl rfl ?_
  by_cases c_23_3 : v1 = 103
  · refine K.tableIn (tgt := 179) dX8_readsOrder_23 (by rw [c_23_3]; decide) (by rw [c_23_3]; decide) (by rw [c_23_3]; try rfl) (by decide) ?_
    rw [if_pos c_23_3] at h
    refine K.aload_n (q := 180) dX8_readsOrder_179 rfl rfl ?_
    refine K.getf (q := 183) (v := .ref 138) fo_X8_33.r rx131 (lt141 (by decide)) rfl dX8_readsOrder_180 rfl ?_
    refine K.iload_n (q := 184) dX8_readsOrder_183 rfl rfl ?_
    refine K.iconst (q := 185) (v := 1) dX8_readsOrder_184 rfl (by decide) ?_
    refine K.iadd (q := 186) dX8_readsOrder_185 rfl ?_
    refine K.aload_n (q := 187) dX8_readsOrder_186 rfl rfl ?_
    refine K.iconst (q := 188) (v := 2) dX8_readsOrder_187 rfl (by decide) ?_
    obtain ⟨v4, X4, h9_4, h⟩ := bnd2_inv h
    refine K.callV0 (q := 191) mkX8_figures mw_X8_193 (s_X8_figures _ _ h9_4) rfl (by decide) rfl (lt141 (by decide)) rx131 (Nat.le_of_ble_eq_true rfl) (Nat.le_of_ble_eq_true rfl) (Nat.le_of_ble_eq_true rfl) dX8_readsOrder_188 rfl ?_
    obtain ⟨k_5, h⟩ := chk_inv h
    refine K.ias (q := 192) (f := (X4.2.2.1 11)) (m := ((k + 1).toNatClampNeg)) rx138 (lt141 (by decide)) (cl_nI k_5.1) k_5.2 (by decide) pxa11 dX8_readsOrder_191 rfl ?_
    refine K.goto (tgt := 226) dX8_readsOrder_192 (by decide) ?_
    obtain e_Xo := ret1_inv h
    exact C.vret rfl rfl (congrArg mkH e_Xo) (Nat.le_of_ble_eq_true rfl) (Nat.le_of_ble_eq_true rfl) dX8_readsOrder_226
  · skip
    rw [if_neg c_23_3] at h
    by_cases c_23_6 : v1 = 104
    · refine K.tableIn (tgt := 211) dX8_readsOrder_23 (by rw [c_23_6]; decide) (by rw [c_23_6]; decide) (by rw [c_23_6]; try rfl) (by decide) ?_
      rw [if_pos c_23_6] at h
      refine K.aload_n (q := 212) dX8_readsOrder_211 rfl rfl ?_
      refine K.iconst (q := 213) (v := 1) dX8_readsOrder_212 rfl (by decide) ?_
      refine K.putf (q := 216) fo_X8_187 rx131 (lt141 (by decide)) (Nat.le_of_ble_eq_true rfl) (fun _ => rfl) (fun _ => rfl) pxs21 dX8_readsOrder_213 rfl ?_
      refine K.aload_n (q := 217) dX8_readsOrder_216 rfl rfl ?_
      refine K.dup (q := 218) dX8_readsOrder_217 rfl rfl ?_
      refine K.getf (q := 221) (v := .int ((X.2.1 20) + 1)) fo_X8_184.r rx131 (lt141 (by decide)) rfl dX8_readsOrder_218 rfl ?_
      refine K.iconst (q := 222) (v := 1) dX8_readsOrder_221 rfl (by decide) ?_
      refine K.isub (q := 223) dX8_readsOrder_222 rfl ?_
      refine K.putf (q := 226) fo_X8_184 rx131 (lt141 (by decide)) (Nat.le_of_ble_eq_true rfl) (fun _ => rfl) (fun _ => rfl) pxs20 dX8_readsOrder_223 rfl ?_
      obtain e_Xo := ret1_inv h
      exact C.vret rfl rfl (congrArg mkH e_Xo) (Nat.le_of_ble_eq_true rfl) (Nat.le_of_ble_eq_true rfl) dX8_readsOrder_226
    · skip
      rw [if_neg c_23_6] at h
      by_cases c_23_7 : v1 = 105
      · refine K.tableIn (tgt := 211) dX8_readsOrder_23 (by rw [c_23_7]; decide) (by rw [c_23_7]; decide) (by rw [c_23_7]; try rfl) (by decide) ?_
        rw [if_pos c_23_7] at h
        refine K.aload_n (q := 212) dX8_readsOrder_211 rfl rfl ?_
        refine K.iconst (q := 213) (v := 1) dX8_readsOrder_212 rfl (by decide) ?_
        refine K.putf (q := 216) fo_X8_187 rx131 (lt141 (by decide)) (Nat.le_of_ble_eq_true rfl) (fun _ => rfl) (fun _ => rfl) pxs21 dX8_readsOrder_213 rfl ?_
        refine K.aload_n (q := 217) dX8_readsOrder_216 rfl rfl ?_
        refine K.dup (q := 218) dX8_readsOrder_217 rfl rfl ?_
        refine K.getf (q := 221) (v := .int ((X.2.1 20) + 1)) fo_X8_184.r rx131 (lt141 (by decide)) rfl dX8_readsOrder_218 rfl ?_
        refine K.iconst (q := 222) (v := 1) dX8_readsOrder_221 rfl (by decide) ?_
        refine K.isub (q := 223) dX8_readsOrder_222 rfl ?_
        refine K.putf (q := 226) fo_X8_184 rx131 (lt141 (by decide)) (Nat.le_of_ble_eq_true rfl) (fun _ => rfl) (fun _ => rfl) pxs20 dX8_readsOrder_223 rfl ?_
        obtain e_Xo := ret1_inv h
        exact C.vret rfl rfl (congrArg mkH e_Xo) (Nat.le_of_ble_eq_true rfl) (Nat.le_of_ble_eq_true rfl) dX8_readsOrder_226
      · skip
        rw [if_neg c_23_7] at h
        by_cases c_23_8 : v1 = 106
        · refine K.tableIn (tgt := 211) dX8_readsOrder_23 (by rw [c_23_8]; decide) (by rw [c_23_8]; decide) (by rw [c_23_8]; try rfl) (by decide) ?_
          rw [if_pos c_23_8] at h
          refine K.aload_n (q := 212) dX8_readsOrder_211 rfl rfl ?_
          refine K.iconst (q := 213) (v := 1) dX8_readsOrder_212 rfl (by decide) ?_
          refine K.putf (q := 216) fo_X8_187 rx131 (lt141 (by decide)) (Nat.le_of_ble_eq_true rfl) (fun _ => rfl) (fun _ => rfl) pxs21 dX8_readsOrder_213 rfl ?_
          refine K.aload_n (q := 217) dX8_readsOrder_216 rfl rfl ?_
          refine K.dup (q := 218) dX8_readsOrder_217 rfl rfl ?_
          refine K.getf (q := 221) (v := .int ((X.2.1 20) + 1)) fo_X8_184.r rx131 (lt141 (by decide)) rfl dX8_readsOrder_218 rfl ?_
          refine K.iconst (q := 222) (v := 1) dX8_readsOrder_221 rfl (by decide) ?_
          refine K.isub (q := 223) dX8_readsOrder_222 rfl ?_
          refine K.putf (q := 226) fo_X8_184 rx131 (lt141 (by decide)) (Nat.le_of_ble_eq_true rfl) (fun _ => rfl) (fun _ => rfl) pxs20 dX8_readsOrder_223 rfl ?_
          obtain e_Xo := ret1_inv h
          exact C.vret rfl rfl (congrArg mkH e_Xo) (Nat.le_of_ble_eq_true rfl) (Nat.le_of_ble_eq_true rfl) dX8_readsOrder_226
        · skip
          rw [if_neg c_23_8] at h
          by_cases c_23_9 : v1 = 107
          · refine K.tableIn (tgt := 211) dX8_readsOrder_23 (by rw [c_23_9]; decide) (by rw [c_23_9]; decide) (by rw [c_23_9]; try rfl) (by decide) ?_
            rw [if_pos c_23_9] at h
            refine K.aload_n (q := 212) dX8_readsOrder_211 rfl rfl ?_
            refine K.iconst (q := 213) (v := 1) dX8_readsOrder_212 rfl (by decide) ?_
            refine K.putf (q := 216) fo_X8_187 rx131 (lt141 (by decide)) (Nat.le_of_ble_eq_true rfl) (fun _ => rfl) (fun _ => rfl) pxs21 dX8_readsOrder_213 rfl ?_
            refine K.aload_n (q := 217) dX8_readsOrder_216 rfl rfl ?_
            refine K.dup (q := 218) dX8_readsOrder_217 rfl rfl ?_
            refine K.getf (q := 221) (v := .int ((X.2.1 20) + 1)) fo_X8_184.r rx131 (lt141 (by decide)) rfl dX8_readsOrder_218 rfl ?_
            refine K.iconst (q := 222) (v := 1) dX8_readsOrder_221 rfl (by decide) ?_
            refine K.isub (q := 223) dX8_readsOrder_222 rfl ?_
            refine K.putf (q := 226) fo_X8_184 rx131 (lt141 (by decide)) (Nat.le_of_ble_eq_true rfl) (fun _ => rfl) (fun _ => rfl) pxs20 dX8_readsOrder_223 rfl ?_
            obtain e_Xo := ret1_inv h
            exact C.vret rfl rfl (congrArg mkH e_Xo) (Nat.le_of_ble_eq_true rfl) (Nat.le_of_ble_eq_true rfl) dX8_readsOrder_226
          · skip
            rw [if_neg c_23_9] at h
            by_cases c_23_10 : v1 = 108
            · refine K.tableIn (tgt := 104) dX8_readsOrder_23 (by rw [c_23_10]; decide) (by rw [c_23_10]; decide) (by rw [c_23_10]; try rfl) (by decide) ?_
              rw [if_pos c_23_10] at h
              refine K.aload_n (q := 105) dX8_readsOrder_104 rfl rfl ?_
              refine K.getf (q := 108) (v := .ref 138) fo_X8_33.r rx131 (lt141 (by decide)) rfl dX8_readsOrder_105 rfl ?_
              refine K.iload_n (q := 109) dX8_readsOrder_108 rfl rfl ?_
              refine K.iconst (q := 110) (v := 1) dX8_readsOrder_109 rfl (by decide) ?_
              refine K.iadd (q := 111) dX8_readsOrder_110 rfl ?_
              refine K.aload_n (q := 112) dX8_readsOrder_111 rfl rfl ?_
              refine K.iconst (q := 113) (v := 2) dX8_readsOrder_112 rfl (by decide) ?_
              obtain ⟨v11, X11, h9_11, h⟩ := bnd2_inv h
              refine K.callV0 (q := 116) mkX8_figures mw_X8_193 (s_X8_figures _ _ h9_11) rfl (by decide) rfl (lt141 (by decide)) rx131 (Nat.le_of_ble_eq_true rfl) (Nat.le_of_ble_eq_true rfl) (Nat.le_of_ble_eq_true rfl) dX8_readsOrder_113 rfl ?_
              obtain ⟨k_12, h⟩ := chk_inv h
              refine K.ias (q := 117) (f := (X11.2.2.1 11)) (m := ((k + 1).toNatClampNeg)) rx138 (lt141 (by decide)) (cl_nI k_12.1) k_12.2 (by decide) pxa11 dX8_readsOrder_116 rfl ?_
              refine K.aload_n (q := 118) dX8_readsOrder_117 rfl rfl ?_
              refine K.aload_n (q := 119) dX8_readsOrder_118 rfl rfl ?_
              refine K.getf (q := 122) (v := .int (X11.2.1 21)) fo_X8_187.r rx131 (lt141 (by decide)) rfl dX8_readsOrder_119 rfl ?_
              refine K.if_ne (q := 125) (tgt := 134) dX8_readsOrder_122 rfl (by decide) (fun c_122_13 => ?_) (fun c_122_13 => ?_)
              · rw [if_neg c_122_13] at h
                refine K.iconst (q := 135) (v := 1) dX8_readsOrder_134 rfl (by decide) ?_
                refine K.goto (tgt := 139) dX8_readsOrder_135 (by decide) ?_
                refine K.putf (q := 142) fo_X8_187 rx131 (lt141 (by decide)) (Nat.le_of_ble_eq_true rfl) (fun _ => rfl) (fun _ => rfl) pxs21 dX8_readsOrder_139 rfl ?_
                refine K.aload_n (q := 143) dX8_readsOrder_142 rfl rfl ?_
                refine K.dup (q := 144) dX8_readsOrder_143 rfl rfl ?_
                refine K.getf (q := 147) (v := .int (X11.2.1 20)) fo_X8_184.r rx131 (lt141 (by decide)) rfl dX8_readsOrder_144 rfl ?_
                refine K.aload_n (q := 148) dX8_readsOrder_147 rfl rfl ?_
                refine K.getf (q := 151) (v := .int 1) fo_X8_187.r rx131 (lt141 (by decide)) rfl dX8_readsOrder_148 rfl ?_
                refine K.if_eq (q := 154) (tgt := 158) dX8_readsOrder_151 rfl (by decide) (fun z => absurd z (by decide)) (fun _ => ?_)
                refine K.iconst (q := 155) (v := 0) dX8_readsOrder_154 rfl (by decide) ?_
                refine K.goto (tgt := 159) dX8_readsOrder_155 (by decide) ?_
                refine K.iadd (q := 160) dX8_readsOrder_159 rfl ?_
                refine K.putf (q := 163) fo_X8_184 rx131 (lt141 (by decide)) (Nat.le_of_ble_eq_true rfl) (fun _ => rfl) (fun _ => rfl) pxs20 dX8_readsOrder_160 rfl ?_
                refine K.aload_n (q := 164) dX8_readsOrder_163 rfl rfl ?_
                refine K.getf (q := 167) (v := .ref 138) fo_X8_33.r rx131 (lt141 (by decide)) rfl dX8_readsOrder_164 rfl ?_
                refine K.iload_n (q := 168) dX8_readsOrder_167 rfl rfl ?_
                refine K.iconst (q := 169) (v := 2) dX8_readsOrder_168 rfl (by decide) ?_
                refine K.iadd (q := 170) dX8_readsOrder_169 rfl ?_
                refine K.aload_n (q := 171) dX8_readsOrder_170 rfl rfl ?_
                refine K.iconst (q := 172) (v := 2) dX8_readsOrder_171 rfl (by decide) ?_
                obtain ⟨v15, X15, h9_15, h⟩ := bnd2_inv h
                refine K.callV0 (q := 175) mkX8_figures mw_X8_193 (s_X8_figures _ _ h9_15) rfl (by decide) rfl (lt141 (by decide)) rx131 (Nat.le_of_ble_eq_true rfl) (Nat.le_of_ble_eq_true rfl) (Nat.le_of_ble_eq_true rfl) dX8_readsOrder_172 rfl ?_
                obtain ⟨k_16, h⟩ := chk_inv h
                refine K.ias (q := 176) (f := (X15.2.2.1 11)) (m := ((k + 2).toNatClampNeg)) rx138 (lt141 (by decide)) (cl_nI k_16.1) k_16.2 (by decide) pxa11 dX8_readsOrder_175 rfl ?_
                refine K.goto (tgt := 226) dX8_readsOrder_176 (by decide) ?_
                obtain e_Xo := ret1_inv h
                exact C.vret rfl rfl (congrArg mkH e_Xo) (Nat.le_of_ble_eq_true rfl) (Nat.le_of_ble_eq_true rfl) dX8_readsOrder_226
              · rw [if_pos c_122_13] at h
                refine K.aload_n (q := 126) dX8_readsOrder_125 rfl rfl ?_
                obtain ⟨v17, h9_17, h⟩ := bnd1_inv h
                refine K.callV0 (q := 129) mkX8_here mw_X8_190 (s_X8_here _ h9_17) rfl (by decide) rfl (lt141 (by decide)) rx131 (Nat.le_of_ble_eq_true rfl) (Nat.le_of_ble_eq_true rfl) (Nat.le_of_ble_eq_true rfl) dX8_readsOrder_126 rfl ?_
                refine K.bipush (q := 131) (v := 58) dX8_readsOrder_129 rfl (by decide) ?_
                refine K.icmp_eq (q := 134) (tgt := 138) dX8_readsOrder_131 rfl (by decide) (fun c_131_18 => ?_) (fun c_131_18 => ?_)
                · rw [if_pos c_131_18] at h
                  refine K.iconst (q := 139) (v := 0) dX8_readsOrder_138 rfl (by decide) ?_
                  refine K.putf (q := 142) fo_X8_187 rx131 (lt141 (by decide)) (Nat.le_of_ble_eq_true rfl) (fun _ => rfl) (fun _ => rfl) pxs21 dX8_readsOrder_139 rfl ?_
                  refine K.aload_n (q := 143) dX8_readsOrder_142 rfl rfl ?_
                  refine K.dup (q := 144) dX8_readsOrder_143 rfl rfl ?_
                  refine K.getf (q := 147) (v := .int (X11.2.1 20)) fo_X8_184.r rx131 (lt141 (by decide)) rfl dX8_readsOrder_144 rfl ?_
                  refine K.aload_n (q := 148) dX8_readsOrder_147 rfl rfl ?_
                  refine K.getf (q := 151) (v := .int 0) fo_X8_187.r rx131 (lt141 (by decide)) rfl dX8_readsOrder_148 rfl ?_
                  refine K.if_eq (q := 154) (tgt := 158) dX8_readsOrder_151 rfl (by decide) (fun _ => ?_) (fun z => absurd z (by decide))
                  refine K.iconst (q := 159) (v := 1) dX8_readsOrder_158 rfl (by decide) ?_
                  refine K.iadd (q := 160) dX8_readsOrder_159 rfl ?_
                  refine K.putf (q := 163) fo_X8_184 rx131 (lt141 (by decide)) (Nat.le_of_ble_eq_true rfl) (fun _ => rfl) (fun _ => rfl) pxs20 dX8_readsOrder_160 rfl ?_
                  refine K.aload_n (q := 164) dX8_readsOrder_163 rfl rfl ?_
                  refine K.getf (q := 167) (v := .ref 138) fo_X8_33.r rx131 (lt141 (by decide)) rfl dX8_readsOrder_164 rfl ?_
                  refine K.iload_n (q := 168) dX8_readsOrder_167 rfl rfl ?_
                  refine K.iconst (q := 169) (v := 2) dX8_readsOrder_168 rfl (by decide) ?_
                  refine K.iadd (q := 170) dX8_readsOrder_169 rfl ?_
                  refine K.aload_n (q := 171) dX8_readsOrder_170 rfl rfl ?_
                  refine K.iconst (q := 172) (v := 2) dX8_readsOrder_171 rfl (by decide) ?_
                  obtain ⟨v20, X20, h9_20, h⟩ := bnd2_inv h
                  refine K.callV0 (q := 175) mkX8_figures mw_X8_193 (s_X8_figures _ _ h9_20) rfl (by decide) rfl (lt141 (by decide)) rx131 (Nat.le_of_ble_eq_true rfl) (Nat.le_of_ble_eq_true rfl) (Nat.le_of_ble_eq_true rfl) dX8_readsOrder_172 rfl ?_
                  obtain ⟨k_21, h⟩ := chk_inv h
                  refine K.ias (q := 176) (f := (X20.2.2.1 11)) (m := ((k + 2).toNatClampNeg)) rx138 (lt141 (by decide)) (cl_nI k_21.1) k_21.2 (by decide) pxa11 dX8_readsOrder_175 rfl ?_
                  refine K.goto (tgt := 226) dX8_readsOrder_176 (by decide) ?_
                  obtain e_Xo := ret1_inv h
                  exact C.vret rfl rfl (congrArg mkH e_Xo) (Nat.le_of_ble_eq_true rfl) (Nat.le_of_ble_eq_true rfl) dX8_readsOrder_226
                · rw [if_neg c_131_18] at h
                  refine K.iconst (q := 135) (v := 1) dX8_readsOrder_134 rfl (by decide) ?_
                  refine K.goto (tgt := 139) dX8_readsOrder_135 (by decide) ?_
                  refine K.putf (q := 142) fo_X8_187 rx131 (lt141 (by decide)) (Nat.le_of_ble_eq_true rfl) (fun _ => rfl) (fun _ => rfl) pxs21 dX8_readsOrder_139 rfl ?_
                  refine K.aload_n (q := 143) dX8_readsOrder_142 rfl rfl ?_
                  refine K.dup (q := 144) dX8_readsOrder_143 rfl rfl ?_
                  refine K.getf (q := 147) (v := .int (X11.2.1 20)) fo_X8_184.r rx131 (lt141 (by decide)) rfl dX8_readsOrder_144 rfl ?_
                  refine K.aload_n (q := 148) dX8_readsOrder_147 rfl rfl ?_
                  refine K.getf (q := 151) (v := .int 1) fo_X8_187.r rx131 (lt141 (by decide)) rfl dX8_readsOrder_148 rfl ?_
                  refine K.if_eq (q := 154) (tgt := 158) dX8_readsOrder_151 rfl (by decide) (fun z => absurd z (by decide)) (fun _ => ?_)
                  refine K.iconst (q := 155) (v := 0) dX8_readsOrder_154 rfl (by decide) ?_
                  refine K.goto (tgt := 159) dX8_readsOrder_155 (by decide) ?_
                  refine K.iadd (q := 160) dX8_readsOrder_159 rfl ?_
                  refine K.putf (q := 163) fo_X8_184 rx131 (lt141 (by decide)) (Nat.le_of_ble_eq_true rfl) (fun _ => rfl) (fun _ => rfl) pxs20 dX8_readsOrder_160 rfl ?_
                  refine K.aload_n (q := 164) dX8_readsOrder_163 rfl rfl ?_
                  refine K.getf (q := 167) (v := .ref 138) fo_X8_33.r rx131 (lt141 (by decide)) rfl dX8_readsOrder_164 rfl ?_
                  refine K.iload_n (q := 168) dX8_readsOrder_167 rfl rfl ?_
                  refine K.iconst (q := 169) (v := 2) dX8_readsOrder_168 rfl (by decide) ?_
                  refine K.iadd (q := 170) dX8_readsOrder_169 rfl ?_
                  refine K.aload_n (q := 171) dX8_readsOrder_170 rfl rfl ?_
                  refine K.iconst (q := 172) (v := 2) dX8_readsOrder_171 rfl (by decide) ?_
                  obtain ⟨v23, X23, h9_23, h⟩ := bnd2_inv h
                  refine K.callV0 (q := 175) mkX8_figures mw_X8_193 (s_X8_figures _ _ h9_23) rfl (by decide) rfl (lt141 (by decide)) rx131 (Nat.le_of_ble_eq_true rfl) (Nat.le_of_ble_eq_true rfl) (Nat.le_of_ble_eq_true rfl) dX8_readsOrder_172 rfl ?_
                  obtain ⟨k_24, h⟩ := chk_inv h
                  refine K.ias (q := 176) (f := (X23.2.2.1 11)) (m := ((k + 2).toNatClampNeg)) rx138 (lt141 (by decide)) (cl_nI k_24.1) k_24.2 (by decide) pxa11 dX8_readsOrder_175 rfl ?_
                  refine K.goto (tgt := 226) dX8_readsOrder_176 (by decide) ?_
                  obtain e_Xo := ret1_inv h
                  exact C.vret rfl rfl (congrArg mkH e_Xo) (Nat.le_of_ble_eq_true rfl) (Nat.le_of_ble_eq_true rfl) dX8_readsOrder_226
            · skip
              rw [if_neg c_23_10] at h
              by_cases c_23_25 : v1 = 109
              · refine K.tableIn (tgt := 211) dX8_readsOrder_23 (by rw [c_23_25]; decide) (by rw [c_23_25]; decide) (by rw [c_23_25]; try rfl) (by decide) ?_
                rw [if_pos c_23_25] at h
                refine K.aload_n (q := 212) dX8_readsOrder_211 rfl rfl ?_
                refine K.iconst (q := 213) (v := 1) dX8_readsOrder_212 rfl (by decide) ?_
                refine K.putf (q := 216) fo_X8_187 rx131 (lt141 (by decide)) (Nat.le_of_ble_eq_true rfl) (fun _ => rfl) (fun _ => rfl) pxs21 dX8_readsOrder_213 rfl ?_
                refine K.aload_n (q := 217) dX8_readsOrder_216 rfl rfl ?_
                refine K.dup (q := 218) dX8_readsOrder_217 rfl rfl ?_
                refine K.getf (q := 221) (v := .int ((X.2.1 20) + 1)) fo_X8_184.r rx131 (lt141 (by decide)) rfl dX8_readsOrder_218 rfl ?_
                refine K.iconst (q := 222) (v := 1) dX8_readsOrder_221 rfl (by decide) ?_
                refine K.isub (q := 223) dX8_readsOrder_222 rfl ?_
                refine K.putf (q := 226) fo_X8_184 rx131 (lt141 (by decide)) (Nat.le_of_ble_eq_true rfl) (fun _ => rfl) (fun _ => rfl) pxs20 dX8_readsOrder_223 rfl ?_
                obtain e_Xo := ret1_inv h
                exact C.vret rfl rfl (congrArg mkH e_Xo) (Nat.le_of_ble_eq_true rfl) (Nat.le_of_ble_eq_true rfl) dX8_readsOrder_226
              · skip
                rw [if_neg c_23_25] at h
                by_cases c_23_26 : v1 = 110
                · refine K.tableIn (tgt := 179) dX8_readsOrder_23 (by rw [c_23_26]; decide) (by rw [c_23_26]; decide) (by rw [c_23_26]; try rfl) (by decide) ?_
                  rw [if_pos c_23_26] at h
                  refine K.aload_n (q := 180) dX8_readsOrder_179 rfl rfl ?_
                  refine K.getf (q := 183) (v := .ref 138) fo_X8_33.r rx131 (lt141 (by decide)) rfl dX8_readsOrder_180 rfl ?_
                  refine K.iload_n (q := 184) dX8_readsOrder_183 rfl rfl ?_
                  refine K.iconst (q := 185) (v := 1) dX8_readsOrder_184 rfl (by decide) ?_
                  refine K.iadd (q := 186) dX8_readsOrder_185 rfl ?_
                  refine K.aload_n (q := 187) dX8_readsOrder_186 rfl rfl ?_
                  refine K.iconst (q := 188) (v := 2) dX8_readsOrder_187 rfl (by decide) ?_
                  obtain ⟨v27, X27, h9_27, h⟩ := bnd2_inv h
                  refine K.callV0 (q := 191) mkX8_figures mw_X8_193 (s_X8_figures _ _ h9_27) rfl (by decide) rfl (lt141 (by decide)) rx131 (Nat.le_of_ble_eq_true rfl) (Nat.le_of_ble_eq_true rfl) (Nat.le_of_ble_eq_true rfl) dX8_readsOrder_188 rfl ?_
                  obtain ⟨k_28, h⟩ := chk_inv h
                  refine K.ias (q := 192) (f := (X27.2.2.1 11)) (m := ((k + 1).toNatClampNeg)) rx138 (lt141 (by decide)) (cl_nI k_28.1) k_28.2 (by decide) pxa11 dX8_readsOrder_191 rfl ?_
                  refine K.goto (tgt := 226) dX8_readsOrder_192 (by decide) ?_
                  obtain e_Xo := ret1_inv h
                  exact C.vret rfl rfl (congrArg mkH e_Xo) (Nat.le_of_ble_eq_true rfl) (Nat.le_of_ble_eq_true rfl) dX8_readsOrder_226
                · skip
                  rw [if_neg c_23_26] at h
                  by_cases c_23_29 : v1 = 111
                  · refine K.tableIn (tgt := 211) dX8_readsOrder_23 (by rw [c_23_29]; decide) (by rw [c_23_29]; decide) (by rw [c_23_29]; try rfl) (by decide) ?_
                    rw [if_pos c_23_29] at h
                    refine K.aload_n (q := 212) dX8_readsOrder_211 rfl rfl ?_
                    refine K.iconst (q := 213) (v := 1) dX8_readsOrder_212 rfl (by decide) ?_
                    refine K.putf (q := 216) fo_X8_187 rx131 (lt141 (by decide)) (Nat.le_of_ble_eq_true rfl) (fun _ => rfl) (fun _ => rfl) pxs21 dX8_readsOrder_213 rfl ?_
                    refine K.aload_n (q := 217) dX8_readsOrder_216 rfl rfl ?_
                    refine K.dup (q := 218) dX8_readsOrder_217 rfl rfl ?_
                    refine K.getf (q := 221) (v := .int ((X.2.1 20) + 1)) fo_X8_184.r rx131 (lt141 (by decide)) rfl dX8_readsOrder_218 rfl ?_
                    refine K.iconst (q := 222) (v := 1) dX8_readsOrder_221 rfl (by decide) ?_
                    refine K.isub (q := 223) dX8_readsOrder_222 rfl ?_
                    refine K.putf (q := 226) fo_X8_184 rx131 (lt141 (by decide)) (Nat.le_of_ble_eq_true rfl) (fun _ => rfl) (fun _ => rfl) pxs20 dX8_readsOrder_223 rfl ?_
                    obtain e_Xo := ret1_inv h
                    exact C.vret rfl rfl (congrArg mkH e_Xo) (Nat.le_of_ble_eq_true rfl) (Nat.le_of_ble_eq_true rfl) dX8_readsOrder_226
                  · skip
                    rw [if_neg c_23_29] at h
                    by_cases c_23_30 : v1 = 112
                    · refine K.tableIn (tgt := 211) dX8_readsOrder_23 (by rw [c_23_30]; decide) (by rw [c_23_30]; decide) (by rw [c_23_30]; try rfl) (by decide) ?_
                      rw [if_pos c_23_30] at h
                      refine K.aload_n (q := 212) dX8_readsOrder_211 rfl rfl ?_
                      refine K.iconst (q := 213) (v := 1) dX8_readsOrder_212 rfl (by decide) ?_
                      refine K.putf (q := 216) fo_X8_187 rx131 (lt141 (by decide)) (Nat.le_of_ble_eq_true rfl) (fun _ => rfl) (fun _ => rfl) pxs21 dX8_readsOrder_213 rfl ?_
                      refine K.aload_n (q := 217) dX8_readsOrder_216 rfl rfl ?_
                      refine K.dup (q := 218) dX8_readsOrder_217 rfl rfl ?_
                      refine K.getf (q := 221) (v := .int ((X.2.1 20) + 1)) fo_X8_184.r rx131 (lt141 (by decide)) rfl dX8_readsOrder_218 rfl ?_
                      refine K.iconst (q := 222) (v := 1) dX8_readsOrder_221 rfl (by decide) ?_
                      refine K.isub (q := 223) dX8_readsOrder_222 rfl ?_
                      refine K.putf (q := 226) fo_X8_184 rx131 (lt141 (by decide)) (Nat.le_of_ble_eq_true rfl) (fun _ => rfl) (fun _ => rfl) pxs20 dX8_readsOrder_223 rfl ?_
                      obtain e_Xo := ret1_inv h
                      exact C.vret rfl rfl (congrArg mkH e_Xo) (Nat.le_of_ble_eq_true rfl) (Nat.le_of_ble_eq_true rfl) dX8_readsOrder_226
                    · skip
                      rw [if_neg c_23_30] at h
                      by_cases c_23_31 : v1 = 113
                      · refine K.tableIn (tgt := 104) dX8_readsOrder_23 (by rw [c_23_31]; decide) (by rw [c_23_31]; decide) (by rw [c_23_31]; try rfl) (by decide) ?_
                        rw [if_pos c_23_31] at h
                        refine K.aload_n (q := 105) dX8_readsOrder_104 rfl rfl ?_
                        refine K.getf (q := 108) (v := .ref 138) fo_X8_33.r rx131 (lt141 (by decide)) rfl dX8_readsOrder_105 rfl ?_
                        refine K.iload_n (q := 109) dX8_readsOrder_108 rfl rfl ?_
                        refine K.iconst (q := 110) (v := 1) dX8_readsOrder_109 rfl (by decide) ?_
                        refine K.iadd (q := 111) dX8_readsOrder_110 rfl ?_
                        refine K.aload_n (q := 112) dX8_readsOrder_111 rfl rfl ?_
                        refine K.iconst (q := 113) (v := 2) dX8_readsOrder_112 rfl (by decide) ?_
                        obtain ⟨v32, X32, h9_32, h⟩ := bnd2_inv h
                        refine K.callV0 (q := 116) mkX8_figures mw_X8_193 (s_X8_figures _ _ h9_32) rfl (by decide) rfl (lt141 (by decide)) rx131 (Nat.le_of_ble_eq_true rfl) (Nat.le_of_ble_eq_true rfl) (Nat.le_of_ble_eq_true rfl) dX8_readsOrder_113 rfl ?_
                        obtain ⟨k_33, h⟩ := chk_inv h
                        refine K.ias (q := 117) (f := (X32.2.2.1 11)) (m := ((k + 1).toNatClampNeg)) rx138 (lt141 (by decide)) (cl_nI k_33.1) k_33.2 (by decide) pxa11 dX8_readsOrder_116 rfl ?_
                        refine K.aload_n (q := 118) dX8_readsOrder_117 rfl rfl ?_
                        refine K.aload_n (q := 119) dX8_readsOrder_118 rfl rfl ?_
                        refine K.getf (q := 122) (v := .int (X32.2.1 21)) fo_X8_187.r rx131 (lt141 (by decide)) rfl dX8_readsOrder_119 rfl ?_
                        refine K.if_ne (q := 125) (tgt := 134) dX8_readsOrder_122 rfl (by decide) (fun c_122_34 => ?_) (fun c_122_34 => ?_)
                        · rw [if_neg c_122_34] at h
                          refine K.iconst (q := 135) (v := 1) dX8_readsOrder_134 rfl (by decide) ?_
                          refine K.goto (tgt := 139) dX8_readsOrder_135 (by decide) ?_
                          refine K.putf (q := 142) fo_X8_187 rx131 (lt141 (by decide)) (Nat.le_of_ble_eq_true rfl) (fun _ => rfl) (fun _ => rfl) pxs21 dX8_readsOrder_139 rfl ?_
                          refine K.aload_n (q := 143) dX8_readsOrder_142 rfl rfl ?_
                          refine K.dup (q := 144) dX8_readsOrder_143 rfl rfl ?_
                          refine K.getf (q := 147) (v := .int (X32.2.1 20)) fo_X8_184.r rx131 (lt141 (by decide)) rfl dX8_readsOrder_144 rfl ?_
                          refine K.aload_n (q := 148) dX8_readsOrder_147 rfl rfl ?_
                          refine K.getf (q := 151) (v := .int 1) fo_X8_187.r rx131 (lt141 (by decide)) rfl dX8_readsOrder_148 rfl ?_
                          refine K.if_eq (q := 154) (tgt := 158) dX8_readsOrder_151 rfl (by decide) (fun z => absurd z (by decide)) (fun _ => ?_)
                          refine K.iconst (q := 155) (v := 0) dX8_readsOrder_154 rfl (by decide) ?_
                          refine K.goto (tgt := 159) dX8_readsOrder_155 (by decide) ?_
                          refine K.iadd (q := 160) dX8_readsOrder_159 rfl ?_
                          refine K.putf (q := 163) fo_X8_184 rx131 (lt141 (by decide)) (Nat.le_of_ble_eq_true rfl) (fun _ => rfl) (fun _ => rfl) pxs20 dX8_readsOrder_160 rfl ?_
                          refine K.aload_n (q := 164) dX8_readsOrder_163 rfl rfl ?_
                          refine K.getf (q := 167) (v := .ref 138) fo_X8_33.r rx131 (lt141 (by decide)) rfl dX8_readsOrder_164 rfl ?_
                          refine K.iload_n (q := 168) dX8_readsOrder_167 rfl rfl ?_
                          refine K.iconst (q := 169) (v := 2) dX8_readsOrder_168 rfl (by decide) ?_
                          refine K.iadd (q := 170) dX8_readsOrder_169 rfl ?_
                          refine K.aload_n (q := 171) dX8_readsOrder_170 rfl rfl ?_
                          refine K.iconst (q := 172) (v := 2) dX8_readsOrder_171 rfl (by decide) ?_
                          obtain ⟨v36, X36, h9_36, h⟩ := bnd2_inv h
                          refine K.callV0 (q := 175) mkX8_figures mw_X8_193 (s_X8_figures _ _ h9_36) rfl (by decide) rfl (lt141 (by decide)) rx131 (Nat.le_of_ble_eq_true rfl) (Nat.le_of_ble_eq_true rfl) (Nat.le_of_ble_eq_true rfl) dX8_readsOrder_172 rfl ?_
                          obtain ⟨k_37, h⟩ := chk_inv h
                          refine K.ias (q := 176) (f := (X36.2.2.1 11)) (m := ((k + 2).toNatClampNeg)) rx138 (lt141 (by decide)) (cl_nI k_37.1) k_37.2 (by decide) pxa11 dX8_readsOrder_175 rfl ?_
                          refine K.goto (tgt := 226) dX8_readsOrder_176 (by decide) ?_
                          obtain e_Xo := ret1_inv h
                          exact C.vret rfl rfl (congrArg mkH e_Xo) (Nat.le_of_ble_eq_true rfl) (Nat.le_of_ble_eq_true rfl) dX8_readsOrder_226
                        · rw [if_pos c_122_34] at h
                          refine K.aload_n (q := 126) dX8_readsOrder_125 rfl rfl ?_
                          obtain ⟨v38, h9_38, h⟩ := bnd1_inv h
                          refine K.callV0 (q := 129) mkX8_here mw_X8_190 (s_X8_here _ h9_38) rfl (by decide) rfl (lt141 (by decide)) rx131 (Nat.le_of_ble_eq_true rfl) (Nat.le_of_ble_eq_true rfl) (Nat.le_of_ble_eq_true rfl) dX8_readsOrder_126 rfl ?_
                          refine K.bipush (q := 131) (v := 58) dX8_readsOrder_129 rfl (by decide) ?_
                          refine K.icmp_eq (q := 134) (tgt := 138) dX8_readsOrder_131 rfl (by decide) (fun c_131_39 => ?_) (fun c_131_39 => ?_)
                          · rw [if_pos c_131_39] at h
                            refine K.iconst (q := 139) (v := 0) dX8_readsOrder_138 rfl (by decide) ?_
                            refine K.putf (q := 142) fo_X8_187 rx131 (lt141 (by decide)) (Nat.le_of_ble_eq_true rfl) (fun _ => rfl) (fun _ => rfl) pxs21 dX8_readsOrder_139 rfl ?_
                            refine K.aload_n (q := 143) dX8_readsOrder_142 rfl rfl ?_
                            refine K.dup (q := 144) dX8_readsOrder_143 rfl rfl ?_
                            refine K.getf (q := 147) (v := .int (X32.2.1 20)) fo_X8_184.r rx131 (lt141 (by decide)) rfl dX8_readsOrder_144 rfl ?_
                            refine K.aload_n (q := 148) dX8_readsOrder_147 rfl rfl ?_
                            refine K.getf (q := 151) (v := .int 0) fo_X8_187.r rx131 (lt141 (by decide)) rfl dX8_readsOrder_148 rfl ?_
                            refine K.if_eq (q := 154) (tgt := 158) dX8_readsOrder_151 rfl (by decide) (fun _ => ?_) (fun z => absurd z (by decide))
                            refine K.iconst (q := 159) (v := 1) dX8_readsOrder_158 rfl (by decide) ?_
                            refine K.iadd (q := 160) dX8_readsOrder_159 rfl ?_
                            refine K.putf (q := 163) fo_X8_184 rx131 (lt141 (by decide)) (Nat.le_of_ble_eq_true rfl) (fun _ => rfl) (fun _ => rfl) pxs20 dX8_readsOrder_160 rfl ?_
                            refine K.aload_n (q := 164) dX8_readsOrder_163 rfl rfl ?_
                            refine K.getf (q := 167) (v := .ref 138) fo_X8_33.r rx131 (lt141 (by decide)) rfl dX8_readsOrder_164 rfl ?_
                            refine K.iload_n (q := 168) dX8_readsOrder_167 rfl rfl ?_
                            refine K.iconst (q := 169) (v := 2) dX8_readsOrder_168 rfl (by decide) ?_
                            refine K.iadd (q := 170) dX8_readsOrder_169 rfl ?_
                            refine K.aload_n (q := 171) dX8_readsOrder_170 rfl rfl ?_
                            refine K.iconst (q := 172) (v := 2) dX8_readsOrder_171 rfl (by decide) ?_
                            obtain ⟨v41, X41, h9_41, h⟩ := bnd2_inv h
                            refine K.callV0 (q := 175) mkX8_figures mw_X8_193 (s_X8_figures _ _ h9_41) rfl (by decide) rfl (lt141 (by decide)) rx131 (Nat.le_of_ble_eq_true rfl) (Nat.le_of_ble_eq_true rfl) (Nat.le_of_ble_eq_true rfl) dX8_readsOrder_172 rfl ?_
                            obtain ⟨k_42, h⟩ := chk_inv h
                            refine K.ias (q := 176) (f := (X41.2.2.1 11)) (m := ((k + 2).toNatClampNeg)) rx138 (lt141 (by decide)) (cl_nI k_42.1) k_42.2 (by decide) pxa11 dX8_readsOrder_175 rfl ?_
                            refine K.goto (tgt := 226) dX8_readsOrder_176 (by decide) ?_
                            obtain e_Xo := ret1_inv h
                            exact C.vret rfl rfl (congrArg mkH e_Xo) (Nat.le_of_ble_eq_true rfl) (Nat.le_of_ble_eq_true rfl) dX8_readsOrder_226
                          · rw [if_neg c_131_39] at h
                            refine K.iconst (q := 135) (v := 1) dX8_readsOrder_134 rfl (by decide) ?_
                            refine K.goto (tgt := 139) dX8_readsOrder_135 (by decide) ?_
                            refine K.putf (q := 142) fo_X8_187 rx131 (lt141 (by decide)) (Nat.le_of_ble_eq_true rfl) (fun _ => rfl) (fun _ => rfl) pxs21 dX8_readsOrder_139 rfl ?_
                            refine K.aload_n (q := 143) dX8_readsOrder_142 rfl rfl ?_
                            refine K.dup (q := 144) dX8_readsOrder_143 rfl rfl ?_
                            refine K.getf (q := 147) (v := .int (X32.2.1 20)) fo_X8_184.r rx131 (lt141 (by decide)) rfl dX8_readsOrder_144 rfl ?_
                            refine K.aload_n (q := 148) dX8_readsOrder_147 rfl rfl ?_
                            refine K.getf (q := 151) (v := .int 1) fo_X8_187.r rx131 (lt141 (by decide)) rfl dX8_readsOrder_148 rfl ?_
                            refine K.if_eq (q := 154) (tgt := 158) dX8_readsOrder_151 rfl (by decide) (fun z => absurd z (by decide)) (fun _ => ?_)
                            refine K.iconst (q := 155) (v := 0) dX8_readsOrder_154 rfl (by decide) ?_
                            refine K.goto (tgt := 159) dX8_readsOrder_155 (by decide) ?_
                            refine K.iadd (q := 160) dX8_readsOrder_159 rfl ?_
                            refine K.putf (q := 163) fo_X8_184 rx131 (lt141 (by decide)) (Nat.le_of_ble_eq_true rfl) (fun _ => rfl) (fun _ => rfl) pxs20 dX8_readsOrder_160 rfl ?_
                            refine K.aload_n (q := 164) dX8_readsOrder_163 rfl rfl ?_
                            refine K.getf (q := 167) (v := .ref 138) fo_X8_33.r rx131 (lt141 (by decide)) rfl dX8_readsOrder_164 rfl ?_
                            refine K.iload_n (q := 168) dX8_readsOrder_167 rfl rfl ?_
                            refine K.iconst (q := 169) (v := 2) dX8_readsOrder_168 rfl (by decide) ?_
                            refine K.iadd (q := 170) dX8_readsOrder_169 rfl ?_
                            refine K.aload_n (q := 171) dX8_readsOrder_170 rfl rfl ?_
                            refine K.iconst (q := 172) (v := 2) dX8_readsOrder_171 rfl (by decide) ?_
                            obtain ⟨v44, X44, h9_44, h⟩ := bnd2_inv h
                            refine K.callV0 (q := 175) mkX8_figures mw_X8_193 (s_X8_figures _ _ h9_44) rfl (by decide) rfl (lt141 (by decide)) rx131 (Nat.le_of_ble_eq_true rfl) (Nat.le_of_ble_eq_true rfl) (Nat.le_of_ble_eq_true rfl) dX8_readsOrder_172 rfl ?_
                            obtain ⟨k_45, h⟩ := chk_inv h
                            refine K.ias (q := 176) (f := (X44.2.2.1 11)) (m := ((k + 2).toNatClampNeg)) rx138 (lt141 (by decide)) (cl_nI k_45.1) k_45.2 (by decide) pxa11 dX8_readsOrder_175 rfl ?_
                            refine K.goto (tgt := 226) dX8_readsOrder_176 (by decide) ?_
                            obtain e_Xo := ret1_inv h
                            exact C.vret rfl rfl (congrArg mkH e_Xo) (Nat.le_of_ble_eq_true rfl) (Nat.le_of_ble_eq_true rfl) dX8_readsOrder_226
                      · skip
                        rw [if_neg c_23_31] at h
                        by_cases c_23_46 : v1 = 114
                        · refine K.tableIn (tgt := 104) dX8_readsOrder_23 (by rw [c_23_46]; decide) (by rw [c_23_46]; decide) (by rw [c_23_46]; try rfl) (by decide) ?_
                          rw [if_pos c_23_46] at h
                          refine K.aload_n (q := 105) dX8_readsOrder_104 rfl rfl ?_
                          refine K.getf (q := 108) (v := .ref 138) fo_X8_33.r rx131 (lt141 (by decide)) rfl dX8_readsOrder_105 rfl ?_
                          refine K.iload_n (q := 109) dX8_readsOrder_108 rfl rfl ?_
                          refine K.iconst (q := 110) (v := 1) dX8_readsOrder_109 rfl (by decide) ?_
                          refine K.iadd (q := 111) dX8_readsOrder_110 rfl ?_
                          refine K.aload_n (q := 112) dX8_readsOrder_111 rfl rfl ?_
                          refine K.iconst (q := 113) (v := 2) dX8_readsOrder_112 rfl (by decide) ?_
                          obtain ⟨v47, X47, h9_47, h⟩ := bnd2_inv h
                          refine K.callV0 (q := 116) mkX8_figures mw_X8_193 (s_X8_figures _ _ h9_47) rfl (by decide) rfl (lt141 (by decide)) rx131 (Nat.le_of_ble_eq_true rfl) (Nat.le_of_ble_eq_true rfl) (Nat.le_of_ble_eq_true rfl) dX8_readsOrder_113 rfl ?_
                          obtain ⟨k_48, h⟩ := chk_inv h
                          refine K.ias (q := 117) (f := (X47.2.2.1 11)) (m := ((k + 1).toNatClampNeg)) rx138 (lt141 (by decide)) (cl_nI k_48.1) k_48.2 (by decide) pxa11 dX8_readsOrder_116 rfl ?_
                          refine K.aload_n (q := 118) dX8_readsOrder_117 rfl rfl ?_
                          refine K.aload_n (q := 119) dX8_readsOrder_118 rfl rfl ?_
                          refine K.getf (q := 122) (v := .int (X47.2.1 21)) fo_X8_187.r rx131 (lt141 (by decide)) rfl dX8_readsOrder_119 rfl ?_
                          refine K.if_ne (q := 125) (tgt := 134) dX8_readsOrder_122 rfl (by decide) (fun c_122_49 => ?_) (fun c_122_49 => ?_)
                          · rw [if_neg c_122_49] at h
                            refine K.iconst (q := 135) (v := 1) dX8_readsOrder_134 rfl (by decide) ?_
                            refine K.goto (tgt := 139) dX8_readsOrder_135 (by decide) ?_
                            refine K.putf (q := 142) fo_X8_187 rx131 (lt141 (by decide)) (Nat.le_of_ble_eq_true rfl) (fun _ => rfl) (fun _ => rfl) pxs21 dX8_readsOrder_139 rfl ?_
                            refine K.aload_n (q := 143) dX8_readsOrder_142 rfl rfl ?_
                            refine K.dup (q := 144) dX8_readsOrder_143 rfl rfl ?_
                            refine K.getf (q := 147) (v := .int (X47.2.1 20)) fo_X8_184.r rx131 (lt141 (by decide)) rfl dX8_readsOrder_144 rfl ?_
                            refine K.aload_n (q := 148) dX8_readsOrder_147 rfl rfl ?_
                            refine K.getf (q := 151) (v := .int 1) fo_X8_187.r rx131 (lt141 (by decide)) rfl dX8_readsOrder_148 rfl ?_
                            refine K.if_eq (q := 154) (tgt := 158) dX8_readsOrder_151 rfl (by decide) (fun z => absurd z (by decide)) (fun _ => ?_)
                            refine K.iconst (q := 155) (v := 0) dX8_readsOrder_154 rfl (by decide) ?_
                            refine K.goto (tgt := 159) dX8_readsOrder_155 (by decide) ?_
                            refine K.iadd (q := 160) dX8_readsOrder_159 rfl ?_
                            refine K.putf (q := 163) fo_X8_184 rx131 (lt141 (by decide)) (Nat.le_of_ble_eq_true rfl) (fun _ => rfl) (fun _ => rfl) pxs20 dX8_readsOrder_160 rfl ?_
                            refine K.aload_n (q := 164) dX8_readsOrder_163 rfl rfl ?_
                            refine K.getf (q := 167) (v := .ref 138) fo_X8_33.r rx131 (lt141 (by decide)) rfl dX8_readsOrder_164 rfl ?_
                            refine K.iload_n (q := 168) dX8_readsOrder_167 rfl rfl ?_
                            refine K.iconst (q := 169) (v := 2) dX8_readsOrder_168 rfl (by decide) ?_
                            refine K.iadd (q := 170) dX8_readsOrder_169 rfl ?_
                            refine K.aload_n (q := 171) dX8_readsOrder_170 rfl rfl ?_
                            refine K.iconst (q := 172) (v := 2) dX8_readsOrder_171 rfl (by decide) ?_
                            obtain ⟨v51, X51, h9_51, h⟩ := bnd2_inv h
                            refine K.callV0 (q := 175) mkX8_figures mw_X8_193 (s_X8_figures _ _ h9_51) rfl (by decide) rfl (lt141 (by decide)) rx131 (Nat.le_of_ble_eq_true rfl) (Nat.le_of_ble_eq_true rfl) (Nat.le_of_ble_eq_true rfl) dX8_readsOrder_172 rfl ?_
                            obtain ⟨k_52, h⟩ := chk_inv h
                            refine K.ias (q := 176) (f := (X51.2.2.1 11)) (m := ((k + 2).toNatClampNeg)) rx138 (lt141 (by decide)) (cl_nI k_52.1) k_52.2 (by decide) pxa11 dX8_readsOrder_175 rfl ?_
                            refine K.goto (tgt := 226) dX8_readsOrder_176 (by decide) ?_
                            obtain e_Xo := ret1_inv h
                            exact C.vret rfl rfl (congrArg mkH e_Xo) (Nat.le_of_ble_eq_true rfl) (Nat.le_of_ble_eq_true rfl) dX8_readsOrder_226
                          · rw [if_pos c_122_49] at h
                            refine K.aload_n (q := 126) dX8_readsOrder_125 rfl rfl ?_
                            obtain ⟨v53, h9_53, h⟩ := bnd1_inv h
                            refine K.callV0 (q := 129) mkX8_here mw_X8_190 (s_X8_here _ h9_53) rfl (by decide) rfl (lt141 (by decide)) rx131 (Nat.le_of_ble_eq_true rfl) (Nat.le_of_ble_eq_true rfl) (Nat.le_of_ble_eq_true rfl) dX8_readsOrder_126 rfl ?_
                            refine K.bipush (q := 131) (v := 58) dX8_readsOrder_129 rfl (by decide) ?_
                            refine K.icmp_eq (q := 134) (tgt := 138) dX8_readsOrder_131 rfl (by decide) (fun c_131_54 => ?_) (fun c_131_54 => ?_)
                            · rw [if_pos c_131_54] at h
                              refine K.iconst (q := 139) (v := 0) dX8_readsOrder_138 rfl (by decide) ?_
                              refine K.putf (q := 142) fo_X8_187 rx131 (lt141 (by decide)) (Nat.le_of_ble_eq_true rfl) (fun _ => rfl) (fun _ => rfl) pxs21 dX8_readsOrder_139 rfl ?_
                              refine K.aload_n (q := 143) dX8_readsOrder_142 rfl rfl ?_
                              refine K.dup (q := 144) dX8_readsOrder_143 rfl rfl ?_
                              refine K.getf (q := 147) (v := .int (X47.2.1 20)) fo_X8_184.r rx131 (lt141 (by decide)) rfl dX8_readsOrder_144 rfl ?_
                              refine K.aload_n (q := 148) dX8_readsOrder_147 rfl rfl ?_
                              refine K.getf (q := 151) (v := .int 0) fo_X8_187.r rx131 (lt141 (by decide)) rfl dX8_readsOrder_148 rfl ?_
                              refine K.if_eq (q := 154) (tgt := 158) dX8_readsOrder_151 rfl (by decide) (fun _ => ?_) (fun z => absurd z (by decide))
                              refine K.iconst (q := 159) (v := 1) dX8_readsOrder_158 rfl (by decide) ?_
                              refine K.iadd (q := 160) dX8_readsOrder_159 rfl ?_
                              refine K.putf (q := 163) fo_X8_184 rx131 (lt141 (by decide)) (Nat.le_of_ble_eq_true rfl) (fun _ => rfl) (fun _ => rfl) pxs20 dX8_readsOrder_160 rfl ?_
                              refine K.aload_n (q := 164) dX8_readsOrder_163 rfl rfl ?_
                              refine K.getf (q := 167) (v := .ref 138) fo_X8_33.r rx131 (lt141 (by decide)) rfl dX8_readsOrder_164 rfl ?_
                              refine K.iload_n (q := 168) dX8_readsOrder_167 rfl rfl ?_
                              refine K.iconst (q := 169) (v := 2) dX8_readsOrder_168 rfl (by decide) ?_
                              refine K.iadd (q := 170) dX8_readsOrder_169 rfl ?_
                              refine K.aload_n (q := 171) dX8_readsOrder_170 rfl rfl ?_
                              refine K.iconst (q := 172) (v := 2) dX8_readsOrder_171 rfl (by decide) ?_
                              obtain ⟨v56, X56, h9_56, h⟩ := bnd2_inv h
                              refine K.callV0 (q := 175) mkX8_figures mw_X8_193 (s_X8_figures _ _ h9_56) rfl (by decide) rfl (lt141 (by decide)) rx131 (Nat.le_of_ble_eq_true rfl) (Nat.le_of_ble_eq_true rfl) (Nat.le_of_ble_eq_true rfl) dX8_readsOrder_172 rfl ?_
                              obtain ⟨k_57, h⟩ := chk_inv h
                              refine K.ias (q := 176) (f := (X56.2.2.1 11)) (m := ((k + 2).toNatClampNeg)) rx138 (lt141 (by decide)) (cl_nI k_57.1) k_57.2 (by decide) pxa11 dX8_readsOrder_175 rfl ?_
                              refine K.goto (tgt := 226) dX8_readsOrder_176 (by decide) ?_
                              obtain e_Xo := ret1_inv h
                              exact C.vret rfl rfl (congrArg mkH e_Xo) (Nat.le_of_ble_eq_true rfl) (Nat.le_of_ble_eq_true rfl) dX8_readsOrder_226
                            · rw [if_neg c_131_54] at h
                              refine K.iconst (q := 135) (v := 1) dX8_readsOrder_134 rfl (by decide) ?_
                              refine K.goto (tgt := 139) dX8_readsOrder_135 (by decide) ?_
                              refine K.putf (q := 142) fo_X8_187 rx131 (lt141 (by decide)) (Nat.le_of_ble_eq_true rfl) (fun _ => rfl) (fun _ => rfl) pxs21 dX8_readsOrder_139 rfl ?_
                              refine K.aload_n (q := 143) dX8_readsOrder_142 rfl rfl ?_
                              refine K.dup (q := 144) dX8_readsOrder_143 rfl rfl ?_
                              refine K.getf (q := 147) (v := .int (X47.2.1 20)) fo_X8_184.r rx131 (lt141 (by decide)) rfl dX8_readsOrder_144 rfl ?_
                              refine K.aload_n (q := 148) dX8_readsOrder_147 rfl rfl ?_
                              refine K.getf (q := 151) (v := .int 1) fo_X8_187.r rx131 (lt141 (by decide)) rfl dX8_readsOrder_148 rfl ?_
                              refine K.if_eq (q := 154) (tgt := 158) dX8_readsOrder_151 rfl (by decide) (fun z => absurd z (by decide)) (fun _ => ?_)
                              refine K.iconst (q := 155) (v := 0) dX8_readsOrder_154 rfl (by decide) ?_
                              refine K.goto (tgt := 159) dX8_readsOrder_155 (by decide) ?_
                              refine K.iadd (q := 160) dX8_readsOrder_159 rfl ?_
                              refine K.putf (q := 163) fo_X8_184 rx131 (lt141 (by decide)) (Nat.le_of_ble_eq_true rfl) (fun _ => rfl) (fun _ => rfl) pxs20 dX8_readsOrder_160 rfl ?_
                              refine K.aload_n (q := 164) dX8_readsOrder_163 rfl rfl ?_
                              refine K.getf (q := 167) (v := .ref 138) fo_X8_33.r rx131 (lt141 (by decide)) rfl dX8_readsOrder_164 rfl ?_
                              refine K.iload_n (q := 168) dX8_readsOrder_167 rfl rfl ?_
                              refine K.iconst (q := 169) (v := 2) dX8_readsOrder_168 rfl (by decide) ?_
                              refine K.iadd (q := 170) dX8_readsOrder_169 rfl ?_
                              refine K.aload_n (q := 171) dX8_readsOrder_170 rfl rfl ?_
                              refine K.iconst (q := 172) (v := 2) dX8_readsOrder_171 rfl (by decide) ?_
                              obtain ⟨v59, X59, h9_59, h⟩ := bnd2_inv h
                              refine K.callV0 (q := 175) mkX8_figures mw_X8_193 (s_X8_figures _ _ h9_59) rfl (by decide) rfl (lt141 (by decide)) rx131 (Nat.le_of_ble_eq_true rfl) (Nat.le_of_ble_eq_true rfl) (Nat.le_of_ble_eq_true rfl) dX8_readsOrder_172 rfl ?_
                              obtain ⟨k_60, h⟩ := chk_inv h
                              refine K.ias (q := 176) (f := (X59.2.2.1 11)) (m := ((k + 2).toNatClampNeg)) rx138 (lt141 (by decide)) (cl_nI k_60.1) k_60.2 (by decide) pxa11 dX8_readsOrder_175 rfl ?_
                              refine K.goto (tgt := 226) dX8_readsOrder_176 (by decide) ?_
                              obtain e_Xo := ret1_inv h
                              exact C.vret rfl rfl (congrArg mkH e_Xo) (Nat.le_of_ble_eq_true rfl) (Nat.le_of_ble_eq_true rfl) dX8_readsOrder_226
                        · skip
                          rw [if_neg c_23_46] at h
                          by_cases c_23_61 : v1 = 115
                          · refine K.tableIn (tgt := 211) dX8_readsOrder_23 (by rw [c_23_61]; decide) (by rw [c_23_61]; decide) (by rw [c_23_61]; try rfl) (by decide) ?_
                            rw [if_pos c_23_61] at h
                            refine K.aload_n (q := 212) dX8_readsOrder_211 rfl rfl ?_
                            refine K.iconst (q := 213) (v := 1) dX8_readsOrder_212 rfl (by decide) ?_
                            refine K.putf (q := 216) fo_X8_187 rx131 (lt141 (by decide)) (Nat.le_of_ble_eq_true rfl) (fun _ => rfl) (fun _ => rfl) pxs21 dX8_readsOrder_213 rfl ?_
                            refine K.aload_n (q := 217) dX8_readsOrder_216 rfl rfl ?_
                            refine K.dup (q := 218) dX8_readsOrder_217 rfl rfl ?_
                            refine K.getf (q := 221) (v := .int ((X.2.1 20) + 1)) fo_X8_184.r rx131 (lt141 (by decide)) rfl dX8_readsOrder_218 rfl ?_
                            refine K.iconst (q := 222) (v := 1) dX8_readsOrder_221 rfl (by decide) ?_
                            refine K.isub (q := 223) dX8_readsOrder_222 rfl ?_
                            refine K.putf (q := 226) fo_X8_184 rx131 (lt141 (by decide)) (Nat.le_of_ble_eq_true rfl) (fun _ => rfl) (fun _ => rfl) pxs20 dX8_readsOrder_223 rfl ?_
                            obtain e_Xo := ret1_inv h
                            exact C.vret rfl rfl (congrArg mkH e_Xo) (Nat.le_of_ble_eq_true rfl) (Nat.le_of_ble_eq_true rfl) dX8_readsOrder_226
                          · skip
                            rw [if_neg c_23_61] at h
                            by_cases c_23_62 : v1 = 116
                            · refine K.tableIn (tgt := 211) dX8_readsOrder_23 (by rw [c_23_62]; decide) (by rw [c_23_62]; decide) (by rw [c_23_62]; try rfl) (by decide) ?_
                              rw [if_pos c_23_62] at h
                              refine K.aload_n (q := 212) dX8_readsOrder_211 rfl rfl ?_
                              refine K.iconst (q := 213) (v := 1) dX8_readsOrder_212 rfl (by decide) ?_
                              refine K.putf (q := 216) fo_X8_187 rx131 (lt141 (by decide)) (Nat.le_of_ble_eq_true rfl) (fun _ => rfl) (fun _ => rfl) pxs21 dX8_readsOrder_213 rfl ?_
                              refine K.aload_n (q := 217) dX8_readsOrder_216 rfl rfl ?_
                              refine K.dup (q := 218) dX8_readsOrder_217 rfl rfl ?_
                              refine K.getf (q := 221) (v := .int ((X.2.1 20) + 1)) fo_X8_184.r rx131 (lt141 (by decide)) rfl dX8_readsOrder_218 rfl ?_
                              refine K.iconst (q := 222) (v := 1) dX8_readsOrder_221 rfl (by decide) ?_
                              refine K.isub (q := 223) dX8_readsOrder_222 rfl ?_
                              refine K.putf (q := 226) fo_X8_184 rx131 (lt141 (by decide)) (Nat.le_of_ble_eq_true rfl) (fun _ => rfl) (fun _ => rfl) pxs20 dX8_readsOrder_223 rfl ?_
                              obtain e_Xo := ret1_inv h
                              exact C.vret rfl rfl (congrArg mkH e_Xo) (Nat.le_of_ble_eq_true rfl) (Nat.le_of_ble_eq_true rfl) dX8_readsOrder_226
                            · skip
                              rw [if_neg c_23_62] at h
                              by_cases c_23_63 : v1 = 117
                              · refine K.tableIn (tgt := 211) dX8_readsOrder_23 (by rw [c_23_63]; decide) (by rw [c_23_63]; decide) (by rw [c_23_63]; try rfl) (by decide) ?_
                                rw [if_pos c_23_63] at h
                                refine K.aload_n (q := 212) dX8_readsOrder_211 rfl rfl ?_
                                refine K.iconst (q := 213) (v := 1) dX8_readsOrder_212 rfl (by decide) ?_
                                refine K.putf (q := 216) fo_X8_187 rx131 (lt141 (by decide)) (Nat.le_of_ble_eq_true rfl) (fun _ => rfl) (fun _ => rfl) pxs21 dX8_readsOrder_213 rfl ?_
                                refine K.aload_n (q := 217) dX8_readsOrder_216 rfl rfl ?_
                                refine K.dup (q := 218) dX8_readsOrder_217 rfl rfl ?_
                                refine K.getf (q := 221) (v := .int ((X.2.1 20) + 1)) fo_X8_184.r rx131 (lt141 (by decide)) rfl dX8_readsOrder_218 rfl ?_
                                refine K.iconst (q := 222) (v := 1) dX8_readsOrder_221 rfl (by decide) ?_
                                refine K.isub (q := 223) dX8_readsOrder_222 rfl ?_
                                refine K.putf (q := 226) fo_X8_184 rx131 (lt141 (by decide)) (Nat.le_of_ble_eq_true rfl) (fun _ => rfl) (fun _ => rfl) pxs20 dX8_readsOrder_223 rfl ?_
                                obtain e_Xo := ret1_inv h
                                exact C.vret rfl rfl (congrArg mkH e_Xo) (Nat.le_of_ble_eq_true rfl) (Nat.le_of_ble_eq_true rfl) dX8_readsOrder_226
                              · skip
                                rw [if_neg c_23_63] at h
                                by_cases c_23_64 : v1 = 118
                                · refine K.tableIn (tgt := 211) dX8_readsOrder_23 (by rw [c_23_64]; decide) (by rw [c_23_64]; decide) (by rw [c_23_64]; try rfl) (by decide) ?_
                                  rw [if_pos c_23_64] at h
                                  refine K.aload_n (q := 212) dX8_readsOrder_211 rfl rfl ?_
                                  refine K.iconst (q := 213) (v := 1) dX8_readsOrder_212 rfl (by decide) ?_
                                  refine K.putf (q := 216) fo_X8_187 rx131 (lt141 (by decide)) (Nat.le_of_ble_eq_true rfl) (fun _ => rfl) (fun _ => rfl) pxs21 dX8_readsOrder_213 rfl ?_
                                  refine K.aload_n (q := 217) dX8_readsOrder_216 rfl rfl ?_
                                  refine K.dup (q := 218) dX8_readsOrder_217 rfl rfl ?_
                                  refine K.getf (q := 221) (v := .int ((X.2.1 20) + 1)) fo_X8_184.r rx131 (lt141 (by decide)) rfl dX8_readsOrder_218 rfl ?_
                                  refine K.iconst (q := 222) (v := 1) dX8_readsOrder_221 rfl (by decide) ?_
                                  refine K.isub (q := 223) dX8_readsOrder_222 rfl ?_
                                  refine K.putf (q := 226) fo_X8_184 rx131 (lt141 (by decide)) (Nat.le_of_ble_eq_true rfl) (fun _ => rfl) (fun _ => rfl) pxs20 dX8_readsOrder_223 rfl ?_
                                  obtain e_Xo := ret1_inv h
                                  exact C.vret rfl rfl (congrArg mkH e_Xo) (Nat.le_of_ble_eq_true rfl) (Nat.le_of_ble_eq_true rfl) dX8_readsOrder_226
                                · skip
                                  rw [if_neg c_23_64] at h
                                  by_cases c_23_65 : v1 = 119
                                  · refine K.tableIn (tgt := 195) dX8_readsOrder_23 (by rw [c_23_65]; decide) (by rw [c_23_65]; decide) (by rw [c_23_65]; try rfl) (by decide) ?_
                                    rw [if_pos c_23_65] at h
                                    refine K.aload_n (q := 196) dX8_readsOrder_195 rfl rfl ?_
                                    refine K.getf (q := 199) (v := .ref 138) fo_X8_33.r rx131 (lt141 (by decide)) rfl dX8_readsOrder_196 rfl ?_
                                    refine K.iload_n (q := 200) dX8_readsOrder_199 rfl rfl ?_
                                    refine K.iconst (q := 201) (v := 1) dX8_readsOrder_200 rfl (by decide) ?_
                                    refine K.iadd (q := 202) dX8_readsOrder_201 rfl ?_
                                    refine K.aload_n (q := 203) dX8_readsOrder_202 rfl rfl ?_
                                    refine K.iconst (q := 204) (v := 1) dX8_readsOrder_203 rfl (by decide) ?_
                                    obtain ⟨v66, X66, h9_66, h⟩ := bnd2_inv h
                                    refine K.callV0 (q := 207) mkX8_figures mw_X8_193 (s_X8_figures _ _ h9_66) rfl (by decide) rfl (lt141 (by decide)) rx131 (Nat.le_of_ble_eq_true rfl) (Nat.le_of_ble_eq_true rfl) (Nat.le_of_ble_eq_true rfl) dX8_readsOrder_204 rfl ?_
                                    obtain ⟨k_67, h⟩ := chk_inv h
                                    refine K.ias (q := 208) (f := (X66.2.2.1 11)) (m := ((k + 1).toNatClampNeg)) rx138 (lt141 (by decide)) (cl_nI k_67.1) k_67.2 (by decide) pxa11 dX8_readsOrder_207 rfl ?_
                                    refine K.goto (tgt := 226) dX8_readsOrder_208 (by decide) ?_
                                    obtain e_Xo := ret1_inv h
                                    exact C.vret rfl rfl (congrArg mkH e_Xo) (Nat.le_of_ble_eq_true rfl) (Nat.le_of_ble_eq_true rfl) dX8_readsOrder_226
                                  · skip
                                    rw [if_neg c_23_65] at h
                                    refine K.tableOut (tgt := 211) dX8_readsOrder_23 (by have e0 := lv_neT (k := 103) (a := 103) c_23_3 (by decide); have e1 := lv_neT (k := 104) (a := 104) c_23_6 (by decide); have e2 := lv_neT (k := 105) (a := 105) c_23_7 (by decide); have e3 := lv_neT (k := 106) (a := 106) c_23_8 (by decide); have e4 := lv_neT (k := 107) (a := 107) c_23_9 (by decide); have e5 := lv_neT (k := 108) (a := 108) c_23_10 (by decide); have e6 := lv_neT (k := 109) (a := 109) c_23_25 (by decide); have e7 := lv_neT (k := 110) (a := 110) c_23_26 (by decide); have e8 := lv_neT (k := 111) (a := 111) c_23_29 (by decide); have e9 := lv_neT (k := 112) (a := 112) c_23_30 (by decide); have e10 := lv_neT (k := 113) (a := 113) c_23_31 (by decide); have e11 := lv_neT (k := 114) (a := 114) c_23_46 (by decide); have e12 := lv_neT (k := 115) (a := 115) c_23_61 (by decide); have e13 := lv_neT (k := 116) (a := 116) c_23_62 (by decide); have e14 := lv_neT (k := 117) (a := 117) c_23_63 (by decide); have e15 := lv_neT (k := 118) (a := 118) c_23_64 (by decide); have e16 := lv_neT (k := 119) (a := 119) c_23_65 (by decide); omega) (by decide) ?_
                                    refine K.aload_n (q := 212) dX8_readsOrder_211 rfl rfl ?_
                                    refine K.iconst (q := 213) (v := 1) dX8_readsOrder_212 rfl (by decide) ?_
                                    refine K.putf (q := 216) fo_X8_187 rx131 (lt141 (by decide)) (Nat.le_of_ble_eq_true rfl) (fun _ => rfl) (fun _ => rfl) pxs21 dX8_readsOrder_213 rfl ?_
                                    refine K.aload_n (q := 217) dX8_readsOrder_216 rfl rfl ?_
                                    refine K.dup (q := 218) dX8_readsOrder_217 rfl rfl ?_
                                    refine K.getf (q := 221) (v := .int ((X.2.1 20) + 1)) fo_X8_184.r rx131 (lt141 (by decide)) rfl dX8_readsOrder_218 rfl ?_
                                    refine K.iconst (q := 222) (v := 1) dX8_readsOrder_221 rfl (by decide) ?_
                                    refine K.isub (q := 223) dX8_readsOrder_222 rfl ?_
                                    refine K.putf (q := 226) fo_X8_184 rx131 (lt141 (by decide)) (Nat.le_of_ble_eq_true rfl) (fun _ => rfl) (fun _ => rfl) pxs20 dX8_readsOrder_223 rfl ?_
                                    obtain e_Xo := ret1_inv h
                                    exact C.vret rfl rfl (congrArg mkH e_Xo) (Nat.le_of_ble_eq_true rfl) (Nat.le_of_ble_eq_true rfl) dX8_readsOrder_226

def m_X8_does (X : GS) (k : Int32) : Option (Int32 × GS) := (if inR (k + 1) 180 then (if inR (k + 2) 180 then (if inR k 180 then (if ((X.2.2.1 11) (k.toNatClampNeg)) = 103 then (bnd2 (m_X8_gives X ((X.2.2.1 11) ((k + 1).toNatClampNeg))) fun (v5 : Int32) (X5 : GS) => (some (v5, X5))) else (if ((X.2.2.1 11) (k.toNatClampNeg)) = 104 then (bnd2 (m_X8_wayIs X ((X.2.2.1 11) ((k + 1).toNatClampNeg))) fun (v7 : Int32) (X7 : GS) => (some (v7, X7))) else (if ((X.2.2.1 11) (k.toNatClampNeg)) = 105 then (bnd2 (m_X8_wayIs X ((X.2.2.1 11) ((k + 1).toNatClampNeg))) fun (v9 : Int32) (X9 : GS) => (some (v9, X9))) else (if ((X.2.2.1 11) (k.toNatClampNeg)) = 106 then (bnd2 (m_X8_wayIs X ((X.2.2.1 11) ((k + 1).toNatClampNeg))) fun (v11 : Int32) (X11 : GS) => (some (v11, X11))) else (if ((X.2.2.1 11) (k.toNatClampNeg)) = 107 then (bnd2 (m_X8_wayIs X ((X.2.2.1 11) ((k + 1).toNatClampNeg))) fun (v13 : Int32) (X13 : GS) => (some (v13, X13))) else (if ((X.2.2.1 11) (k.toNatClampNeg)) = 108 then (bnd2 (m_X8_lends X ((X.2.2.1 11) ((k + 1).toNatClampNeg)) ((X.2.2.1 11) ((k + 2).toNatClampNeg))) fun (v15 : Int32) (X15 : GS) => (some (v15, X15))) else (if ((X.2.2.1 11) (k.toNatClampNeg)) = 109 then (bnd2 (m_X8_wayIs X ((X.2.2.1 11) ((k + 1).toNatClampNeg))) fun (v17 : Int32) (X17 : GS) => (some (v17, X17))) else (if ((X.2.2.1 11) (k.toNatClampNeg)) = 110 then (bnd2 (m_X8_givesAll X ((X.2.2.1 11) ((k + 1).toNatClampNeg))) fun (v19 : Int32) (X19 : GS) => (some (v19, X19))) else (if ((X.2.2.1 11) (k.toNatClampNeg)) = 111 then (bnd2 (m_X8_wayIs X ((X.2.2.1 11) ((k + 1).toNatClampNeg))) fun (v21 : Int32) (X21 : GS) => (some (v21, X21))) else (if ((X.2.2.1 11) (k.toNatClampNeg)) = 112 then (bnd2 (m_X8_wayIs X ((X.2.2.1 11) ((k + 1).toNatClampNeg))) fun (v23 : Int32) (X23 : GS) => (some (v23, X23))) else (if ((X.2.2.1 11) (k.toNatClampNeg)) = 113 then (bnd2 (m_X8_asks X ((X.2.2.1 11) ((k + 1).toNatClampNeg)) ((X.2.2.1 11) ((k + 2).toNatClampNeg))) fun (v25 : Int32) (X25 : GS) => (some (v25, X25))) else (if ((X.2.2.1 11) (k.toNatClampNeg)) = 114 then (bnd2 (m_X8_resizes X ((X.2.2.1 11) ((k + 1).toNatClampNeg)) ((X.2.2.1 11) ((k + 2).toNatClampNeg))) fun (v27 : Int32) (X27 : GS) => (some (v27, X27))) else (bnd2 (m_X8_wayIs X ((X.2.2.1 11) ((k + 1).toNatClampNeg))) fun (v28 : Int32) (X28 : GS) => (some (v28, X28))))))))))))))) else none) else none) else none)
set_option maxRecDepth 20000 in
set_option maxHeartbeats 1000000 in
theorem s_X8_does (X : GS) (k : Int32) {vo : Int32} {Xo : GS} (h : m_X8_does X k = some (vo, Xo)) : Ct 7 0 0 yX8_does (.code yX8_does cX8_does 4 (some (.int))) [.ref 131, .int k] (mkH X) (.inl (some (.int vo))) (mkH Xo) := by
  refine Ct.of (LL := [some (.ref 131), some (.int k), none, none]) mkX8_does.1 owX8_does rfl (Nat.le_of_ble_eq_true rfl) rfl (fun Wk C => ?_)
  have K := C.core
  rw [m_X8_does] at h
  refine K.aload_n (q := 1) dX8_does_0 rfl rfl ?_
  refine K.getf (q := 4) (v := .ref 138) fo_X8_33.r rx131 (lt141 (by decide)) rfl dX8_does_1 rfl ?_
  refine K.iload_n (q := 5) dX8_does_4 rfl rfl ?_
  refine K.iconst (q := 6) (v := 1) dX8_does_5 rfl (by decide) ?_
  refine K.iadd (q := 7) dX8_does_6 rfl ?_
  obtain ⟨k_1, h⟩ := chk_inv h
  refine K.ial (q := 8) (f := (X.2.2.1 11)) (m := ((k + 1).toNatClampNeg)) rx138 (lt141 (by decide)) (cl_nI k_1.1) k_1.2 (by decide) dX8_does_7 rfl ?_
  refine K.istore_n (q := 9) (i := 2) dX8_does_8 rfl rfl (by decide) rfl ?_
  refine K.aload_n (q := 10) dX8_does_9 rfl rfl ?_
  refine K.getf (q := 13) (v := .ref 138) fo_X8_33.r rx131 (lt141 (by decide)) rfl dX8_does_10 rfl ?_
  refine K.iload_n (q := 14) dX8_does_13 rfl rfl ?_
  refine K.iconst (q := 15) (v := 2) dX8_does_14 rfl (by decide) ?_
  refine K.iadd (q := 16) dX8_does_15 rfl ?_
  obtain ⟨k_2, h⟩ := chk_inv h
  refine K.ial (q := 17) (f := (X.2.2.1 11)) (m := ((k + 2).toNatClampNeg)) rx138 (lt141 (by decide)) (cl_nI k_2.1) k_2.2 (by decide) dX8_does_16 rfl ?_
  refine K.istore_n (q := 18) (i := 3) dX8_does_17 rfl rfl (by decide) rfl ?_
  refine K.aload_n (q := 19) dX8_does_18 rfl rfl ?_
  refine K.getf (q := 22) (v := .ref 138) fo_X8_33.r rx131 (lt141 (by decide)) rfl dX8_does_19 rfl ?_
  refine K.iload_n (q := 23) dX8_does_22 rfl rfl ?_
  obtain ⟨k_3, h⟩ := chk_inv h
  refine K.ial (q := 24) (f := (X.2.2.1 11)) (m := (k.toNatClampNeg)) rx138 (lt141 (by decide)) (cl_nI k_3.1) k_3.2 (by decide) dX8_does_23 rfl ?_
  by_cases c_24_4 : ((X.2.2.1 11) (k.toNatClampNeg)) = 103
  · refine K.tableIn (tgt := 109) dX8_does_24 (by rw [c_24_4]; decide) (by rw [c_24_4]; decide) (by rw [c_24_4]; try rfl) (by decide) ?_
    rw [if_pos c_24_4] at h
    refine K.aload_n (q := 110) dX8_does_109 rfl rfl ?_
    refine K.iload_n (q := 111) dX8_does_110 rfl rfl ?_
    obtain ⟨v5, X5, h9_5, h⟩ := bnd2_inv h
    refine K.callV0 (q := 114) mkX8_gives mw_X8_136 (s_X8_gives _ _ h9_5) rfl (by decide) rfl (lt141 (by decide)) rx131 (Nat.le_of_ble_eq_true rfl) (Nat.le_of_ble_eq_true rfl) (Nat.le_of_ble_eq_true rfl) dX8_does_111 rfl ?_
    obtain ⟨e_vo, e_Xo⟩ := ret2_inv h
    exact C.iret rfl rfl (congrArg (fun z => Sum.inl (some (Value.int z))) e_vo.symm) (congrArg mkH e_Xo) (Nat.le_of_ble_eq_true rfl) (Nat.le_of_ble_eq_true rfl) dX8_does_114
  · skip
    rw [if_neg c_24_4] at h
    by_cases c_24_6 : ((X.2.2.1 11) (k.toNatClampNeg)) = 104
    · refine K.tableIn (tgt := 121) dX8_does_24 (by rw [c_24_6]; decide) (by rw [c_24_6]; decide) (by rw [c_24_6]; try rfl) (by decide) ?_
      rw [if_pos c_24_6] at h
      refine K.aload_n (q := 122) dX8_does_121 rfl rfl ?_
      refine K.iload_n (q := 123) dX8_does_122 rfl rfl ?_
      obtain ⟨v7, X7, h9_7, h⟩ := bnd2_inv h
      refine K.callV0 (q := 126) mkX8_wayIs mw_X8_151 (s_X8_wayIs _ _ h9_7) rfl (by decide) rfl (lt141 (by decide)) rx131 (Nat.le_of_ble_eq_true rfl) (Nat.le_of_ble_eq_true rfl) (Nat.le_of_ble_eq_true rfl) dX8_does_123 rfl ?_
      obtain ⟨e_vo, e_Xo⟩ := ret2_inv h
      exact C.iret rfl rfl (congrArg (fun z => Sum.inl (some (Value.int z))) e_vo.symm) (congrArg mkH e_Xo) (Nat.le_of_ble_eq_true rfl) (Nat.le_of_ble_eq_true rfl) dX8_does_126
    · skip
      rw [if_neg c_24_6] at h
      by_cases c_24_8 : ((X.2.2.1 11) (k.toNatClampNeg)) = 105
      · refine K.tableIn (tgt := 121) dX8_does_24 (by rw [c_24_8]; decide) (by rw [c_24_8]; decide) (by rw [c_24_8]; try rfl) (by decide) ?_
        rw [if_pos c_24_8] at h
        refine K.aload_n (q := 122) dX8_does_121 rfl rfl ?_
        refine K.iload_n (q := 123) dX8_does_122 rfl rfl ?_
        obtain ⟨v9, X9, h9_9, h⟩ := bnd2_inv h
        refine K.callV0 (q := 126) mkX8_wayIs mw_X8_151 (s_X8_wayIs _ _ h9_9) rfl (by decide) rfl (lt141 (by decide)) rx131 (Nat.le_of_ble_eq_true rfl) (Nat.le_of_ble_eq_true rfl) (Nat.le_of_ble_eq_true rfl) dX8_does_123 rfl ?_
        obtain ⟨e_vo, e_Xo⟩ := ret2_inv h
        exact C.iret rfl rfl (congrArg (fun z => Sum.inl (some (Value.int z))) e_vo.symm) (congrArg mkH e_Xo) (Nat.le_of_ble_eq_true rfl) (Nat.le_of_ble_eq_true rfl) dX8_does_126
      · skip
        rw [if_neg c_24_8] at h
        by_cases c_24_10 : ((X.2.2.1 11) (k.toNatClampNeg)) = 106
        · refine K.tableIn (tgt := 121) dX8_does_24 (by rw [c_24_10]; decide) (by rw [c_24_10]; decide) (by rw [c_24_10]; try rfl) (by decide) ?_
          rw [if_pos c_24_10] at h
          refine K.aload_n (q := 122) dX8_does_121 rfl rfl ?_
          refine K.iload_n (q := 123) dX8_does_122 rfl rfl ?_
          obtain ⟨v11, X11, h9_11, h⟩ := bnd2_inv h
          refine K.callV0 (q := 126) mkX8_wayIs mw_X8_151 (s_X8_wayIs _ _ h9_11) rfl (by decide) rfl (lt141 (by decide)) rx131 (Nat.le_of_ble_eq_true rfl) (Nat.le_of_ble_eq_true rfl) (Nat.le_of_ble_eq_true rfl) dX8_does_123 rfl ?_
          obtain ⟨e_vo, e_Xo⟩ := ret2_inv h
          exact C.iret rfl rfl (congrArg (fun z => Sum.inl (some (Value.int z))) e_vo.symm) (congrArg mkH e_Xo) (Nat.le_of_ble_eq_true rfl) (Nat.le_of_ble_eq_true rfl) dX8_does_126
        · skip
          rw [if_neg c_24_10] at h
          by_cases c_24_12 : ((X.2.2.1 11) (k.toNatClampNeg)) = 107
          · refine K.tableIn (tgt := 121) dX8_does_24 (by rw [c_24_12]; decide) (by rw [c_24_12]; decide) (by rw [c_24_12]; try rfl) (by decide) ?_
            rw [if_pos c_24_12] at h
            refine K.aload_n (q := 122) dX8_does_121 rfl rfl ?_
            refine K.iload_n (q := 123) dX8_does_122 rfl rfl ?_
            obtain ⟨v13, X13, h9_13, h⟩ := bnd2_inv h
            refine K.callV0 (q := 126) mkX8_wayIs mw_X8_151 (s_X8_wayIs _ _ h9_13) rfl (by decide) rfl (lt141 (by decide)) rx131 (Nat.le_of_ble_eq_true rfl) (Nat.le_of_ble_eq_true rfl) (Nat.le_of_ble_eq_true rfl) dX8_does_123 rfl ?_
            obtain ⟨e_vo, e_Xo⟩ := ret2_inv h
            exact C.iret rfl rfl (congrArg (fun z => Sum.inl (some (Value.int z))) e_vo.symm) (congrArg mkH e_Xo) (Nat.le_of_ble_eq_true rfl) (Nat.le_of_ble_eq_true rfl) dX8_does_126
          · skip
            rw [if_neg c_24_12] at h
            by_cases c_24_14 : ((X.2.2.1 11) (k.toNatClampNeg)) = 108
            · refine K.tableIn (tgt := 88) dX8_does_24 (by rw [c_24_14]; decide) (by rw [c_24_14]; decide) (by rw [c_24_14]; try rfl) (by decide) ?_
              rw [if_pos c_24_14] at h
              refine K.aload_n (q := 89) dX8_does_88 rfl rfl ?_
              refine K.iload_n (q := 90) dX8_does_89 rfl rfl ?_
              refine K.iload_n (q := 91) dX8_does_90 rfl rfl ?_
              obtain ⟨v15, X15, h9_15, h⟩ := bnd2_inv h
              refine K.callV0 (q := 94) mkX8_lends mw_X8_115 (s_X8_lends _ _ _ h9_15) rfl (by decide) rfl (lt141 (by decide)) rx131 (Nat.le_of_ble_eq_true rfl) (Nat.le_of_ble_eq_true rfl) (Nat.le_of_ble_eq_true rfl) dX8_does_91 rfl ?_
              obtain ⟨e_vo, e_Xo⟩ := ret2_inv h
              exact C.iret rfl rfl (congrArg (fun z => Sum.inl (some (Value.int z))) e_vo.symm) (congrArg mkH e_Xo) (Nat.le_of_ble_eq_true rfl) (Nat.le_of_ble_eq_true rfl) dX8_does_94
            · skip
              rw [if_neg c_24_14] at h
              by_cases c_24_16 : ((X.2.2.1 11) (k.toNatClampNeg)) = 109
              · refine K.tableIn (tgt := 121) dX8_does_24 (by rw [c_24_16]; decide) (by rw [c_24_16]; decide) (by rw [c_24_16]; try rfl) (by decide) ?_
                rw [if_pos c_24_16] at h
                refine K.aload_n (q := 122) dX8_does_121 rfl rfl ?_
                refine K.iload_n (q := 123) dX8_does_122 rfl rfl ?_
                obtain ⟨v17, X17, h9_17, h⟩ := bnd2_inv h
                refine K.callV0 (q := 126) mkX8_wayIs mw_X8_151 (s_X8_wayIs _ _ h9_17) rfl (by decide) rfl (lt141 (by decide)) rx131 (Nat.le_of_ble_eq_true rfl) (Nat.le_of_ble_eq_true rfl) (Nat.le_of_ble_eq_true rfl) dX8_does_123 rfl ?_
                obtain ⟨e_vo, e_Xo⟩ := ret2_inv h
                exact C.iret rfl rfl (congrArg (fun z => Sum.inl (some (Value.int z))) e_vo.symm) (congrArg mkH e_Xo) (Nat.le_of_ble_eq_true rfl) (Nat.le_of_ble_eq_true rfl) dX8_does_126
              · skip
                rw [if_neg c_24_16] at h
                by_cases c_24_18 : ((X.2.2.1 11) (k.toNatClampNeg)) = 110
                · refine K.tableIn (tgt := 115) dX8_does_24 (by rw [c_24_18]; decide) (by rw [c_24_18]; decide) (by rw [c_24_18]; try rfl) (by decide) ?_
                  rw [if_pos c_24_18] at h
                  refine K.aload_n (q := 116) dX8_does_115 rfl rfl ?_
                  refine K.iload_n (q := 117) dX8_does_116 rfl rfl ?_
                  obtain ⟨v19, X19, h9_19, h⟩ := bnd2_inv h
                  refine K.callV0 (q := 120) mkX8_givesAll mw_X8_142 (s_X8_givesAll _ _ h9_19) rfl (by decide) rfl (lt141 (by decide)) rx131 (Nat.le_of_ble_eq_true rfl) (Nat.le_of_ble_eq_true rfl) (Nat.le_of_ble_eq_true rfl) dX8_does_117 rfl ?_
                  obtain ⟨e_vo, e_Xo⟩ := ret2_inv h
                  exact C.iret rfl rfl (congrArg (fun z => Sum.inl (some (Value.int z))) e_vo.symm) (congrArg mkH e_Xo) (Nat.le_of_ble_eq_true rfl) (Nat.le_of_ble_eq_true rfl) dX8_does_120
                · skip
                  rw [if_neg c_24_18] at h
                  by_cases c_24_20 : ((X.2.2.1 11) (k.toNatClampNeg)) = 111
                  · refine K.tableIn (tgt := 121) dX8_does_24 (by rw [c_24_20]; decide) (by rw [c_24_20]; decide) (by rw [c_24_20]; try rfl) (by decide) ?_
                    rw [if_pos c_24_20] at h
                    refine K.aload_n (q := 122) dX8_does_121 rfl rfl ?_
                    refine K.iload_n (q := 123) dX8_does_122 rfl rfl ?_
                    obtain ⟨v21, X21, h9_21, h⟩ := bnd2_inv h
                    refine K.callV0 (q := 126) mkX8_wayIs mw_X8_151 (s_X8_wayIs _ _ h9_21) rfl (by decide) rfl (lt141 (by decide)) rx131 (Nat.le_of_ble_eq_true rfl) (Nat.le_of_ble_eq_true rfl) (Nat.le_of_ble_eq_true rfl) dX8_does_123 rfl ?_
                    obtain ⟨e_vo, e_Xo⟩ := ret2_inv h
                    exact C.iret rfl rfl (congrArg (fun z => Sum.inl (some (Value.int z))) e_vo.symm) (congrArg mkH e_Xo) (Nat.le_of_ble_eq_true rfl) (Nat.le_of_ble_eq_true rfl) dX8_does_126
                  · skip
                    rw [if_neg c_24_20] at h
                    by_cases c_24_22 : ((X.2.2.1 11) (k.toNatClampNeg)) = 112
                    · refine K.tableIn (tgt := 121) dX8_does_24 (by rw [c_24_22]; decide) (by rw [c_24_22]; decide) (by rw [c_24_22]; try rfl) (by decide) ?_
                      rw [if_pos c_24_22] at h
                      refine K.aload_n (q := 122) dX8_does_121 rfl rfl ?_
                      refine K.iload_n (q := 123) dX8_does_122 rfl rfl ?_
                      obtain ⟨v23, X23, h9_23, h⟩ := bnd2_inv h
                      refine K.callV0 (q := 126) mkX8_wayIs mw_X8_151 (s_X8_wayIs _ _ h9_23) rfl (by decide) rfl (lt141 (by decide)) rx131 (Nat.le_of_ble_eq_true rfl) (Nat.le_of_ble_eq_true rfl) (Nat.le_of_ble_eq_true rfl) dX8_does_123 rfl ?_
                      obtain ⟨e_vo, e_Xo⟩ := ret2_inv h
                      exact C.iret rfl rfl (congrArg (fun z => Sum.inl (some (Value.int z))) e_vo.symm) (congrArg mkH e_Xo) (Nat.le_of_ble_eq_true rfl) (Nat.le_of_ble_eq_true rfl) dX8_does_126
                    · skip
                      rw [if_neg c_24_22] at h
                      by_cases c_24_24 : ((X.2.2.1 11) (k.toNatClampNeg)) = 113
                      · refine K.tableIn (tgt := 95) dX8_does_24 (by rw [c_24_24]; decide) (by rw [c_24_24]; decide) (by rw [c_24_24]; try rfl) (by decide) ?_
                        rw [if_pos c_24_24] at h
                        refine K.aload_n (q := 96) dX8_does_95 rfl rfl ?_
                        refine K.iload_n (q := 97) dX8_does_96 rfl rfl ?_
                        refine K.iload_n (q := 98) dX8_does_97 rfl rfl ?_
                        obtain ⟨v25, X25, h9_25, h⟩ := bnd2_inv h
                        refine K.callV0 (q := 101) mkX8_asks mw_X8_121 (s_X8_asks _ _ _ h9_25) rfl (by decide) rfl (lt141 (by decide)) rx131 (Nat.le_of_ble_eq_true rfl) (Nat.le_of_ble_eq_true rfl) (Nat.le_of_ble_eq_true rfl) dX8_does_98 rfl ?_
                        obtain ⟨e_vo, e_Xo⟩ := ret2_inv h
                        exact C.iret rfl rfl (congrArg (fun z => Sum.inl (some (Value.int z))) e_vo.symm) (congrArg mkH e_Xo) (Nat.le_of_ble_eq_true rfl) (Nat.le_of_ble_eq_true rfl) dX8_does_101
                      · skip
                        rw [if_neg c_24_24] at h
                        by_cases c_24_26 : ((X.2.2.1 11) (k.toNatClampNeg)) = 114
                        · refine K.tableIn (tgt := 102) dX8_does_24 (by rw [c_24_26]; decide) (by rw [c_24_26]; decide) (by rw [c_24_26]; try rfl) (by decide) ?_
                          rw [if_pos c_24_26] at h
                          refine K.aload_n (q := 103) dX8_does_102 rfl rfl ?_
                          refine K.iload_n (q := 104) dX8_does_103 rfl rfl ?_
                          refine K.iload_n (q := 105) dX8_does_104 rfl rfl ?_
                          obtain ⟨v27, X27, h9_27, h⟩ := bnd2_inv h
                          refine K.callV0 (q := 108) mkX8_resizes mw_X8_148 (s_X8_resizes _ _ _ h9_27) rfl (by decide) rfl (lt141 (by decide)) rx131 (Nat.le_of_ble_eq_true rfl) (Nat.le_of_ble_eq_true rfl) (Nat.le_of_ble_eq_true rfl) dX8_does_105 rfl ?_
                          obtain ⟨e_vo, e_Xo⟩ := ret2_inv h
                          exact C.iret rfl rfl (congrArg (fun z => Sum.inl (some (Value.int z))) e_vo.symm) (congrArg mkH e_Xo) (Nat.le_of_ble_eq_true rfl) (Nat.le_of_ble_eq_true rfl) dX8_does_108
                        · skip
                          rw [if_neg c_24_26] at h
                          refine K.tableOut (tgt := 121) dX8_does_24 (by have e0 := lv_neT (k := 103) (a := 103) c_24_4 (by decide); have e1 := lv_neT (k := 104) (a := 104) c_24_6 (by decide); have e2 := lv_neT (k := 105) (a := 105) c_24_8 (by decide); have e3 := lv_neT (k := 106) (a := 106) c_24_10 (by decide); have e4 := lv_neT (k := 107) (a := 107) c_24_12 (by decide); have e5 := lv_neT (k := 108) (a := 108) c_24_14 (by decide); have e6 := lv_neT (k := 109) (a := 109) c_24_16 (by decide); have e7 := lv_neT (k := 110) (a := 110) c_24_18 (by decide); have e8 := lv_neT (k := 111) (a := 111) c_24_20 (by decide); have e9 := lv_neT (k := 112) (a := 112) c_24_22 (by decide); have e10 := lv_neT (k := 113) (a := 113) c_24_24 (by decide); have e11 := lv_neT (k := 114) (a := 114) c_24_26 (by decide); omega) (by decide) ?_
                          refine K.aload_n (q := 122) dX8_does_121 rfl rfl ?_
                          refine K.iload_n (q := 123) dX8_does_122 rfl rfl ?_
                          obtain ⟨v28, X28, h9_28, h⟩ := bnd2_inv h
                          refine K.callV0 (q := 126) mkX8_wayIs mw_X8_151 (s_X8_wayIs _ _ h9_28) rfl (by decide) rfl (lt141 (by decide)) rx131 (Nat.le_of_ble_eq_true rfl) (Nat.le_of_ble_eq_true rfl) (Nat.le_of_ble_eq_true rfl) dX8_does_123 rfl ?_
                          obtain ⟨e_vo, e_Xo⟩ := ret2_inv h
                          exact C.iret rfl rfl (congrArg (fun z => Sum.inl (some (Value.int z))) e_vo.symm) (congrArg mkH e_Xo) (Nat.le_of_ble_eq_true rfl) (Nat.le_of_ble_eq_true rfl) dX8_does_126

def lp_X8_run_14 : Nat → Int32 → Int32 → GS → Option (Int32 × Int32 × GS)
  | 0, _, _, _ => none
  | j14 + 1, a1_14, a2_14, XX14 => (if a2_14 = 0 then (some (a1_14, a2_14, XX14)) else (bnd1 (m_X8_readsOrder XX14 (3 * a1_14)) fun (X2 : GS) => (if (X2.2.1 21) = 0 then (bnd1 (m_X8_here X2) fun (v5 : Int32) => (if v5 = 59 then (lp_X8_run_14 j14 (a1_14 + 1) 1 (uS X2 20 ((X2.2.1 20) + 1))) else (lp_X8_run_14 j14 (a1_14 + 1) 0 (uS X2 20 ((X2.2.1 20) + 0))))) else (lp_X8_run_14 j14 (a1_14 + 1) 0 (uS X2 20 ((X2.2.1 20) + 0))))))

def lp_X8_run_141 : Nat → Nat → GS → Option (Option Int32 × GS)
  | 0, _, XX141 => some (none, XX141)
  | j141 + 1, i141, XX141 => (bnd2 (m_X8_does XX141 (3 * (nI i141))) fun (v20 : Int32) (X20 : GS) => (if (X20.2.1 19) = 0 then (lp_X8_run_141 j141 (i141 + 1) X20) else (if (X20.2.1 17) = 0 then (bnd2 (m_X8_kept (uS X20 19 1) v20) fun (v23 : Int32) (X23 : GS) => (some (some v23, X23))) else (bnd2 (m_X8_kept (uS X20 19 2) v20) fun (v24 : Int32) (X24 : GS) => (some (some v24, X24))))))

def m_X8_run (X : GS) : Option (Int32 × GS) := (bnd3 (lp_X8_run_14 1000 0 1 (uS (uS X 20 0) 21 0)) fun (a1_14_9 : Int32) (a2_14_9 : Int32) (XX14_9 : GS) => (if (XX14_9.2.1 21) = 0 then (if (XX14_9.2.1 13) ≤ (XX14_9.2.1 20) then (bnd1 (m_X8_looksBack (uS (uS (uS XX14_9 21 0) 13 0) 14 (-1))) fun (X17 : GS) => (bnd2 (lp_X8_run_141 ((a1_14_9).toNatClampNeg) 0 X17) fun (ee141_25 : Option Int32) (XX141_25 : GS) => (elseE ee141_25 (fun v => some (v, XX141_25)) (bnd2 (m_X8_done XX141_25 a1_14_9) fun (v26 : Int32) (X26 : GS) => (bnd2 (m_X8_kept X26 v26) fun (v27 : Int32) (X27 : GS) => (some (v27, X27))))))) else (bnd2 (m_X8_fails (uS (uS (uS XX14_9 21 1) 13 0) 14 (XX14_9.2.1 20)) 1) fun (v30 : Int32) (X30 : GS) => (some (v30, X30)))) else (bnd2 (m_X8_fails (uS (uS (uS XX14_9 21 1) 13 0) 14 (XX14_9.2.1 20)) 1) fun (v13 : Int32) (X13 : GS) => (some (v13, X13)))))
set_option maxRecDepth 20000 in
set_option maxHeartbeats 1000000 in
theorem s_X8_run (X : GS) {vo : Int32} {Xo : GS} (h : m_X8_run X = some (vo, Xo)) : Ct 8 0 0 yX8_run (.code yX8_run cX8_run 5 (some (.int))) [.ref 131] (mkH X) (.inl (some (.int vo))) (mkH Xo) := by
  refine Ct.of (LL := [some (.ref 131), none, none, none, none]) mkX8_run.1 owX8_run rfl (Nat.le_of_ble_eq_true rfl) rfl (fun Wk C => ?_)
  have K := C.core
  rw [m_X8_run] at h
  refine K.aload_n (q := 1) dX8_run_0 rfl rfl ?_
  refine K.iconst (q := 2) (v := 0) dX8_run_1 rfl (by decide) ?_
  refine K.putf (q := 5) fo_X8_184 rx131 (lt141 (by decide)) (Nat.le_of_ble_eq_true rfl) (fun _ => rfl) (fun _ => rfl) pxs20 dX8_run_2 rfl ?_
  refine K.aload_n (q := 6) dX8_run_5 rfl rfl ?_
  refine K.iconst (q := 7) (v := 0) dX8_run_6 rfl (by decide) ?_
  refine K.putf (q := 10) fo_X8_187 rx131 (lt141 (by decide)) (Nat.le_of_ble_eq_true rfl) (fun _ => rfl) (fun _ => rfl) pxs21 dX8_run_7 rfl ?_
  refine K.iconst (q := 11) (v := 0) dX8_run_10 rfl (by decide) ?_
  refine K.istore_n (q := 12) (i := 1) dX8_run_11 rfl rfl (by decide) rfl ?_
  refine K.iconst (q := 13) (v := 1) dX8_run_12 rfl (by decide) ?_
  refine K.istore_n (q := 14) (i := 2) dX8_run_13 rfl rfl (by decide) rfl ?_
  have L14 : ∀ (j14 : Nat) (a1_14 : Int32) (a2_14 : Int32) (XX14 : GS) (a1_14r : Int32) (a2_14r : Int32) (XX14r : GS), lp_X8_run_14 j14 a1_14 a2_14 XX14 = some (a1_14r, a2_14r, XX14r) → (Wk 0 0 71 [some (.ref 131), some (.int a1_14r), some (.int a2_14r), none, none] [] (mkH XX14r)) → Wk 0 0 14 [some (.ref 131), some (.int a1_14), some (.int a2_14), none, none] [] (mkH XX14) := by
    intro j14
    induction j14 with
    | zero =>
      intro a1_14 a2_14 XX14 a1_14r a2_14r XX14r h hx
      rw [lp_X8_run_14] at h
      cases h
    | succ j14 ih =>
      intro a1_14 a2_14 XX14 a1_14r a2_14r XX14r h hx
      rw [lp_X8_run_14] at h
      refine K.iload_n (q := 15) dX8_run_14 rfl rfl ?_
      refine K.if_eq (q := 18) (tgt := 71) dX8_run_15 rfl (by decide) (fun c_15_1 => ?_) (fun c_15_1 => ?_)
      · rw [if_pos c_15_1] at h
        obtain ⟨q0, q1, q2⟩ := ret3_inv h
        subst q0; subst q1; subst q2
        exact hx
      · rw [if_neg c_15_1] at h
        refine K.aload_n (q := 19) dX8_run_18 rfl rfl ?_
        refine K.iconst (q := 20) (v := 3) dX8_run_19 rfl (by decide) ?_
        refine K.iload_n (q := 21) dX8_run_20 rfl rfl ?_
        refine K.imul (q := 22) dX8_run_21 rfl ?_
        obtain ⟨X2, h9_2, h⟩ := bnd1_inv h
        refine K.callVv0 (q := 25) mkX8_readsOrder mw_X8_196 (s_X8_readsOrder _ _ h9_2) rfl (by decide) rfl (lt141 (by decide)) rx131 (Nat.le_of_ble_eq_true rfl) (Nat.le_of_ble_eq_true rfl) (Nat.le_of_ble_eq_true rfl) dX8_run_22 rfl ?_
        refine K.iinc (q := 28) (v := (a1_14 + 1)) dX8_run_25 rfl rfl rfl (by decide) rfl ?_
        refine K.aload_n (q := 29) dX8_run_28 rfl rfl ?_
        refine K.getf (q := 32) (v := .int (X2.2.1 21)) fo_X8_187.r rx131 (lt141 (by decide)) rfl dX8_run_29 rfl ?_
        refine K.if_ne (q := 35) (tgt := 48) dX8_run_32 rfl (by decide) (fun c_32_3 => ?_) (fun c_32_3 => ?_)
        · rw [if_neg c_32_3] at h
          refine K.iconst (q := 49) (v := 0) dX8_run_48 rfl (by decide) ?_
          refine K.istore_n (q := 50) (i := 2) dX8_run_49 rfl rfl (by decide) rfl ?_
          refine K.aload_n (q := 51) dX8_run_50 rfl rfl ?_
          refine K.dup (q := 52) dX8_run_51 rfl rfl ?_
          refine K.getf (q := 55) (v := .int (X2.2.1 20)) fo_X8_184.r rx131 (lt141 (by decide)) rfl dX8_run_52 rfl ?_
          refine K.iload_n (q := 56) dX8_run_55 rfl rfl ?_
          refine K.if_eq (q := 59) (tgt := 63) dX8_run_56 rfl (by decide) (fun _ => ?_) (fun z => absurd z (by decide))
          refine K.iconst (q := 64) (v := 0) dX8_run_63 rfl (by decide) ?_
          refine K.iadd (q := 65) dX8_run_64 rfl ?_
          refine K.putf (q := 68) fo_X8_184 rx131 (lt141 (by decide)) (Nat.le_of_ble_eq_true rfl) (fun _ => rfl) (fun _ => rfl) pxs20 dX8_run_65 rfl ?_
          refine K.goto (tgt := 14) dX8_run_68 (by decide) ?_
          exact ih (a1_14 + 1) 0 (uS X2 20 ((X2.2.1 20) + 0)) _ _ _ h hx
        · rw [if_pos c_32_3] at h
          refine K.aload_n (q := 36) dX8_run_35 rfl rfl ?_
          obtain ⟨v5, h9_5, h⟩ := bnd1_inv h
          refine K.callV0 (q := 39) mkX8_here mw_X8_190 (s_X8_here _ h9_5) rfl (by decide) rfl (lt141 (by decide)) rx131 (Nat.le_of_ble_eq_true rfl) (Nat.le_of_ble_eq_true rfl) (Nat.le_of_ble_eq_true rfl) dX8_run_36 rfl ?_
          refine K.bipush (q := 41) (v := 59) dX8_run_39 rfl (by decide) ?_
          refine K.icmp_ne (q := 44) (tgt := 48) dX8_run_41 rfl (by decide) (fun c_41_6 => ?_) (fun c_41_6 => ?_)
          · rw [if_neg c_41_6] at h
            refine K.iconst (q := 49) (v := 0) dX8_run_48 rfl (by decide) ?_
            refine K.istore_n (q := 50) (i := 2) dX8_run_49 rfl rfl (by decide) rfl ?_
            refine K.aload_n (q := 51) dX8_run_50 rfl rfl ?_
            refine K.dup (q := 52) dX8_run_51 rfl rfl ?_
            refine K.getf (q := 55) (v := .int (X2.2.1 20)) fo_X8_184.r rx131 (lt141 (by decide)) rfl dX8_run_52 rfl ?_
            refine K.iload_n (q := 56) dX8_run_55 rfl rfl ?_
            refine K.if_eq (q := 59) (tgt := 63) dX8_run_56 rfl (by decide) (fun _ => ?_) (fun z => absurd z (by decide))
            refine K.iconst (q := 64) (v := 0) dX8_run_63 rfl (by decide) ?_
            refine K.iadd (q := 65) dX8_run_64 rfl ?_
            refine K.putf (q := 68) fo_X8_184 rx131 (lt141 (by decide)) (Nat.le_of_ble_eq_true rfl) (fun _ => rfl) (fun _ => rfl) pxs20 dX8_run_65 rfl ?_
            refine K.goto (tgt := 14) dX8_run_68 (by decide) ?_
            exact ih (a1_14 + 1) 0 (uS X2 20 ((X2.2.1 20) + 0)) _ _ _ h hx
          · rw [if_pos c_41_6] at h
            refine K.iconst (q := 45) (v := 1) dX8_run_44 rfl (by decide) ?_
            refine K.goto (tgt := 49) dX8_run_45 (by decide) ?_
            refine K.istore_n (q := 50) (i := 2) dX8_run_49 rfl rfl (by decide) rfl ?_
            refine K.aload_n (q := 51) dX8_run_50 rfl rfl ?_
            refine K.dup (q := 52) dX8_run_51 rfl rfl ?_
            refine K.getf (q := 55) (v := .int (X2.2.1 20)) fo_X8_184.r rx131 (lt141 (by decide)) rfl dX8_run_52 rfl ?_
            refine K.iload_n (q := 56) dX8_run_55 rfl rfl ?_
            refine K.if_eq (q := 59) (tgt := 63) dX8_run_56 rfl (by decide) (fun z => absurd z (by decide)) (fun _ => ?_)
            refine K.iconst (q := 60) (v := 1) dX8_run_59 rfl (by decide) ?_
            refine K.goto (tgt := 64) dX8_run_60 (by decide) ?_
            refine K.iadd (q := 65) dX8_run_64 rfl ?_
            refine K.putf (q := 68) fo_X8_184 rx131 (lt141 (by decide)) (Nat.le_of_ble_eq_true rfl) (fun _ => rfl) (fun _ => rfl) pxs20 dX8_run_65 rfl ?_
            refine K.goto (tgt := 14) dX8_run_68 (by decide) ?_
            exact ih (a1_14 + 1) 1 (uS X2 20 ((X2.2.1 20) + 1)) _ _ _ h hx
  obtain ⟨a1_14_9, a2_14_9, XX14_9, h9_9, h⟩ := bnd3_inv h
  refine L14 1000 0 1 (uS (uS X 20 0) 21 0) _ _ _ h9_9 ?_
  refine K.aload_n (q := 72) dX8_run_71 rfl rfl ?_
  refine K.aload_n (q := 73) dX8_run_72 rfl rfl ?_
  refine K.getf (q := 76) (v := .int (XX14_9.2.1 21)) fo_X8_187.r rx131 (lt141 (by decide)) rfl dX8_run_73 rfl ?_
  refine K.if_ne (q := 79) (tgt := 90) dX8_run_76 rfl (by decide) (fun c_76_10 => ?_) (fun c_76_10 => ?_)
  · rw [if_neg c_76_10] at h
    refine K.iconst (q := 91) (v := 1) dX8_run_90 rfl (by decide) ?_
    refine K.goto (tgt := 95) dX8_run_91 (by decide) ?_
    refine K.putf (q := 98) fo_X8_187 rx131 (lt141 (by decide)) (Nat.le_of_ble_eq_true rfl) (fun _ => rfl) (fun _ => rfl) pxs21 dX8_run_95 rfl ?_
    refine K.aload_n (q := 99) dX8_run_98 rfl rfl ?_
    refine K.iconst (q := 100) (v := 0) dX8_run_99 rfl (by decide) ?_
    refine K.putf (q := 103) fo_X8_181 rx131 (lt141 (by decide)) (Nat.le_of_ble_eq_true rfl) (fun _ => rfl) (fun _ => rfl) pxs13 dX8_run_100 rfl ?_
    refine K.aload_n (q := 104) dX8_run_103 rfl rfl ?_
    refine K.aload_n (q := 105) dX8_run_104 rfl rfl ?_
    refine K.getf (q := 108) (v := .int 1) fo_X8_187.r rx131 (lt141 (by decide)) rfl dX8_run_105 rfl ?_
    refine K.if_eq (q := 111) (tgt := 118) dX8_run_108 rfl (by decide) (fun z => absurd z (by decide)) (fun _ => ?_)
    refine K.aload_n (q := 112) dX8_run_111 rfl rfl ?_
    refine K.getf (q := 115) (v := .int (XX14_9.2.1 20)) fo_X8_184.r rx131 (lt141 (by decide)) rfl dX8_run_112 rfl ?_
    refine K.goto (tgt := 119) dX8_run_115 (by decide) ?_
    refine K.putf (q := 122) fo_X8_26 rx131 (lt141 (by decide)) (Nat.le_of_ble_eq_true rfl) (fun _ => rfl) (fun _ => rfl) pxs14 dX8_run_119 rfl ?_
    refine K.aload_n (q := 123) dX8_run_122 rfl rfl ?_
    refine K.getf (q := 126) (v := .int 1) fo_X8_187.r rx131 (lt141 (by decide)) rfl dX8_run_123 rfl ?_
    refine K.if_eq (q := 129) (tgt := 135) dX8_run_126 rfl (by decide) (fun z => absurd z (by decide)) (fun _ => ?_)
    refine K.aload_n (q := 130) dX8_run_129 rfl rfl ?_
    refine K.iconst (q := 131) (v := 1) dX8_run_130 rfl (by decide) ?_
    obtain ⟨v13, X13, h9_13, h⟩ := bnd2_inv h
    refine K.callV0 (q := 134) mkX8_fails mw_X8_98 (s_X8_fails _ _ h9_13) rfl (by decide) rfl (lt141 (by decide)) rx131 (Nat.le_of_ble_eq_true rfl) (Nat.le_of_ble_eq_true rfl) (Nat.le_of_ble_eq_true rfl) dX8_run_131 rfl ?_
    obtain ⟨e_vo, e_Xo⟩ := ret2_inv h
    exact C.iret rfl rfl (congrArg (fun z => Sum.inl (some (Value.int z))) e_vo.symm) (congrArg mkH e_Xo) (Nat.le_of_ble_eq_true rfl) (Nat.le_of_ble_eq_true rfl) dX8_run_134
  · rw [if_pos c_76_10] at h
    refine K.aload_n (q := 80) dX8_run_79 rfl rfl ?_
    refine K.getf (q := 83) (v := .int (XX14_9.2.1 20)) fo_X8_184.r rx131 (lt141 (by decide)) rfl dX8_run_80 rfl ?_
    refine K.aload_n (q := 84) dX8_run_83 rfl rfl ?_
    refine K.getf (q := 87) (v := .int (XX14_9.2.1 13)) fo_X8_181.r rx131 (lt141 (by decide)) rfl dX8_run_84 rfl ?_
    refine K.icmp_ge (q := 90) (tgt := 94) dX8_run_87 rfl (by decide) (fun c_87_14 => ?_) (fun c_87_14 => ?_)
    · rw [if_pos c_87_14] at h
      refine K.iconst (q := 95) (v := 0) dX8_run_94 rfl (by decide) ?_
      refine K.putf (q := 98) fo_X8_187 rx131 (lt141 (by decide)) (Nat.le_of_ble_eq_true rfl) (fun _ => rfl) (fun _ => rfl) pxs21 dX8_run_95 rfl ?_
      refine K.aload_n (q := 99) dX8_run_98 rfl rfl ?_
      refine K.iconst (q := 100) (v := 0) dX8_run_99 rfl (by decide) ?_
      refine K.putf (q := 103) fo_X8_181 rx131 (lt141 (by decide)) (Nat.le_of_ble_eq_true rfl) (fun _ => rfl) (fun _ => rfl) pxs13 dX8_run_100 rfl ?_
      refine K.aload_n (q := 104) dX8_run_103 rfl rfl ?_
      refine K.aload_n (q := 105) dX8_run_104 rfl rfl ?_
      refine K.getf (q := 108) (v := .int 0) fo_X8_187.r rx131 (lt141 (by decide)) rfl dX8_run_105 rfl ?_
      refine K.if_eq (q := 111) (tgt := 118) dX8_run_108 rfl (by decide) (fun _ => ?_) (fun z => absurd z (by decide))
      refine K.iconst (q := 119) (v := (-1)) dX8_run_118 rfl (by decide) ?_
      refine K.putf (q := 122) fo_X8_26 rx131 (lt141 (by decide)) (Nat.le_of_ble_eq_true rfl) (fun _ => rfl) (fun _ => rfl) pxs14 dX8_run_119 rfl ?_
      refine K.aload_n (q := 123) dX8_run_122 rfl rfl ?_
      refine K.getf (q := 126) (v := .int 0) fo_X8_187.r rx131 (lt141 (by decide)) rfl dX8_run_123 rfl ?_
      refine K.if_eq (q := 129) (tgt := 135) dX8_run_126 rfl (by decide) (fun _ => ?_) (fun z => absurd z (by decide))
      refine K.aload_n (q := 136) dX8_run_135 rfl rfl ?_
      obtain ⟨X17, h9_17, h⟩ := bnd1_inv h
      refine K.callVv0 (q := 139) mkX8_looksBack mw_X8_112 (s_X8_looksBack _ h9_17) rfl (by decide) rfl (lt141 (by decide)) rx131 (Nat.le_of_ble_eq_true rfl) (Nat.le_of_ble_eq_true rfl) (Nat.le_of_ble_eq_true rfl) dX8_run_136 rfl ?_
      refine K.iconst (q := 140) (v := 0) dX8_run_139 rfl (by decide) ?_
      refine K.istore_n (q := 141) (i := 3) dX8_run_140 rfl rfl (by decide) rfl ?_
      have L141 : ∀ (j141 i141 : Nat) (XX141 : GS) (ee141 : Option Int32) (XX141r : GS), i141 + j141 = ((a1_14_9).toNatClampNeg) → lp_X8_run_141 j141 i141 XX141 = some (ee141, XX141r) → (ee141 = none → Wk 0 0 191 [some (.ref 131), some (.int a1_14_9), some (.int a2_14_9), none, none] [] (mkH XX141r)) → (∀ v : Int32, ee141 = some v → v = vo ∧ XX141r = Xo) → Wk 0 0 141 [some (.ref 131), some (.int a1_14_9), some (.int a2_14_9), some (.int (nI i141)), none] [] (mkH XX141) := by
        intro j141
        induction j141 with
        | zero =>
          intro i141 XX141 ee141 XX141r hij h hx hr
          rw [lp_X8_run_141] at h
          refine K.iload_n (q := 142) dX8_run_141 rfl rfl ?_
          refine K.iload_n (q := 143) dX8_run_142 rfl rfl ?_
          refine K.icmp_ge (q := 146) (tgt := 191) dX8_run_143 rfl (by decide) (fun _ => ?_) (fun z => absurd z (not_not_intro (cl_ge (B := a1_14_9) (by omega))))
          refine K.drop 3 ?_
          obtain ⟨q0, q1⟩ := ret2_inv h
          subst q0; subst q1
          exact hx rfl
        | succ j141 ih =>
          intro i141 XX141 ee141 XX141r hij h hx hr
          rw [lp_X8_run_141] at h
          refine K.iload_n (q := 142) dX8_run_141 rfl rfl ?_
          refine K.iload_n (q := 143) dX8_run_142 rfl rfl ?_
          refine K.icmp_ge (q := 146) (tgt := 191) dX8_run_143 rfl (by decide) (fun z => absurd z (cl_nge (B := a1_14_9) (by omega))) (fun _ => ?_)
          refine K.aload_n (q := 147) dX8_run_146 rfl rfl ?_
          refine K.iconst (q := 148) (v := 3) dX8_run_147 rfl (by decide) ?_
          refine K.iload_n (q := 149) dX8_run_148 rfl rfl ?_
          refine K.imul (q := 150) dX8_run_149 rfl ?_
          obtain ⟨v20, X20, h9_20, h⟩ := bnd2_inv h
          refine K.callV0 (q := 153) mkX8_does mw_X8_199 (s_X8_does _ _ h9_20) rfl (by decide) rfl (lt141 (by decide)) rx131 (Nat.le_of_ble_eq_true rfl) (Nat.le_of_ble_eq_true rfl) (Nat.le_of_ble_eq_true rfl) dX8_run_150 rfl ?_
          refine K.istore (q := 155) dX8_run_153 rfl (by decide) rfl ?_
          refine K.aload_n (q := 156) dX8_run_155 rfl rfl ?_
          refine K.getf (q := 159) (v := .int (X20.2.1 19)) fo_X8_36.r rx131 (lt141 (by decide)) rfl dX8_run_156 rfl ?_
          refine K.if_eq (q := 162) (tgt := 185) dX8_run_159 rfl (by decide) (fun c_159_21 => ?_) (fun c_159_21 => ?_)
          · rw [if_pos c_159_21] at h
            refine K.iinc (q := 188) (v := (nI (i141 + 1))) dX8_run_185 rfl rfl (nI_1 _) (by decide) rfl ?_
            refine K.goto (tgt := 141) dX8_run_188 (by decide) ?_
            refine K.drop 4 ?_
            exact ih (i141 + 1) X20 _ _ (by omega) h hx hr
          · rw [if_neg c_159_21] at h
            refine K.aload_n (q := 163) dX8_run_162 rfl rfl ?_
            refine K.aload_n (q := 164) dX8_run_163 rfl rfl ?_
            refine K.getf (q := 167) (v := .int (X20.2.1 17)) fo_X8_39.r rx131 (lt141 (by decide)) rfl dX8_run_164 rfl ?_
            refine K.if_eq (q := 170) (tgt := 174) dX8_run_167 rfl (by decide) (fun c_167_22 => ?_) (fun c_167_22 => ?_)
            · rw [if_pos c_167_22] at h
              refine K.iconst (q := 175) (v := 1) dX8_run_174 rfl (by decide) ?_
              refine K.putf (q := 178) fo_X8_36 rx131 (lt141 (by decide)) (Nat.le_of_ble_eq_true rfl) (fun _ => rfl) (fun _ => rfl) pxs19 dX8_run_175 rfl ?_
              refine K.aload_n (q := 179) dX8_run_178 rfl rfl ?_
              refine K.iload (q := 181) dX8_run_179 rfl rfl ?_
              obtain ⟨v23, X23, h9_23, h⟩ := bnd2_inv h
              refine K.callV0 (q := 184) mkX8_kept mw_X8_118 (s_X8_kept _ _ h9_23) rfl (by decide) rfl (lt141 (by decide)) rx131 (Nat.le_of_ble_eq_true rfl) (Nat.le_of_ble_eq_true rfl) (Nat.le_of_ble_eq_true rfl) dX8_run_181 rfl ?_
              obtain ⟨rfl, rfl⟩ := ret2_inv h
              obtain ⟨e_vo, e_Xo⟩ := hr _ rfl
              exact C.iret rfl rfl (congrArg (fun z => Sum.inl (some (Value.int z))) e_vo.symm) (congrArg mkH e_Xo) (Nat.le_of_ble_eq_true rfl) (Nat.le_of_ble_eq_true rfl) dX8_run_184
            · rw [if_neg c_167_22] at h
              refine K.iconst (q := 171) (v := 2) dX8_run_170 rfl (by decide) ?_
              refine K.goto (tgt := 175) dX8_run_171 (by decide) ?_
              refine K.putf (q := 178) fo_X8_36 rx131 (lt141 (by decide)) (Nat.le_of_ble_eq_true rfl) (fun _ => rfl) (fun _ => rfl) pxs19 dX8_run_175 rfl ?_
              refine K.aload_n (q := 179) dX8_run_178 rfl rfl ?_
              refine K.iload (q := 181) dX8_run_179 rfl rfl ?_
              obtain ⟨v24, X24, h9_24, h⟩ := bnd2_inv h
              refine K.callV0 (q := 184) mkX8_kept mw_X8_118 (s_X8_kept _ _ h9_24) rfl (by decide) rfl (lt141 (by decide)) rx131 (Nat.le_of_ble_eq_true rfl) (Nat.le_of_ble_eq_true rfl) (Nat.le_of_ble_eq_true rfl) dX8_run_181 rfl ?_
              obtain ⟨rfl, rfl⟩ := ret2_inv h
              obtain ⟨e_vo, e_Xo⟩ := hr _ rfl
              exact C.iret rfl rfl (congrArg (fun z => Sum.inl (some (Value.int z))) e_vo.symm) (congrArg mkH e_Xo) (Nat.le_of_ble_eq_true rfl) (Nat.le_of_ble_eq_true rfl) dX8_run_184
      obtain ⟨ee141_25, XX141_25, h9_25, h⟩ := bnd2_inv h
      refine L141 ((a1_14_9).toNatClampNeg) 0 X17 _ _ (by omega) h9_25 (fun z_25 => ?_) (fun v hv => ?_)
      · replace h := elseE_none z_25 h
        refine K.aload_n (q := 192) dX8_run_191 rfl rfl ?_
        refine K.aload_n (q := 193) dX8_run_192 rfl rfl ?_
        refine K.iload_n (q := 194) dX8_run_193 rfl rfl ?_
        obtain ⟨v26, X26, h9_26, h⟩ := bnd2_inv h
        refine K.callV0 (q := 197) mkX8_done mw_X8_105 (s_X8_done _ _ h9_26) rfl (by decide) rfl (lt141 (by decide)) rx131 (Nat.le_of_ble_eq_true rfl) (Nat.le_of_ble_eq_true rfl) (Nat.le_of_ble_eq_true rfl) dX8_run_194 rfl ?_
        obtain ⟨v27, X27, h9_27, h⟩ := bnd2_inv h
        refine K.callV0 (q := 200) mkX8_kept mw_X8_118 (s_X8_kept _ _ h9_27) rfl (by decide) rfl (lt141 (by decide)) rx131 (Nat.le_of_ble_eq_true rfl) (Nat.le_of_ble_eq_true rfl) (Nat.le_of_ble_eq_true rfl) dX8_run_197 rfl ?_
        obtain ⟨e_vo, e_Xo⟩ := ret2_inv h
        exact C.iret rfl rfl (congrArg (fun z => Sum.inl (some (Value.int z))) e_vo.symm) (congrArg mkH e_Xo) (Nat.le_of_ble_eq_true rfl) (Nat.le_of_ble_eq_true rfl) dX8_run_200
      · have h8 := elseE_some hv h
        exact ret2_inv h8
    · rw [if_neg c_87_14] at h
      refine K.iconst (q := 91) (v := 1) dX8_run_90 rfl (by decide) ?_
      refine K.goto (tgt := 95) dX8_run_91 (by decide) ?_
      refine K.putf (q := 98) fo_X8_187 rx131 (lt141 (by decide)) (Nat.le_of_ble_eq_true rfl) (fun _ => rfl) (fun _ => rfl) pxs21 dX8_run_95 rfl ?_
      refine K.aload_n (q := 99) dX8_run_98 rfl rfl ?_
      refine K.iconst (q := 100) (v := 0) dX8_run_99 rfl (by decide) ?_
      refine K.putf (q := 103) fo_X8_181 rx131 (lt141 (by decide)) (Nat.le_of_ble_eq_true rfl) (fun _ => rfl) (fun _ => rfl) pxs13 dX8_run_100 rfl ?_
      refine K.aload_n (q := 104) dX8_run_103 rfl rfl ?_
      refine K.aload_n (q := 105) dX8_run_104 rfl rfl ?_
      refine K.getf (q := 108) (v := .int 1) fo_X8_187.r rx131 (lt141 (by decide)) rfl dX8_run_105 rfl ?_
      refine K.if_eq (q := 111) (tgt := 118) dX8_run_108 rfl (by decide) (fun z => absurd z (by decide)) (fun _ => ?_)
      refine K.aload_n (q := 112) dX8_run_111 rfl rfl ?_
      refine K.getf (q := 115) (v := .int (XX14_9.2.1 20)) fo_X8_184.r rx131 (lt141 (by decide)) rfl dX8_run_112 rfl ?_
      refine K.goto (tgt := 119) dX8_run_115 (by decide) ?_
      refine K.putf (q := 122) fo_X8_26 rx131 (lt141 (by decide)) (Nat.le_of_ble_eq_true rfl) (fun _ => rfl) (fun _ => rfl) pxs14 dX8_run_119 rfl ?_
      refine K.aload_n (q := 123) dX8_run_122 rfl rfl ?_
      refine K.getf (q := 126) (v := .int 1) fo_X8_187.r rx131 (lt141 (by decide)) rfl dX8_run_123 rfl ?_
      refine K.if_eq (q := 129) (tgt := 135) dX8_run_126 rfl (by decide) (fun z => absurd z (by decide)) (fun _ => ?_)
      refine K.aload_n (q := 130) dX8_run_129 rfl rfl ?_
      refine K.iconst (q := 131) (v := 1) dX8_run_130 rfl (by decide) ?_
      obtain ⟨v30, X30, h9_30, h⟩ := bnd2_inv h
      refine K.callV0 (q := 134) mkX8_fails mw_X8_98 (s_X8_fails _ _ h9_30) rfl (by decide) rfl (lt141 (by decide)) rx131 (Nat.le_of_ble_eq_true rfl) (Nat.le_of_ble_eq_true rfl) (Nat.le_of_ble_eq_true rfl) dX8_run_131 rfl ?_
      obtain ⟨e_vo, e_Xo⟩ := ret2_inv h
      exact C.iret rfl rfl (congrArg (fun z => Sum.inl (some (Value.int z))) e_vo.symm) (congrArg mkH e_Xo) (Nat.le_of_ble_eq_true rfl) (Nat.le_of_ble_eq_true rfl) dX8_run_134

def m_X8_errorPosition (X : GS) : Option (Int32 × GS) := (bnd2 (m_X8_done X (X.2.1 14)) fun (v1 : Int32) (X1 : GS) => (some (v1, X1)))
set_option maxRecDepth 20000 in
set_option maxHeartbeats 1000000 in
theorem s_X8_errorPosition (X : GS) {vo : Int32} {Xo : GS} (h : m_X8_errorPosition X = some (vo, Xo)) : Ct 2 0 0 yX8_errorPosition (.code yX8_errorPosition cX8_errorPosition 1 (some (.int))) [.ref 131] (mkH X) (.inl (some (.int vo))) (mkH Xo) := by
  refine Ct.of (LL := [some (.ref 131)]) mkX8_errorPosition.1 owX8_errorPosition rfl (Nat.le_of_ble_eq_true rfl) rfl (fun Wk C => ?_)
  have K := C.core
  rw [m_X8_errorPosition] at h
  refine K.aload_n (q := 1) dX8_errorPosition_0 rfl rfl ?_
  refine K.aload_n (q := 2) dX8_errorPosition_1 rfl rfl ?_
  refine K.getf (q := 5) (v := .int (X.2.1 14)) fo_X8_26.r rx131 (lt141 (by decide)) rfl dX8_errorPosition_2 rfl ?_
  obtain ⟨v1, X1, h9_1, h⟩ := bnd2_inv h
  refine K.callV0 (q := 8) mkX8_done mw_X8_105 (s_X8_done _ _ h9_1) rfl (by decide) rfl (lt141 (by decide)) rx131 (Nat.le_of_ble_eq_true rfl) (Nat.le_of_ble_eq_true rfl) (Nat.le_of_ble_eq_true rfl) dX8_errorPosition_5 rfl ?_
  obtain ⟨e_vo, e_Xo⟩ := ret2_inv h
  exact C.iret rfl rfl (congrArg (fun z => Sum.inl (some (Value.int z))) e_vo.symm) (congrArg mkH e_Xo) (Nat.le_of_ble_eq_true rfl) (Nat.le_of_ble_eq_true rfl) dX8_errorPosition_8

def m_X8_refusal (X : GS) (isDetail : Int32) : Option (Int32 × GS) := (if (X.2.1 15) = 0 then (bnd2 (m_X8_fails X 1) fun (v5 : Int32) (X5 : GS) => (some (v5, X5))) else (if isDetail = 0 then (bnd2 (m_X8_done X (X.2.1 15)) fun (v3 : Int32) (X3 : GS) => (some (v3, X3))) else (bnd2 (m_X8_done X (X.2.1 16)) fun (v4 : Int32) (X4 : GS) => (some (v4, X4)))))
set_option maxRecDepth 20000 in
set_option maxHeartbeats 1000000 in
theorem s_X8_refusal (X : GS) (isDetail : Int32) {vo : Int32} {Xo : GS} (h : m_X8_refusal X isDetail = some (vo, Xo)) : Ct 2 0 0 yX8_refusal (.code yX8_refusal cX8_refusal 2 (some (.int))) [.ref 131, .int isDetail] (mkH X) (.inl (some (.int vo))) (mkH Xo) := by
  refine Ct.of (LL := [some (.ref 131), some (.int isDetail)]) mkX8_refusal.1 owX8_refusal rfl (Nat.le_of_ble_eq_true rfl) rfl (fun Wk C => ?_)
  have K := C.core
  rw [m_X8_refusal] at h
  refine K.aload_n (q := 1) dX8_refusal_0 rfl rfl ?_
  refine K.getf (q := 4) (v := .int (X.2.1 15)) fo_X8_43.r rx131 (lt141 (by decide)) rfl dX8_refusal_1 rfl ?_
  refine K.if_ne (q := 7) (tgt := 15) dX8_refusal_4 rfl (by decide) (fun c_4_1 => ?_) (fun c_4_1 => ?_)
  · rw [if_neg c_4_1] at h
    refine K.aload_n (q := 16) dX8_refusal_15 rfl rfl ?_
    refine K.iload_n (q := 17) dX8_refusal_16 rfl rfl ?_
    refine K.if_eq (q := 20) (tgt := 27) dX8_refusal_17 rfl (by decide) (fun c_17_2 => ?_) (fun c_17_2 => ?_)
    · rw [if_pos c_17_2] at h
      refine K.aload_n (q := 28) dX8_refusal_27 rfl rfl ?_
      refine K.getf (q := 31) (v := .int (X.2.1 15)) fo_X8_43.r rx131 (lt141 (by decide)) rfl dX8_refusal_28 rfl ?_
      obtain ⟨v3, X3, h9_3, h⟩ := bnd2_inv h
      refine K.callV0 (q := 34) mkX8_done mw_X8_105 (s_X8_done _ _ h9_3) rfl (by decide) rfl (lt141 (by decide)) rx131 (Nat.le_of_ble_eq_true rfl) (Nat.le_of_ble_eq_true rfl) (Nat.le_of_ble_eq_true rfl) dX8_refusal_31 rfl ?_
      obtain ⟨e_vo, e_Xo⟩ := ret2_inv h
      exact C.iret rfl rfl (congrArg (fun z => Sum.inl (some (Value.int z))) e_vo.symm) (congrArg mkH e_Xo) (Nat.le_of_ble_eq_true rfl) (Nat.le_of_ble_eq_true rfl) dX8_refusal_34
    · rw [if_neg c_17_2] at h
      refine K.aload_n (q := 21) dX8_refusal_20 rfl rfl ?_
      refine K.getf (q := 24) (v := .int (X.2.1 16)) fo_X8_46.r rx131 (lt141 (by decide)) rfl dX8_refusal_21 rfl ?_
      refine K.goto (tgt := 31) dX8_refusal_24 (by decide) ?_
      obtain ⟨v4, X4, h9_4, h⟩ := bnd2_inv h
      refine K.callV0 (q := 34) mkX8_done mw_X8_105 (s_X8_done _ _ h9_4) rfl (by decide) rfl (lt141 (by decide)) rx131 (Nat.le_of_ble_eq_true rfl) (Nat.le_of_ble_eq_true rfl) (Nat.le_of_ble_eq_true rfl) dX8_refusal_31 rfl ?_
      obtain ⟨e_vo, e_Xo⟩ := ret2_inv h
      exact C.iret rfl rfl (congrArg (fun z => Sum.inl (some (Value.int z))) e_vo.symm) (congrArg mkH e_Xo) (Nat.le_of_ble_eq_true rfl) (Nat.le_of_ble_eq_true rfl) dX8_refusal_34
  · rw [if_pos c_4_1] at h
    refine K.aload_n (q := 8) dX8_refusal_7 rfl rfl ?_
    refine K.iconst (q := 9) (v := 1) dX8_refusal_8 rfl (by decide) ?_
    obtain ⟨v5, X5, h9_5, h⟩ := bnd2_inv h
    refine K.callV0 (q := 12) mkX8_fails mw_X8_98 (s_X8_fails _ _ h9_5) rfl (by decide) rfl (lt141 (by decide)) rx131 (Nat.le_of_ble_eq_true rfl) (Nat.le_of_ble_eq_true rfl) (Nat.le_of_ble_eq_true rfl) dX8_refusal_9 rfl ?_
    refine K.goto (tgt := 34) dX8_refusal_12 (by decide) ?_
    obtain ⟨e_vo, e_Xo⟩ := ret2_inv h
    exact C.iret rfl rfl (congrArg (fun z => Sum.inl (some (Value.int z))) e_vo.symm) (congrArg mkH e_Xo) (Nat.le_of_ble_eq_true rfl) (Nat.le_of_ble_eq_true rfl) dX8_refusal_34

def lp_X8_all_4 (X : GS) (what : Int32) : Nat → Nat → Int32 → Option (Int32)
  | 0, _, a2_4 => some a2_4
  | j4 + 1, i4, a2_4 => (if what = 1 then (if (81 + i4) < 129 then (lp_X8_all_4 X what j4 (i4 + 1) (a2_4 + ((X.2.2.1 5) ((81 + i4))))) else none) else (bnd1 (m_X8_sizeOf X (nI i4)) fun (v4 : Int32) => (lp_X8_all_4 X what j4 (i4 + 1) (a2_4 + v4))))

def m_X8_all (X : GS) (what : Int32) : Option (Int32) := (bnd1 (lp_X8_all_4 X what ((((X.2.2.1 5) 64)).toNatClampNeg) 0 0) fun (a2_4_6 : Int32) => (some a2_4_6))
set_option maxRecDepth 20000 in
set_option maxHeartbeats 1000000 in
theorem s_X8_all (X : GS) (what : Int32) {vo : Int32} (h : m_X8_all X what = some vo) : Ct 2 0 0 yX8_all (.code yX8_all cX8_all 4 (some (.int))) [.ref 131, .int what] (mkH X) (.inl (some (.int vo))) (mkH X) := by
  refine Ct.of (LL := [some (.ref 131), some (.int what), none, none]) mkX8_all.1 owX8_all rfl (Nat.le_of_ble_eq_true rfl) rfl (fun Wk C => ?_)
  have K := C.core
  rw [m_X8_all] at h
  refine K.iconst (q := 1) (v := 0) dX8_all_0 rfl (by decide) ?_
  refine K.istore_n (q := 2) (i := 2) dX8_all_1 rfl rfl (by decide) rfl ?_
  refine K.iconst (q := 3) (v := 0) dX8_all_2 rfl (by decide) ?_
  refine K.istore_n (q := 4) (i := 3) dX8_all_3 rfl rfl (by decide) rfl ?_
  have L4 : ∀ (j4 i4 : Nat) (a2_4 : Int32) (a2_4r : Int32), i4 + j4 = ((((X.2.2.1 5) 64)).toNatClampNeg) → lp_X8_all_4 X what j4 i4 a2_4 = some a2_4r → (Wk 0 0 46 [some (.ref 131), some (.int what), some (.int a2_4r), none] [] (mkH X)) → Wk 0 0 4 [some (.ref 131), some (.int what), some (.int a2_4), some (.int (nI i4))] [] (mkH X) := by
    intro j4
    induction j4 with
    | zero =>
      intro i4 a2_4 a2_4r hij h hx
      rw [lp_X8_all_4] at h
      refine K.iload_n (q := 5) dX8_all_4 rfl rfl ?_
      refine K.aload_n (q := 6) dX8_all_5 rfl rfl ?_
      refine K.getf (q := 9) (v := .ref 132) fo_X8_7.r rx131 (lt141 (by decide)) rfl dX8_all_6 rfl ?_
      refine K.bipush (q := 11) (v := 64) dX8_all_9 rfl (by decide) ?_
      refine K.ial (q := 12) (f := (X.2.2.1 5)) (m := 64) rx132 (lt141 (by decide)) rfl (by decide) (by decide) dX8_all_11 rfl ?_
      refine K.icmp_ge (q := 15) (tgt := 46) dX8_all_12 rfl (by decide) (fun _ => ?_) (fun z => absurd z (not_not_intro (cl_ge (B := ((X.2.2.1 5) 64)) (by omega))))
      refine K.drop 3 ?_
      obtain q0 := ret1_inv h
      subst q0
      exact hx
    | succ j4 ih =>
      intro i4 a2_4 a2_4r hij h hx
      rw [lp_X8_all_4] at h
      refine K.iload_n (q := 5) dX8_all_4 rfl rfl ?_
      refine K.aload_n (q := 6) dX8_all_5 rfl rfl ?_
      refine K.getf (q := 9) (v := .ref 132) fo_X8_7.r rx131 (lt141 (by decide)) rfl dX8_all_6 rfl ?_
      refine K.bipush (q := 11) (v := 64) dX8_all_9 rfl (by decide) ?_
      refine K.ial (q := 12) (f := (X.2.2.1 5)) (m := 64) rx132 (lt141 (by decide)) rfl (by decide) (by decide) dX8_all_11 rfl ?_
      refine K.icmp_ge (q := 15) (tgt := 46) dX8_all_12 rfl (by decide) (fun z => absurd z (cl_nge (B := ((X.2.2.1 5) 64)) (by omega))) (fun _ => ?_)
      refine K.iload_n (q := 16) dX8_all_15 rfl rfl ?_
      refine K.iload_n (q := 17) dX8_all_16 rfl rfl ?_
      refine K.iconst (q := 18) (v := 1) dX8_all_17 rfl (by decide) ?_
      refine K.icmp_ne (q := 21) (tgt := 33) dX8_all_18 rfl (by decide) (fun c_18_3 => ?_) (fun c_18_3 => ?_)
      · rw [if_neg c_18_3] at h
        refine K.aload_n (q := 34) dX8_all_33 rfl rfl ?_
        refine K.iload_n (q := 35) dX8_all_34 rfl rfl ?_
        obtain ⟨v4, h9_4, h⟩ := bnd1_inv h
        refine K.callV0 (q := 38) mkX8_sizeOf mw_X8_157 (s_X8_sizeOf _ _ h9_4) rfl (by decide) rfl (lt141 (by decide)) rx131 (Nat.le_of_ble_eq_true rfl) (Nat.le_of_ble_eq_true rfl) (Nat.le_of_ble_eq_true rfl) dX8_all_35 rfl ?_
        refine K.iadd (q := 39) dX8_all_38 rfl ?_
        refine K.istore_n (q := 40) (i := 2) dX8_all_39 rfl rfl (by decide) rfl ?_
        refine K.iinc (q := 43) (v := (nI (i4 + 1))) dX8_all_40 rfl rfl (nI_1 _) (by decide) rfl ?_
        refine K.goto (tgt := 4) dX8_all_43 (by decide) ?_
        exact ih (i4 + 1) (a2_4 + v4) _ (by omega) h hx
      · rw [if_pos c_18_3] at h
        refine K.aload_n (q := 22) dX8_all_21 rfl rfl ?_
        refine K.getf (q := 25) (v := .ref 132) fo_X8_7.r rx131 (lt141 (by decide)) rfl dX8_all_22 rfl ?_
        refine K.bipush (q := 27) (v := 81) dX8_all_25 rfl (by decide) ?_
        refine K.iload_n (q := 28) dX8_all_27 rfl rfl ?_
        refine K.iaddE (q := 29) (z := (nI (81 + i4))) (nI_add 81 i4) dX8_all_28 rfl ?_
        obtain ⟨k_5, h⟩ := chk_inv h
        refine K.ial (q := 30) (f := (X.2.2.1 5)) (m := ((81 + i4))) rx132 (lt141 (by decide)) rfl k_5 (by decide) dX8_all_29 rfl ?_
        refine K.goto (tgt := 38) dX8_all_30 (by decide) ?_
        refine K.iadd (q := 39) dX8_all_38 rfl ?_
        refine K.istore_n (q := 40) (i := 2) dX8_all_39 rfl rfl (by decide) rfl ?_
        refine K.iinc (q := 43) (v := (nI (i4 + 1))) dX8_all_40 rfl rfl (nI_1 _) (by decide) rfl ?_
        refine K.goto (tgt := 4) dX8_all_43 (by decide) ?_
        exact ih (i4 + 1) (a2_4 + ((X.2.2.1 5) ((81 + i4)))) _ (by omega) h hx
  obtain ⟨a2_4_6, h9_6, h⟩ := bnd1_inv h
  refine L4 ((((X.2.2.1 5) 64)).toNatClampNeg) 0 0 _ (by omega) h9_6 ?_
  refine K.iload_n (q := 47) dX8_all_46 rfl rfl ?_
  obtain e_vo := ret1_inv h
  exact C.iret rfl rfl (congrArg (fun z => Sum.inl (some (Value.int z))) e_vo.symm) rfl (Nat.le_of_ble_eq_true rfl) (Nat.le_of_ble_eq_true rfl) dX8_all_47

def lp_X8_freePieces_4 (X : GS) : Nat → Nat → Int32 → Option (Int32)
  | 0, _, a1_4 => some a1_4
  | j4 + 1, i4, a1_4 => (bnd1 (m_X8_isFreeAt X (nI i4)) fun (v3 : Int32) => (if v3 = 0 then (lp_X8_freePieces_4 X j4 (i4 + 1) (a1_4 + 0)) else (lp_X8_freePieces_4 X j4 (i4 + 1) (a1_4 + 1))))

def m_X8_freePieces (X : GS) : Option (Int32) := (bnd1 (lp_X8_freePieces_4 X 64 0 0) fun (a1_4_5 : Int32) => (some a1_4_5))
set_option maxRecDepth 20000 in
set_option maxHeartbeats 1000000 in
theorem s_X8_freePieces (X : GS) {vo : Int32} (h : m_X8_freePieces X = some vo) : Ct 3 0 0 yX8_freePieces (.code yX8_freePieces cX8_freePieces 3 (some (.int))) [.ref 131] (mkH X) (.inl (some (.int vo))) (mkH X) := by
  refine Ct.of (LL := [some (.ref 131), none, none]) mkX8_freePieces.1 owX8_freePieces rfl (Nat.le_of_ble_eq_true rfl) rfl (fun Wk C => ?_)
  have K := C.core
  rw [m_X8_freePieces] at h
  refine K.iconst (q := 1) (v := 0) dX8_freePieces_0 rfl (by decide) ?_
  refine K.istore_n (q := 2) (i := 1) dX8_freePieces_1 rfl rfl (by decide) rfl ?_
  refine K.iconst (q := 3) (v := 0) dX8_freePieces_2 rfl (by decide) ?_
  refine K.istore_n (q := 4) (i := 2) dX8_freePieces_3 rfl rfl (by decide) rfl ?_
  have L4 : ∀ (j4 i4 : Nat) (a1_4 : Int32) (a1_4r : Int32), i4 + j4 = 64 → lp_X8_freePieces_4 X j4 i4 a1_4 = some a1_4r → (Wk 0 0 32 [some (.ref 131), some (.int a1_4r), none] [] (mkH X)) → Wk 0 0 4 [some (.ref 131), some (.int a1_4), some (.int (nI i4))] [] (mkH X) := by
    intro j4
    induction j4 with
    | zero =>
      intro i4 a1_4 a1_4r hij h hx
      rw [lp_X8_freePieces_4] at h
      refine K.iload_n (q := 5) dX8_freePieces_4 rfl rfl ?_
      refine K.bipush (q := 7) (v := 64) dX8_freePieces_5 rfl (by decide) ?_
      refine K.icmp_ge (q := 10) (tgt := 32) dX8_freePieces_7 rfl (by decide) (fun _ => ?_) (fun z => absurd z (not_not_intro (nI_le (a := 64) (b := i4) (by omega) (by omega))))
      refine K.drop 2 ?_
      obtain q0 := ret1_inv h
      subst q0
      exact hx
    | succ j4 ih =>
      intro i4 a1_4 a1_4r hij h hx
      rw [lp_X8_freePieces_4] at h
      refine K.iload_n (q := 5) dX8_freePieces_4 rfl rfl ?_
      refine K.bipush (q := 7) (v := 64) dX8_freePieces_5 rfl (by decide) ?_
      refine K.icmp_ge (q := 10) (tgt := 32) dX8_freePieces_7 rfl (by decide) (fun z => absurd z (nI_ge (a := i4) (b := 64) (by omega) (by omega))) (fun _ => ?_)
      refine K.iload_n (q := 11) dX8_freePieces_10 rfl rfl ?_
      refine K.aload_n (q := 12) dX8_freePieces_11 rfl rfl ?_
      refine K.iload_n (q := 13) dX8_freePieces_12 rfl rfl ?_
      obtain ⟨v3, h9_3, h⟩ := bnd1_inv h
      refine K.callV0 (q := 16) mkX8_isFreeAt mw_X8_64 (s_X8_isFreeAt _ _ h9_3) rfl (by decide) rfl (lt141 (by decide)) rx131 (Nat.le_of_ble_eq_true rfl) (Nat.le_of_ble_eq_true rfl) (Nat.le_of_ble_eq_true rfl) dX8_freePieces_13 rfl ?_
      refine K.if_eq (q := 19) (tgt := 23) dX8_freePieces_16 rfl (by decide) (fun c_16_4 => ?_) (fun c_16_4 => ?_)
      · rw [if_pos c_16_4] at h
        refine K.iconst (q := 24) (v := 0) dX8_freePieces_23 rfl (by decide) ?_
        refine K.iadd (q := 25) dX8_freePieces_24 rfl ?_
        refine K.istore_n (q := 26) (i := 1) dX8_freePieces_25 rfl rfl (by decide) rfl ?_
        refine K.iinc (q := 29) (v := (nI (i4 + 1))) dX8_freePieces_26 rfl rfl (nI_1 _) (by decide) rfl ?_
        refine K.goto (tgt := 4) dX8_freePieces_29 (by decide) ?_
        exact ih (i4 + 1) (a1_4 + 0) _ (by omega) h hx
      · rw [if_neg c_16_4] at h
        refine K.iconst (q := 20) (v := 1) dX8_freePieces_19 rfl (by decide) ?_
        refine K.goto (tgt := 24) dX8_freePieces_20 (by decide) ?_
        refine K.iadd (q := 25) dX8_freePieces_24 rfl ?_
        refine K.istore_n (q := 26) (i := 1) dX8_freePieces_25 rfl rfl (by decide) rfl ?_
        refine K.iinc (q := 29) (v := (nI (i4 + 1))) dX8_freePieces_26 rfl rfl (nI_1 _) (by decide) rfl ?_
        refine K.goto (tgt := 4) dX8_freePieces_29 (by decide) ?_
        exact ih (i4 + 1) (a1_4 + 1) _ (by omega) h hx
  obtain ⟨a1_4_5, h9_5, h⟩ := bnd1_inv h
  refine L4 64 0 0 _ (by omega) h9_5 ?_
  refine K.iload_n (q := 33) dX8_freePieces_32 rfl rfl ?_
  obtain e_vo := ret1_inv h
  exact C.iret rfl rfl (congrArg (fun z => Sum.inl (some (Value.int z))) e_vo.symm) rfl (Nat.le_of_ble_eq_true rfl) (Nat.le_of_ble_eq_true rfl) dX8_freePieces_33

def m_X8_account (X : GS) (what : Int32) : Option (Int32 × GS) := (if what = 0 then (bnd2 (m_X8_done X ((X.2.2.1 5) 64)) fun (v2 : Int32) (X2 : GS) => (some (v2, X2))) else (if what = 1 then (bnd1 (m_X8_all X what) fun (v4 : Int32) => (bnd2 (m_X8_done X v4) fun (v5 : Int32) (X5 : GS) => (some (v5, X5)))) else (if what = 2 then (bnd1 (m_X8_all X what) fun (v7 : Int32) => (bnd2 (m_X8_done X v7) fun (v8 : Int32) (X8 : GS) => (some (v8, X8)))) else (if what = 3 then (bnd1 (m_X8_freePieces X) fun (v10 : Int32) => (bnd2 (m_X8_done X v10) fun (v11 : Int32) (X11 : GS) => (some (v11, X11)))) else (if what = 4 then (bnd2 (m_X8_done X ((X.2.2.1 5) 113)) fun (v13 : Int32) (X13 : GS) => (some (v13, X13))) else (if what = 5 then (bnd1 (m_X8_all X 2) fun (v15 : Int32) => (bnd1 (m_X8_all X 1) fun (v16 : Int32) => (bnd2 (m_X8_done X (v15 - v16)) fun (v17 : Int32) (X17 : GS) => (some (v17, X17))))) else (if what = 6 then (if inR ((127 + what) - 6) 129 then (bnd2 (m_X8_done X ((X.2.2.1 5) (((127 + what) - 6).toNatClampNeg))) fun (v20 : Int32) (X20 : GS) => (some (v20, X20))) else none) else (if what = 7 then (if inR ((127 + what) - 6) 129 then (bnd2 (m_X8_done X ((X.2.2.1 5) (((127 + what) - 6).toNatClampNeg))) fun (v23 : Int32) (X23 : GS) => (some (v23, X23))) else none) else (if what = 8 then (bnd2 (m_X8_done X ((X.2.2.1 5) 126)) fun (v25 : Int32) (X25 : GS) => (some (v25, X25))) else (if what = 9 then (bnd2 (m_X8_done X (X.2.1 13)) fun (v27 : Int32) (X27 : GS) => (some (v27, X27))) else (if what = 10 then (bnd2 (m_X8_done X (X.2.1 11)) fun (v29 : Int32) (X29 : GS) => (some (v29, X29))) else (bnd2 (m_X8_fails X 1) fun (v30 : Int32) (X30 : GS) => (some (v30, X30))))))))))))))
set_option maxRecDepth 20000 in
set_option maxHeartbeats 1000000 in
theorem s_X8_account (X : GS) (what : Int32) {vo : Int32} {Xo : GS} (h : m_X8_account X what = some (vo, Xo)) : Ct 4 0 0 yX8_account (.code yX8_account cX8_account 2 (some (.int))) [.ref 131, .int what] (mkH X) (.inl (some (.int vo))) (mkH Xo) := by
  refine Ct.of (LL := [some (.ref 131), some (.int what)]) mkX8_account.1 owX8_account rfl (Nat.le_of_ble_eq_true rfl) rfl (fun Wk C => ?_)
  have K := C.core
  rw [m_X8_account] at h
  refine K.iload_n (q := 1) dX8_account_0 rfl rfl ?_
  by_cases c_1_1 : what = 0
  · refine K.tableIn (tgt := 60) dX8_account_1 (by rw [c_1_1]; decide) (by rw [c_1_1]; decide) (by rw [c_1_1]; try rfl) (by decide) ?_
    rw [if_pos c_1_1] at h
    refine K.aload_n (q := 61) dX8_account_60 rfl rfl ?_
    refine K.aload_n (q := 62) dX8_account_61 rfl rfl ?_
    refine K.getf (q := 65) (v := .ref 132) fo_X8_7.r rx131 (lt141 (by decide)) rfl dX8_account_62 rfl ?_
    refine K.bipush (q := 67) (v := 64) dX8_account_65 rfl (by decide) ?_
    refine K.ial (q := 68) (f := (X.2.2.1 5)) (m := 64) rx132 (lt141 (by decide)) rfl (by decide) (by decide) dX8_account_67 rfl ?_
    obtain ⟨v2, X2, h9_2, h⟩ := bnd2_inv h
    refine K.callV0 (q := 71) mkX8_done mw_X8_105 (s_X8_done _ _ h9_2) rfl (by decide) rfl (lt141 (by decide)) rx131 (Nat.le_of_ble_eq_true rfl) (Nat.le_of_ble_eq_true rfl) (Nat.le_of_ble_eq_true rfl) dX8_account_68 rfl ?_
    obtain ⟨e_vo, e_Xo⟩ := ret2_inv h
    exact C.iret rfl rfl (congrArg (fun z => Sum.inl (some (Value.int z))) e_vo.symm) (congrArg mkH e_Xo) (Nat.le_of_ble_eq_true rfl) (Nat.le_of_ble_eq_true rfl) dX8_account_71
  · skip
    rw [if_neg c_1_1] at h
    by_cases c_1_3 : what = 1
    · refine K.tableIn (tgt := 72) dX8_account_1 (by rw [c_1_3]; decide) (by rw [c_1_3]; decide) (by rw [c_1_3]; try rfl) (by decide) ?_
      rw [if_pos c_1_3] at h
      refine K.aload_n (q := 73) dX8_account_72 rfl rfl ?_
      refine K.aload_n (q := 74) dX8_account_73 rfl rfl ?_
      refine K.iload_n (q := 75) dX8_account_74 rfl rfl ?_
      obtain ⟨v4, h9_4, h⟩ := bnd1_inv h
      refine K.callV0 (q := 78) mkX8_all mw_X8_202 (s_X8_all _ _ h9_4) rfl (by decide) rfl (lt141 (by decide)) rx131 (Nat.le_of_ble_eq_true rfl) (Nat.le_of_ble_eq_true rfl) (Nat.le_of_ble_eq_true rfl) dX8_account_75 rfl ?_
      obtain ⟨v5, X5, h9_5, h⟩ := bnd2_inv h
      refine K.callV0 (q := 81) mkX8_done mw_X8_105 (s_X8_done _ _ h9_5) rfl (by decide) rfl (lt141 (by decide)) rx131 (Nat.le_of_ble_eq_true rfl) (Nat.le_of_ble_eq_true rfl) (Nat.le_of_ble_eq_true rfl) dX8_account_78 rfl ?_
      obtain ⟨e_vo, e_Xo⟩ := ret2_inv h
      exact C.iret rfl rfl (congrArg (fun z => Sum.inl (some (Value.int z))) e_vo.symm) (congrArg mkH e_Xo) (Nat.le_of_ble_eq_true rfl) (Nat.le_of_ble_eq_true rfl) dX8_account_81
    · skip
      rw [if_neg c_1_3] at h
      by_cases c_1_6 : what = 2
      · refine K.tableIn (tgt := 72) dX8_account_1 (by rw [c_1_6]; decide) (by rw [c_1_6]; decide) (by rw [c_1_6]; try rfl) (by decide) ?_
        rw [if_pos c_1_6] at h
        refine K.aload_n (q := 73) dX8_account_72 rfl rfl ?_
        refine K.aload_n (q := 74) dX8_account_73 rfl rfl ?_
        refine K.iload_n (q := 75) dX8_account_74 rfl rfl ?_
        obtain ⟨v7, h9_7, h⟩ := bnd1_inv h
        refine K.callV0 (q := 78) mkX8_all mw_X8_202 (s_X8_all _ _ h9_7) rfl (by decide) rfl (lt141 (by decide)) rx131 (Nat.le_of_ble_eq_true rfl) (Nat.le_of_ble_eq_true rfl) (Nat.le_of_ble_eq_true rfl) dX8_account_75 rfl ?_
        obtain ⟨v8, X8, h9_8, h⟩ := bnd2_inv h
        refine K.callV0 (q := 81) mkX8_done mw_X8_105 (s_X8_done _ _ h9_8) rfl (by decide) rfl (lt141 (by decide)) rx131 (Nat.le_of_ble_eq_true rfl) (Nat.le_of_ble_eq_true rfl) (Nat.le_of_ble_eq_true rfl) dX8_account_78 rfl ?_
        obtain ⟨e_vo, e_Xo⟩ := ret2_inv h
        exact C.iret rfl rfl (congrArg (fun z => Sum.inl (some (Value.int z))) e_vo.symm) (congrArg mkH e_Xo) (Nat.le_of_ble_eq_true rfl) (Nat.le_of_ble_eq_true rfl) dX8_account_81
      · skip
        rw [if_neg c_1_6] at h
        by_cases c_1_9 : what = 3
        · refine K.tableIn (tgt := 82) dX8_account_1 (by rw [c_1_9]; decide) (by rw [c_1_9]; decide) (by rw [c_1_9]; try rfl) (by decide) ?_
          rw [if_pos c_1_9] at h
          refine K.aload_n (q := 83) dX8_account_82 rfl rfl ?_
          refine K.aload_n (q := 84) dX8_account_83 rfl rfl ?_
          obtain ⟨v10, h9_10, h⟩ := bnd1_inv h
          refine K.callV0 (q := 87) mkX8_freePieces mw_X8_205 (s_X8_freePieces _ h9_10) rfl (by decide) rfl (lt141 (by decide)) rx131 (Nat.le_of_ble_eq_true rfl) (Nat.le_of_ble_eq_true rfl) (Nat.le_of_ble_eq_true rfl) dX8_account_84 rfl ?_
          obtain ⟨v11, X11, h9_11, h⟩ := bnd2_inv h
          refine K.callV0 (q := 90) mkX8_done mw_X8_105 (s_X8_done _ _ h9_11) rfl (by decide) rfl (lt141 (by decide)) rx131 (Nat.le_of_ble_eq_true rfl) (Nat.le_of_ble_eq_true rfl) (Nat.le_of_ble_eq_true rfl) dX8_account_87 rfl ?_
          obtain ⟨e_vo, e_Xo⟩ := ret2_inv h
          exact C.iret rfl rfl (congrArg (fun z => Sum.inl (some (Value.int z))) e_vo.symm) (congrArg mkH e_Xo) (Nat.le_of_ble_eq_true rfl) (Nat.le_of_ble_eq_true rfl) dX8_account_90
        · skip
          rw [if_neg c_1_9] at h
          by_cases c_1_12 : what = 4
          · refine K.tableIn (tgt := 91) dX8_account_1 (by rw [c_1_12]; decide) (by rw [c_1_12]; decide) (by rw [c_1_12]; try rfl) (by decide) ?_
            rw [if_pos c_1_12] at h
            refine K.aload_n (q := 92) dX8_account_91 rfl rfl ?_
            refine K.aload_n (q := 93) dX8_account_92 rfl rfl ?_
            refine K.getf (q := 96) (v := .ref 132) fo_X8_7.r rx131 (lt141 (by decide)) rfl dX8_account_93 rfl ?_
            refine K.bipush (q := 98) (v := 113) dX8_account_96 rfl (by decide) ?_
            refine K.ial (q := 99) (f := (X.2.2.1 5)) (m := 113) rx132 (lt141 (by decide)) rfl (by decide) (by decide) dX8_account_98 rfl ?_
            obtain ⟨v13, X13, h9_13, h⟩ := bnd2_inv h
            refine K.callV0 (q := 102) mkX8_done mw_X8_105 (s_X8_done _ _ h9_13) rfl (by decide) rfl (lt141 (by decide)) rx131 (Nat.le_of_ble_eq_true rfl) (Nat.le_of_ble_eq_true rfl) (Nat.le_of_ble_eq_true rfl) dX8_account_99 rfl ?_
            obtain ⟨e_vo, e_Xo⟩ := ret2_inv h
            exact C.iret rfl rfl (congrArg (fun z => Sum.inl (some (Value.int z))) e_vo.symm) (congrArg mkH e_Xo) (Nat.le_of_ble_eq_true rfl) (Nat.le_of_ble_eq_true rfl) dX8_account_102
          · skip
            rw [if_neg c_1_12] at h
            by_cases c_1_14 : what = 5
            · refine K.tableIn (tgt := 103) dX8_account_1 (by rw [c_1_14]; decide) (by rw [c_1_14]; decide) (by rw [c_1_14]; try rfl) (by decide) ?_
              rw [if_pos c_1_14] at h
              refine K.aload_n (q := 104) dX8_account_103 rfl rfl ?_
              refine K.aload_n (q := 105) dX8_account_104 rfl rfl ?_
              refine K.iconst (q := 106) (v := 2) dX8_account_105 rfl (by decide) ?_
              obtain ⟨v15, h9_15, h⟩ := bnd1_inv h
              refine K.callV0 (q := 109) mkX8_all mw_X8_202 (s_X8_all _ _ h9_15) rfl (by decide) rfl (lt141 (by decide)) rx131 (Nat.le_of_ble_eq_true rfl) (Nat.le_of_ble_eq_true rfl) (Nat.le_of_ble_eq_true rfl) dX8_account_106 rfl ?_
              refine K.aload_n (q := 110) dX8_account_109 rfl rfl ?_
              refine K.iconst (q := 111) (v := 1) dX8_account_110 rfl (by decide) ?_
              obtain ⟨v16, h9_16, h⟩ := bnd1_inv h
              refine K.callV0 (q := 114) mkX8_all mw_X8_202 (s_X8_all _ _ h9_16) rfl (by decide) rfl (lt141 (by decide)) rx131 (Nat.le_of_ble_eq_true rfl) (Nat.le_of_ble_eq_true rfl) (Nat.le_of_ble_eq_true rfl) dX8_account_111 rfl ?_
              refine K.isub (q := 115) dX8_account_114 rfl ?_
              obtain ⟨v17, X17, h9_17, h⟩ := bnd2_inv h
              refine K.callV0 (q := 118) mkX8_done mw_X8_105 (s_X8_done _ _ h9_17) rfl (by decide) rfl (lt141 (by decide)) rx131 (Nat.le_of_ble_eq_true rfl) (Nat.le_of_ble_eq_true rfl) (Nat.le_of_ble_eq_true rfl) dX8_account_115 rfl ?_
              obtain ⟨e_vo, e_Xo⟩ := ret2_inv h
              exact C.iret rfl rfl (congrArg (fun z => Sum.inl (some (Value.int z))) e_vo.symm) (congrArg mkH e_Xo) (Nat.le_of_ble_eq_true rfl) (Nat.le_of_ble_eq_true rfl) dX8_account_118
            · skip
              rw [if_neg c_1_14] at h
              by_cases c_1_18 : what = 6
              · refine K.tableIn (tgt := 119) dX8_account_1 (by rw [c_1_18]; decide) (by rw [c_1_18]; decide) (by rw [c_1_18]; try rfl) (by decide) ?_
                rw [if_pos c_1_18] at h
                refine K.aload_n (q := 120) dX8_account_119 rfl rfl ?_
                refine K.aload_n (q := 121) dX8_account_120 rfl rfl ?_
                refine K.getf (q := 124) (v := .ref 132) fo_X8_7.r rx131 (lt141 (by decide)) rfl dX8_account_121 rfl ?_
                refine K.bipush (q := 126) (v := 127) dX8_account_124 rfl (by decide) ?_
                refine K.iload_n (q := 127) dX8_account_126 rfl rfl ?_
                refine K.iadd (q := 128) dX8_account_127 rfl ?_
                refine K.bipush (q := 130) (v := 6) dX8_account_128 rfl (by decide) ?_
                refine K.isub (q := 131) dX8_account_130 rfl ?_
                obtain ⟨k_19, h⟩ := chk_inv h
                refine K.ial (q := 132) (f := (X.2.2.1 5)) (m := (((127 + what) - 6).toNatClampNeg)) rx132 (lt141 (by decide)) (cl_nI k_19.1) k_19.2 (by decide) dX8_account_131 rfl ?_
                obtain ⟨v20, X20, h9_20, h⟩ := bnd2_inv h
                refine K.callV0 (q := 135) mkX8_done mw_X8_105 (s_X8_done _ _ h9_20) rfl (by decide) rfl (lt141 (by decide)) rx131 (Nat.le_of_ble_eq_true rfl) (Nat.le_of_ble_eq_true rfl) (Nat.le_of_ble_eq_true rfl) dX8_account_132 rfl ?_
                obtain ⟨e_vo, e_Xo⟩ := ret2_inv h
                exact C.iret rfl rfl (congrArg (fun z => Sum.inl (some (Value.int z))) e_vo.symm) (congrArg mkH e_Xo) (Nat.le_of_ble_eq_true rfl) (Nat.le_of_ble_eq_true rfl) dX8_account_135
              · skip
                rw [if_neg c_1_18] at h
                by_cases c_1_21 : what = 7
                · refine K.tableIn (tgt := 119) dX8_account_1 (by rw [c_1_21]; decide) (by rw [c_1_21]; decide) (by rw [c_1_21]; try rfl) (by decide) ?_
                  rw [if_pos c_1_21] at h
                  refine K.aload_n (q := 120) dX8_account_119 rfl rfl ?_
                  refine K.aload_n (q := 121) dX8_account_120 rfl rfl ?_
                  refine K.getf (q := 124) (v := .ref 132) fo_X8_7.r rx131 (lt141 (by decide)) rfl dX8_account_121 rfl ?_
                  refine K.bipush (q := 126) (v := 127) dX8_account_124 rfl (by decide) ?_
                  refine K.iload_n (q := 127) dX8_account_126 rfl rfl ?_
                  refine K.iadd (q := 128) dX8_account_127 rfl ?_
                  refine K.bipush (q := 130) (v := 6) dX8_account_128 rfl (by decide) ?_
                  refine K.isub (q := 131) dX8_account_130 rfl ?_
                  obtain ⟨k_22, h⟩ := chk_inv h
                  refine K.ial (q := 132) (f := (X.2.2.1 5)) (m := (((127 + what) - 6).toNatClampNeg)) rx132 (lt141 (by decide)) (cl_nI k_22.1) k_22.2 (by decide) dX8_account_131 rfl ?_
                  obtain ⟨v23, X23, h9_23, h⟩ := bnd2_inv h
                  refine K.callV0 (q := 135) mkX8_done mw_X8_105 (s_X8_done _ _ h9_23) rfl (by decide) rfl (lt141 (by decide)) rx131 (Nat.le_of_ble_eq_true rfl) (Nat.le_of_ble_eq_true rfl) (Nat.le_of_ble_eq_true rfl) dX8_account_132 rfl ?_
                  obtain ⟨e_vo, e_Xo⟩ := ret2_inv h
                  exact C.iret rfl rfl (congrArg (fun z => Sum.inl (some (Value.int z))) e_vo.symm) (congrArg mkH e_Xo) (Nat.le_of_ble_eq_true rfl) (Nat.le_of_ble_eq_true rfl) dX8_account_135
                · skip
                  rw [if_neg c_1_21] at h
                  by_cases c_1_24 : what = 8
                  · refine K.tableIn (tgt := 136) dX8_account_1 (by rw [c_1_24]; decide) (by rw [c_1_24]; decide) (by rw [c_1_24]; try rfl) (by decide) ?_
                    rw [if_pos c_1_24] at h
                    refine K.aload_n (q := 137) dX8_account_136 rfl rfl ?_
                    refine K.aload_n (q := 138) dX8_account_137 rfl rfl ?_
                    refine K.getf (q := 141) (v := .ref 132) fo_X8_7.r rx131 (lt141 (by decide)) rfl dX8_account_138 rfl ?_
                    refine K.bipush (q := 143) (v := 126) dX8_account_141 rfl (by decide) ?_
                    refine K.ial (q := 144) (f := (X.2.2.1 5)) (m := 126) rx132 (lt141 (by decide)) rfl (by decide) (by decide) dX8_account_143 rfl ?_
                    obtain ⟨v25, X25, h9_25, h⟩ := bnd2_inv h
                    refine K.callV0 (q := 147) mkX8_done mw_X8_105 (s_X8_done _ _ h9_25) rfl (by decide) rfl (lt141 (by decide)) rx131 (Nat.le_of_ble_eq_true rfl) (Nat.le_of_ble_eq_true rfl) (Nat.le_of_ble_eq_true rfl) dX8_account_144 rfl ?_
                    obtain ⟨e_vo, e_Xo⟩ := ret2_inv h
                    exact C.iret rfl rfl (congrArg (fun z => Sum.inl (some (Value.int z))) e_vo.symm) (congrArg mkH e_Xo) (Nat.le_of_ble_eq_true rfl) (Nat.le_of_ble_eq_true rfl) dX8_account_147
                  · skip
                    rw [if_neg c_1_24] at h
                    by_cases c_1_26 : what = 9
                    · refine K.tableIn (tgt := 148) dX8_account_1 (by rw [c_1_26]; decide) (by rw [c_1_26]; decide) (by rw [c_1_26]; try rfl) (by decide) ?_
                      rw [if_pos c_1_26] at h
                      refine K.aload_n (q := 149) dX8_account_148 rfl rfl ?_
                      refine K.aload_n (q := 150) dX8_account_149 rfl rfl ?_
                      refine K.getf (q := 153) (v := .int (X.2.1 13)) fo_X8_181.r rx131 (lt141 (by decide)) rfl dX8_account_150 rfl ?_
                      obtain ⟨v27, X27, h9_27, h⟩ := bnd2_inv h
                      refine K.callV0 (q := 156) mkX8_done mw_X8_105 (s_X8_done _ _ h9_27) rfl (by decide) rfl (lt141 (by decide)) rx131 (Nat.le_of_ble_eq_true rfl) (Nat.le_of_ble_eq_true rfl) (Nat.le_of_ble_eq_true rfl) dX8_account_153 rfl ?_
                      obtain ⟨e_vo, e_Xo⟩ := ret2_inv h
                      exact C.iret rfl rfl (congrArg (fun z => Sum.inl (some (Value.int z))) e_vo.symm) (congrArg mkH e_Xo) (Nat.le_of_ble_eq_true rfl) (Nat.le_of_ble_eq_true rfl) dX8_account_156
                    · skip
                      rw [if_neg c_1_26] at h
                      by_cases c_1_28 : what = 10
                      · refine K.tableIn (tgt := 157) dX8_account_1 (by rw [c_1_28]; decide) (by rw [c_1_28]; decide) (by rw [c_1_28]; try rfl) (by decide) ?_
                        rw [if_pos c_1_28] at h
                        refine K.aload_n (q := 158) dX8_account_157 rfl rfl ?_
                        refine K.aload_n (q := 159) dX8_account_158 rfl rfl ?_
                        refine K.getf (q := 162) (v := .int (X.2.1 11)) fo_X8_53.r rx131 (lt141 (by decide)) rfl dX8_account_159 rfl ?_
                        obtain ⟨v29, X29, h9_29, h⟩ := bnd2_inv h
                        refine K.callV0 (q := 165) mkX8_done mw_X8_105 (s_X8_done _ _ h9_29) rfl (by decide) rfl (lt141 (by decide)) rx131 (Nat.le_of_ble_eq_true rfl) (Nat.le_of_ble_eq_true rfl) (Nat.le_of_ble_eq_true rfl) dX8_account_162 rfl ?_
                        obtain ⟨e_vo, e_Xo⟩ := ret2_inv h
                        exact C.iret rfl rfl (congrArg (fun z => Sum.inl (some (Value.int z))) e_vo.symm) (congrArg mkH e_Xo) (Nat.le_of_ble_eq_true rfl) (Nat.le_of_ble_eq_true rfl) dX8_account_165
                      · skip
                        rw [if_neg c_1_28] at h
                        refine K.tableOut (tgt := 166) dX8_account_1 (by have e0 := lv_neT (k := 0) (a := 0) c_1_1 (by decide); have e1 := lv_neT (k := 1) (a := 1) c_1_3 (by decide); have e2 := lv_neT (k := 2) (a := 2) c_1_6 (by decide); have e3 := lv_neT (k := 3) (a := 3) c_1_9 (by decide); have e4 := lv_neT (k := 4) (a := 4) c_1_12 (by decide); have e5 := lv_neT (k := 5) (a := 5) c_1_14 (by decide); have e6 := lv_neT (k := 6) (a := 6) c_1_18 (by decide); have e7 := lv_neT (k := 7) (a := 7) c_1_21 (by decide); have e8 := lv_neT (k := 8) (a := 8) c_1_24 (by decide); have e9 := lv_neT (k := 9) (a := 9) c_1_26 (by decide); have e10 := lv_neT (k := 10) (a := 10) c_1_28 (by decide); omega) (by decide) ?_
                        refine K.aload_n (q := 167) dX8_account_166 rfl rfl ?_
                        refine K.iconst (q := 168) (v := 1) dX8_account_167 rfl (by decide) ?_
                        obtain ⟨v30, X30, h9_30, h⟩ := bnd2_inv h
                        refine K.callV0 (q := 171) mkX8_fails mw_X8_98 (s_X8_fails _ _ h9_30) rfl (by decide) rfl (lt141 (by decide)) rx131 (Nat.le_of_ble_eq_true rfl) (Nat.le_of_ble_eq_true rfl) (Nat.le_of_ble_eq_true rfl) dX8_account_168 rfl ?_
                        obtain ⟨e_vo, e_Xo⟩ := ret2_inv h
                        exact C.iret rfl rfl (congrArg (fun z => Sum.inl (some (Value.int z))) e_vo.symm) (congrArg mkH e_Xo) (Nat.le_of_ble_eq_true rfl) (Nat.le_of_ble_eq_true rfl) dX8_account_171

def m_X8_isWell (X : GS) : Option (Int32 × GS) := (some (1, (uS X 19 0)))
set_option maxRecDepth 20000 in
set_option maxHeartbeats 1000000 in
theorem s_X8_isWell (X : GS) {vo : Int32} {Xo : GS} (h : m_X8_isWell X = some (vo, Xo)) : Ct 1 0 0 yX8_isWell (.code yX8_isWell cX8_isWell 1 (some (.boolean))) [.ref 131] (mkH X) (.inl (some (.int vo))) (mkH Xo) := by
  refine Ct.of (LL := [some (.ref 131)]) mkX8_isWell.1 owX8_isWell rfl (Nat.le_of_ble_eq_true rfl) rfl (fun Wk C => ?_)
  have K := C.core
  rw [m_X8_isWell] at h
  refine K.aload_n (q := 1) dX8_isWell_0 rfl rfl ?_
  refine K.iconst (q := 2) (v := 0) dX8_isWell_1 rfl (by decide) ?_
  refine K.putf (q := 5) fo_X8_36 rx131 (lt141 (by decide)) (Nat.le_of_ble_eq_true rfl) (fun _ => rfl) (fun _ => rfl) pxs19 dX8_isWell_2 rfl ?_
  refine K.iconst (q := 6) (v := 1) dX8_isWell_5 rfl (by decide) ?_
  obtain ⟨e_vo, e_Xo⟩ := ret2_inv h
  exact C.iret rfl rfl (congrArg (fun z => Sum.inl (some (Value.int z))) e_vo.symm) (congrArg mkH e_Xo) (Nat.le_of_ble_eq_true rfl) (Nat.le_of_ble_eq_true rfl) dX8_isWell_6

def m_X8_meanWaste (X : GS) : Option (UInt64 × GS) := (if ((X.2.2.1 5) 64) = 0 then (some (FP.dconst0, (uS X 19 1))) else (bnd1 (m_X8_all (uS X 19 0) 2) fun (v3 : Int32) => (bnd1 (m_X8_all (uS X 19 0) 1) fun (v4 : Int32) => (if FP.ddiv (FP.i2d (v3 - v4)) (FP.i2d ((X.2.2.1 5) 64)) &&& 0x7fffffffffffffff ≤ 0x7ff0000000000000 then (some ((FP.ddiv (FP.i2d (v3 - v4)) (FP.i2d ((X.2.2.1 5) 64))), (uS X 19 0))) else none))))
set_option maxRecDepth 20000 in
set_option maxHeartbeats 1000000 in
theorem s_X8_meanWaste (X : GS) {vo : UInt64} {Xo : GS} (h : m_X8_meanWaste X = some (vo, Xo)) : Ct 3 0 0 yX8_meanWaste (.code yX8_meanWaste cX8_meanWaste 1 (some (.double))) [.ref 131] (mkH X) (.inl (some (.double vo))) (mkH Xo) := by
  refine Ct.of (LL := [some (.ref 131)]) mkX8_meanWaste.1 owX8_meanWaste rfl (Nat.le_of_ble_eq_true rfl) rfl (fun Wk C => ?_)
  have K := C.core
  rw [m_X8_meanWaste] at h
  refine K.aload_n (q := 1) dX8_meanWaste_0 rfl rfl ?_
  refine K.aload_n (q := 2) dX8_meanWaste_1 rfl rfl ?_
  refine K.getf (q := 5) (v := .ref 132) fo_X8_7.r rx131 (lt141 (by decide)) rfl dX8_meanWaste_2 rfl ?_
  refine K.bipush (q := 7) (v := 64) dX8_meanWaste_5 rfl (by decide) ?_
  refine K.ial (q := 8) (f := (X.2.2.1 5)) (m := 64) rx132 (lt141 (by decide)) rfl (by decide) (by decide) dX8_meanWaste_7 rfl ?_
  refine K.if_ne (q := 11) (tgt := 15) dX8_meanWaste_8 rfl (by decide) (fun c_8_1 => ?_) (fun c_8_1 => ?_)
  · rw [if_neg c_8_1] at h
    refine K.iconst (q := 16) (v := 0) dX8_meanWaste_15 rfl (by decide) ?_
    refine K.putf (q := 19) fo_X8_36 rx131 (lt141 (by decide)) (Nat.le_of_ble_eq_true rfl) (fun _ => rfl) (fun _ => rfl) pxs19 dX8_meanWaste_16 rfl ?_
    refine K.aload_n (q := 20) dX8_meanWaste_19 rfl rfl ?_
    refine K.getf (q := 23) (v := .int 0) fo_X8_36.r rx131 (lt141 (by decide)) rfl dX8_meanWaste_20 rfl ?_
    refine K.if_ne (q := 26) (tgt := 50) dX8_meanWaste_23 rfl (by decide) (fun z => absurd z (by decide)) (fun _ => ?_)
    refine K.aload_n (q := 27) dX8_meanWaste_26 rfl rfl ?_
    refine K.iconst (q := 28) (v := 2) dX8_meanWaste_27 rfl (by decide) ?_
    obtain ⟨v3, h9_3, h⟩ := bnd1_inv h
    refine K.callV0 (q := 31) mkX8_all mw_X8_202 (s_X8_all _ _ h9_3) rfl (by decide) rfl (lt141 (by decide)) rx131 (Nat.le_of_ble_eq_true rfl) (Nat.le_of_ble_eq_true rfl) (Nat.le_of_ble_eq_true rfl) dX8_meanWaste_28 rfl ?_
    refine K.aload_n (q := 32) dX8_meanWaste_31 rfl rfl ?_
    refine K.iconst (q := 33) (v := 1) dX8_meanWaste_32 rfl (by decide) ?_
    obtain ⟨v4, h9_4, h⟩ := bnd1_inv h
    refine K.callV0 (q := 36) mkX8_all mw_X8_202 (s_X8_all _ _ h9_4) rfl (by decide) rfl (lt141 (by decide)) rx131 (Nat.le_of_ble_eq_true rfl) (Nat.le_of_ble_eq_true rfl) (Nat.le_of_ble_eq_true rfl) dX8_meanWaste_33 rfl ?_
    refine K.isub (q := 37) dX8_meanWaste_36 rfl ?_
    refine K.i2d (q := 38) dX8_meanWaste_37 rfl ?_
    refine K.aload_n (q := 39) dX8_meanWaste_38 rfl rfl ?_
    refine K.getf (q := 42) (v := .ref 132) fo_X8_7.r rx131 (lt141 (by decide)) rfl dX8_meanWaste_39 rfl ?_
    refine K.bipush (q := 44) (v := 64) dX8_meanWaste_42 rfl (by decide) ?_
    refine K.ial (q := 45) (f := (X.2.2.1 5)) (m := 64) rx132 (lt141 (by decide)) rfl (by decide) (by decide) dX8_meanWaste_44 rfl ?_
    refine K.i2d (q := 46) dX8_meanWaste_45 rfl ?_
    obtain ⟨k_5, h⟩ := chk_inv h
    refine K.ddiv (q := 47) dX8_meanWaste_46 rfl k_5 ?_
    refine K.goto (tgt := 51) dX8_meanWaste_47 (by decide) ?_
    obtain ⟨e_vo, e_Xo⟩ := ret2_inv h
    exact C.dret rfl (congrArg (fun z => Sum.inl (some (Value.double z))) e_vo.symm) (congrArg mkH e_Xo) (Nat.le_of_ble_eq_true rfl) (Nat.le_of_ble_eq_true rfl) dX8_meanWaste_51
  · rw [if_pos c_8_1] at h
    refine K.iconst (q := 12) (v := 1) dX8_meanWaste_11 rfl (by decide) ?_
    refine K.goto (tgt := 16) dX8_meanWaste_12 (by decide) ?_
    refine K.putf (q := 19) fo_X8_36 rx131 (lt141 (by decide)) (Nat.le_of_ble_eq_true rfl) (fun _ => rfl) (fun _ => rfl) pxs19 dX8_meanWaste_16 rfl ?_
    refine K.aload_n (q := 20) dX8_meanWaste_19 rfl rfl ?_
    refine K.getf (q := 23) (v := .int 1) fo_X8_36.r rx131 (lt141 (by decide)) rfl dX8_meanWaste_20 rfl ?_
    refine K.if_ne (q := 26) (tgt := 50) dX8_meanWaste_23 rfl (by decide) (fun _ => ?_) (fun z => absurd z (by decide))
    refine K.dconst0 (q := 51) dX8_meanWaste_50 rfl ?_
    obtain ⟨e_vo, e_Xo⟩ := ret2_inv h
    exact C.dret rfl (congrArg (fun z => Sum.inl (some (Value.double z))) e_vo.symm) (congrArg mkH e_Xo) (Nat.le_of_ble_eq_true rfl) (Nat.le_of_ble_eq_true rfl) dX8_meanWaste_51

def m_X8_lentShare (X : GS) : Option (UInt32 × GS) := (bnd1 (m_X8_all (uS X 19 0) 2) fun (v1 : Int32) => (if FP.fdiv (FP.i2f v1) 1115684864 &&& 0x7fffffff ≤ 0x7f800000 then (some ((FP.fdiv (FP.i2f v1) 1115684864), (uS X 19 0))) else none))
set_option maxRecDepth 20000 in
set_option maxHeartbeats 1000000 in
theorem s_X8_lentShare (X : GS) {vo : UInt32} {Xo : GS} (h : m_X8_lentShare X = some (vo, Xo)) : Ct 3 0 0 yX8_lentShare (.code yX8_lentShare cX8_lentShare 1 (some (.float))) [.ref 131] (mkH X) (.inl (some (.float vo))) (mkH Xo) := by
  refine Ct.of (LL := [some (.ref 131)]) mkX8_lentShare.1 owX8_lentShare rfl (Nat.le_of_ble_eq_true rfl) rfl (fun Wk C => ?_)
  have K := C.core
  rw [m_X8_lentShare] at h
  refine K.aload_n (q := 1) dX8_lentShare_0 rfl rfl ?_
  refine K.iconst (q := 2) (v := 0) dX8_lentShare_1 rfl (by decide) ?_
  refine K.putf (q := 5) fo_X8_36 rx131 (lt141 (by decide)) (Nat.le_of_ble_eq_true rfl) (fun _ => rfl) (fun _ => rfl) pxs19 dX8_lentShare_2 rfl ?_
  refine K.aload_n (q := 6) dX8_lentShare_5 rfl rfl ?_
  refine K.iconst (q := 7) (v := 2) dX8_lentShare_6 rfl (by decide) ?_
  obtain ⟨v1, h9_1, h⟩ := bnd1_inv h
  refine K.callV0 (q := 10) mkX8_all mw_X8_202 (s_X8_all _ _ h9_1) rfl (by decide) rfl (lt141 (by decide)) rx131 (Nat.le_of_ble_eq_true rfl) (Nat.le_of_ble_eq_true rfl) (Nat.le_of_ble_eq_true rfl) dX8_lentShare_7 rfl ?_
  refine K.i2f (q := 11) dX8_lentShare_10 rfl ?_
  refine K.ldcf (q := 13) (v := 1115684864) fc_X8_208 dX8_lentShare_11 rfl ?_
  obtain ⟨k_2, h⟩ := chk_inv h
  refine K.fdiv (q := 14) dX8_lentShare_13 rfl k_2 ?_
  obtain ⟨e_vo, e_Xo⟩ := ret2_inv h
  exact C.fret rfl (congrArg (fun z => Sum.inl (some (Value.float z))) e_vo.symm) (congrArg mkH e_Xo) (Nat.le_of_ble_eq_true rfl) (Nat.le_of_ble_eq_true rfl) dX8_lentShare_14

def m_X8_undo (X : GS) : Option (Int32 × GS) := (if (X.2.1 11) = 0 then (bnd2 (m_X8_fails X 1) fun (v4 : Int32) (X4 : GS) => (some (v4, X4))) else (bnd1 (m_X8_copy_134_132 (uS X 11 ((X.2.1 11) - 1)) (((X.2.1 11) - 1) * 129) 0) fun (X2 : GS) => (bnd2 (m_X8_done X2 (X2.2.1 11)) fun (v3 : Int32) (X3 : GS) => (some (v3, X3)))))
set_option maxRecDepth 20000 in
set_option maxHeartbeats 1000000 in
theorem s_X8_undo (X : GS) {vo : Int32} {Xo : GS} (h : m_X8_undo X = some (vo, Xo)) : Ct 2 0 0 yX8_undo (.code yX8_undo cX8_undo 1 (some (.int))) [.ref 131] (mkH X) (.inl (some (.int vo))) (mkH Xo) := by
  refine Ct.of (LL := [some (.ref 131)]) mkX8_undo.1 owX8_undo rfl (Nat.le_of_ble_eq_true rfl) rfl (fun Wk C => ?_)
  have K := C.core
  rw [m_X8_undo] at h
  refine K.aload_n (q := 1) dX8_undo_0 rfl rfl ?_
  refine K.getf (q := 4) (v := .int (X.2.1 11)) fo_X8_53.r rx131 (lt141 (by decide)) rfl dX8_undo_1 rfl ?_
  refine K.if_ne (q := 7) (tgt := 13) dX8_undo_4 rfl (by decide) (fun c_4_1 => ?_) (fun c_4_1 => ?_)
  · rw [if_neg c_4_1] at h
    refine K.aload_n (q := 14) dX8_undo_13 rfl rfl ?_
    refine K.dup (q := 15) dX8_undo_14 rfl rfl ?_
    refine K.getf (q := 18) (v := .int (X.2.1 11)) fo_X8_53.r rx131 (lt141 (by decide)) rfl dX8_undo_15 rfl ?_
    refine K.iconst (q := 19) (v := 1) dX8_undo_18 rfl (by decide) ?_
    refine K.isub (q := 20) dX8_undo_19 rfl ?_
    refine K.putf (q := 23) fo_X8_53 rx131 (lt141 (by decide)) (Nat.le_of_ble_eq_true rfl) (fun _ => rfl) (fun _ => rfl) pxs11 dX8_undo_20 rfl ?_
    refine K.aload_n (q := 24) dX8_undo_23 rfl rfl ?_
    refine K.getf (q := 27) (v := .ref 134) fo_X8_16.r rx131 (lt141 (by decide)) rfl dX8_undo_24 rfl ?_
    refine K.aload_n (q := 28) dX8_undo_27 rfl rfl ?_
    refine K.getf (q := 31) (v := .int ((X.2.1 11) - 1)) fo_X8_53.r rx131 (lt141 (by decide)) rfl dX8_undo_28 rfl ?_
    refine K.sipush (q := 34) (v := 129) dX8_undo_31 rfl (by decide) ?_
    refine K.imul (q := 35) dX8_undo_34 rfl ?_
    refine K.aload_n (q := 36) dX8_undo_35 rfl rfl ?_
    refine K.getf (q := 39) (v := .ref 132) fo_X8_7.r rx131 (lt141 (by decide)) rfl dX8_undo_36 rfl ?_
    refine K.iconst (q := 40) (v := 0) dX8_undo_39 rfl (by decide) ?_
    obtain ⟨X2, h9_2, h⟩ := bnd1_inv h
    refine K.callSv0 (q := 43) mkX8_copy mw_X8_49 (s_X8_copy_134_132 _ _ _ h9_2) rfl (by decide) rfl (Nat.le_of_ble_eq_true rfl) (Nat.le_of_ble_eq_true rfl) (Nat.le_of_ble_eq_true rfl) dX8_undo_40 rfl ?_
    refine K.aload_n (q := 44) dX8_undo_43 rfl rfl ?_
    refine K.aload_n (q := 45) dX8_undo_44 rfl rfl ?_
    refine K.getf (q := 48) (v := .int (X2.2.1 11)) fo_X8_53.r rx131 (lt141 (by decide)) rfl dX8_undo_45 rfl ?_
    obtain ⟨v3, X3, h9_3, h⟩ := bnd2_inv h
    refine K.callV0 (q := 51) mkX8_done mw_X8_105 (s_X8_done _ _ h9_3) rfl (by decide) rfl (lt141 (by decide)) rx131 (Nat.le_of_ble_eq_true rfl) (Nat.le_of_ble_eq_true rfl) (Nat.le_of_ble_eq_true rfl) dX8_undo_48 rfl ?_
    obtain ⟨e_vo, e_Xo⟩ := ret2_inv h
    exact C.iret rfl rfl (congrArg (fun z => Sum.inl (some (Value.int z))) e_vo.symm) (congrArg mkH e_Xo) (Nat.le_of_ble_eq_true rfl) (Nat.le_of_ble_eq_true rfl) dX8_undo_51
  · rw [if_pos c_4_1] at h
    refine K.aload_n (q := 8) dX8_undo_7 rfl rfl ?_
    refine K.iconst (q := 9) (v := 1) dX8_undo_8 rfl (by decide) ?_
    obtain ⟨v4, X4, h9_4, h⟩ := bnd2_inv h
    refine K.callV0 (q := 12) mkX8_fails mw_X8_98 (s_X8_fails _ _ h9_4) rfl (by decide) rfl (lt141 (by decide)) rx131 (Nat.le_of_ble_eq_true rfl) (Nat.le_of_ble_eq_true rfl) (Nat.le_of_ble_eq_true rfl) dX8_undo_9 rfl ?_
    obtain ⟨e_vo, e_Xo⟩ := ret2_inv h
    exact C.iret rfl rfl (congrArg (fun z => Sum.inl (some (Value.int z))) e_vo.symm) (congrArg mkH e_Xo) (Nat.le_of_ble_eq_true rfl) (Nat.le_of_ble_eq_true rfl) dX8_undo_12

def m_X8_save (X : GS) : Option (Int32 × GS) := (bnd1 (m_X8_copy_132_135 X 0 0) fun (X1 : GS) => (bnd2 (m_X8_done (uS X1 12 1) ((X1.2.2.1 5) 64)) fun (v2 : Int32) (X2 : GS) => (some (v2, X2))))
set_option maxRecDepth 20000 in
set_option maxHeartbeats 1000000 in
theorem s_X8_save (X : GS) {vo : Int32} {Xo : GS} (h : m_X8_save X = some (vo, Xo)) : Ct 2 0 0 yX8_save (.code yX8_save cX8_save 1 (some (.int))) [.ref 131] (mkH X) (.inl (some (.int vo))) (mkH Xo) := by
  refine Ct.of (LL := [some (.ref 131)]) mkX8_save.1 owX8_save rfl (Nat.le_of_ble_eq_true rfl) rfl (fun Wk C => ?_)
  have K := C.core
  rw [m_X8_save] at h
  refine K.aload_n (q := 1) dX8_save_0 rfl rfl ?_
  refine K.getf (q := 4) (v := .ref 132) fo_X8_7.r rx131 (lt141 (by decide)) rfl dX8_save_1 rfl ?_
  refine K.iconst (q := 5) (v := 0) dX8_save_4 rfl (by decide) ?_
  refine K.aload_n (q := 6) dX8_save_5 rfl rfl ?_
  refine K.getf (q := 9) (v := .ref 135) fo_X8_19.r rx131 (lt141 (by decide)) rfl dX8_save_6 rfl ?_
  refine K.iconst (q := 10) (v := 0) dX8_save_9 rfl (by decide) ?_
  obtain ⟨X1, h9_1, h⟩ := bnd1_inv h
  refine K.callSv0 (q := 13) mkX8_copy mw_X8_49 (s_X8_copy_132_135 _ _ _ h9_1) rfl (by decide) rfl (Nat.le_of_ble_eq_true rfl) (Nat.le_of_ble_eq_true rfl) (Nat.le_of_ble_eq_true rfl) dX8_save_10 rfl ?_
  refine K.aload_n (q := 14) dX8_save_13 rfl rfl ?_
  refine K.iconst (q := 15) (v := 1) dX8_save_14 rfl (by decide) ?_
  refine K.putf (q := 18) fo_X8_209 rx131 (lt141 (by decide)) (Nat.le_of_ble_eq_true rfl) (fun _ => rfl) (fun _ => rfl) pxs12 dX8_save_15 rfl ?_
  refine K.aload_n (q := 19) dX8_save_18 rfl rfl ?_
  refine K.aload_n (q := 20) dX8_save_19 rfl rfl ?_
  refine K.getf (q := 23) (v := .ref 132) fo_X8_7.r rx131 (lt141 (by decide)) rfl dX8_save_20 rfl ?_
  refine K.bipush (q := 25) (v := 64) dX8_save_23 rfl (by decide) ?_
  refine K.ial (q := 26) (f := (X1.2.2.1 5)) (m := 64) rx132 (lt141 (by decide)) rfl (by decide) (by decide) dX8_save_25 rfl ?_
  obtain ⟨v2, X2, h9_2, h⟩ := bnd2_inv h
  refine K.callV0 (q := 29) mkX8_done mw_X8_105 (s_X8_done _ _ h9_2) rfl (by decide) rfl (lt141 (by decide)) rx131 (Nat.le_of_ble_eq_true rfl) (Nat.le_of_ble_eq_true rfl) (Nat.le_of_ble_eq_true rfl) dX8_save_26 rfl ?_
  obtain ⟨e_vo, e_Xo⟩ := ret2_inv h
  exact C.iret rfl rfl (congrArg (fun z => Sum.inl (some (Value.int z))) e_vo.symm) (congrArg mkH e_Xo) (Nat.le_of_ble_eq_true rfl) (Nat.le_of_ble_eq_true rfl) dX8_save_29

def m_X8_restore (X : GS) : Option (Int32 × GS) := (if (X.2.1 12) = 0 then (bnd2 (m_X8_fails X 1) fun (v4 : Int32) (X4 : GS) => (some (v4, X4))) else (bnd1 (m_X8_copy_135_132 X 0 0) fun (X2 : GS) => (bnd2 (m_X8_done (uS X2 11 0) ((X2.2.2.1 5) 64)) fun (v3 : Int32) (X3 : GS) => (some (v3, X3)))))
set_option maxRecDepth 20000 in
set_option maxHeartbeats 1000000 in
theorem s_X8_restore (X : GS) {vo : Int32} {Xo : GS} (h : m_X8_restore X = some (vo, Xo)) : Ct 2 0 0 yX8_restore (.code yX8_restore cX8_restore 1 (some (.int))) [.ref 131] (mkH X) (.inl (some (.int vo))) (mkH Xo) := by
  refine Ct.of (LL := [some (.ref 131)]) mkX8_restore.1 owX8_restore rfl (Nat.le_of_ble_eq_true rfl) rfl (fun Wk C => ?_)
  have K := C.core
  rw [m_X8_restore] at h
  refine K.aload_n (q := 1) dX8_restore_0 rfl rfl ?_
  refine K.getf (q := 4) (v := .int (X.2.1 12)) fo_X8_209.r rx131 (lt141 (by decide)) rfl dX8_restore_1 rfl ?_
  refine K.if_ne (q := 7) (tgt := 13) dX8_restore_4 rfl (by decide) (fun c_4_1 => ?_) (fun c_4_1 => ?_)
  · rw [if_neg c_4_1] at h
    refine K.aload_n (q := 14) dX8_restore_13 rfl rfl ?_
    refine K.getf (q := 17) (v := .ref 135) fo_X8_19.r rx131 (lt141 (by decide)) rfl dX8_restore_14 rfl ?_
    refine K.iconst (q := 18) (v := 0) dX8_restore_17 rfl (by decide) ?_
    refine K.aload_n (q := 19) dX8_restore_18 rfl rfl ?_
    refine K.getf (q := 22) (v := .ref 132) fo_X8_7.r rx131 (lt141 (by decide)) rfl dX8_restore_19 rfl ?_
    refine K.iconst (q := 23) (v := 0) dX8_restore_22 rfl (by decide) ?_
    obtain ⟨X2, h9_2, h⟩ := bnd1_inv h
    refine K.callSv0 (q := 26) mkX8_copy mw_X8_49 (s_X8_copy_135_132 _ _ _ h9_2) rfl (by decide) rfl (Nat.le_of_ble_eq_true rfl) (Nat.le_of_ble_eq_true rfl) (Nat.le_of_ble_eq_true rfl) dX8_restore_23 rfl ?_
    refine K.aload_n (q := 27) dX8_restore_26 rfl rfl ?_
    refine K.iconst (q := 28) (v := 0) dX8_restore_27 rfl (by decide) ?_
    refine K.putf (q := 31) fo_X8_53 rx131 (lt141 (by decide)) (Nat.le_of_ble_eq_true rfl) (fun _ => rfl) (fun _ => rfl) pxs11 dX8_restore_28 rfl ?_
    refine K.aload_n (q := 32) dX8_restore_31 rfl rfl ?_
    refine K.aload_n (q := 33) dX8_restore_32 rfl rfl ?_
    refine K.getf (q := 36) (v := .ref 132) fo_X8_7.r rx131 (lt141 (by decide)) rfl dX8_restore_33 rfl ?_
    refine K.bipush (q := 38) (v := 64) dX8_restore_36 rfl (by decide) ?_
    refine K.ial (q := 39) (f := (X2.2.2.1 5)) (m := 64) rx132 (lt141 (by decide)) rfl (by decide) (by decide) dX8_restore_38 rfl ?_
    obtain ⟨v3, X3, h9_3, h⟩ := bnd2_inv h
    refine K.callV0 (q := 42) mkX8_done mw_X8_105 (s_X8_done _ _ h9_3) rfl (by decide) rfl (lt141 (by decide)) rx131 (Nat.le_of_ble_eq_true rfl) (Nat.le_of_ble_eq_true rfl) (Nat.le_of_ble_eq_true rfl) dX8_restore_39 rfl ?_
    obtain ⟨e_vo, e_Xo⟩ := ret2_inv h
    exact C.iret rfl rfl (congrArg (fun z => Sum.inl (some (Value.int z))) e_vo.symm) (congrArg mkH e_Xo) (Nat.le_of_ble_eq_true rfl) (Nat.le_of_ble_eq_true rfl) dX8_restore_42
  · rw [if_pos c_4_1] at h
    refine K.aload_n (q := 8) dX8_restore_7 rfl rfl ?_
    refine K.iconst (q := 9) (v := 1) dX8_restore_8 rfl (by decide) ?_
    obtain ⟨v4, X4, h9_4, h⟩ := bnd2_inv h
    refine K.callV0 (q := 12) mkX8_fails mw_X8_98 (s_X8_fails _ _ h9_4) rfl (by decide) rfl (lt141 (by decide)) rx131 (Nat.le_of_ble_eq_true rfl) (Nat.le_of_ble_eq_true rfl) (Nat.le_of_ble_eq_true rfl) dX8_restore_9 rfl ?_
    obtain ⟨e_vo, e_Xo⟩ := ret2_inv h
    exact C.iret rfl rfl (congrArg (fun z => Sum.inl (some (Value.int z))) e_vo.symm) (congrArg mkH e_Xo) (Nat.le_of_ble_eq_true rfl) (Nat.le_of_ble_eq_true rfl) dX8_restore_12
